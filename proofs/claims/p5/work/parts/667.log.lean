def d_243 : xD := [(0, .aload_n 0, 1), (1, .iconst 0, 1), (2, .putfield 1, 3), (5, .iload_n 1, 1), (6, .iconst 0, 1), (7, .iconst 1, 1), (8, .invokestatic 173, 3), (11, .ifCond .ne 7, 3), (14, .sipush (-1000), 3), (17, .ireturn, 1), (18, .aload_n 0, 1), (19, .sipush 400, 3), (22, .invokevirtual 217, 3), (25, .aload_n 0, 1), (26, .iconst 0, 1), (27, .putfield 158, 3), (30, .aload_n 0, 1), (31, .iconst 0, 1), (32, .putfield 356, 3), (35, .aload_n 0, 1), (36, .invokevirtual 170, 3), (39, .aload_n 0, 1), (40, .getfield 141, 3), (43, .ifCond .eq 40, 3), (46, .aload_n 0, 1), (47, .invokevirtual 359, 3), (50, .ifCond .eq 12, 3), (53, .aload_n 0, 1), (54, .bipush 59, 2), (56, .invokevirtual 226, 3), (59, .ifCond .ne 11, 3), (62, .bipush (-2), 2), (64, .aload_n 0, 1), (65, .getfield 161, 3), (68, .isub, 1), (69, .ireturn, 1), (70, .aload_n 0, 1), (71, .dup, 1), (72, .getfield 356, 3), (75, .iconst 1, 1), (76, .iadd, 1), (77, .putfield 356, 3), (80, .goto (-41), 3), (83, .aload_n 0, 1), (84, .invokevirtual 334, 3), (87, .iconst 0, 1), (88, .istore_n 2, 1), (89, .iload_n 2, 1), (90, .iconst 4, 1), (91, .if_icmp .ge 16, 3), (94, .aload_n 0, 1), (95, .getfield 59, 3), (98, .iload_n 2, 1), (99, .iconst 0, 1), (100, .iastore, 1), (101, .iinc 2 1, 3), (104, .goto (-15), 3), (107, .iconst (-1), 1), (108, .istore_n 2, 1), (109, .iconst 0, 1), (110, .istore_n 3, 1), (111, .iload_n 3, 1), (112, .aload_n 0, 1), (113, .getfield 356, 3), (116, .if_icmp .ge 75, 3), (119, .iload_n 2, 1), (120, .ifCond .ge 71, 3), (123, .aload_n 0, 1), (124, .getfield 59, 3), (127, .iconst 0, 1), (128, .aload_n 0, 1), (129, .aload_n 0, 1), (130, .getfield 40, 3), (133, .iconst 3, 1), (134, .iload_n 3, 1), (135, .imul, 1), (136, .iaload, 1), (137, .aload_n 0, 1), (138, .getfield 40, 3), (141, .iconst 3, 1), (142, .iload_n 3, 1), (143, .imul, 1), (144, .iconst 1, 1), (145, .iadd, 1), (146, .iaload, 1), (147, .aload_n 0, 1), (148, .getfield 40, 3), (151, .iconst 3, 1), (152, .iload_n 3, 1), (153, .imul, 1), (154, .iconst 2, 1), (155, .iadd, 1), (156, .iaload, 1), (157, .invokevirtual 362, 3), (160, .iastore, 1), (161, .aload_n 0, 1), (162, .getfield 59, 3), (165, .iconst 0, 1), (166, .iaload, 1), (167, .ifCond .le 8, 3), (170, .iload_n 3, 1), (171, .istore_n 2, 1), (172, .goto 13, 3), (175, .aload_n 0, 1), (176, .getfield 59, 3), (179, .iconst 1, 1), (180, .dup2, 1), (181, .iaload, 1), (182, .iconst 1, 1), (183, .iadd, 1), (184, .iastore, 1), (185, .iinc 3 1, 3), (188, .goto (-77), 3), (191, .aload_n 0, 1), (192, .getfield 59, 3), (195, .iconst 2, 1), (196, .aload_n 0, 1), (197, .getfield 33, 3), (200, .bipush 81, 2), (202, .iaload, 1), (203, .iastore, 1), (204, .aload_n 0, 1), (205, .getfield 59, 3), (208, .iconst 3, 1), (209, .aload_n 0, 1), (210, .iconst 3, 1), (211, .invokevirtual 255, 3), (214, .iastore, 1), (215, .aload_n 0, 1), (216, .iconst 1, 1), (217, .putfield 365, 3), (220, .iload_n 1, 1), (221, .iconst 1, 1), (222, .if_icmp .ne 52, 3), (225, .aload_n 0, 1), (226, .getfield 59, 3), (229, .iconst 1, 1), (230, .iaload, 1), (231, .ifCond .le 43, 3), (234, .aload_n 0, 1), (235, .invokevirtual 303, 3), (238, .iconst 0, 1), (239, .istore_n 3, 1), (240, .iload_n 3, 1), (241, .bipush 62, 2), (243, .if_icmp .ge 31, 3), (246, .aload_n 0, 1), (247, .getfield 50, 3), (250, .bipush 62, 2), (252, .aload_n 0, 1), (253, .getfield 229, 3), (256, .iconst 1, 1), (257, .isub, 1), (258, .imul, 1), (259, .iload_n 3, 1), (260, .iadd, 1), (261, .aload_n 0, 1), (262, .getfield 53, 3), (265, .iload_n 3, 1), (266, .iaload, 1), (267, .iastore, 1), (268, .iinc 3 1, 3), (271, .goto (-31), 3), (274, .iload_n 1, 1), (275, .ifCond .ne 7, 3), (278, .aload_n 0, 1), (279, .invokevirtual 340, 3), (282, .iload_n 2, 1), (283, .ireturn, 1)]
set_option maxRecDepth 100000 in
theorem d_243_ok : x_dchk 243 d_243 = true := by decide +kernel
def m_243 : pM := (⟨"BreathingHillModel", "log", "(I)I"⟩, 1801, 4, some (FieldType.int), 17, 1, false, 10, 103, 1799, 1800)
set_option maxRecDepth 100000 in
theorem m_243_ok : pm_tab[243]? = some m_243 := rfl
theorem e_243 : ∀ q ∈ d_243, decode m_243.code q.1 = .ok (q.2.1, q.2.2) := y_dec d_243_ok m_243_ok
def E_lg0 : List (Nat × Nat × Nat) := [(10, 0, 0), (10, 2, 5), (10, 15, 15), (10, 32, 32), (10, 4, 4), (10, 11, 14), (10, 17, 17)]
def E_lg83 : List (Nat × Nat × Nat) := [(42, 0, 61), (44, 0, 3)]
def E_lg161 : List (Nat × Nat × Nat) := [(44, 1, 1)]
def E_lg191 : List (Nat × Nat × Nat) := [(10, 28, 28), (10, 34, 34), (36, 81, 142), (41, 0, 495), (44, 2, 3)]
def E_does : List (Nat × Nat × Nat) := [(36, 81, 142), (10, 21, 25), (1000, 0, 0)]
def E_llC : List (Nat × Nat × Nat) := [(10, 4, 4), (10, 11, 18), (38, 0, 119)]
def E_lg1 : List (Nat × Nat × Nat) := E_llC ++ E_sign ++ [(10, 32, 32)]
def E_lg2 : List (Nat × Nat × Nat) := E_does ++ E_lg161 ++ [(44, 0, 3)]
def E_lg : List (Nat × Nat × Nat) := E_lg0 ++ E_lg1 ++ E_lg83 ++ E_lg2 ++ E_lg191
def sg_lg0_ns : List xN := []
def sg_lg0_os : List xN := [(39, [(0, (20, ([(0, 1)], 0))), (1, (0, ([(1, 1)], 0)))], [(10, ([(0, 1)], 0), 2, (0, ([], 0))), (10, ([(0, 1)], 0), 32, (0, ([], 0)))], [([(1, 1)], 0), ([(1, -1)], 1)], 3, [([], 0), ([], 0), ([], 0), ([], 0), ([], 0)])]
def sg_lg0_g : xG := ([([(2, 1)], 0), ([(2, -1)], 940)], [(0, (20, ([(0, 1)], 0))), (1, (0, ([(1, 1)], 0)))], [], [(10, ([(0, 1)], 0), 2, (0, ([(2, 1)], 0)))], 3)
def sg_lg0_ps : List xP := [(some (0, ([], -1000)), [([(1, -1)], -1)], [(10, ([(0, 1)], 0), 2, (0, ([(2, 1)], 0)))]), (some (0, ([], -1000)), [([(1, 1)], -2)], [(10, ([(0, 1)], 0), 2, (0, ([(2, 1)], 0)))])]
set_option maxRecDepth 100000 in
set_option maxHeartbeats 4000000 in
theorem sg_lg0_ok : x_seg x_tb [c_179, c_188, c_305] m_243 d_243 E_lg0 3 sg_lg0_ps sg_lg0_ns sg_lg0_os 29 false 0 sg_lg0_g = true := by decide +kernel
set_option maxRecDepth 100000 in
theorem sg_lg0_go {th : List Nat} {xs : Nat → Int32} {L J d : Nat} {K : Option Value → List pE → Prop} (hd : 306 ≤ d) {v : Nat → Int} {lv : pL} {ws : List Value} {G0 G : List pE} (hS : x_S x_tb th v sg_lg0_g lv ws G) (hE : x_eff th E_lg0 G0 G) (hK : ∀ r G', x_Post x_tb th E_lg0 sg_lg0_ps 3 v G0 r G' → K r G') (hO : ∀ n ∈ sg_lg0_os, ∀ (vn : Nat → Int) (lv : pL) (G1 : List pE), x_ag 3 v vn → x_S x_tb th vn (n.2.2.2.1, n.2.1, [], n.2.2.1, n.2.2.2.2.1) lv [] G1 → x_eff th E_lg0 G0 G1 → x_Gd xs L J (d + 1) m_243 K n.1 lv [] G1) : x_Gd xs L J (d + 1) m_243 K 0 lv ws G :=
  x_seg_ok (dm := 306) x_tb_wf ⟨rfl, rfl, rfl⟩ e_243 (List.forall_mem_cons.mpr ⟨(h_179 th xs L J).mono (by omega), List.forall_mem_cons.mpr ⟨(h_188 th xs L J).mono (by omega), List.forall_mem_cons.mpr ⟨(h_305 th xs L J).mono (by omega), fun _ h => absurd h List.not_mem_nil⟩⟩⟩) hd sg_lg0_ok hS hE (fun z => by cases z) hK hO
def sg_lg83_ns : List xN := [(89, [(2, (0, ([(2, 1)], 0))), (0, (20, ([(0, 1)], 0))), (1, (0, ([(1, 1)], 0)))], [], [([(2, 1)], 0), ([(2, -1)], 7), ([(2, -1)], 8), ([(2, -1)], 20), ([(2, -1)], 40), ([(2, -1)], 61), ([(2, -1)], 255), ([(2, -1)], 1000), ([(2, -1)], 1001)], 3, [([], 3), ([(2, -1)], 2147483647), ([], 5000000000), ([], 5000000000), ([], 5000000000)])]
def sg_lg83_os : List xN := [(111, [(0, (20, ([(0, 1)], 0))), (1, (0, ([(1, 1)], 0))), (2, (0, ([], -1))), (3, (0, ([], 0)))], [], [], 2, [([], 0), ([], 0), ([], 0), ([], 0), ([], 0)])]
def sg_lg83_g : xG := ([], [(0, (20, ([(0, 1)], 0))), (1, (0, ([(1, 1)], 0)))], [], [], 2)
def sg_lg83_ps : List xP := []
set_option maxRecDepth 100000 in
set_option maxHeartbeats 4000000 in
theorem sg_lg83_ok : x_seg x_tb [c_266] m_243 d_243 E_lg83 2 sg_lg83_ps sg_lg83_ns sg_lg83_os 20 false 83 sg_lg83_g = true := by decide +kernel
set_option maxRecDepth 100000 in
theorem sg_lg83_go {th : List Nat} {xs : Nat → Int32} {L J d : Nat} {K : Option Value → List pE → Prop} (hd : 267 ≤ d) {v : Nat → Int} {lv : pL} {ws : List Value} {G0 G : List pE} (hS : x_S x_tb th v sg_lg83_g lv ws G) (hE : x_eff th E_lg83 G0 G) (hK : ∀ r G', x_Post x_tb th E_lg83 sg_lg83_ps 2 v G0 r G' → K r G') (hO : ∀ n ∈ sg_lg83_os, ∀ (vn : Nat → Int) (lv : pL) (G1 : List pE), x_ag 2 v vn → x_S x_tb th vn (n.2.2.2.1, n.2.1, [], n.2.2.1, n.2.2.2.2.1) lv [] G1 → x_eff th E_lg83 G0 G1 → x_Gd xs L J (d + 1) m_243 K n.1 lv [] G1) : x_Gd xs L J (d + 1) m_243 K 83 lv ws G :=
  x_seg_ok (dm := 267) x_tb_wf ⟨rfl, rfl, rfl⟩ e_243 (List.forall_mem_cons.mpr ⟨(h_266 th xs L J).mono (by omega), fun _ h => absurd h List.not_mem_nil⟩) hd sg_lg83_ok hS hE (fun z => by cases z) hK hO
def sg_lg161_ns : List xN := []
def sg_lg161_os : List xN := [(185, [(0, (20, ([(0, 1)], 0))), (1, (0, ([(1, 1)], 0))), (2, (0, ([(4, 1)], 0))), (3, (0, ([(3, 1)], 0)))], [], [], 5, [([], 0), ([], 0), ([], 0), ([], 0), ([], 0)])]
def sg_lg161_g : xG := ([], [(0, (20, ([(0, 1)], 0))), (1, (0, ([(1, 1)], 0))), (2, (0, ([(2, 1)], 0))), (3, (0, ([(3, 1)], 0)))], [], [], 4)
def sg_lg161_ps : List xP := []
set_option maxRecDepth 100000 in
set_option maxHeartbeats 4000000 in
theorem sg_lg161_ok : x_seg x_tb [] m_243 d_243 E_lg161 4 sg_lg161_ps sg_lg161_ns sg_lg161_os 23 false 161 sg_lg161_g = true := by decide +kernel
set_option maxRecDepth 100000 in
theorem sg_lg161_go {th : List Nat} {xs : Nat → Int32} {L J d : Nat} {K : Option Value → List pE → Prop} (hd : 0 ≤ d) {v : Nat → Int} {lv : pL} {ws : List Value} {G0 G : List pE} (hS : x_S x_tb th v sg_lg161_g lv ws G) (hE : x_eff th E_lg161 G0 G) (hK : ∀ r G', x_Post x_tb th E_lg161 sg_lg161_ps 4 v G0 r G' → K r G') (hO : ∀ n ∈ sg_lg161_os, ∀ (vn : Nat → Int) (lv : pL) (G1 : List pE), x_ag 4 v vn → x_S x_tb th vn (n.2.2.2.1, n.2.1, [], n.2.2.1, n.2.2.2.2.1) lv [] G1 → x_eff th E_lg161 G0 G1 → x_Gd xs L J (d + 1) m_243 K n.1 lv [] G1) : x_Gd xs L J (d + 1) m_243 K 161 lv ws G :=
  x_seg_ok (dm := 0) x_tb_wf ⟨rfl, rfl, rfl⟩ e_243 (fun _ h => absurd h List.not_mem_nil) hd sg_lg161_ok hS hE (fun z => by cases z) hK hO
def sg_lg191_ns : List xN := [(240, [(3, (0, ([(3, 1)], 0))), (0, (20, ([(0, 1)], 0))), (1, (0, ([(1, 1)], 0))), (2, (0, ([(2, 1)], 0)))], [(10, ([(0, 1)], 0), 28, (0, ([(4, 1)], 0))), (10, ([(0, 1)], 0), 34, (0, ([], 1))), (10, ([(0, 1)], 0), 6, (46, ([(9, 1)], 0))), (10, ([(0, 1)], 0), 33, (54, ([(5, 1)], 0))), (44, ([(5, 1)], 0), 1, (0, ([(6, 1)], 0))), (44, ([(5, 1)], 0), 3, (0, ([(7, 1)], 0))), (44, ([(5, 1)], 0), 2, (0, ([(8, 1)], 0))), (36, ([(9, 1)], 0), 81, (0, ([(8, 1)], 0)))], [([(4, 1)], -1), ([(4, -1)], 8), ([(6, 1)], -1), ([(6, 1)], 2147483648), ([(6, -1)], 2147483647), ([(1, 1)], -1), ([(1, -1)], 1), ([(7, 1)], 0), ([(7, -1)], 255), ([(8, 1)], 0), ([(8, -1)], 1000), ([(1, 1)], 0), ([(3, 1)], 0), ([(1, -1), (4, 1)], 0), ([(1, -1), (6, 1)], 0), ([(3, -1)], 255), ([(3, -1)], 1000), ([(3, -1)], 1001), ([(1, -1)], 3), ([(1, -1)], 7), ([(1, -1)], 8), ([(1, -1)], 20), ([(1, -1)], 40), ([(1, -1)], 61), ([(1, -1)], 255), ([(1, -1)], 1000), ([(1, -1)], 1001)], 10, [([], 1), ([(3, -1)], 2147483647), ([], 5000000000), ([], 5000000000), ([], 5000000000)])]
def sg_lg191_os : List xN := []
def sg_lg191_g : xG := ([([(1, 1)], 0), ([(1, -1)], 1)], [(0, (20, ([(0, 1)], 0))), (1, (0, ([(1, 1)], 0))), (2, (0, ([(2, 1)], 0)))], [], [], 3)
def sg_lg191_ps : List xP := [(some (0, ([(3, 1)], 0)), [], [])]
set_option maxRecDepth 100000 in
set_option maxHeartbeats 4000000 in
theorem sg_lg191_ok : x_seg x_tb [c_239, c_267, c_306] m_243 d_243 E_lg191 3 sg_lg191_ps sg_lg191_ns sg_lg191_os 40 false 191 sg_lg191_g = true := by decide +kernel
set_option maxRecDepth 100000 in
theorem sg_lg191_go {th : List Nat} {xs : Nat → Int32} {L J d : Nat} {K : Option Value → List pE → Prop} (hd : 307 ≤ d) {v : Nat → Int} {lv : pL} {ws : List Value} {G0 G : List pE} (hS : x_S x_tb th v sg_lg191_g lv ws G) (hE : x_eff th E_lg191 G0 G) (hK : ∀ r G', x_Post x_tb th E_lg191 sg_lg191_ps 3 v G0 r G' → K r G') (hO : ∀ n ∈ sg_lg191_os, ∀ (vn : Nat → Int) (lv : pL) (G1 : List pE), x_ag 3 v vn → x_S x_tb th vn (n.2.2.2.1, n.2.1, [], n.2.2.1, n.2.2.2.2.1) lv [] G1 → x_eff th E_lg191 G0 G1 → x_Gd xs L J (d + 1) m_243 K n.1 lv [] G1) : x_Gd xs L J (d + 1) m_243 K 191 lv ws G :=
  x_seg_ok (dm := 307) x_tb_wf ⟨rfl, rfl, rfl⟩ e_243 (List.forall_mem_cons.mpr ⟨(h_239 th xs L J).mono (by omega), List.forall_mem_cons.mpr ⟨(h_267 th xs L J).mono (by omega), List.forall_mem_cons.mpr ⟨(h_306 th xs L J).mono (by omega), fun _ h => absurd h List.not_mem_nil⟩⟩⟩) hd sg_lg191_ok hS hE (fun z => by cases z) hK hO
section ZG
variable {th : List Nat} {xs : Nat → Int32} {L J d a rb : Nat} {rd : Nat → Int32} {tv : Int32} {G G0 : List pE} {K : Option Value → List pE → Prop}
set_option maxHeartbeats 2000000 in
set_option maxRecDepth 100000 in
theorem g_logLineC (hd : 307 ≤ d) {p : Int32} (hV : z_RV th G a rb rd tv) (hR : z_rows rd tv.toInt) (hNs : z_Ns th a G) (hp : x_sl G a 4 = some (.int p)) : x_Gd xs L J (d + 1) m_244 (fun r G' => x_eff th E_llC G G' ∧ xI x_tb th G' ∧ (r = some (.int 0) ∨ (r = some (.int 1) ∧ tv.toInt ≤ 39 ∧ (∃ rd', z_RV th G' a rb rd' tv ∧ z_rows rd' (tv.toInt + 1)) ∧ ∃ p' tk : Int32, x_sl G' a 4 = some (.int p') ∧ x_sl G' a 11 = some (.int tk) ∧ (tk.toInt = 3 → p.toInt + 1 ≤ p'.toInt)))) 0 (lv_args 0 [.ref a]) [] G := by
  obtain ⟨hI, ta, k8, tr, hrd, k32⟩ := id hV
  have rt := hV.rt
  have rp := y_fie (i := 4) (t := 10) hI ta rfl hp
  refine ((g_logRows (d := d) (xs := xs) (L := L) (J := J) (by omega) hV hR hNs).and ((h_307 th xs L J).gd (G := G) (d := d + 1) m_244_ok (by omega) (v := (y_v [(a : Int), p.toInt, tv.toInt])) (as := [.ref a]) (y_v_Bd (List.forall_mem_cons.mpr ⟨(y_cellB hI ta), (List.forall_mem_cons.mpr ⟨(x_i32 p), (List.forall_mem_cons.mpr ⟨(x_i32 tv), (fun _ h => absurd h List.not_mem_nil)⟩)⟩)⟩)) (List.forall_mem_cons.mpr ⟨(by simp only [xl_ev, xt_ev, y_v, List.getD_cons_succ, List.getD_cons_zero]; omega), (List.forall_mem_cons.mpr ⟨(by simp only [xl_ev, xt_ev, y_v, List.getD_cons_succ, List.getD_cons_zero]; omega), (List.forall_mem_cons.mpr ⟨(by simp only [xl_ev, xt_ev, y_v, List.getD_cons_succ, List.getD_cons_zero]; omega), (List.forall_mem_cons.mpr ⟨(by simp only [xl_ev, xt_ev, y_v, List.getD_cons_succ, List.getD_cons_zero]; omega), (fun _ h => absurd h List.not_mem_nil)⟩)⟩)⟩)⟩) ⟨⟨a, rfl, (by simp only [xl_ev, xt_ev, y_v, List.getD_cons_succ, List.getD_cons_zero]; omega), ta⟩, trivial⟩ (List.forall_mem_cons.mpr ⟨⟨a, (by simp only [xl_ev, xt_ev, y_v, List.getD_cons_succ, List.getD_cons_zero]; omega), ta, _, hp, p, rfl, (by simp only [xl_ev, xt_ev, y_v, List.getD_cons_succ, List.getD_cons_zero]; omega)⟩, (List.forall_mem_cons.mpr ⟨⟨a, (by simp only [xl_ev, xt_ev, y_v, List.getD_cons_succ, List.getD_cons_zero]; omega), ta, _, k32, tv, rfl, (by simp only [xl_ev, xt_ev, y_v, List.getD_cons_succ, List.getD_cons_zero]; omega)⟩, (fun _ h => absurd h List.not_mem_nil)⟩)⟩) hI (fun z => by cases z))).mono (fun r G' h => ?_)
  obtain ⟨hr, v', hag, -, hI', ef, q, hq, qc, qf, qa⟩ := h
  refine ⟨ef, hI', ?_⟩
  rcases hr with rfl | ⟨rfl, l39, hrr⟩
  · exact Or.inl rfl
  have z0 : v' 0 = (a : Int) := hag 0 (by decide)
  have z1 : v' 1 = p.toInt := hag 1 (by decide)
  simp only [c_307, List.mem_cons, List.not_mem_nil, or_false] at hq
  rcases hq with rfl | rfl | rfl | rfl
  · obtain ⟨tk, f11, e11⟩ := y_pf0 (a := a) (qf _ (List.mem_of_getElem? (i := 0) rfl)) (by simp only [xl_ev, xt_ev]; omega)
    obtain ⟨p2, f4, e4⟩ := y_pf0 (a := a) (qf _ (List.mem_of_getElem? (i := 1) rfl)) (by simp only [xl_ev, xt_ev]; omega)
    have jt1 := qc _ (List.mem_of_getElem? (i := 0) rfl)
    have jt2 := qc _ (List.mem_of_getElem? (i := 1) rfl)
    have jp := qc _ (List.mem_of_getElem? (i := 2) rfl)
    simp only [xl_ev, xt_ev] at e11 e4 jt1 jt2 jp
    exact Or.inr ⟨rfl, l39, hrr, p2, tk, f4, f11, fun z => by omega⟩
  · obtain ⟨tk, f11, e11⟩ := y_pf0 (a := a) (qf _ (List.mem_of_getElem? (i := 0) rfl)) (by simp only [xl_ev, xt_ev]; omega)
    obtain ⟨p2, f4, e4⟩ := y_pf0 (a := a) (qf _ (List.mem_of_getElem? (i := 1) rfl)) (by simp only [xl_ev, xt_ev]; omega)
    have jt1 := qc _ (List.mem_of_getElem? (i := 0) rfl)
    have jt2 := qc _ (List.mem_of_getElem? (i := 1) rfl)
    have jp := qc _ (List.mem_of_getElem? (i := 2) rfl)
    simp only [xl_ev, xt_ev] at e11 e4 jt1 jt2 jp
    exact Or.inr ⟨rfl, l39, hrr, p2, tk, f4, f11, fun z => by omega⟩
  · obtain ⟨tk, f11, e11⟩ := y_pf0 (a := a) (qf _ (List.mem_of_getElem? (i := 0) rfl)) (by simp only [xl_ev, xt_ev]; omega)
    obtain ⟨p2, f4, e4⟩ := y_pf0 (a := a) (qf _ (List.mem_of_getElem? (i := 1) rfl)) (by simp only [xl_ev, xt_ev]; omega)
    have jt1 := qc _ (List.mem_of_getElem? (i := 0) rfl)
    have jt2 := qc _ (List.mem_of_getElem? (i := 1) rfl)
    have jp := qc _ (List.mem_of_getElem? (i := 2) rfl)
    simp only [xl_ev, xt_ev] at e11 e4 jt1 jt2 jp
    exact Or.inr ⟨rfl, l39, hrr, p2, tk, f4, f11, fun z => by omega⟩
  · obtain ⟨y1, hy1, hy2⟩ := y_p1 qa
    cases hy1
    exact absurd hy2 (by decide)
set_option maxHeartbeats 2000000 in
set_option maxRecDepth 100000 in
theorem g_does (hd : 301 ≤ d) {w kk t : Int32} (hI : xI x_tb th G) (ta : th[a]? = some 10) (hQ : x_Q th G) (hr : ((w.toInt = 0 ∨ w.toInt = 1) ∧ 0 ≤ kk.toInt ∧ kk.toInt ≤ 7) ∨ (w.toInt = 2 ∧ 0 ≤ kk.toInt ∧ kk.toInt ≤ 3) ∨ 3 ≤ w.toInt) : x_Gd xs L J d m_245 (fun r G' => (∃ y, r = some (.int y)) ∧ xI x_tb th G' ∧ x_eff th E_does G G') 0 (lv_args 0 [.ref a, .int w, .int kk, .int t]) [] G := by
  rcases hr with ⟨r1, r2, r3⟩ | ⟨r2, r3, r4⟩ | r3
  · refine ((h_298 th xs L J).gd (G := G) (d := d) m_245_ok (by omega) (v := (y_v [(a : Int), w.toInt, kk.toInt, t.toInt])) (as := [.ref a, .int w, .int kk, .int t]) (y_v_Bd (List.forall_mem_cons.mpr ⟨(y_cellB hI ta), (List.forall_mem_cons.mpr ⟨(x_i32 w), (List.forall_mem_cons.mpr ⟨(x_i32 kk), (List.forall_mem_cons.mpr ⟨(x_i32 t), (fun _ h => absurd h List.not_mem_nil)⟩)⟩)⟩)⟩)) (List.forall_mem_cons.mpr ⟨(by simp only [xl_ev, xt_ev, y_v, List.getD_cons_succ, List.getD_cons_zero]; omega), (List.forall_mem_cons.mpr ⟨(by simp only [xl_ev, xt_ev, y_v, List.getD_cons_succ, List.getD_cons_zero]; omega), (List.forall_mem_cons.mpr ⟨(by simp only [xl_ev, xt_ev, y_v, List.getD_cons_succ, List.getD_cons_zero]; omega), (List.forall_mem_cons.mpr ⟨(by simp only [xl_ev, xt_ev, y_v, List.getD_cons_succ, List.getD_cons_zero]; omega), (fun _ h => absurd h List.not_mem_nil)⟩)⟩)⟩)⟩) ⟨⟨a, rfl, (by simp only [xl_ev, xt_ev, y_v, List.getD_cons_succ, List.getD_cons_zero]; omega), ta⟩, ⟨w, rfl, (by simp only [xl_ev, xt_ev, y_v, List.getD_cons_succ, List.getD_cons_zero]; omega)⟩, ⟨kk, rfl, (by simp only [xl_ev, xt_ev, y_v, List.getD_cons_succ, List.getD_cons_zero]; omega)⟩, ⟨t, rfl, (by simp only [xl_ev, xt_ev, y_v, List.getD_cons_succ, List.getD_cons_zero]; omega)⟩, trivial⟩ (fun q hq => absurd hq List.not_mem_nil) hI (fun _ => hQ)).mono (fun r G' h => ?_)
    obtain ⟨v', -, -, hI', ef, p, hp, -, -, pa⟩ := h
    obtain rfl : p = _ := List.mem_singleton.mp hp
    obtain ⟨y, rfl, -⟩ := y_pI pa
    exact ⟨⟨y, rfl⟩, hI', ef.sub (by decide)⟩
  · refine ((h_300 th xs L J).gd (G := G) (d := d) m_245_ok (by omega) (v := (y_v [(a : Int), kk.toInt, t.toInt])) (as := [.ref a, .int w, .int kk, .int t]) (y_v_Bd (List.forall_mem_cons.mpr ⟨(y_cellB hI ta), (List.forall_mem_cons.mpr ⟨(x_i32 kk), (List.forall_mem_cons.mpr ⟨(x_i32 t), (fun _ h => absurd h List.not_mem_nil)⟩)⟩)⟩)) (List.forall_mem_cons.mpr ⟨(by simp only [xl_ev, xt_ev, y_v, List.getD_cons_succ, List.getD_cons_zero]; omega), (List.forall_mem_cons.mpr ⟨(by simp only [xl_ev, xt_ev, y_v, List.getD_cons_succ, List.getD_cons_zero]; omega), (fun _ h => absurd h List.not_mem_nil)⟩)⟩) ⟨⟨a, rfl, (by simp only [xl_ev, xt_ev, y_v, List.getD_cons_succ, List.getD_cons_zero]; omega), ta⟩, ⟨w, rfl, (by rw [r2]; rfl)⟩, ⟨kk, rfl, (by simp only [xl_ev, xt_ev, y_v, List.getD_cons_succ, List.getD_cons_zero]; omega)⟩, ⟨t, rfl, (by simp only [xl_ev, xt_ev, y_v, List.getD_cons_succ, List.getD_cons_zero]; omega)⟩, trivial⟩ (fun q hq => absurd hq List.not_mem_nil) hI (fun _ => hQ)).mono (fun r G' h => ?_)
    obtain ⟨v', -, -, hI', ef, p, hp, -, -, pa⟩ := h
    obtain rfl : p = _ := List.mem_singleton.mp hp
    obtain ⟨y, rfl, -⟩ := y_pI pa
    exact ⟨⟨y, rfl⟩, hI', ef.sub (by decide)⟩
  · refine ((h_299 th xs L J).gd (G := G) (d := d) m_245_ok (by omega) (v := (y_v [(a : Int), w.toInt, kk.toInt, t.toInt])) (as := [.ref a, .int w, .int kk, .int t]) (y_v_Bd (List.forall_mem_cons.mpr ⟨(y_cellB hI ta), (List.forall_mem_cons.mpr ⟨(x_i32 w), (List.forall_mem_cons.mpr ⟨(x_i32 kk), (List.forall_mem_cons.mpr ⟨(x_i32 t), (fun _ h => absurd h List.not_mem_nil)⟩)⟩)⟩)⟩)) (List.forall_mem_cons.mpr ⟨(by simp only [xl_ev, xt_ev, y_v, List.getD_cons_succ, List.getD_cons_zero]; omega), (fun _ h => absurd h List.not_mem_nil)⟩) ⟨⟨a, rfl, (by simp only [xl_ev, xt_ev, y_v, List.getD_cons_succ, List.getD_cons_zero]; omega), ta⟩, ⟨w, rfl, (by simp only [xl_ev, xt_ev, y_v, List.getD_cons_succ, List.getD_cons_zero]; omega)⟩, ⟨kk, rfl, (by simp only [xl_ev, xt_ev, y_v, List.getD_cons_succ, List.getD_cons_zero]; omega)⟩, ⟨t, rfl, (by simp only [xl_ev, xt_ev, y_v, List.getD_cons_succ, List.getD_cons_zero]; omega)⟩, trivial⟩ (fun q hq => absurd hq List.not_mem_nil) hI (fun _ => hQ)).mono (fun r G' h => ?_)
    obtain ⟨v', -, -, hI', ef, p, hp, -, -, pa⟩ := h
    obtain rfl : p = _ := List.mem_singleton.mp hp
    obtain ⟨y, rfl, -⟩ := y_pI pa
    exact ⟨⟨y, rfl⟩, hI', ef.sub (by decide)⟩
set_option maxHeartbeats 2000000 in
set_option maxRecDepth 100000 in
theorem g_lgl (hd : 307 ≤ d) (ta : th[a]? = some 10) {lives : Int32} (hK0 : ∀ x G', x_eff th E_lg1 G0 G' → xI x_tb th G' → K (some (.int x)) G') (hK1 : ∀ G' lv rd tv, z_RV th G' a rb rd tv → z_rows rd tv.toInt → x_eff th E_lg1 G0 G' → pm_get lv 0 = some (.ref a) → pm_get lv 1 = some (.int lives) → x_Gd xs L J (d + 2) m_243 K 83 lv [] G') (hI0 : xI x_tb th G0) (hNs : z_Ns th a G0) : ∀ (m : Nat) (G : List pE) (lv : pL) (p : Int32) (rd : Nat → Int32) (tv : Int32), (940 - p.toInt).toNat = m → z_RV th G a rb rd tv → z_rows rd tv.toInt → x_sl G a 4 = some (.int p) → x_eff th E_lg1 G0 G → pm_get lv 0 = some (.ref a) → pm_get lv 1 = some (.int lives) → x_Gd xs L J (d + 2) m_243 K 39 lv [] G := by
  intro m
  induction m using Nat.strongRecOn with
  | ind m ih =>
  intro G lv p rd tv hm hV hR hp hE g0 g1
  have hI := hV.1
  have rp := y_fie (i := 4) (t := 10) hI ta rfl hp
  obtain ⟨tk, htk, -⟩ := y_fint (i := 11) hI ta rfl
  have hN := hNs.eff ta hI0 hE rfl (by decide)
  refine y_aln (e_243 (39, .aload_n 0, 1) (List.mem_of_getElem? (i := 21) rfl)) g0 ?_
  refine y_getf hI ta (e_243 (40, .getfield 141, 3) (List.mem_of_getElem? (i := 22) rfl)) u_17_141 ⟨rfl, rfl⟩ htk ?_
  refine y_ifc (e_243 (43, .ifCond .eq 40, 3) (List.mem_of_getElem? (i := 23) rfl)) rfl (fun _ => hK1 G lv rd tv hV hR hE g0 g1) (fun _ => ?_)
  refine y_aln (e_243 (46, .aload_n 0, 1) (List.mem_of_getElem? (i := 24) rfl)) g0 ?_
  refine y_c1 (K' := _) (e_243 (47, .invokevirtual 359, 3) (List.mem_of_getElem? (i := 25) rfl)) ⟨rfl, rfl, rfl⟩ t_17_359 ⟨by decide, by decide, by decide, by decide⟩ m_244_ok rfl (by decide) (y_recv hI ta ⟨rfl, rfl⟩) (Nat.le_of_ble_eq_true rfl) (Nat.le_of_ble_eq_true rfl) (g_logLineC (d := d) hd hV hR hN hp) (fun r1 G1 h1 => ?_)
  obtain ⟨ef1, hI1, hr⟩ := h1
  have hE1 : x_eff th E_lg1 G0 G1 := hE.tr ef1.l.l
  rcases hr with rfl | ⟨rfl, l39, ⟨rd1, hV1, hR1⟩, p1, tk1, f4, f11, hpt⟩
  · simp only [Option.toList_some, Option.toList_none, List.cons_append, List.nil_append]
    refine y_ifc (e_243 (50, .ifCond .eq 12, 3) (List.mem_of_getElem? (i := 26) rfl)) rfl (fun _ => ?_) (fun hb => absurd hb (by decide))
    obtain ⟨fa, hfa, -⟩ := y_fint (i := 16) hI1 ta rfl
    refine y_st (e_243 (62, .bipush (-2), 2) (List.mem_of_getElem? (i := 31) rfl)) ⟨rfl, rfl, rfl, rfl⟩ ?_
    refine y_aln (e_243 (64, .aload_n 0, 1) (List.mem_of_getElem? (i := 32) rfl)) g0 ?_
    refine y_getf hI1 ta (e_243 (65, .getfield 161, 3) (List.mem_of_getElem? (i := 33) rfl)) u_17_161 ⟨rfl, rfl⟩ hfa ?_
    refine y_st (e_243 (68, .isub, 1) (List.mem_of_getElem? (i := 34) rfl)) ⟨rfl, rfl, rfl, rfl⟩ ?_
    refine y_ret (e_243 (69, .ireturn, 1) (List.mem_of_getElem? (i := 35) rfl)) ⟨rfl, y_ri⟩ (hK0 _ _ (hE1) hI1)
  · simp only [Option.toList_some, Option.toList_none, List.cons_append, List.nil_append]
    refine y_ifc (e_243 (50, .ifCond .eq 12, 3) (List.mem_of_getElem? (i := 26) rfl)) rfl (fun hb => absurd hb (by decide)) (fun _ => ?_)
    refine y_aln (e_243 (53, .aload_n 0, 1) (List.mem_of_getElem? (i := 27) rfl)) g0 ?_
    refine y_st (e_243 (54, .bipush 59, 2) (List.mem_of_getElem? (i := 28) rfl)) ⟨rfl, rfl, rfl, rfl⟩ ?_
    refine y_c2 (K' := _) (e_243 (56, .invokevirtual 226, 3) (List.mem_of_getElem? (i := 29) rfl)) ⟨rfl, rfl, rfl⟩ t_17_226 ⟨by decide, by decide, by decide, by decide⟩ m_180_ok rfl (by decide) (y_recv hI1 ta ⟨rfl, rfl⟩) (Nat.le_of_ble_eq_true rfl) (Nat.le_of_ble_eq_true rfl) (g_sign (d := d + 1) (by omega) hI1 ta f11 f4) (fun r1 G2 h1 => ?_)
    obtain ⟨ef2, hI2, hr⟩ := h1
    have hE2 : x_eff th E_lg1 G0 G2 := hE1.tr ef2.r.l
    have hV2 := hV1.eff hI2 ef2 rfl (by decide)
    rcases hr with rfl | ⟨rfl, t3, p2, f42, hp2⟩
    · simp only [Option.toList_some, Option.toList_none, List.cons_append, List.nil_append]
      refine y_ifc (e_243 (59, .ifCond .ne 11, 3) (List.mem_of_getElem? (i := 30) rfl)) rfl (fun hb => absurd hb (by decide)) (fun _ => ?_)
      obtain ⟨fa, hfa, -⟩ := y_fint (i := 16) hI2 ta rfl
      refine y_st (e_243 (62, .bipush (-2), 2) (List.mem_of_getElem? (i := 31) rfl)) ⟨rfl, rfl, rfl, rfl⟩ ?_
      refine y_aln (e_243 (64, .aload_n 0, 1) (List.mem_of_getElem? (i := 32) rfl)) g0 ?_
      refine y_getf hI2 ta (e_243 (65, .getfield 161, 3) (List.mem_of_getElem? (i := 33) rfl)) u_17_161 ⟨rfl, rfl⟩ hfa ?_
      refine y_st (e_243 (68, .isub, 1) (List.mem_of_getElem? (i := 34) rfl)) ⟨rfl, rfl, rfl, rfl⟩ ?_
      refine y_ret (e_243 (69, .ireturn, 1) (List.mem_of_getElem? (i := 35) rfl)) ⟨rfl, y_ri⟩ (hK0 _ _ (hE2) hI2)
    · simp only [Option.toList_some, Option.toList_none, List.cons_append, List.nil_append]
      refine y_ifc (e_243 (59, .ifCond .ne 11, 3) (List.mem_of_getElem? (i := 30) rfl)) rfl (fun _ => ?_) (fun hb => absurd hb (by decide))
      have rp2 := y_fie (i := 4) (t := 10) hI2 ta rfl f42
      have q1 := hpt t3
      have rt := hV2.rt
      have e1 := y_add1 (t := tv) (by omega)
      have k32 := hV2.2.2.2.2.2
      refine y_aln (e_243 (70, .aload_n 0, 1) (List.mem_of_getElem? (i := 36) rfl)) g0 ?_
      refine y_st (e_243 (71, .dup, 1) (List.mem_of_getElem? (i := 37) rfl)) ⟨rfl, rfl, rfl, rfl⟩ ?_
      refine y_getf hI2 ta (e_243 (72, .getfield 356, 3) (List.mem_of_getElem? (i := 38) rfl)) u_17_356 ⟨rfl, rfl⟩ k32 ?_
      refine y_st (e_243 (75, .iconst 1, 1) (List.mem_of_getElem? (i := 39) rfl)) ⟨rfl, rfl, rfl, rfl⟩ ?_
      refine y_st (e_243 (76, .iadd, 1) (List.mem_of_getElem? (i := 40) rfl)) ⟨rfl, rfl, rfl, rfl⟩ ?_
      refine y_putf (f := (0, 0, 40)) hI2 ta (e_243 (77, .putfield 356, 3) (List.mem_of_getElem? (i := 41) rfl)) u_17_356 ⟨rfl, rfl, by decide, rfl, rfl⟩ ⟨_, rfl, by show (0 : Int) ≤ _; omega, by show _ ≤ (40 : Int); omega⟩ (fun G3 u3 => ?_)
      have hI3 := hI2.upd u3 ta (y_okI (lo := 0) (hi := 40) rfl (by omega) (by omega))
      have ef3 : x_eff th [(10, 32, 32)] G2 G3 := x_eff.upd u3 ta (q := (10, 32, 32)) List.mem_cons_self rfl (by decide) (by decide)
      have hV3 : z_RV th G3 a rb rd1 (tv + Int32.ofInt 1) := ⟨hI3, ta, by rw [ef3.at ta rfl]; exact hV2.2.2.1, hV2.2.2.2.1, fun i hi => by rw [ef3.at hV2.2.2.2.1 rfl]; exact hV2.2.2.2.2.1 i hi, by rw [u3.2.1, if_pos ⟨rfl, rfl⟩]⟩
      refine y_st (e_243 (80, .goto (-41), 3) (List.mem_of_getElem? (i := 42) rfl)) ⟨rfl, rfl, rfl, rfl⟩ ?_
      exact ih _ (by omega) G3 lv p2 rd1 _ rfl hV3 (by rw [e1]; exact hR1) (by rw [ef3.at ta rfl]; exact f42) (hE2.tr ef3.r) g0 g1
set_option maxHeartbeats 2000000 in
set_option maxRecDepth 100000 in
theorem g_lgd (hd : 307 ≤ d) (ta : th[a]? = some 10) {lives : Int32} (hK1 : ∀ G' lv wr, xI x_tb th G' → x_eff th E_lg2 G0 G' → pm_get lv 0 = some (.ref a) → pm_get lv 1 = some (.int lives) → pm_get lv 2 = some (.int wr) → x_Gd xs L J (d + 2) m_243 K 191 lv [] G') (hR : z_rows rd tv.toInt) (hQ0 : x_Q th G0) : ∀ (m : Nat) (G : List pE) (lv : pL) (wr i : Int32), (tv.toInt - i.toInt).toNat = m → 0 ≤ i.toInt → i.toInt ≤ tv.toInt → z_RV th G a rb rd tv → x_eff th E_lg2 G0 G → pm_get lv 0 = some (.ref a) → pm_get lv 1 = some (.int lives) → pm_get lv 2 = some (.int wr) → pm_get lv 3 = some (.int i) → x_Gd xs L J (d + 2) m_243 K 111 lv [] G := by
  intro m
  induction m using Nat.strongRecOn with
  | ind m ih =>
  intro G lv wr i hm i0 i1 hV hE g0 g1 g2 g3
  obtain ⟨hI, -, k8, tr, hrd, k32⟩ := id hV
  have rt := hV.rt
  have hQ := x_Q_eff (by decide) hE hQ0
  obtain ⟨lb, k33, tl⟩ := y_fref (i := 33) (u := 44) hI ta rfl
  have m3 := y_mul3 i0 (by omega)
  obtain ⟨b1, b2⟩ := y_m3 i0 (by omega) (Int32.ofInt 3 * i) m3
  refine y_iln (e_243 (111, .iload_n 3, 1) (List.mem_of_getElem? (i := 61) rfl)) g3 ?_
  refine y_aln (e_243 (112, .aload_n 0, 1) (List.mem_of_getElem? (i := 62) rfl)) g0 ?_
  refine y_getf hI ta (e_243 (113, .getfield 356, 3) (List.mem_of_getElem? (i := 63) rfl)) u_17_356 ⟨rfl, rfl⟩ k32 ?_
  refine y_icm (e_243 (116, .if_icmp .ge 75, 3) (List.mem_of_getElem? (i := 64) rfl)) rfl (fun _ => hK1 G lv wr hI hE g0 g1 g2) (fun hb => ?_)
  refine y_iln (e_243 (119, .iload_n 2, 1) (List.mem_of_getElem? (i := 65) rfl)) g2 ?_
  refine y_ifc (e_243 (120, .ifCond .ge 71, 3) (List.mem_of_getElem? (i := 66) rfl)) rfl (fun _ => hK1 G lv wr hI hE g0 g1 g2) (fun _ => ?_)
  have il := y_hI.2.2.2.2.2.1 hb
  have e1 := y_add1 (t := i) (by omega)
  refine y_aln (e_243 (123, .aload_n 0, 1) (List.mem_of_getElem? (i := 67) rfl)) g0 ?_
  refine y_getf hI ta (e_243 (124, .getfield 59, 3) (List.mem_of_getElem? (i := 68) rfl)) u_17_59 ⟨rfl, rfl⟩ k33 ?_
  refine y_st (e_243 (127, .iconst 0, 1) (List.mem_of_getElem? (i := 69) rfl)) ⟨rfl, rfl, rfl, rfl⟩ ?_
  refine y_aln (e_243 (128, .aload_n 0, 1) (List.mem_of_getElem? (i := 70) rfl)) g0 ?_
  refine y_aln (e_243 (129, .aload_n 0, 1) (List.mem_of_getElem? (i := 71) rfl)) g0 ?_
  refine y_getf hI ta (e_243 (130, .getfield 40, 3) (List.mem_of_getElem? (i := 72) rfl)) u_17_40 ⟨rfl, rfl⟩ k8 ?_
  refine y_st (e_243 (133, .iconst 3, 1) (List.mem_of_getElem? (i := 73) rfl)) ⟨rfl, rfl, rfl, rfl⟩ ?_
  refine y_iln (e_243 (134, .iload_n 3, 1) (List.mem_of_getElem? (i := 74) rfl)) g3 ?_
  refine y_st (e_243 (135, .imul, 1) (List.mem_of_getElem? (i := 75) rfl)) ⟨rfl, rfl, rfl, rfl⟩ ?_
  refine y_iald hI tr (e_243 (136, .iaload, 1) (List.mem_of_getElem? (i := 76) rfl)) ⟨rfl, rfl⟩ (by omega) (hrd _ (by omega)) ?_
  refine y_aln (e_243 (137, .aload_n 0, 1) (List.mem_of_getElem? (i := 77) rfl)) g0 ?_
  refine y_getf hI ta (e_243 (138, .getfield 40, 3) (List.mem_of_getElem? (i := 78) rfl)) u_17_40 ⟨rfl, rfl⟩ k8 ?_
  refine y_st (e_243 (141, .iconst 3, 1) (List.mem_of_getElem? (i := 79) rfl)) ⟨rfl, rfl, rfl, rfl⟩ ?_
  refine y_iln (e_243 (142, .iload_n 3, 1) (List.mem_of_getElem? (i := 80) rfl)) g3 ?_
  refine y_st (e_243 (143, .imul, 1) (List.mem_of_getElem? (i := 81) rfl)) ⟨rfl, rfl, rfl, rfl⟩ ?_
  refine y_st (e_243 (144, .iconst 1, 1) (List.mem_of_getElem? (i := 82) rfl)) ⟨rfl, rfl, rfl, rfl⟩ ?_
  refine y_st (e_243 (145, .iadd, 1) (List.mem_of_getElem? (i := 83) rfl)) ⟨rfl, rfl, rfl, rfl⟩ ?_
  refine y_iald hI tr (e_243 (146, .iaload, 1) (List.mem_of_getElem? (i := 84) rfl)) ⟨rfl, rfl⟩ (by omega) (hrd _ (by omega)) ?_
  refine y_aln (e_243 (147, .aload_n 0, 1) (List.mem_of_getElem? (i := 85) rfl)) g0 ?_
  refine y_getf hI ta (e_243 (148, .getfield 40, 3) (List.mem_of_getElem? (i := 86) rfl)) u_17_40 ⟨rfl, rfl⟩ k8 ?_
  refine y_st (e_243 (151, .iconst 3, 1) (List.mem_of_getElem? (i := 87) rfl)) ⟨rfl, rfl, rfl, rfl⟩ ?_
  refine y_iln (e_243 (152, .iload_n 3, 1) (List.mem_of_getElem? (i := 88) rfl)) g3 ?_
  refine y_st (e_243 (153, .imul, 1) (List.mem_of_getElem? (i := 89) rfl)) ⟨rfl, rfl, rfl, rfl⟩ ?_
  refine y_st (e_243 (154, .iconst 2, 1) (List.mem_of_getElem? (i := 90) rfl)) ⟨rfl, rfl, rfl, rfl⟩ ?_
  refine y_st (e_243 (155, .iadd, 1) (List.mem_of_getElem? (i := 91) rfl)) ⟨rfl, rfl, rfl, rfl⟩ ?_
  refine y_iald hI tr (e_243 (156, .iaload, 1) (List.mem_of_getElem? (i := 92) rfl)) ⟨rfl, rfl⟩ (by omega) (hrd _ (by omega)) ?_
  have hrow := hR i.toInt.toNat (by omega)
  unfold z_row at hrow
  rw [← show (Int32.ofInt 3 * i).toInt.toNat = 3 * i.toInt.toNat by omega] at hrow
  rw [show (Int32.ofInt 3 * i).toInt.toNat + 1 = (Int32.ofInt 3 * i + Int32.ofInt 1).toInt.toNat by omega] at hrow
  refine y_c4 (K' := _) (e_243 (157, .invokevirtual 362, 3) (List.mem_of_getElem? (i := 93) rfl)) ⟨rfl, rfl, rfl⟩ t_17_362 ⟨by decide, by decide, by decide, by decide⟩ m_245_ok rfl (by decide) (y_recv hI ta ⟨rfl, rfl⟩) (Nat.le_of_ble_eq_true rfl) (Nat.le_of_ble_eq_true rfl) (g_does (d := d + 1) (by omega) hI ta hQ hrow) (fun r1 G1 h1 => ?_)
  obtain ⟨⟨y, rfl⟩, hI1, ef1⟩ := h1
  simp only [Option.toList_some, Option.toList_none, List.cons_append, List.nil_append]
  refine y_iast hI1 tl (e_243 (160, .iastore, 1) (List.mem_of_getElem? (i := 94) rfl)) ⟨rfl, rfl⟩ ⟨by decide, by decide⟩ (fun G3 u3 => ?_)
  have hI3 : xI x_tb th G3 := hI1.upd u3 tl (y_okA (y_one (show (Int32.ofInt 0).toInt.toNat < 4 by decide)))
  have ef3 : x_eff th [(44, 0, 3)] G1 G3 := x_eff.upd u3 tl (q := (44, 0, 3)) List.mem_cons_self rfl (Nat.zero_le _) (by decide)
  have hV3 := (hV.eff hI1 ef1 rfl (by decide)).eff hI3 ef3 rfl (by decide)
  refine sg_lg161_go (d := d + 1) (by omega) (v := (y_v [(a : Int), lives.toInt, wr.toInt, i.toInt])) (G0 := G3) ⟨y_v_Bd (List.forall_mem_cons.mpr ⟨(y_cellB hI3 ta), (List.forall_mem_cons.mpr ⟨(x_i32 lives), (List.forall_mem_cons.mpr ⟨(x_i32 wr), (List.forall_mem_cons.mpr ⟨(x_i32 i), (fun _ h => absurd h List.not_mem_nil)⟩)⟩)⟩)⟩), (fun _ h => absurd h List.not_mem_nil), (List.forall_mem_cons.mpr ⟨⟨_, g0, a, rfl, (by simp only [xl_ev, xt_ev, y_v, List.getD_cons_succ, List.getD_cons_zero]; omega), ta⟩, (List.forall_mem_cons.mpr ⟨⟨_, g1, lives, rfl, (by simp only [xl_ev, xt_ev, y_v, List.getD_cons_succ, List.getD_cons_zero]; omega)⟩, (List.forall_mem_cons.mpr ⟨⟨_, g2, wr, rfl, (by simp only [xl_ev, xt_ev, y_v, List.getD_cons_succ, List.getD_cons_zero]; omega)⟩, (List.forall_mem_cons.mpr ⟨⟨_, g3, i, rfl, (by simp only [xl_ev, xt_ev, y_v, List.getD_cons_succ, List.getD_cons_zero]; omega)⟩, (fun _ h => absurd h List.not_mem_nil)⟩)⟩)⟩)⟩), trivial, (fun _ h => absurd h List.not_mem_nil), hI3⟩ x_eff.rf (fun r G' h => ?_) (fun n hn vn lv9 G4 hag hS9 hE9 => ?_)
  · obtain ⟨v', -, -, -, -, p, hp, -⟩ := h
    exact absurd hp List.not_mem_nil
  obtain rfl : n = _ := List.mem_singleton.mp hn
  have z0 : vn 0 = (a : Int) := hag 0 (by decide)
  have z1 : vn 1 = lives.toInt := hag 1 (by decide)
  have z3 : vn 3 = i.toInt := hag 3 (by decide)
  have l0 := hS9.loCe (i := 0) (t := 10) (l := ([(0, 1)], 0)) (a := a) (List.mem_of_getElem? (i := 0) rfl) (by simp only [xl_ev, xt_ev]; omega)
  have l1 := hS9.lo0e (i := 1) (l := ([(1, 1)], 0)) (x := lives) (List.mem_of_getElem? (i := 1) rfl) (by simp only [xl_ev, xt_ev]; omega)
  obtain ⟨wr2, l2, -⟩ := hS9.lo0 (i := 2) (l := ([(4, 1)], 0)) (List.mem_of_getElem? (i := 2) rfl)
  have l3 := hS9.lo0e (i := 3) (l := ([(3, 1)], 0)) (x := i) (List.mem_of_getElem? (i := 3) rfl) (by simp only [xl_ev, xt_ev]; omega)
  have hV4 := hV3.eff hS9.2.2.2.2.2 hE9 rfl (by decide)
  refine y_iinc (e_243 (185, .iinc 3 1, 3) (List.mem_of_getElem? (i := 111) rfl)) l3 (by decide) ?_
  refine y_st (e_243 (188, .goto (-77), 3) (List.mem_of_getElem? (i := 112) rfl)) ⟨rfl, rfl, rfl, rfl⟩ ?_
  exact ih _ (by omega) G4 _ wr2 (i + Int32.ofInt 1) rfl (by omega) (by omega) hV4 (((hE.tr ef1.l.l).tr ef3.r).tr hE9.r.l) (y_gpr l0 (by decide)) (y_gpi l1 (by decide)) (y_gpi l2 (by decide)) x_get_self
/-- what log() leaves -/
def z_Lg (th : List Nat) (G : List pE) (a : Nat) (lives : Int32) (r : Option Value) (G' : List pE) : Prop := (∃ x, r = some (.int x)) ∧ xI x_tb th G' ∧ x_eff th E_lg G G' ∧ (0 ≤ lives.toInt ∧ lives.toInt ≤ 1 → x_sl G' a 2 = some (.int 0)) ∧ (¬ (0 ≤ lives.toInt ∧ lives.toInt ≤ 1) → x_sl G' a 2 = x_sl G a 2)
set_option maxHeartbeats 2000000 in
set_option maxRecDepth 100000 in
theorem g_log (hd : 307 ≤ d) {lives : Int32} (hI : xI x_tb th G) (ta : th[a]? = some 10) (hQ : x_Q th G) (hNs : z_Ns th a G) : x_Gd xs L J (d + 2) m_243 (z_Lg th G a lives) 0 (lv_args 0 [.ref a, .int lives]) [] G := by
  obtain ⟨ln, hln, rl⟩ := y_fint (i := 2) hI ta rfl
  refine sg_lg0_go (d := d + 1) (by omega) (v := (y_v [(a : Int), lives.toInt, ln.toInt])) (G0 := G) ⟨y_v_Bd (List.forall_mem_cons.mpr ⟨(y_cellB hI ta), (List.forall_mem_cons.mpr ⟨(x_i32 lives), (List.forall_mem_cons.mpr ⟨(x_i32 ln), (fun _ h => absurd h List.not_mem_nil)⟩)⟩)⟩), (List.forall_mem_cons.mpr ⟨(by simp only [xl_ev, xt_ev, y_v, List.getD_cons_succ, List.getD_cons_zero]; omega), (List.forall_mem_cons.mpr ⟨(by simp only [xl_ev, xt_ev, y_v, List.getD_cons_succ, List.getD_cons_zero]; omega), (fun _ h => absurd h List.not_mem_nil)⟩)⟩), (List.forall_mem_cons.mpr ⟨⟨_, rfl, a, rfl, (by simp only [xl_ev, xt_ev, y_v, List.getD_cons_succ, List.getD_cons_zero]; omega), ta⟩, (List.forall_mem_cons.mpr ⟨⟨_, rfl, lives, rfl, (by simp only [xl_ev, xt_ev, y_v, List.getD_cons_succ, List.getD_cons_zero]; omega)⟩, (fun _ h => absurd h List.not_mem_nil)⟩)⟩), trivial, (List.forall_mem_cons.mpr ⟨⟨a, (by simp only [xl_ev, xt_ev, y_v, List.getD_cons_succ, List.getD_cons_zero]; omega), ta, _, hln, ln, rfl, (by simp only [xl_ev, xt_ev, y_v, List.getD_cons_succ, List.getD_cons_zero]; omega)⟩, (fun _ h => absurd h List.not_mem_nil)⟩), hI⟩ x_eff.rf (fun r G' h => ?_) (fun n hn vn lv G1 hag hS1 hE1 => ?_)
  · obtain ⟨v', hag, -, hI', ef, p, hp, pc, pf, pa⟩ := h
    have z0 : v' 0 = (a : Int) := hag 0 (by decide)
    have z1 : v' 1 = lives.toInt := hag 1 (by decide)
    have z2 : v' 2 = ln.toInt := hag 2 (by decide)
    simp only [sg_lg0_ps, List.mem_cons, List.not_mem_nil, or_false] at hp
    rcases hp with rfl | rfl
    · obtain ⟨y, rfl, -⟩ := y_p1 pa
      have c := pc _ (List.mem_of_getElem? (i := 0) rfl)
      obtain ⟨x2, f2, e2⟩ := y_pf0 (a := a) (pf _ (List.mem_of_getElem? (i := 0) rfl)) (by simp only [xl_ev, xt_ev]; omega)
      simp only [xl_ev, xt_ev] at c e2
      obtain rfl : x2 = ln := Int32.toInt_inj.mp (by omega)
      exact ⟨⟨y, rfl⟩, hI', ef.l.l.l.l, fun z => by omega, fun _ => by rw [f2, hln]⟩
    · obtain ⟨y, rfl, -⟩ := y_p1 pa
      have c := pc _ (List.mem_of_getElem? (i := 0) rfl)
      obtain ⟨x2, f2, e2⟩ := y_pf0 (a := a) (pf _ (List.mem_of_getElem? (i := 0) rfl)) (by simp only [xl_ev, xt_ev]; omega)
      simp only [xl_ev, xt_ev] at c e2
      obtain rfl : x2 = ln := Int32.toInt_inj.mp (by omega)
      exact ⟨⟨y, rfl⟩, hI', ef.l.l.l.l, fun z => by omega, fun _ => by rw [f2, hln]⟩
  obtain rfl : n = _ := List.mem_singleton.mp hn
  have z0 : vn 0 = (a : Int) := hag 0 (by decide)
  have z1 : vn 1 = lives.toInt := hag 1 (by decide)
  have g0 := hS1.loCe (i := 0) (t := 10) (l := ([(0, 1)], 0)) (a := a) (List.mem_of_getElem? (i := 0) rfl) (by simp only [xl_ev, xt_ev]; omega)
  have g1 := hS1.lo0e (i := 1) (l := ([(1, 1)], 0)) (x := lives) (List.mem_of_getElem? (i := 1) rfl) (by simp only [xl_ev, xt_ev]; omega)
  have f2 := hS1.fa0e (i := 2) (t := 10) (cl := ([(0, 1)], 0)) (l := ([], 0)) (a := a) (x := 0) (List.mem_of_getElem? (i := 0) rfl) (by simp only [xl_ev, xt_ev]; omega) rfl
  have f32 := hS1.fa0e (i := 32) (t := 10) (cl := ([(0, 1)], 0)) (l := ([], 0)) (a := a) (x := 0) (List.mem_of_getElem? (i := 1) rfl) (by simp only [xl_ev, xt_ev]; omega) rfl
  have c0 := hS1.2.1 ([(1, 1)], 0) (List.mem_of_getElem? (i := 0) rfl)
  have c1 := hS1.2.1 ([(1, -1)], 1) (List.mem_of_getElem? (i := 1) rfl)
  simp only [xl_ev, xt_ev] at c0 c1
  have hI1 := hS1.2.2.2.2.2
  obtain ⟨rb, rd, tv, hV⟩ := z_RVview hI1 ta
  obtain rfl : tv = 0 := by
    have e := hV.2.2.2.2.2
    rw [f32] at e
    exact (Value.int.inj (Option.some.inj e)).symm
  obtain ⟨p, hp, -⟩ := y_fint (i := 4) hI1 ta rfl
  have hQ1 := x_Q_eff (by decide) hE1 hQ
  have hN1 := hNs.eff ta hI hE1 rfl (by decide)
  have fin : ∀ (y : Int32) G', xI x_tb th G' → x_eff th (E_lg1 ++ E_lg83 ++ E_lg2 ++ E_lg191) G1 G' → z_Lg th G a lives (some (.int y)) G' := fun y G' hI' ef => ⟨⟨y, rfl⟩, hI', (hE1.sub (by decide)).tr (ef.sub (by decide)), fun _ => by rw [ef.at ta rfl]; exact f2, fun z => absurd ⟨by omega, by omega⟩ z⟩
  refine g_lgl (G0 := G1) (rb := rb) (lives := lives) hd ta (fun x G' ef hI' => fin x G' hI' ef.l.l.l) (fun G2 lv2 rd2 tv2 hV2 hR2 ef2 g02 g12 => ?_) hI1 hN1 _ G1 lv p rd 0 rfl hV (fun i hi => absurd hi (by show ¬ (i : Int) < 0; omega)) hp x_eff.rf g0 g1
  have hI2 := hV2.1
  refine sg_lg83_go (d := d + 1) (by omega) (v := (y_v [(a : Int), lives.toInt])) (G0 := G2) ⟨y_v_Bd (List.forall_mem_cons.mpr ⟨(y_cellB hI2 ta), (List.forall_mem_cons.mpr ⟨(x_i32 lives), (fun _ h => absurd h List.not_mem_nil)⟩)⟩), (fun _ h => absurd h List.not_mem_nil), (List.forall_mem_cons.mpr ⟨⟨_, g02, a, rfl, (by simp only [xl_ev, xt_ev, y_v, List.getD_cons_succ, List.getD_cons_zero]; omega), ta⟩, (List.forall_mem_cons.mpr ⟨⟨_, g12, lives, rfl, (by simp only [xl_ev, xt_ev, y_v, List.getD_cons_succ, List.getD_cons_zero]; omega)⟩, (fun _ h => absurd h List.not_mem_nil)⟩)⟩), trivial, (fun _ h => absurd h List.not_mem_nil), hI2⟩ x_eff.rf (fun r G' h => ?_) (fun n hn vn lv3 G3 hag hS3 hE3 => ?_)
  · obtain ⟨v', -, -, -, -, p, hp, -⟩ := h
    exact absurd hp List.not_mem_nil
  obtain rfl : n = _ := List.mem_singleton.mp hn
  have z0 : vn 0 = (a : Int) := hag 0 (by decide)
  have z1 : vn 1 = lives.toInt := hag 1 (by decide)
  have l0 := hS3.loCe (i := 0) (t := 10) (l := ([(0, 1)], 0)) (a := a) (List.mem_of_getElem? (i := 0) rfl) (by simp only [xl_ev, xt_ev]; omega)
  have l1 := hS3.lo0e (i := 1) (l := ([(1, 1)], 0)) (x := lives) (List.mem_of_getElem? (i := 1) rfl) (by simp only [xl_ev, xt_ev]; omega)
  have l2 := hS3.lo0e (i := 2) (l := ([], -1)) (x := -1) (List.mem_of_getElem? (i := 2) rfl) rfl
  have l3 := hS3.lo0e (i := 3) (l := ([], 0)) (x := 0) (List.mem_of_getElem? (i := 3) rfl) rfl
  have hV3 := hV2.eff hS3.2.2.2.2.2 hE3 rfl (by decide)
  have hE13 : x_eff th (E_lg1 ++ E_lg83 ++ E_lg2 ++ E_lg191) G1 G3 := ef2.l.l.l.tr hE3.r.l.l
  refine g_lgd (G0 := G3) (rb := rb) (rd := rd2) (tv := tv2) (lives := lives) hd ta (fun G5 lv5 wr hI5 ef5 q0 q1 q2 => ?_) hR2 (x_Q_eff (by decide) hE3 (x_Q_eff (by decide) ef2 hQ1)) _ G3 lv3 (-1) 0 rfl (by decide) (by have := hV2.rt; show (0 : Int) ≤ _; omega) hV3 x_eff.rf l0 l1 l2 l3
  refine sg_lg191_go (d := d + 1) (by omega) (v := (y_v [(a : Int), lives.toInt, wr.toInt])) (G0 := G5) ⟨y_v_Bd (List.forall_mem_cons.mpr ⟨(y_cellB hI5 ta), (List.forall_mem_cons.mpr ⟨(x_i32 lives), (List.forall_mem_cons.mpr ⟨(x_i32 wr), (fun _ h => absurd h List.not_mem_nil)⟩)⟩)⟩), (List.forall_mem_cons.mpr ⟨(by simp only [xl_ev, xt_ev, y_v, List.getD_cons_succ, List.getD_cons_zero]; omega), (List.forall_mem_cons.mpr ⟨(by simp only [xl_ev, xt_ev, y_v, List.getD_cons_succ, List.getD_cons_zero]; omega), (fun _ h => absurd h List.not_mem_nil)⟩)⟩), (List.forall_mem_cons.mpr ⟨⟨_, q0, a, rfl, (by simp only [xl_ev, xt_ev, y_v, List.getD_cons_succ, List.getD_cons_zero]; omega), ta⟩, (List.forall_mem_cons.mpr ⟨⟨_, q1, lives, rfl, (by simp only [xl_ev, xt_ev, y_v, List.getD_cons_succ, List.getD_cons_zero]; omega)⟩, (List.forall_mem_cons.mpr ⟨⟨_, q2, wr, rfl, (by simp only [xl_ev, xt_ev, y_v, List.getD_cons_succ, List.getD_cons_zero]; omega)⟩, (fun _ h => absurd h List.not_mem_nil)⟩)⟩)⟩), trivial, (fun _ h => absurd h List.not_mem_nil), hI5⟩ x_eff.rf (fun r G' h => ?_) (fun n hn => absurd hn List.not_mem_nil)
  obtain ⟨v', -, -, hI', ef, p7, hp7, -, -, pa⟩ := h
  obtain rfl : p7 = _ := List.mem_singleton.mp hp7
  obtain ⟨y, rfl, -⟩ := y_pI pa
  exact fin y G' hI' ((hE13.tr ef5.r.l).tr ef.r)
end ZG
