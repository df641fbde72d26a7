def d_247 : xD := [(0, .aload_n 0, 1), (1, .iconst 0, 1), (2, .putfield 1, 3), (5, .aload_n 0, 1), (6, .sipush 200, 3), (9, .invokevirtual 217, 3), (12, .aload_n 0, 1), (13, .iconst 0, 1), (14, .putfield 158, 3), (17, .aload_n 0, 1), (18, .iconst 0, 1), (19, .putfield 368, 3), (22, .aload_n 0, 1), (23, .iconst 0, 1), (24, .putfield 384, 3), (27, .aload_n 0, 1), (28, .iconst 0, 1), (29, .putfield 371, 3), (32, .aload_n 0, 1), (33, .iconst 1, 1), (34, .putfield 378, 3), (37, .aload_n 0, 1), (38, .iconst 0, 1), (39, .putfield 387, 3), (42, .aload_n 0, 1), (43, .invokevirtual 170, 3), (46, .iconst 1, 1), (47, .istore_n 1, 1), (48, .iload_n 1, 1), (49, .ifCond .eq 83, 3), (52, .aload_n 0, 1), (53, .getfield 387, 3), (56, .ifCond .eq 45, 3), (59, .aload_n 0, 1), (60, .getfield 141, 3), (63, .ifCond .ne 38, 3), (66, .aload_n 0, 1), (67, .invokevirtual 390, 3), (70, .aload_n 0, 1), (71, .bipush 22, 2), (73, .invokevirtual 393, 3), (76, .aload_n 0, 1), (77, .getfield 371, 3), (80, .ifCond .le 16, 3), (83, .aload_n 0, 1), (84, .iconst 1, 1), (85, .invokevirtual 167, 3), (88, .pop, 1), (89, .iconst (-1), 1), (90, .aload_n 0, 1), (91, .getfield 161, 3), (94, .isub, 1), (95, .ireturn, 1), (96, .iconst 0, 1), (97, .istore_n 1, 1), (98, .goto (-50), 3), (101, .aload_n 0, 1), (102, .getfield 387, 3), (105, .ifCond .eq 13, 3), (108, .aload_n 0, 1), (109, .invokevirtual 396, 3), (112, .ifCond .ne (-64), 3), (115, .goto 10, 3), (118, .aload_n 0, 1), (119, .invokevirtual 399, 3), (122, .ifCond .ne (-74), 3), (125, .iconst (-1), 1), (126, .aload_n 0, 1), (127, .getfield 161, 3), (130, .isub, 1), (131, .ireturn, 1), (132, .aload_n 0, 1), (133, .getfield 33, 3), (136, .sipush 143, 3), (139, .aload_n 0, 1), (140, .getfield 368, 3), (143, .iastore, 1), (144, .iconst 0, 1), (145, .istore_n 2, 1), (146, .iload_n 2, 1), (147, .iconst 3, 1), (148, .aload_n 0, 1), (149, .getfield 368, 3), (152, .imul, 1), (153, .if_icmp .ge 25, 3), (156, .aload_n 0, 1), (157, .getfield 33, 3), (160, .sipush 144, 3), (163, .iload_n 2, 1), (164, .iadd, 1), (165, .aload_n 0, 1), (166, .getfield 40, 3), (169, .iload_n 2, 1), (170, .iaload, 1), (171, .iastore, 1), (172, .iinc 2 1, 3), (175, .goto (-29), 3), (178, .aload_n 0, 1), (179, .getfield 384, 3), (182, .ireturn, 1)]
set_option maxRecDepth 100000 in
theorem d_247_ok : x_dchk 247 d_247 = true := by decide +kernel
def m_247 : pM := (⟨"BreathingHillModel", "sentence", "()I"⟩, 1817, 3, some (FieldType.int), 17, 0, false, 10, 103, 1815, 1816)
set_option maxRecDepth 100000 in
theorem m_247_ok : pm_tab[247]? = some m_247 := rfl
theorem e_247 : ∀ q ∈ d_247, decode m_247.code q.1 = .ok (q.2.1, q.2.2) := y_dec d_247_ok m_247_ok
def E_n0 : List (Nat × Nat × Nat) := [(10, 0, 0), (10, 2, 5), (10, 15, 15), (10, 36, 40), (10, 4, 4), (10, 11, 14), (10, 17, 17)]
def sg_sn0_ns : List xN := []
def sg_sn0_os : List xN := [(48, [(0, (20, ([(0, 1)], 0))), (1, (0, ([], 1)))], [(10, ([(0, 1)], 0), 2, (0, ([], 0))), (10, ([(0, 1)], 0), 36, (0, ([], 0))), (10, ([(0, 1)], 0), 37, (0, ([], 0))), (10, ([(0, 1)], 0), 38, (0, ([], 0))), (10, ([(0, 1)], 0), 40, (0, ([], 0)))], [], 1, [([], 0), ([], 0), ([], 0), ([], 0), ([], 0)])]
def sg_sn0_g : xG := ([], [(0, (20, ([(0, 1)], 0)))], [], [], 1)
def sg_sn0_ps : List xP := []
set_option maxRecDepth 100000 in
set_option maxHeartbeats 4000000 in
theorem sg_sn0_ok : x_seg x_tb [c_179, c_188] m_247 d_247 E_n0 1 sg_sn0_ps sg_sn0_ns sg_sn0_os 38 false 0 sg_sn0_g = true := by decide +kernel
set_option maxRecDepth 100000 in
theorem sg_sn0_go {th : List Nat} {xs : Nat → Int32} {L J d : Nat} {K : Option Value → List pE → Prop} (hd : 189 ≤ d) {v : Nat → Int} {lv : pL} {ws : List Value} {G0 G : List pE} (hS : x_S x_tb th v sg_sn0_g lv ws G) (hE : x_eff th E_n0 G0 G) (hK : ∀ r G', x_Post x_tb th E_n0 sg_sn0_ps 1 v G0 r G' → K r G') (hO : ∀ n ∈ sg_sn0_os, ∀ (vn : Nat → Int) (lv : pL) (G1 : List pE), x_ag 1 v vn → x_S x_tb th vn (n.2.2.2.1, n.2.1, [], n.2.2.1, n.2.2.2.2.1) lv [] G1 → x_eff th E_n0 G0 G1 → x_Gd xs L J (d + 1) m_247 K n.1 lv [] G1) : x_Gd xs L J (d + 1) m_247 K 0 lv ws G :=
  x_seg_ok (dm := 189) x_tb_wf ⟨rfl, rfl, rfl⟩ e_247 (List.forall_mem_cons.mpr ⟨(h_179 th xs L J).mono (by omega), List.forall_mem_cons.mpr ⟨(h_188 th xs L J).mono (by omega), fun _ h => absurd h List.not_mem_nil⟩⟩) hd sg_sn0_ok hS hE (fun z => by cases z) hK hO
/-- the loop's measure -/
def z_M (o w c t : Int) : Nat := ((20 - o) * 1000 + w * 100 + c + t).toNat
section ZL
variable {th : List Nat} {xs : Nat → Int32} {L J d a rb sb : Nat} {K : Option Value → List pE → Prop} {G0 : List pE}
set_option maxHeartbeats 2000000 in
set_option maxRecDepth 100000 in
theorem g_sloop (hd : 302 ≤ d) (hK0 : ∀ x G', x_eff th E_beh G0 G' → xI x_tb th G' → K (some (.int x)) G') (hK1 : ∀ F rd st c (t : Int32) G' lv, z_S th G' a rb sb F rd st c t 1 → t.toInt = 0 → x_eff th E_beh G0 G' → pm_get lv 0 = some (.ref a) → x_Gd xs L J (d + 3) m_247 K 132 lv [] G') : ∀ (n : Nat) (F : Nat → Option Value) (rd st : Nat → Int32) (G : List pE) (lv : pL) (c t o y : Int32) (w : Int), z_M o.toInt w c.toInt t.toInt ≤ n → z_S th G a rb sb F rd st c t w → F 37 = some (.int o) → F 40 = some (.int y) → y.toInt = w → (w = 0 ∨ w = 1) → 0 ≤ o.toInt → o.toInt ≤ 20 → c.toInt + t.toInt + w ≤ 2 * o.toInt → pm_get lv 0 = some (.ref a) → pm_get lv 1 = some (.int 1) → x_eff th E_beh G0 G → x_Gd xs L J (d + 3) m_247 K 48 lv [] G := by
  intro n
  induction n using Nat.strongRecOn with
  | ind n ih =>
  intro F rd st G lv c t o y w hn hS h37 h40 hy hw o0 o1 hct g0 g1 hE
  obtain ⟨hV, hc, ht, c0, t0, ct, hW, hD⟩ := id hS
  have ta := hV.2.1
  have next : ∀ (F' : Nat → Option Value) (rd' st' : Nat → Int32) (G' : List pE) (c' t' o' y' : Int32) (w' : Int), z_M o'.toInt w' c'.toInt t'.toInt < z_M o.toInt w c.toInt t.toInt → z_S th G' a rb sb F' rd' st' c' t' w' → F' 37 = some (.int o') → F' 40 = some (.int y') → y'.toInt = w' → (w' = 0 ∨ w' = 1) → 0 ≤ o'.toInt → o'.toInt ≤ 20 → c'.toInt + t'.toInt + w' ≤ 2 * o'.toInt → x_eff th E_beh G0 G' → x_Gd xs L J (d + 3) m_247 K 48 lv [] G' := fun F' rd' st' G' c' t' o' y' w' hm a1 a2 a3 a4 a5 a6 a7 a8 a9 => ih _ (Nat.lt_of_lt_of_le hm hn) F' rd' st' G' lv c' t' o' y' w' (Nat.le_refl _) a1 a2 a3 a4 a5 a6 a7 a8 g0 g1 a9
  refine y_iln (e_247 (48, .iload_n 1, 1) (List.mem_of_getElem? (i := 28) rfl)) g1 ?_
  refine y_ifc (e_247 (49, .ifCond .eq 83, 3) (List.mem_of_getElem? (i := 29) rfl)) rfl (fun hb => absurd hb (by decide)) (fun _ => ?_)
  refine y_aln (e_247 (52, .aload_n 0, 1) (List.mem_of_getElem? (i := 30) rfl)) g0 ?_
  refine y_getf hV.1 ta (e_247 (53, .getfield 387, 3) (List.mem_of_getElem? (i := 31) rfl)) u_17_387 ⟨rfl, rfl⟩ ((hV.2.2.1 40).trans h40) ?_
  refine y_ifc (e_247 (56, .ifCond .eq 45, 3) (List.mem_of_getElem? (i := 32) rfl)) rfl (fun hb => ?_) (fun hb => ?_)
  · have y0 := y_hI.1 hb
    have w0 : w = 0 := by rw [← hy, y0]; rfl
    subst w0
    refine y_aln (e_247 (101, .aload_n 0, 1) (List.mem_of_getElem? (i := 56) rfl)) g0 ?_
    refine y_getf hV.1 ta (e_247 (102, .getfield 387, 3) (List.mem_of_getElem? (i := 57) rfl)) u_17_387 ⟨rfl, rfl⟩ ((hV.2.2.1 40).trans h40) ?_
    refine y_ifc (e_247 (105, .ifCond .eq 13, 3) (List.mem_of_getElem? (i := 58) rfl)) rfl (fun _ => ?_) (fun hc => absurd y0 (y_hI.2.1 hc))
    refine y_aln (e_247 (118, .aload_n 0, 1) (List.mem_of_getElem? (i := 63) rfl)) g0 ?_
    refine y_c1 (K' := _) (e_247 (119, .invokevirtual 399, 3) (List.mem_of_getElem? (i := 64) rfl)) ⟨rfl, rfl, rfl⟩ t_17_399 ⟨by decide, by decide, by decide, by decide⟩ m_252_ok rfl (by decide) (y_recv hV.1 ta ⟨rfl, rfl⟩) (Nat.le_of_ble_eq_true rfl) (Nat.le_of_ble_eq_true rfl) (g_operand (d := d + 1) (by omega) hS h37 o0 o1 (by omega) h40 (by omega)) (fun r1 G1 h1 => ?_)
    obtain ⟨ef1, hI1, h1⟩ := h1
    rcases h1 with rfl | ⟨rfl, F1, rd1, st1, c1, t1, w1, o1', hS1, k37, ho, ho2, ⟨y1, k40, hy1⟩, hw1, hct1⟩
    · simp only [Option.toList_some, Option.toList_none, List.cons_append, List.nil_append]
      refine y_ifc (e_247 (122, .ifCond .ne (-74), 3) (List.mem_of_getElem? (i := 65) rfl)) rfl (fun hc => absurd hc (by decide)) (fun _ => ?_)
      obtain ⟨fa, hfa, -⟩ := y_fint (i := 16) hI1 ta rfl
      refine y_st (e_247 (125, .iconst (-1), 1) (List.mem_of_getElem? (i := 66) rfl)) ⟨rfl, rfl, rfl, rfl⟩ ?_
      refine y_aln (e_247 (126, .aload_n 0, 1) (List.mem_of_getElem? (i := 67) rfl)) g0 ?_
      refine y_getf hI1 ta (e_247 (127, .getfield 161, 3) (List.mem_of_getElem? (i := 68) rfl)) u_17_161 ⟨rfl, rfl⟩ hfa ?_
      refine y_st (e_247 (130, .isub, 1) (List.mem_of_getElem? (i := 69) rfl)) ⟨rfl, rfl, rfl, rfl⟩ ?_
      refine y_ret (e_247 (131, .ireturn, 1) (List.mem_of_getElem? (i := 70) rfl)) ⟨rfl, y_ri⟩ (hK0 _ _ (hE.tr ef1) hI1)
    · simp only [Option.toList_some, Option.toList_none, List.cons_append, List.nil_append]
      refine y_ifc (e_247 (122, .ifCond .ne (-74), 3) (List.mem_of_getElem? (i := 65) rfl)) rfl (fun _ => ?_) (fun hc => absurd hc (by decide))
      have z1 := hS1.2.2.2.1
      have z2 := hS1.2.2.2.2.1
      have z3 := hS1.2.2.2.2.2.1
      exact next F1 rd1 st1 G1 c1 t1 o1' y1 w1 (by unfold z_M; omega) hS1 k37 k40 hy1 hw1 (by omega) ho2 hct1 (hE.tr ef1)
  · have y1 := y_hI.2.1 hb
    have w1 : w = 1 := by
      rcases hw with z | z
      · exact absurd (y_i0 (hy.trans z)) y1
      · exact z
    subst w1
    obtain ⟨tk, htk, -⟩ := hV.int (i := 11) rfl
    obtain rfl : y = 1 := y_i1 hy
    refine y_aln (e_247 (59, .aload_n 0, 1) (List.mem_of_getElem? (i := 33) rfl)) g0 ?_
    refine y_getf hV.1 ta (e_247 (60, .getfield 141, 3) (List.mem_of_getElem? (i := 34) rfl)) u_17_141 ⟨rfl, rfl⟩ ((hV.2.2.1 11).trans htk) ?_
    refine y_ifc (e_247 (63, .ifCond .ne 38, 3) (List.mem_of_getElem? (i := 35) rfl)) rfl (fun hb2 => ?_) (fun hb2 => ?_)
    · refine y_aln (e_247 (101, .aload_n 0, 1) (List.mem_of_getElem? (i := 56) rfl)) g0 ?_
      refine y_getf hV.1 ta (e_247 (102, .getfield 387, 3) (List.mem_of_getElem? (i := 57) rfl)) u_17_387 ⟨rfl, rfl⟩ ((hV.2.2.1 40).trans h40) ?_
      refine y_ifc (e_247 (105, .ifCond .eq 13, 3) (List.mem_of_getElem? (i := 58) rfl)) rfl (fun hc => absurd hc (by decide)) (fun _ => ?_)
      refine y_aln (e_247 (108, .aload_n 0, 1) (List.mem_of_getElem? (i := 59) rfl)) g0 ?_
      refine y_c1 (K' := _) (e_247 (109, .invokevirtual 396, 3) (List.mem_of_getElem? (i := 60) rfl)) ⟨rfl, rfl, rfl⟩ t_17_396 ⟨by decide, by decide, by decide, by decide⟩ m_251_ok rfl (by decide) (y_recv hV.1 ta ⟨rfl, rfl⟩) (Nat.le_of_ble_eq_true rfl) (Nat.le_of_ble_eq_true rfl) (g_behind (d := d) (by omega) hS (by omega) h40) (fun r1 G1 h1 => ?_)
      obtain ⟨ef1, hI1, h1⟩ := h1
      rcases h1 with rfl | ⟨rfl, F1, rd1, st1, c1, t1, w1, hS1, k37, ⟨y1, k40, hy1⟩, hw1⟩
      · simp only [Option.toList_some, Option.toList_none, List.cons_append, List.nil_append]
        refine y_ifc (e_247 (112, .ifCond .ne (-64), 3) (List.mem_of_getElem? (i := 61) rfl)) rfl (fun hc => absurd hc (by decide)) (fun _ => ?_)
        refine y_st (e_247 (115, .goto 10, 3) (List.mem_of_getElem? (i := 62) rfl)) ⟨rfl, rfl, rfl, rfl⟩ ?_
        obtain ⟨fa, hfa, -⟩ := y_fint (i := 16) hI1 ta rfl
        refine y_st (e_247 (125, .iconst (-1), 1) (List.mem_of_getElem? (i := 66) rfl)) ⟨rfl, rfl, rfl, rfl⟩ ?_
        refine y_aln (e_247 (126, .aload_n 0, 1) (List.mem_of_getElem? (i := 67) rfl)) g0 ?_
        refine y_getf hI1 ta (e_247 (127, .getfield 161, 3) (List.mem_of_getElem? (i := 68) rfl)) u_17_161 ⟨rfl, rfl⟩ hfa ?_
        refine y_st (e_247 (130, .isub, 1) (List.mem_of_getElem? (i := 69) rfl)) ⟨rfl, rfl, rfl, rfl⟩ ?_
        refine y_ret (e_247 (131, .ireturn, 1) (List.mem_of_getElem? (i := 70) rfl)) ⟨rfl, y_ri⟩ (hK0 _ _ (hE.tr ef1) hI1)
      · simp only [Option.toList_some, Option.toList_none, List.cons_append, List.nil_append]
        refine y_ifc (e_247 (112, .ifCond .ne (-64), 3) (List.mem_of_getElem? (i := 61) rfl)) rfl (fun _ => ?_) (fun hc => absurd hc (by decide))
        have z1 := hS1.2.2.2.1
        have z2 := hS1.2.2.2.2.1
        have z3 := hS1.2.2.2.2.2.1
        exact next F1 rd1 st1 G1 c1 t1 o y1 w1 (by unfold z_M; omega) hS1 (k37.trans h37) k40 hy1 (by omega) o0 o1 (by omega) (hE.tr ef1)
    · refine y_aln (e_247 (66, .aload_n 0, 1) (List.mem_of_getElem? (i := 36) rfl)) g0 ?_
      refine y_c1 (K' := _) (e_247 (67, .invokevirtual 390, 3) (List.mem_of_getElem? (i := 37) rfl)) ⟨rfl, rfl, rfl⟩ t_17_390 ⟨by decide, by decide, by decide, by decide⟩ m_248_ok rfl (by decide) (y_recv hV.1 ta ⟨rfl, rfl⟩) (Nat.le_of_ble_eq_true rfl) (Nat.le_of_ble_eq_true rfl) (g_nots (d := d + 1) t.toInt.toNat F rd G c t (by omega) hS) (fun r1 G1 h1 => ?_)
      obtain ⟨rfl, ef1, F1, rd1, c1, t1, hS1, k1, s1⟩ := h1
      simp only [Option.toList_some, Option.toList_none, List.cons_append, List.nil_append]
      refine y_aln (e_247 (70, .aload_n 0, 1) (List.mem_of_getElem? (i := 38) rfl)) g0 ?_
      refine y_st (e_247 (71, .bipush 22, 2) (List.mem_of_getElem? (i := 39) rfl)) ⟨rfl, rfl, rfl, rfl⟩ ?_
      refine y_c2 (K' := _) (e_247 (73, .invokevirtual 393, 3) (List.mem_of_getElem? (i := 40) rfl)) ⟨rfl, rfl, rfl⟩ t_17_393 ⟨by decide, by decide, by decide, by decide⟩ m_250_ok rfl (by decide) (y_recv hS1.1.1 ta ⟨rfl, rfl⟩) (Nat.le_of_ble_eq_true rfl) (Nat.le_of_ble_eq_true rfl) (g_joins (d := d + 1) t1.toInt.toNat F1 rd1 G1 c1 t1 (by have := hS1.2.2.2.2.1; omega) hS1) (fun r1 G2 h1 => ?_)
      obtain ⟨rfl, ef2, F2, rd2, c2, t2, hS2, k2, s2, -⟩ := h1
      simp only [Option.toList_some, Option.toList_none, List.cons_append, List.nil_append]
      have hE2 : x_eff th E_beh G0 G2 := (hE.tr (ef1.sub (by decide))).tr (ef2.sub (by decide))
      refine y_aln (e_247 (76, .aload_n 0, 1) (List.mem_of_getElem? (i := 41) rfl)) g0 ?_
      refine y_getf hS2.1.1 ta (e_247 (77, .getfield 371, 3) (List.mem_of_getElem? (i := 42) rfl)) u_17_371 ⟨rfl, rfl⟩ ((hS2.1.2.2.1 38).trans hS2.2.2.1) ?_
      refine y_ifc (e_247 (80, .ifCond .le 16, 3) (List.mem_of_getElem? (i := 43) rfl)) rfl (fun hb3 => ?_) (fun hb3 => ?_)
      · have z0 := y_hI.2.2.2.2.2.2.1 hb3
        have z2 := hS2.2.2.2.2.1
        refine y_st (e_247 (96, .iconst 0, 1) (List.mem_of_getElem? (i := 53) rfl)) ⟨rfl, rfl, rfl, rfl⟩ ?_
        refine y_isn (e_247 (97, .istore_n 1, 1) (List.mem_of_getElem? (i := 54) rfl)) (by decide) ?_
        refine y_st (e_247 (98, .goto (-50), 3) (List.mem_of_getElem? (i := 55) rfl)) ⟨rfl, rfl, rfl, rfl⟩ ?_
        refine y_iln (e_247 (48, .iload_n 1, 1) (List.mem_of_getElem? (i := 28) rfl)) x_get_self ?_
        refine y_ifc (e_247 (49, .ifCond .eq 83, 3) (List.mem_of_getElem? (i := 29) rfl)) rfl (fun _ => ?_) (fun hc => absurd hc (by decide))
        exact hK1 F2 rd2 st c2 t2 G2 _ hS2 (by have : (0 : Int32).toInt = 0 := rfl; omega) hE2 (y_gpr g0 (by decide))
      · refine y_aln (e_247 (83, .aload_n 0, 1) (List.mem_of_getElem? (i := 44) rfl)) g0 ?_
        refine y_st (e_247 (84, .iconst 1, 1) (List.mem_of_getElem? (i := 45) rfl)) ⟨rfl, rfl, rfl, rfl⟩ ?_
        refine y_c2 (K' := _) (e_247 (85, .invokevirtual 167, 3) (List.mem_of_getElem? (i := 46) rfl)) ⟨rfl, rfl, rfl⟩ t_17_167 ⟨by decide, by decide, by decide, by decide⟩ m_171_ok rfl (by decide) (y_recv hS2.1.1 ta ⟨rfl, rfl⟩) (Nat.le_of_ble_eq_true rfl) (Nat.le_of_ble_eq_true rfl) (g_bad (d := d + 2) hS2.1.1 ta (by omega) _) (fun r1 G3 h1 => ?_)
        obtain ⟨rfl, hI3, ef3⟩ := h1
        simp only [Option.toList_some, Option.toList_none, List.cons_append, List.nil_append]
        refine y_st (e_247 (88, .pop, 1) (List.mem_of_getElem? (i := 47) rfl)) ⟨rfl, rfl, rfl, rfl⟩ ?_
        obtain ⟨fa, hfa, -⟩ := y_fint (i := 16) hI3 ta rfl
        refine y_st (e_247 (89, .iconst (-1), 1) (List.mem_of_getElem? (i := 48) rfl)) ⟨rfl, rfl, rfl, rfl⟩ ?_
        refine y_aln (e_247 (90, .aload_n 0, 1) (List.mem_of_getElem? (i := 49) rfl)) g0 ?_
        refine y_getf hI3 ta (e_247 (91, .getfield 161, 3) (List.mem_of_getElem? (i := 50) rfl)) u_17_161 ⟨rfl, rfl⟩ hfa ?_
        refine y_st (e_247 (94, .isub, 1) (List.mem_of_getElem? (i := 51) rfl)) ⟨rfl, rfl, rfl, rfl⟩ ?_
        refine y_ret (e_247 (95, .ireturn, 1) (List.mem_of_getElem? (i := 52) rfl)) ⟨rfl, y_ri⟩ (hK0 _ _ (hE2.tr (ef3.sub (by decide))) hI3)
end ZL
