theorem y_pI {th : List Nat} {v : Nat → Int} {r : Option Value} {l : xL} (h : x_ans th v (some (0, l)) r) : ∃ y : Int32, r = some (.int y) ∧ y.toInt = xl_ev l v := by
  cases r with
  | none => exact h.elim
  | some w =>
    obtain ⟨y, hy, h2⟩ := h
    have hy : w = .int y := hy
    subst hy
    exact ⟨y, rfl, h2⟩
def d_255 : xD := [(0, .iconst 0, 1), (1, .istore_n 2, 1), (2, .iconst 0, 1), (3, .istore_n 3, 1), (4, .iload_n 3, 1), (5, .aload_n 0, 1), (6, .getfield 33, 3), (9, .sipush 143, 3), (12, .iaload, 1), (13, .if_icmp .ge 199, 3), (16, .sipush 144, 3), (19, .iconst 3, 1), (20, .iload_n 3, 1), (21, .imul, 1), (22, .iadd, 1), (23, .istore 4, 2), (25, .aload_n 0, 1), (26, .getfield 33, 3), (29, .iload 4, 2), (31, .iaload, 1), (32, .bipush 20, 2), (34, .if_icmp .ne 30, 3), (37, .aload_n 0, 1), (38, .getfield 65, 3), (41, .iload_n 2, 1), (42, .iconst 1, 1), (43, .isub, 1), (44, .aload_n 0, 1), (45, .getfield 65, 3), (48, .iload_n 2, 1), (49, .iconst 1, 1), (50, .isub, 1), (51, .baload, 1), (52, .ifCond .ne 7, 3), (55, .iconst 1, 1), (56, .goto 4, 3), (59, .iconst 0, 1), (60, .bastore, 1), (61, .goto 145, 3), (64, .aload_n 0, 1), (65, .getfield 33, 3), (68, .iload 4, 2), (70, .iaload, 1), (71, .bipush 21, 2), (73, .if_icmp .eq 15, 3), (76, .aload_n 0, 1), (77, .getfield 33, 3), (80, .iload 4, 2), (82, .iaload, 1), (83, .bipush 22, 2), (85, .if_icmp .ne 82, 3), (88, .iinc 2 (-1), 3), (91, .aload_n 0, 1), (92, .getfield 65, 3), (95, .iload_n 2, 1), (96, .iconst 1, 1), (97, .isub, 1), (98, .aload_n 0, 1), (99, .getfield 33, 3), (102, .iload 4, 2), (104, .iaload, 1), (105, .bipush 21, 2), (107, .if_icmp .ne 31, 3), (110, .aload_n 0, 1), (111, .getfield 65, 3), (114, .iload_n 2, 1), (115, .iconst 1, 1), (116, .isub, 1), (117, .baload, 1), (118, .ifCond .eq 16, 3), (121, .aload_n 0, 1), (122, .getfield 65, 3), (125, .iload_n 2, 1), (126, .baload, 1), (127, .ifCond .eq 7, 3), (130, .iconst 1, 1), (131, .goto 32, 3), (134, .iconst 0, 1), (135, .goto 28, 3), (138, .aload_n 0, 1), (139, .getfield 65, 3), (142, .iload_n 2, 1), (143, .iconst 1, 1), (144, .isub, 1), (145, .baload, 1), (146, .ifCond .ne 12, 3), (149, .aload_n 0, 1), (150, .getfield 65, 3), (153, .iload_n 2, 1), (154, .baload, 1), (155, .ifCond .eq 7, 3), (158, .iconst 1, 1), (159, .goto 4, 3), (162, .iconst 0, 1), (163, .bastore, 1), (164, .goto 42, 3), (167, .aload_n 0, 1), (168, .getfield 65, 3), (171, .iload_n 2, 1), (172, .aload_n 0, 1), (173, .iload_n 1, 1), (174, .aload_n 0, 1), (175, .getfield 33, 3), (178, .iload 4, 2), (180, .iaload, 1), (181, .aload_n 0, 1), (182, .getfield 33, 3), (185, .iload 4, 2), (187, .iconst 1, 1), (188, .iadd, 1), (189, .iaload, 1), (190, .aload_n 0, 1), (191, .getfield 33, 3), (194, .iload 4, 2), (196, .iconst 2, 1), (197, .iadd, 1), (198, .iaload, 1), (199, .invokevirtual 402, 3), (202, .bastore, 1), (203, .iinc 2 1, 3), (206, .iinc 3 1, 3), (209, .goto (-205), 3), (212, .aload_n 0, 1), (213, .getfield 65, 3), (216, .iconst 0, 1), (217, .baload, 1), (218, .ireturn, 1)]
set_option maxRecDepth 100000 in
theorem d_255_ok : x_dchk 255 d_255 = true := by decide +kernel
def m_255 : pM := (⟨"BreathingHillModel", "isSaid", "(I)Z"⟩, 1849, 5, some (FieldType.boolean), 17, 1, false, 10, 103, 1848, 88)
set_option maxRecDepth 100000 in
theorem m_255_ok : pm_tab[255]? = some m_255 := rfl
theorem e_255 : ∀ q ∈ d_255, decode m_255.code q.1 = .ok (q.2.1, q.2.2) := y_dec d_255_ok m_255_ok
def E_is : List (Nat × Nat × Nat) := [(46, 0, 44)]
def sg_is37_ns : List xN := []
def sg_is37_os : List xN := [(206, [(0, (20, ([(0, 1)], 0))), (1, (0, ([(1, 1)], 0))), (2, (0, ([(2, 1)], 0))), (3, (0, ([(3, 1)], 0)))], [], [], 4, [([], 0), ([], 0), ([], 0), ([], 0), ([], 0)])]
def sg_is37_g : xG := ([([(2, 1)], -1), ([(2, -1)], 45)], [(0, (20, ([(0, 1)], 0))), (1, (0, ([(1, 1)], 0))), (2, (0, ([(2, 1)], 0))), (3, (0, ([(3, 1)], 0)))], [], [], 4)
def sg_is37_ps : List xP := []
set_option maxRecDepth 100000 in
set_option maxHeartbeats 4000000 in
theorem sg_is37_ok : x_seg x_tb [] m_255 d_255 E_is 4 sg_is37_ps sg_is37_ns sg_is37_os 26 false 37 sg_is37_g = true := by decide +kernel
set_option maxRecDepth 100000 in
theorem sg_is37_go {th : List Nat} {xs : Nat → Int32} {L J d : Nat} {K : Option Value → List pE → Prop} (hd : 0 ≤ d) {v : Nat → Int} {lv : pL} {ws : List Value} {G0 G : List pE} (hS : x_S x_tb th v sg_is37_g lv ws G) (hE : x_eff th E_is G0 G) (hK : ∀ r G', x_Post x_tb th E_is sg_is37_ps 4 v G0 r G' → K r G') (hO : ∀ n ∈ sg_is37_os, ∀ (vn : Nat → Int) (lv : pL) (G1 : List pE), x_ag 4 v vn → x_S x_tb th vn (n.2.2.2.1, n.2.1, [], n.2.2.1, n.2.2.2.2.1) lv [] G1 → x_eff th E_is G0 G1 → x_Gd xs L J (d + 1) m_255 K n.1 lv [] G1) : x_Gd xs L J (d + 1) m_255 K 37 lv ws G :=
  x_seg_ok (dm := 0) x_tb_wf ⟨rfl, rfl, rfl⟩ e_255 (fun _ h => absurd h List.not_mem_nil) hd sg_is37_ok hS hE (fun z => by cases z) hK hO
def sg_is88_ns : List xN := []
def sg_is88_os : List xN := [(206, [(0, (20, ([(0, 1)], 0))), (1, (0, ([(1, 1)], 0))), (2, (0, ([(2, 1)], -1))), (3, (0, ([(3, 1)], 0)))], [], [], 5, [([], 0), ([], 0), ([], 0), ([], 0), ([], 0)])]
def sg_is88_g : xG := ([([(2, 1)], -2), ([(2, -1)], 45), ([(4, 1)], -144), ([(4, -1)], 321)], [(0, (20, ([(0, 1)], 0))), (1, (0, ([(1, 1)], 0))), (2, (0, ([(2, 1)], 0))), (3, (0, ([(3, 1)], 0))), (4, (0, ([(4, 1)], 0)))], [], [], 5)
def sg_is88_ps : List xP := []
set_option maxRecDepth 100000 in
set_option maxHeartbeats 4000000 in
theorem sg_is88_ok : x_seg x_tb [] m_255 d_255 E_is 5 sg_is88_ps sg_is88_ns sg_is88_os 38 false 88 sg_is88_g = true := by decide +kernel
set_option maxRecDepth 100000 in
theorem sg_is88_go {th : List Nat} {xs : Nat → Int32} {L J d : Nat} {K : Option Value → List pE → Prop} (hd : 0 ≤ d) {v : Nat → Int} {lv : pL} {ws : List Value} {G0 G : List pE} (hS : x_S x_tb th v sg_is88_g lv ws G) (hE : x_eff th E_is G0 G) (hK : ∀ r G', x_Post x_tb th E_is sg_is88_ps 5 v G0 r G' → K r G') (hO : ∀ n ∈ sg_is88_os, ∀ (vn : Nat → Int) (lv : pL) (G1 : List pE), x_ag 5 v vn → x_S x_tb th vn (n.2.2.2.1, n.2.1, [], n.2.2.1, n.2.2.2.2.1) lv [] G1 → x_eff th E_is G0 G1 → x_Gd xs L J (d + 1) m_255 K n.1 lv [] G1) : x_Gd xs L J (d + 1) m_255 K 88 lv ws G :=
  x_seg_ok (dm := 0) x_tb_wf ⟨rfl, rfl, rfl⟩ e_255 (fun _ h => absurd h List.not_mem_nil) hd sg_is88_ok hS hE (fun z => by cases z) hK hO
def sg_is167_ns : List xN := []
def sg_is167_os : List xN := [(206, [(0, (20, ([(0, 1)], 0))), (1, (0, ([(1, 1)], 0))), (2, (0, ([(2, 1)], 1))), (3, (0, ([(3, 1)], 0)))], [], [], 5, [([], 0), ([], 0), ([], 0), ([], 0), ([], 0)])]
def sg_is167_g : xG := ([([(2, 1)], 0), ([(2, -1)], 44), ([(4, 1)], -144), ([(4, -1)], 321), ([(1, 1)], 0), ([(1, -1)], 7)], [(0, (20, ([(0, 1)], 0))), (1, (0, ([(1, 1)], 0))), (2, (0, ([(2, 1)], 0))), (3, (0, ([(3, 1)], 0))), (4, (0, ([(4, 1)], 0)))], [], [], 5)
def sg_is167_ps : List xP := []
set_option maxRecDepth 100000 in
set_option maxHeartbeats 4000000 in
theorem sg_is167_ok : x_seg x_tb [c_290] m_255 d_255 E_is 5 sg_is167_ps sg_is167_ns sg_is167_os 34 false 167 sg_is167_g = true := by decide +kernel
set_option maxRecDepth 100000 in
theorem sg_is167_go {th : List Nat} {xs : Nat → Int32} {L J d : Nat} {K : Option Value → List pE → Prop} (hd : 291 ≤ d) {v : Nat → Int} {lv : pL} {ws : List Value} {G0 G : List pE} (hS : x_S x_tb th v sg_is167_g lv ws G) (hE : x_eff th E_is G0 G) (hK : ∀ r G', x_Post x_tb th E_is sg_is167_ps 5 v G0 r G' → K r G') (hO : ∀ n ∈ sg_is167_os, ∀ (vn : Nat → Int) (lv : pL) (G1 : List pE), x_ag 5 v vn → x_S x_tb th vn (n.2.2.2.1, n.2.1, [], n.2.2.1, n.2.2.2.2.1) lv [] G1 → x_eff th E_is G0 G1 → x_Gd xs L J (d + 1) m_255 K n.1 lv [] G1) : x_Gd xs L J (d + 1) m_255 K 167 lv ws G :=
  x_seg_ok (dm := 291) x_tb_wf ⟨rfl, rfl, rfl⟩ e_255 (List.forall_mem_cons.mpr ⟨(h_290 th xs L J).mono (by omega), fun _ h => absurd h List.not_mem_nil⟩) hd sg_is167_ok hS hE (fun z => by cases z) hK hO
def sg_is212_ns : List xN := []
def sg_is212_os : List xN := []
def sg_is212_g : xG := ([], [(0, (20, ([(0, 1)], 0)))], [], [], 1)
def sg_is212_ps : List xP := [(some (0, ([(1, 1)], 0)), [([(1, 1)], 0), ([(1, -1)], 1)], [])]
set_option maxRecDepth 100000 in
set_option maxHeartbeats 4000000 in
theorem sg_is212_ok : x_seg x_tb [] m_255 d_255 E_is 1 sg_is212_ps sg_is212_ns sg_is212_os 14 false 212 sg_is212_g = true := by decide +kernel
set_option maxRecDepth 100000 in
theorem sg_is212_go {th : List Nat} {xs : Nat → Int32} {L J d : Nat} {K : Option Value → List pE → Prop} (hd : 0 ≤ d) {v : Nat → Int} {lv : pL} {ws : List Value} {G0 G : List pE} (hS : x_S x_tb th v sg_is212_g lv ws G) (hE : x_eff th E_is G0 G) (hK : ∀ r G', x_Post x_tb th E_is sg_is212_ps 1 v G0 r G' → K r G') (hO : ∀ n ∈ sg_is212_os, ∀ (vn : Nat → Int) (lv : pL) (G1 : List pE), x_ag 1 v vn → x_S x_tb th vn (n.2.2.2.1, n.2.1, [], n.2.2.1, n.2.2.2.2.1) lv [] G1 → x_eff th E_is G0 G1 → x_Gd xs L J (d + 1) m_255 K n.1 lv [] G1) : x_Gd xs L J (d + 1) m_255 K 212 lv ws G :=
  x_seg_ok (dm := 0) x_tb_wf ⟨rfl, rfl, rfl⟩ e_255 (fun _ h => absurd h List.not_mem_nil) hd sg_is212_ok hS hE (fun z => by cases z) hK hO
theorem z_depB {f : Nat → Option Value} {c : Int32} (h : x_Qs f) (hc : f 143 = some (.int c)) (hf : ∀ i : Nat, (i : Int) < c.toInt → ∃ x : Int32, f (144 + 3 * i) = some (.int x)) : ∀ i : Nat, (i : Int) ≤ c.toInt → 0 ≤ x_dep f i ∧ x_dep f i ≤ i
  | 0, _ => ⟨Int.le_refl _, Int.le_refl _⟩
  | i + 1, hi => by
    obtain ⟨x, hx⟩ := hf i (by omega)
    have ih := z_depB h hc hf i (by omega)
    have hq := h.2 c x i hc (by omega) hx
    unfold x_dep
    rw [hx]
    dsimp only
    by_cases h20 : x = 20
    · rw [if_pos h20]; omega
    · rw [if_neg h20]
      by_cases h21 : x = 21 ∨ x = 22
      · rw [if_pos h21]
        have := hq.2 h21
        omega
      · rw [if_neg h21]; omega
section ZI
variable {th : List Nat} {xs : Nat → Int32} {L J d a b : Nat} {K : Option Value → List pE → Prop} {f : Nat → Int32} {kx : Int32} {G0 : List pE}
set_option maxHeartbeats 2000000 in
set_option maxRecDepth 100000 in
theorem g_isl (hd : 291 ≤ d) (hk : 0 ≤ kx.toInt ∧ kx.toInt ≤ 7) (hK : ∀ (y : Int32) G', 0 ≤ y.toInt → y.toInt ≤ 1 → xI x_tb th G' → x_eff th E_is G0 G' → K (some (.int y)) G') : ∀ (m : Nat) (G : List pE) (lv : pL) (n i : Int32), y_V th G a b f → x_Qs (x_sl G b) → x_eff th E_is G0 G → pm_get lv 0 = some (.ref a) → pm_get lv 1 = some (.int kx) → pm_get lv 2 = some (.int n) → pm_get lv 3 = some (.int i) → n.toInt = x_dep (x_sl G b) i.toInt.toNat → 0 ≤ i.toInt → i.toInt ≤ (f 143).toInt → ((f 143).toInt - i.toInt).toNat = m → x_Gd xs L J (d + 1) m_255 K 4 lv [] G := by
  intro m
  induction m with
  | zero =>
    intro G lv n i hV hQ hE g0 g1 g2 g3 hn i0 i1 hm
    have hI := hV.1
    have ta := hV.2.1
    have tb := hV.2.2.2.1
    have e143 : ((Int16.ofInt 143).toInt32).toInt.toNat = 143 := by decide
    refine y_iln (e_255 (4, .iload_n 3, 1) (List.mem_of_getElem? (i := 4) rfl)) g3 ?_
    refine y_aln (e_255 (5, .aload_n 0, 1) (List.mem_of_getElem? (i := 5) rfl)) g0 ?_
    refine y_getf hI ta (e_255 (6, .getfield 33, 3) (List.mem_of_getElem? (i := 6) rfl)) u_17_33 ⟨rfl, rfl⟩ hV.2.2.1 ?_
    refine y_st (e_255 (9, .sipush 143, 3) (List.mem_of_getElem? (i := 7) rfl)) ⟨rfl, rfl, rfl, rfl⟩ ?_
    refine y_iald hI tb (e_255 (12, .iaload, 1) (List.mem_of_getElem? (i := 8) rfl)) ⟨rfl, rfl⟩ (by decide) (by rw [e143]; exact hV.2.2.2.2 143 (by decide)) ?_
    refine y_icm (e_255 (13, .if_icmp .ge 199, 3) (List.mem_of_getElem? (i := 9) rfl)) rfl (fun hb => ?_) (fun hb => ?_)
    · refine sg_is212_go (d := d) (by omega) (v := (y_v [(a : Int)])) (G0 := G) ⟨y_v_Bd (List.forall_mem_cons.mpr ⟨(y_cellB hI ta), (fun _ h => absurd h List.not_mem_nil)⟩), (fun _ h => absurd h List.not_mem_nil), (List.forall_mem_cons.mpr ⟨⟨_, g0, a, rfl, (by simp only [xl_ev, xt_ev, y_v, List.getD_cons_succ, List.getD_cons_zero]; omega), ta⟩, (fun _ h => absurd h List.not_mem_nil)⟩), trivial, (fun _ h => absurd h List.not_mem_nil), hI⟩ x_eff.rf (fun r G' h => ?_) (fun n hn => absurd hn List.not_mem_nil)
      obtain ⟨v', -, -, hI', ef, p, hp, pc, -, pa⟩ := h
      obtain rfl : p = _ := List.mem_singleton.mp hp
      have c0 := pc ([(1, 1)], 0) (List.mem_of_getElem? (i := 0) rfl)
      have c1 := pc ([(1, -1)], 1) (List.mem_of_getElem? (i := 1) rfl)
      obtain ⟨y, rfl, hy⟩ := y_pI pa
      simp only [xl_ev, xt_ev] at c0 c1 hy
      exact hK y G' (by omega) (by omega) hI' (hE.tr ef)
    · have := y_hI.2.2.2.2.2.1 hb
      omega
  | succ m ih =>
    intro G lv n i hV hQ hE g0 g1 g2 g3 hn i0 i1 hm
    have hI := hV.1
    have ta := hV.2.1
    have tb := hV.2.2.2.1
    have e143 : ((Int16.ofInt 143).toInt32).toInt.toNat = 143 := by decide
    have e144 : ((Int16.ofInt 144).toInt32).toInt = 144 := by decide
    have r143 := hV.rng (i := 143) ⟨by decide, rfl⟩
    have m3 := y_mul3 i0 (by omega)
    have ei : ((Int16.ofInt 144).toInt32 + Int32.ofInt 3 * i).toInt = 144 + 3 * i.toInt := by rw [y_add (by omega) (by omega)]; omega
    have hx := hV.2.2.2.2 (144 + 3 * i.toInt.toNat) (by omega)
    have hq := hQ.2 _ _ i.toInt.toNat (hV.2.2.2.2 143 (by decide)) (by omega) hx
    have hB := z_depB hQ (hV.2.2.2.2 143 (by decide)) (fun j hj => ⟨_, hV.2.2.2.2 (144 + 3 * j) (by omega)⟩) i.toInt.toNat (by omega)
    have e1 := y_add1 (t := i) (by omega)
    have hdp : x_dep (x_sl G b) (i.toInt.toNat + 1) = if f (144 + 3 * i.toInt.toNat) = 20 then x_dep (x_sl G b) i.toInt.toNat else if f (144 + 3 * i.toInt.toNat) = 21 ∨ f (144 + 3 * i.toInt.toNat) = 22 then x_dep (x_sl G b) i.toInt.toNat - 1 else x_dep (x_sl G b) i.toInt.toNat + 1 := by
      show (match x_sl G b (144 + 3 * i.toInt.toNat) with
        | some (.int x) => if x = 20 then x_dep (x_sl G b) i.toInt.toNat else if x = 21 ∨ x = 22 then x_dep (x_sl G b) i.toInt.toNat - 1 else x_dep (x_sl G b) i.toInt.toNat + 1
        | _ => x_dep (x_sl G b) i.toInt.toNat) = _
      rw [hx]
    have on : ∀ (vn : Nat → Int) (lv1 : pL) (G1 : List pE) (n' : Int32), pm_get lv1 0 = some (.ref a) → pm_get lv1 1 = some (.int kx) → pm_get lv1 2 = some (.int n') → pm_get lv1 3 = some (.int i) → xI x_tb th G1 → x_eff th E_is G G1 → n'.toInt = x_dep (x_sl G b) (i.toInt.toNat + 1) → x_Gd xs L J (d + 1) m_255 K 206 lv1 [] G1 := by
      intro vn lv1 G1 n' q0 q1 q2 q3 hI1 hE1 hn1
      have hV1 : y_V th G1 a b f := hV.eff hI1 hE1 rfl (fun _ _ => rfl)
      have es : x_sl G1 b = x_sl G b := funext (fun j => hE1.at tb rfl)
      refine y_iinc (e_255 (206, .iinc 3 1, 3) (List.mem_of_getElem? (i := 120) rfl)) q3 (by decide) ?_
      refine y_st (e_255 (209, .goto (-205), 3) (List.mem_of_getElem? (i := 121) rfl)) ⟨rfl, rfl, rfl, rfl⟩ ?_
      exact ih G1 _ n' (i + Int32.ofInt 1) hV1 (by rw [es]; exact hQ) (hE.tr hE1) (y_gpr q0 (by decide)) (y_gpi q1 (by decide)) (y_gpi q2 (by decide)) x_get_self (by rw [es, hn1, e1]; congr 1; omega) (by omega) (by omega) (by omega)
    refine y_iln (e_255 (4, .iload_n 3, 1) (List.mem_of_getElem? (i := 4) rfl)) g3 ?_
    refine y_aln (e_255 (5, .aload_n 0, 1) (List.mem_of_getElem? (i := 5) rfl)) g0 ?_
    refine y_getf hI ta (e_255 (6, .getfield 33, 3) (List.mem_of_getElem? (i := 6) rfl)) u_17_33 ⟨rfl, rfl⟩ hV.2.2.1 ?_
    refine y_st (e_255 (9, .sipush 143, 3) (List.mem_of_getElem? (i := 7) rfl)) ⟨rfl, rfl, rfl, rfl⟩ ?_
    refine y_iald hI tb (e_255 (12, .iaload, 1) (List.mem_of_getElem? (i := 8) rfl)) ⟨rfl, rfl⟩ (by decide) (by rw [e143]; exact hV.2.2.2.2 143 (by decide)) ?_
    refine y_icm (e_255 (13, .if_icmp .ge 199, 3) (List.mem_of_getElem? (i := 9) rfl)) rfl (fun hb => ?_) (fun hb => ?_)
    · have := y_hI.2.2.2.2.1 hb
      omega
    · refine y_st (e_255 (16, .sipush 144, 3) (List.mem_of_getElem? (i := 10) rfl)) ⟨rfl, rfl, rfl, rfl⟩ ?_
      refine y_st (e_255 (19, .iconst 3, 1) (List.mem_of_getElem? (i := 11) rfl)) ⟨rfl, rfl, rfl, rfl⟩ ?_
      refine y_iln (e_255 (20, .iload_n 3, 1) (List.mem_of_getElem? (i := 12) rfl)) g3 ?_
      refine y_st (e_255 (21, .imul, 1) (List.mem_of_getElem? (i := 13) rfl)) ⟨rfl, rfl, rfl, rfl⟩ ?_
      refine y_st (e_255 (22, .iadd, 1) (List.mem_of_getElem? (i := 14) rfl)) ⟨rfl, rfl, rfl, rfl⟩ ?_
      refine y_is (e_255 (23, .istore 4, 2) (List.mem_of_getElem? (i := 15) rfl)) (by decide) ?_
      refine y_aln (e_255 (25, .aload_n 0, 1) (List.mem_of_getElem? (i := 16) rfl)) (y_gpr g0 (by decide)) ?_
      refine y_getf hI ta (e_255 (26, .getfield 33, 3) (List.mem_of_getElem? (i := 17) rfl)) u_17_33 ⟨rfl, rfl⟩ hV.2.2.1 ?_
      refine y_il (e_255 (29, .iload 4, 2) (List.mem_of_getElem? (i := 18) rfl)) x_get_self ?_
      refine y_iald hI tb (e_255 (31, .iaload, 1) (List.mem_of_getElem? (i := 19) rfl)) ⟨rfl, rfl⟩ (by omega) (by rw [ei, show (144 + 3 * i.toInt).toNat = 144 + 3 * i.toInt.toNat by omega]; exact hx) ?_
      refine y_st (e_255 (32, .bipush 20, 2) (List.mem_of_getElem? (i := 20) rfl)) ⟨rfl, rfl, rfl, rfl⟩ ?_
      refine y_icm (e_255 (34, .if_icmp .ne 30, 3) (List.mem_of_getElem? (i := 21) rfl)) rfl (fun hb2 => ?_) (fun hb2 => ?_)
      · have x20 : f (144 + 3 * i.toInt.toNat) ≠ 20 := fun z => y_hI.2.2.1 hb2 (z.trans (by decide))
        refine y_aln (e_255 (64, .aload_n 0, 1) (List.mem_of_getElem? (i := 39) rfl)) (y_gpr g0 (by decide)) ?_
        refine y_getf hI ta (e_255 (65, .getfield 33, 3) (List.mem_of_getElem? (i := 40) rfl)) u_17_33 ⟨rfl, rfl⟩ hV.2.2.1 ?_
        refine y_il (e_255 (68, .iload 4, 2) (List.mem_of_getElem? (i := 41) rfl)) x_get_self ?_
        refine y_iald hI tb (e_255 (70, .iaload, 1) (List.mem_of_getElem? (i := 42) rfl)) ⟨rfl, rfl⟩ (by omega) (by rw [ei, show (144 + 3 * i.toInt).toNat = 144 + 3 * i.toInt.toNat by omega]; exact hx) ?_
        refine y_st (e_255 (71, .bipush 21, 2) (List.mem_of_getElem? (i := 43) rfl)) ⟨rfl, rfl, rfl, rfl⟩ ?_
        refine y_icm (e_255 (73, .if_icmp .eq 15, 3) (List.mem_of_getElem? (i := 44) rfl)) rfl (fun hb3 => ?_) (fun hb3 => ?_)
        · have x21 : f (144 + 3 * i.toInt.toNat) = 21 := (y_hI.1 hb3).trans (by decide)
          have n2 := hq.2 (Or.inl x21)
          refine sg_is88_go (d := d) (by omega) (v := (y_v [(a : Int), kx.toInt, n.toInt, i.toInt, (144 + 3 * i.toInt)])) (G0 := G) ⟨y_v_Bd (List.forall_mem_cons.mpr ⟨(y_cellB hI ta), (List.forall_mem_cons.mpr ⟨(x_i32 kx), (List.forall_mem_cons.mpr ⟨(x_i32 n), (List.forall_mem_cons.mpr ⟨(x_i32 i), (List.forall_mem_cons.mpr ⟨(by omega), (fun _ h => absurd h List.not_mem_nil)⟩)⟩)⟩)⟩)⟩), (List.forall_mem_cons.mpr ⟨(by simp only [xl_ev, xt_ev, y_v, List.getD_cons_succ, List.getD_cons_zero]; omega), (List.forall_mem_cons.mpr ⟨(by simp only [xl_ev, xt_ev, y_v, List.getD_cons_succ, List.getD_cons_zero]; omega), (List.forall_mem_cons.mpr ⟨(by simp only [xl_ev, xt_ev, y_v, List.getD_cons_succ, List.getD_cons_zero]; omega), (List.forall_mem_cons.mpr ⟨(by simp only [xl_ev, xt_ev, y_v, List.getD_cons_succ, List.getD_cons_zero]; omega), (fun _ h => absurd h List.not_mem_nil)⟩)⟩)⟩)⟩), (List.forall_mem_cons.mpr ⟨⟨_, (y_gpr g0 (by decide)), a, rfl, (by simp only [xl_ev, xt_ev, y_v, List.getD_cons_succ, List.getD_cons_zero]; omega), ta⟩, (List.forall_mem_cons.mpr ⟨⟨_, (y_gpi g1 (by decide)), kx, rfl, (by simp only [xl_ev, xt_ev, y_v, List.getD_cons_succ, List.getD_cons_zero]; omega)⟩, (List.forall_mem_cons.mpr ⟨⟨_, (y_gpi g2 (by decide)), n, rfl, (by simp only [xl_ev, xt_ev, y_v, List.getD_cons_succ, List.getD_cons_zero]; omega)⟩, (List.forall_mem_cons.mpr ⟨⟨_, (y_gpi g3 (by decide)), i, rfl, (by simp only [xl_ev, xt_ev, y_v, List.getD_cons_succ, List.getD_cons_zero]; omega)⟩, (List.forall_mem_cons.mpr ⟨⟨_, x_get_self, _, rfl, (by rw [ei]; simp only [xl_ev, xt_ev, y_v, List.getD_cons_succ, List.getD_cons_zero]; omega)⟩, (fun _ h => absurd h List.not_mem_nil)⟩)⟩)⟩)⟩)⟩), trivial, (fun _ h => absurd h List.not_mem_nil), hI⟩ x_eff.rf (fun r G' h => ?_) (fun nn hnn vn lv1 G1 hag hS1 hE1 => ?_)
          · obtain ⟨v', -, -, -, -, p, hp, -⟩ := h
            exact absurd hp List.not_mem_nil
          · obtain rfl : nn = _ := List.mem_singleton.mp hnn
            have z0 : vn 0 = (a : Int) := hag 0 (by decide)
            have z1 : vn 1 = kx.toInt := hag 1 (by decide)
            have z2 : vn 2 = n.toInt := hag 2 (by decide)
            have z3 : vn 3 = i.toInt := hag 3 (by decide)
            have l0 := hS1.loCe (i := 0) (t := 10) (l := ([(0, 1)], 0)) (a := a) (List.mem_of_getElem? (i := 0) rfl) (by simp only [xl_ev, xt_ev]; omega)
            have l1 := hS1.lo0e (i := 1) (l := ([(1, 1)], 0)) (x := kx) (List.mem_of_getElem? (i := 1) rfl) (by simp only [xl_ev, xt_ev]; omega)
            obtain ⟨n2, l2, en⟩ := hS1.lo0 (i := 2) (l := ([(2, 1)], -1)) (List.mem_of_getElem? (i := 2) rfl)
            have l3 := hS1.lo0e (i := 3) (l := ([(3, 1)], 0)) (x := i) (List.mem_of_getElem? (i := 3) rfl) (by simp only [xl_ev, xt_ev]; omega)
            simp only [xl_ev, xt_ev] at en
            exact on vn lv1 G1 n2 l0 l1 l2 l3 hS1.2.2.2.2.2 hE1 (by rw [hdp]; rw [if_neg x20, if_pos (Or.inl x21)]; omega)
        · have x21 : f (144 + 3 * i.toInt.toNat) ≠ 21 := fun z => y_hI.2.1 hb3 (z.trans (by decide))
          refine y_aln (e_255 (76, .aload_n 0, 1) (List.mem_of_getElem? (i := 45) rfl)) (y_gpr g0 (by decide)) ?_
          refine y_getf hI ta (e_255 (77, .getfield 33, 3) (List.mem_of_getElem? (i := 46) rfl)) u_17_33 ⟨rfl, rfl⟩ hV.2.2.1 ?_
          refine y_il (e_255 (80, .iload 4, 2) (List.mem_of_getElem? (i := 47) rfl)) x_get_self ?_
          refine y_iald hI tb (e_255 (82, .iaload, 1) (List.mem_of_getElem? (i := 48) rfl)) ⟨rfl, rfl⟩ (by omega) (by rw [ei, show (144 + 3 * i.toInt).toNat = 144 + 3 * i.toInt.toNat by omega]; exact hx) ?_
          refine y_st (e_255 (83, .bipush 22, 2) (List.mem_of_getElem? (i := 49) rfl)) ⟨rfl, rfl, rfl, rfl⟩ ?_
          refine y_icm (e_255 (85, .if_icmp .ne 82, 3) (List.mem_of_getElem? (i := 50) rfl)) rfl (fun hb4 => ?_) (fun hb4 => ?_)
          · have x22 : ¬ (f (144 + 3 * i.toInt.toNat) = 21 ∨ f (144 + 3 * i.toInt.toNat) = 22) := fun z => z.elim x21 (fun z => y_hI.2.2.1 hb4 (z.trans (by decide)))
            refine sg_is167_go (d := d) (by omega) (v := (y_v [(a : Int), kx.toInt, n.toInt, i.toInt, (144 + 3 * i.toInt)])) (G0 := G) ⟨y_v_Bd (List.forall_mem_cons.mpr ⟨(y_cellB hI ta), (List.forall_mem_cons.mpr ⟨(x_i32 kx), (List.forall_mem_cons.mpr ⟨(x_i32 n), (List.forall_mem_cons.mpr ⟨(x_i32 i), (List.forall_mem_cons.mpr ⟨(by omega), (fun _ h => absurd h List.not_mem_nil)⟩)⟩)⟩)⟩)⟩), (List.forall_mem_cons.mpr ⟨(by simp only [xl_ev, xt_ev, y_v, List.getD_cons_succ, List.getD_cons_zero]; omega), (List.forall_mem_cons.mpr ⟨(by simp only [xl_ev, xt_ev, y_v, List.getD_cons_succ, List.getD_cons_zero]; omega), (List.forall_mem_cons.mpr ⟨(by simp only [xl_ev, xt_ev, y_v, List.getD_cons_succ, List.getD_cons_zero]; omega), (List.forall_mem_cons.mpr ⟨(by simp only [xl_ev, xt_ev, y_v, List.getD_cons_succ, List.getD_cons_zero]; omega), (List.forall_mem_cons.mpr ⟨(by simp only [xl_ev, xt_ev, y_v, List.getD_cons_succ, List.getD_cons_zero]; omega), (List.forall_mem_cons.mpr ⟨(by simp only [xl_ev, xt_ev, y_v, List.getD_cons_succ, List.getD_cons_zero]; omega), (fun _ h => absurd h List.not_mem_nil)⟩)⟩)⟩)⟩)⟩)⟩), (List.forall_mem_cons.mpr ⟨⟨_, (y_gpr g0 (by decide)), a, rfl, (by simp only [xl_ev, xt_ev, y_v, List.getD_cons_succ, List.getD_cons_zero]; omega), ta⟩, (List.forall_mem_cons.mpr ⟨⟨_, (y_gpi g1 (by decide)), kx, rfl, (by simp only [xl_ev, xt_ev, y_v, List.getD_cons_succ, List.getD_cons_zero]; omega)⟩, (List.forall_mem_cons.mpr ⟨⟨_, (y_gpi g2 (by decide)), n, rfl, (by simp only [xl_ev, xt_ev, y_v, List.getD_cons_succ, List.getD_cons_zero]; omega)⟩, (List.forall_mem_cons.mpr ⟨⟨_, (y_gpi g3 (by decide)), i, rfl, (by simp only [xl_ev, xt_ev, y_v, List.getD_cons_succ, List.getD_cons_zero]; omega)⟩, (List.forall_mem_cons.mpr ⟨⟨_, x_get_self, _, rfl, (by rw [ei]; simp only [xl_ev, xt_ev, y_v, List.getD_cons_succ, List.getD_cons_zero]; omega)⟩, (fun _ h => absurd h List.not_mem_nil)⟩)⟩)⟩)⟩)⟩), trivial, (fun _ h => absurd h List.not_mem_nil), hI⟩ x_eff.rf (fun r G' h => ?_) (fun nn hnn vn lv1 G1 hag hS1 hE1 => ?_)
            · obtain ⟨v', -, -, -, -, p, hp, -⟩ := h
              exact absurd hp List.not_mem_nil
            · obtain rfl : nn = _ := List.mem_singleton.mp hnn
              have z0 : vn 0 = (a : Int) := hag 0 (by decide)
              have z1 : vn 1 = kx.toInt := hag 1 (by decide)
              have z2 : vn 2 = n.toInt := hag 2 (by decide)
              have z3 : vn 3 = i.toInt := hag 3 (by decide)
              have l0 := hS1.loCe (i := 0) (t := 10) (l := ([(0, 1)], 0)) (a := a) (List.mem_of_getElem? (i := 0) rfl) (by simp only [xl_ev, xt_ev]; omega)
              have l1 := hS1.lo0e (i := 1) (l := ([(1, 1)], 0)) (x := kx) (List.mem_of_getElem? (i := 1) rfl) (by simp only [xl_ev, xt_ev]; omega)
              obtain ⟨n2, l2, en⟩ := hS1.lo0 (i := 2) (l := ([(2, 1)], 1)) (List.mem_of_getElem? (i := 2) rfl)
              have l3 := hS1.lo0e (i := 3) (l := ([(3, 1)], 0)) (x := i) (List.mem_of_getElem? (i := 3) rfl) (by simp only [xl_ev, xt_ev]; omega)
              simp only [xl_ev, xt_ev] at en
              exact on vn lv1 G1 n2 l0 l1 l2 l3 hS1.2.2.2.2.2 hE1 (by rw [hdp]; rw [if_neg x20, if_neg x22]; omega)
          · have x22 : f (144 + 3 * i.toInt.toNat) = 22 := (y_hI.2.2.2.1 hb4).trans (by decide)
            have n2 := hq.2 (Or.inr x22)
            refine sg_is88_go (d := d) (by omega) (v := (y_v [(a : Int), kx.toInt, n.toInt, i.toInt, (144 + 3 * i.toInt)])) (G0 := G) ⟨y_v_Bd (List.forall_mem_cons.mpr ⟨(y_cellB hI ta), (List.forall_mem_cons.mpr ⟨(x_i32 kx), (List.forall_mem_cons.mpr ⟨(x_i32 n), (List.forall_mem_cons.mpr ⟨(x_i32 i), (List.forall_mem_cons.mpr ⟨(by omega), (fun _ h => absurd h List.not_mem_nil)⟩)⟩)⟩)⟩)⟩), (List.forall_mem_cons.mpr ⟨(by simp only [xl_ev, xt_ev, y_v, List.getD_cons_succ, List.getD_cons_zero]; omega), (List.forall_mem_cons.mpr ⟨(by simp only [xl_ev, xt_ev, y_v, List.getD_cons_succ, List.getD_cons_zero]; omega), (List.forall_mem_cons.mpr ⟨(by simp only [xl_ev, xt_ev, y_v, List.getD_cons_succ, List.getD_cons_zero]; omega), (List.forall_mem_cons.mpr ⟨(by simp only [xl_ev, xt_ev, y_v, List.getD_cons_succ, List.getD_cons_zero]; omega), (fun _ h => absurd h List.not_mem_nil)⟩)⟩)⟩)⟩), (List.forall_mem_cons.mpr ⟨⟨_, (y_gpr g0 (by decide)), a, rfl, (by simp only [xl_ev, xt_ev, y_v, List.getD_cons_succ, List.getD_cons_zero]; omega), ta⟩, (List.forall_mem_cons.mpr ⟨⟨_, (y_gpi g1 (by decide)), kx, rfl, (by simp only [xl_ev, xt_ev, y_v, List.getD_cons_succ, List.getD_cons_zero]; omega)⟩, (List.forall_mem_cons.mpr ⟨⟨_, (y_gpi g2 (by decide)), n, rfl, (by simp only [xl_ev, xt_ev, y_v, List.getD_cons_succ, List.getD_cons_zero]; omega)⟩, (List.forall_mem_cons.mpr ⟨⟨_, (y_gpi g3 (by decide)), i, rfl, (by simp only [xl_ev, xt_ev, y_v, List.getD_cons_succ, List.getD_cons_zero]; omega)⟩, (List.forall_mem_cons.mpr ⟨⟨_, x_get_self, _, rfl, (by rw [ei]; simp only [xl_ev, xt_ev, y_v, List.getD_cons_succ, List.getD_cons_zero]; omega)⟩, (fun _ h => absurd h List.not_mem_nil)⟩)⟩)⟩)⟩)⟩), trivial, (fun _ h => absurd h List.not_mem_nil), hI⟩ x_eff.rf (fun r G' h => ?_) (fun nn hnn vn lv1 G1 hag hS1 hE1 => ?_)
            · obtain ⟨v', -, -, -, -, p, hp, -⟩ := h
              exact absurd hp List.not_mem_nil
            · obtain rfl : nn = _ := List.mem_singleton.mp hnn
              have z0 : vn 0 = (a : Int) := hag 0 (by decide)
              have z1 : vn 1 = kx.toInt := hag 1 (by decide)
              have z2 : vn 2 = n.toInt := hag 2 (by decide)
              have z3 : vn 3 = i.toInt := hag 3 (by decide)
              have l0 := hS1.loCe (i := 0) (t := 10) (l := ([(0, 1)], 0)) (a := a) (List.mem_of_getElem? (i := 0) rfl) (by simp only [xl_ev, xt_ev]; omega)
              have l1 := hS1.lo0e (i := 1) (l := ([(1, 1)], 0)) (x := kx) (List.mem_of_getElem? (i := 1) rfl) (by simp only [xl_ev, xt_ev]; omega)
              obtain ⟨n2, l2, en⟩ := hS1.lo0 (i := 2) (l := ([(2, 1)], -1)) (List.mem_of_getElem? (i := 2) rfl)
              have l3 := hS1.lo0e (i := 3) (l := ([(3, 1)], 0)) (x := i) (List.mem_of_getElem? (i := 3) rfl) (by simp only [xl_ev, xt_ev]; omega)
              simp only [xl_ev, xt_ev] at en
              exact on vn lv1 G1 n2 l0 l1 l2 l3 hS1.2.2.2.2.2 hE1 (by rw [hdp]; rw [if_neg x20, if_pos (Or.inr x22)]; omega)
      · have x20 : f (144 + 3 * i.toInt.toNat) = 20 := (y_hI.2.2.2.1 hb2).trans (by decide)
        have n1 := hq.1 x20
        refine sg_is37_go (d := d) (by omega) (v := (y_v [(a : Int), kx.toInt, n.toInt, i.toInt])) (G0 := G) ⟨y_v_Bd (List.forall_mem_cons.mpr ⟨(y_cellB hI ta), (List.forall_mem_cons.mpr ⟨(x_i32 kx), (List.forall_mem_cons.mpr ⟨(x_i32 n), (List.forall_mem_cons.mpr ⟨(x_i32 i), (fun _ h => absurd h List.not_mem_nil)⟩)⟩)⟩)⟩), (List.forall_mem_cons.mpr ⟨(by simp only [xl_ev, xt_ev, y_v, List.getD_cons_succ, List.getD_cons_zero]; omega), (List.forall_mem_cons.mpr ⟨(by simp only [xl_ev, xt_ev, y_v, List.getD_cons_succ, List.getD_cons_zero]; omega), (fun _ h => absurd h List.not_mem_nil)⟩)⟩), (List.forall_mem_cons.mpr ⟨⟨_, (y_gpr g0 (by decide)), a, rfl, (by simp only [xl_ev, xt_ev, y_v, List.getD_cons_succ, List.getD_cons_zero]; omega), ta⟩, (List.forall_mem_cons.mpr ⟨⟨_, (y_gpi g1 (by decide)), kx, rfl, (by simp only [xl_ev, xt_ev, y_v, List.getD_cons_succ, List.getD_cons_zero]; omega)⟩, (List.forall_mem_cons.mpr ⟨⟨_, (y_gpi g2 (by decide)), n, rfl, (by simp only [xl_ev, xt_ev, y_v, List.getD_cons_succ, List.getD_cons_zero]; omega)⟩, (List.forall_mem_cons.mpr ⟨⟨_, (y_gpi g3 (by decide)), i, rfl, (by simp only [xl_ev, xt_ev, y_v, List.getD_cons_succ, List.getD_cons_zero]; omega)⟩, (fun _ h => absurd h List.not_mem_nil)⟩)⟩)⟩)⟩), trivial, (fun _ h => absurd h List.not_mem_nil), hI⟩ x_eff.rf (fun r G' h => ?_) (fun nn hnn vn lv1 G1 hag hS1 hE1 => ?_)
        · obtain ⟨v', -, -, -, -, p, hp, -⟩ := h
          exact absurd hp List.not_mem_nil
        · obtain rfl : nn = _ := List.mem_singleton.mp hnn
          have z0 : vn 0 = (a : Int) := hag 0 (by decide)
          have z1 : vn 1 = kx.toInt := hag 1 (by decide)
          have z2 : vn 2 = n.toInt := hag 2 (by decide)
          have z3 : vn 3 = i.toInt := hag 3 (by decide)
          have l0 := hS1.loCe (i := 0) (t := 10) (l := ([(0, 1)], 0)) (a := a) (List.mem_of_getElem? (i := 0) rfl) (by simp only [xl_ev, xt_ev]; omega)
          have l1 := hS1.lo0e (i := 1) (l := ([(1, 1)], 0)) (x := kx) (List.mem_of_getElem? (i := 1) rfl) (by simp only [xl_ev, xt_ev]; omega)
          obtain ⟨n2, l2, en⟩ := hS1.lo0 (i := 2) (l := ([(2, 1)], 0)) (List.mem_of_getElem? (i := 2) rfl)
          have l3 := hS1.lo0e (i := 3) (l := ([(3, 1)], 0)) (x := i) (List.mem_of_getElem? (i := 3) rfl) (by simp only [xl_ev, xt_ev]; omega)
          simp only [xl_ev, xt_ev] at en
          exact on vn lv1 G1 n2 l0 l1 l2 l3 hS1.2.2.2.2.2 hE1 (by rw [hdp]; rw [if_pos x20]; omega)
end ZI
/-- hand isSaid -/
def c_302 : xC := (255, [(20, ([(0, 1)], 0)), (0, ([(1, 1)], 0))], [([(1, 1)], 0), ([(1, -1)], 7)], [], 2, [(46, 0, 44), (1000, 0, 0)], 1, [(some (0, ([(2, 1)], 0)), [([(2, 1)], 0), ([(2, -1)], 1)], [])])
set_option maxHeartbeats 2000000 in
set_option maxRecDepth 100000 in
theorem h_302 (th : List Nat) (xs : Nat → Int32) (L J : Nat) : x_Holds x_tb th xs L J c_302 303 := by
  refine ⟨m_255, m_255_ok, fun d hd v as G hB hC hg hf hI hQ => ?_⟩
  obtain ⟨d, rfl⟩ : ∃ d', d = d' + 1 := ⟨d - 1, by omega⟩
  obtain ⟨w1, r1, rfl, hg1, hg⟩ := x_gs_cons hg
  obtain ⟨w2, r2, rfl, hg2, hg⟩ := x_gs_cons hg
  cases r2 with
  | cons => exact hg.elim
  | nil =>
  obtain ⟨a, rfl, -, ta⟩ := x_g_cell hg1 (by decide)
  obtain ⟨kx, rfl, ek⟩ := x_g0 hg2
  have c0 := hC ([(1, 1)], 0) (List.mem_of_getElem? (i := 0) rfl)
  have c1 := hC ([(1, -1)], 7) (List.mem_of_getElem? (i := 1) rfl)
  simp only [xl_ev, xt_ev] at c0 c1 ek
  obtain ⟨b, f, hV⟩ := y_view hI ta
  have r143 := hV.rng (i := 143) ⟨by decide, rfl⟩
  have key : x_Gd xs L J (d + 1) m_255 (x_Post x_tb th c_302.2.2.2.2.2.1 c_302.2.2.2.2.2.2.2 c_302.2.2.2.2.1 v G) 0 (lv_args 0 [.ref a, .int kx]) [] G := by
    have hK : ∀ (y : Int32) G', 0 ≤ y.toInt → y.toInt ≤ 1 → xI x_tb th G' → x_eff th E_is G G' → x_Post x_tb th c_302.2.2.2.2.2.1 c_302.2.2.2.2.2.2.2 c_302.2.2.2.2.1 v G (some (.int y)) G' := by
      intro y G' y0 y1 hI' ef
      obtain ⟨i1, i2⟩ := x_i32 y
      exact ⟨x_up v 2 y.toInt, x_ag.up (Nat.le_refl _), x_up_Bd hB i1 i2, hI', ef.sub (by decide), _, List.mem_cons_self, (List.forall_mem_cons.mpr ⟨(by simp only [xl_ev, xt_ev, x_up, eq_self, if_true]; omega), (List.forall_mem_cons.mpr ⟨(by simp only [xl_ev, xt_ev, x_up, eq_self, if_true]; omega), (fun _ h => absurd h List.not_mem_nil)⟩)⟩), fun q hq => absurd hq List.not_mem_nil, y, rfl, by simp [xl_ev, xt_ev, x_up]⟩
    refine y_st (e_255 (0, .iconst 0, 1) (List.mem_of_getElem? (i := 0) rfl)) ⟨rfl, rfl, rfl, rfl⟩ ?_
    refine y_isn (e_255 (1, .istore_n 2, 1) (List.mem_of_getElem? (i := 1) rfl)) (by decide) ?_
    refine y_st (e_255 (2, .iconst 0, 1) (List.mem_of_getElem? (i := 2) rfl)) ⟨rfl, rfl, rfl, rfl⟩ ?_
    refine y_isn (e_255 (3, .istore_n 3, 1) (List.mem_of_getElem? (i := 3) rfl)) (by decide) ?_
    exact g_isl (d := d) (by omega) ⟨by omega, by omega⟩ hK _ G _ 0 0 hV (hQ (by decide) b hV.2.2.2.1) x_eff.rf (y_gpr (y_gpr rfl (by decide)) (by decide)) (y_gpi (y_gpi rfl (by decide)) (by decide)) (y_gpi x_get_self (by decide)) x_get_self rfl (by decide) (by show (0 : Int) ≤ _; omega) rfl
  obtain ⟨r, G', r1, v', p1, p2, p3, p4, p5⟩ := key
  exact ⟨r, G', v', r1, p1, p2, p3, p4, p5⟩
