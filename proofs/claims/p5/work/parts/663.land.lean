def d_161 : xD := [(0, .aload_n 0, 1), (1, .iconst 0, 1), (2, .putfield 1, 3), (5, .aload_n 0, 1), (6, .sipush 900, 3), (9, .invokevirtual 217, 3), (12, .aload_n 0, 1), (13, .iconst 0, 1), (14, .putfield 158, 3), (17, .aload_n 0, 1), (18, .iconst 0, 1), (19, .putfield 220, 3), (22, .aload_n 0, 1), (23, .iconst 0, 1), (24, .putfield 192, 3), (27, .aload_n 0, 1), (28, .invokevirtual 128, 3), (31, .aload_n 0, 1), (32, .invokevirtual 170, 3), (35, .aload_n 0, 1), (36, .getfield 141, 3), (39, .ifCond .eq 39, 3), (42, .aload_n 0, 1), (43, .invokevirtual 223, 3), (46, .ifCond .eq 12, 3), (49, .aload_n 0, 1), (50, .bipush 59, 2), (52, .invokevirtual 226, 3), (55, .ifCond .ne 10, 3), (58, .iconst (-1), 1), (59, .aload_n 0, 1), (60, .getfield 161, 3), (63, .isub, 1), (64, .ireturn, 1), (65, .aload_n 0, 1), (66, .dup, 1), (67, .getfield 220, 3), (70, .iconst 1, 1), (71, .iadd, 1), (72, .putfield 220, 3), (75, .goto (-40), 3), (78, .iconst 0, 1), (79, .istore_n 1, 1), (80, .iload_n 1, 1), (81, .sipush 324, 3), (84, .if_icmp .ge 31, 3), (87, .aload_n 0, 1), (88, .getfield 33, 3), (91, .iload_n 1, 1), (92, .iload_n 1, 1), (93, .bipush 81, 2), (95, .if_icmp .ge 12, 3), (98, .aload_n 0, 1), (99, .getfield 37, 3), (102, .iload_n 1, 1), (103, .iaload, 1), (104, .goto 4, 3), (107, .iconst 0, 1), (108, .iastore, 1), (109, .iinc 1 1, 3), (112, .goto (-32), 3), (115, .iconst 0, 1), (116, .istore_n 1, 1), (117, .iload_n 1, 1), (118, .bipush 16, 2), (120, .if_icmp .ge 24, 3), (123, .aload_n 0, 1), (124, .getfield 43, 3), (127, .iload_n 1, 1), (128, .aload_n 0, 1), (129, .getfield 43, 3), (132, .bipush 16, 2), (134, .iload_n 1, 1), (135, .iadd, 1), (136, .laload, 1), (137, .lastore, 1), (138, .iinc 1 1, 3), (141, .goto (-24), 3), (144, .iconst 0, 1), (145, .istore_n 1, 1), (146, .iload_n 1, 1), (147, .aload_n 0, 1), (148, .getfield 33, 3), (151, .iconst 3, 1), (152, .iaload, 1), (153, .if_icmp .ge 84, 3), (156, .aload_n 0, 1), (157, .getfield 33, 3), (160, .bipush 82, 2), (162, .iload_n 1, 1), (163, .iadd, 1), (164, .aload_n 0, 1), (165, .getfield 33, 3), (168, .bipush 25, 2), (170, .iload_n 1, 1), (171, .iadd, 1), (172, .iaload, 1), (173, .iastore, 1), (174, .aload_n 0, 1), (175, .getfield 33, 3), (178, .bipush 90, 2), (180, .iload_n 1, 1), (181, .iadd, 1), (182, .aload_n 0, 1), (183, .getfield 33, 3), (186, .bipush 33, 2), (188, .iload_n 1, 1), (189, .iadd, 1), (190, .iaload, 1), (191, .iastore, 1), (192, .aload_n 0, 1), (193, .getfield 33, 3), (196, .bipush 114, 2), (198, .iload_n 1, 1), (199, .iadd, 1), (200, .aload_n 0, 1), (201, .getfield 33, 3), (204, .bipush 49, 2), (206, .iload_n 1, 1), (207, .iadd, 1), (208, .iaload, 1), (209, .iastore, 1), (210, .aload_n 0, 1), (211, .getfield 33, 3), (214, .bipush 122, 2), (216, .dup2, 1), (217, .iaload, 1), (218, .aload_n 0, 1), (219, .getfield 33, 3), (222, .bipush 57, 2), (224, .iload_n 1, 1), (225, .iadd, 1), (226, .iaload, 1), (227, .iload_n 1, 1), (228, .ishl, 1), (229, .ior, 1), (230, .iastore, 1), (231, .iinc 1 1, 3), (234, .goto (-88), 3), (237, .iconst 0, 1), (238, .istore_n 1, 1), (239, .iload_n 1, 1), (240, .aload_n 0, 1), (241, .getfield 33, 3), (244, .iconst 5, 1), (245, .iaload, 1), (246, .if_icmp .ge 28, 3), (249, .aload_n 0, 1), (250, .getfield 33, 3), (253, .sipush 135, 3), (256, .iload_n 1, 1), (257, .iadd, 1), (258, .aload_n 0, 1), (259, .getfield 33, 3), (262, .bipush 77, 2), (264, .iload_n 1, 1), (265, .iadd, 1), (266, .iaload, 1), (267, .iastore, 1), (268, .iinc 1 1, 3), (271, .goto (-32), 3), (274, .aload_n 0, 1), (275, .iconst 0, 1), (276, .putfield 229, 3), (279, .aload_n 0, 1), (280, .getfield 220, 3), (283, .ireturn, 1)]
set_option maxRecDepth 100000 in
theorem d_161_ok : x_dchk 161 d_161 = true := by decide +kernel
def m_161 : pM := (⟨"BreathingHillModel", "land", "()I"⟩, 1478, 2, some (FieldType.int), 17, 0, false, 10, 103, 1476, 1477)
set_option maxRecDepth 100000 in
theorem m_161_ok : pm_tab[161]? = some m_161 := rfl
theorem e_161 : ∀ q ∈ d_161, decode m_161.code q.1 = .ok (q.2.1, q.2.2) := y_dec d_161_ok m_161_ok
def E_l0 : List (Nat × Nat × Nat) := [(10, 0, 0), (10, 2, 5), (10, 15, 15), (10, 19, 20)]
def E_lt : List (Nat × Nat × Nat) := [(10, 28, 28), (36, 82, 97), (36, 114, 122), (36, 135, 142)]
def E_l1 : List (Nat × Nat × Nat) := E_lineC ++ E_sign ++ [(10, 19, 19)]
def E_land : List (Nat × Nat × Nat) := E_l0 ++ E_next ++ E_l1 ++ E_lt ++ [(36, 0, 323), (37, 0, 80), (39, 0, 31)]
def sg_ld0_ns : List xN := []
def sg_ld0_os : List xN := [(27, [(0, (20, ([(0, 1)], 0)))], [(10, ([(0, 1)], 0), 2, (0, ([], 0)))], [], 1, [([], 0), ([], 0), ([], 0), ([], 0), ([], 0)])]
def sg_ld0_g : xG := ([], [(0, (20, ([(0, 1)], 0)))], [], [], 1)
def sg_ld0_ps : List xP := []
set_option maxRecDepth 100000 in
set_option maxHeartbeats 4000000 in
theorem sg_ld0_ok : x_seg x_tb [c_179] m_161 d_161 E_l0 1 sg_ld0_ps sg_ld0_ns sg_ld0_os 25 false 0 sg_ld0_g = true := by decide +kernel
set_option maxRecDepth 100000 in
theorem sg_ld0_go {th : List Nat} {xs : Nat → Int32} {L J d : Nat} {K : Option Value → List pE → Prop} (hd : 180 ≤ d) {v : Nat → Int} {lv : pL} {ws : List Value} {G0 G : List pE} (hS : x_S x_tb th v sg_ld0_g lv ws G) (hE : x_eff th E_l0 G0 G) (hK : ∀ r G', x_Post x_tb th E_l0 sg_ld0_ps 1 v G0 r G' → K r G') (hO : ∀ n ∈ sg_ld0_os, ∀ (vn : Nat → Int) (lv : pL) (G1 : List pE), x_ag 1 v vn → x_S x_tb th vn (n.2.2.2.1, n.2.1, [], n.2.2.1, n.2.2.2.2.1) lv [] G1 → x_eff th E_l0 G0 G1 → x_Gd xs L J (d + 1) m_161 K n.1 lv [] G1) : x_Gd xs L J (d + 1) m_161 K 0 lv ws G :=
  x_seg_ok (dm := 180) x_tb_wf ⟨rfl, rfl, rfl⟩ e_161 (List.forall_mem_cons.mpr ⟨(h_179 th xs L J).mono (by omega), fun _ h => absurd h List.not_mem_nil⟩) hd sg_ld0_ok hS hE (fun z => by cases z) hK hO
def sg_ld144_ns : List xN := [(239, [(1, (0, ([(1, 1)], 0))), (0, (20, ([(0, 1)], 0)))], [(10, ([(0, 1)], 0), 6, (46, ([(2, 1)], 0))), (36, ([(2, 1)], 0), 3, (0, ([(3, 1)], 0)))], [([(3, 1)], 0), ([(3, -1)], 8), ([(1, 1)], 0), ([(1, -1)], 7), ([(1, -1)], 8), ([(1, -1)], 20), ([(1, -1)], 40), ([(1, -1)], 61), ([(1, -1)], 255), ([(1, -1)], 1000), ([(1, -1)], 1001)], 4, [([], 1), ([(1, -1)], 2147483647), ([], 5000000000), ([], 5000000000), ([], 5000000000)]), (156, [(1, (0, ([(1, 1)], 0))), (0, (20, ([(0, 1)], 0)))], [(10, ([(0, 1)], 0), 6, (46, ([(2, 1)], 0))), (36, ([(2, 1)], 0), 3, (0, ([(3, 1)], 0)))], [([(3, 1)], -1), ([(3, 1)], 0), ([(3, -1)], 8), ([(1, 1)], 0), ([(1, -1), (3, 1)], -1), ([(1, -1), (3, 1)], 0), ([(1, -1)], 7), ([(1, -1)], 8), ([(1, -1)], 20), ([(1, -1)], 40), ([(1, -1)], 61), ([(1, -1)], 255), ([(1, -1)], 1000), ([(1, -1)], 1001)], 4, [([], 3), ([(1, -1)], 2147483647), ([], 5000000000), ([], 5000000000), ([], 5000000000)])]
def sg_ld144_os : List xN := []
def sg_ld144_g : xG := ([], [(0, (20, ([(0, 1)], 0)))], [], [], 1)
def sg_ld144_ps : List xP := [(some (0, ([(1, 1)], 0)), [], [])]
set_option maxRecDepth 100000 in
set_option maxHeartbeats 4000000 in
theorem sg_ld144_ok : x_seg x_tb [] m_161 d_161 E_lt 1 sg_ld144_ps sg_ld144_ns sg_ld144_os 68 false 144 sg_ld144_g = true := by decide +kernel
set_option maxRecDepth 100000 in
theorem sg_ld144_go {th : List Nat} {xs : Nat → Int32} {L J d : Nat} {K : Option Value → List pE → Prop} (hd : 0 ≤ d) {v : Nat → Int} {lv : pL} {ws : List Value} {G0 G : List pE} (hS : x_S x_tb th v sg_ld144_g lv ws G) (hE : x_eff th E_lt G0 G) (hK : ∀ r G', x_Post x_tb th E_lt sg_ld144_ps 1 v G0 r G' → K r G') (hO : ∀ n ∈ sg_ld144_os, ∀ (vn : Nat → Int) (lv : pL) (G1 : List pE), x_ag 1 v vn → x_S x_tb th vn (n.2.2.2.1, n.2.1, [], n.2.2.1, n.2.2.2.2.1) lv [] G1 → x_eff th E_lt G0 G1 → x_Gd xs L J (d + 1) m_161 K n.1 lv [] G1) : x_Gd xs L J (d + 1) m_161 K 144 lv ws G :=
  x_seg_ok (dm := 0) x_tb_wf ⟨rfl, rfl, rfl⟩ e_161 (fun _ h => absurd h List.not_mem_nil) hd sg_ld144_ok hS hE (fun z => by cases z) hK hO
def y_sub (r1 : List (Nat × xF)) (i1 : Nat) (r2 : List (Nat × xF)) (i2 : Nat) : Bool := match x_at r1 i1, x_at r2 i2 with
  | some f, some g => f.1 == 0 && g.1 == 0 && decide (g.2.1 ≤ f.2.1) && decide (f.2.2 ≤ g.2.2)
  | _, _ => false
theorem y_sub_ok {th : List Nat} {G : List pE} {b t i1 i2 : Nat} {x : Int32} {r2 : List (Nat × xF)} (hI : xI x_tb th G) (tb : th[b]? = some t) (h : y_sub (x_tb t).2.2.2 i1 r2 i2 = true) (hx : x_sl G b i1 = some (.int x)) : ∀ f', x_at r2 i2 = some f' → xf_ok th f' (.int x) := by
  intro g hg
  unfold y_sub at h
  split at h
  · rename_i f g' hf hg'
    rw [hg] at hg'
    cases hg'
    simp only [Bool.and_eq_true, beq_iff_eq, decide_eq_true_eq] at h
    obtain ⟨v, k1, k2⟩ := (hI.2.2 b t tb).2 i1 f hf
    rw [hx] at k1
    cases k1
    unfold xf_ok at k2
    rw [h.1.1.1] at k2
    obtain ⟨x', e, e1, e2⟩ := k2
    cases e
    unfold xf_ok
    rw [h.1.1.2]
    exact ⟨x, rfl, Int.le_trans h.1.2 e1, Int.le_trans e2 h.2⟩
  · cases h
def y_zero (r2 : List (Nat × xF)) (i2 : Nat) : Bool := match x_at r2 i2 with
  | some g => g.1 == 0 && decide (g.2.1 ≤ 0) && decide (0 ≤ g.2.2)
  | none => false
theorem y_zero_ok {th : List Nat} {r2 : List (Nat × xF)} {i2 : Nat} (h : y_zero r2 i2 = true) : ∀ f', x_at r2 i2 = some f' → xf_ok th f' (.int (Int32.ofInt 0)) := by
  intro g hg
  unfold y_zero at h
  rw [hg] at h
  simp only [Bool.and_eq_true, beq_iff_eq, decide_eq_true_eq] at h
  unfold xf_ok
  rw [h.1.1]
  exact ⟨_, rfl, h.1.2, h.2⟩
theorem E_3736 : ∀ i, i < 81 → y_sub (x_tb 37).2.2.2 i (x_tb 36).2.2.2 i = true := by decide +kernel
theorem E_360 : ∀ i, i < 324 → 81 ≤ i → y_zero (x_tb 36).2.2.2 i = true := by decide +kernel
/-- no thing bears a man's NAME -/
def z_DD (fs fn : Nat → Option Value) : Prop := ∀ (n3 n5 : Int32) (i j : Nat) (x y : Int64), fs 3 = some (.int n3) → fs 5 = some (.int n5) → (i : Int) < n3.toInt → (j : Int) < n5.toInt → fn i = some (.long x) → fn (12 + j) = some (.long y) → x ≠ y
def z_Ns (th : List Nat) (a : Nat) (G : List pE) : Prop := ∃ nb sc : Nat, x_sl G a 9 = some (.ref nb) ∧ th[nb]? = some 39 ∧ x_sl G a 6 = some (.ref sc) ∧ th[sc]? = some 36 ∧ z_DD (x_sl G sc) (x_sl G nb)
theorem z_Ns.eff {th : List Nat} {a : Nat} {G G' : List pE} {E : List (Nat × Nat × Nat)} (ta : th[a]? = some 10) (hI : xI x_tb th G) (h : z_Ns th a G) (he : x_eff th E G G') (h1 : (y_out E 10 9 && y_out E 10 6 && y_out E 36 3 && y_out E 36 5) = true) (h2 : ∀ i, i < 16 → y_out E 39 i = true) : z_Ns th a G' := by
  rw [Bool.and_eq_true, Bool.and_eq_true, Bool.and_eq_true] at h1
  obtain ⟨⟨⟨o1, o2⟩, o3⟩, o5⟩ := h1
  obtain ⟨nb, sc, k1, k2, k3, k4, k5⟩ := h
  refine ⟨nb, sc, by rw [he.at ta o1]; exact k1, k2, by rw [he.at ta o2]; exact k3, k4, fun n3 n5 i j x y a1 a2 a3 a4 a5 a6 => ?_⟩
  rw [he.at k4 o3] at a1
  rw [he.at k4 o5] at a2
  have r3 := y_fie (i := 3) (t := 36) hI k4 rfl a1
  have r5 := y_fie (i := 5) (t := 36) hI k4 rfl a2
  rw [he.at k2 (h2 i (by omega))] at a5
  rw [he.at k2 (h2 (12 + j) (by omega))] at a6
  exact k5 n3 n5 i j x y a1 a2 a3 a4 a5 a6
/-- what land() leaves -/
def z_Ld (th : List Nat) (G : List pE) (a : Nat) (r : Option Value) (G' : List pE) : Prop := (∃ x, r = some (.int x)) ∧ xI x_tb th G' ∧ x_Q th G' ∧ z_Ns th a G' ∧ x_eff th E_land G G' ∧ x_sl G' a 2 = some (.int 0)
theorem y_at_none : ∀ (r : List (Nat × xF)) (i : Nat), (r.map (fun q => q.1)).sum ≤ i → x_at r i = none
  | [], _, _ => rfl
  | q :: r, i, h => by
    rw [List.map_cons, List.sum_cons] at h
    unfold x_at
    rw [if_neg (by omega)]
    exact y_at_none r _ (by omega)
theorem y_sl_out {th : List Nat} {G : List pE} {b t i : Nat} (hI : xI x_tb th G) (tb : th[b]? = some t) (h : (x_tb t).2.2.1 ≤ i) : x_sl G b i = none := by
  obtain ⟨e, he, hs⟩ := (hI.2.2 b t tb).1
  unfold x_sl
  rw [he]
  dsimp only
  unfold x_shape at hs
  split at hs
  · rename_i ci fs
    show fs[i]? = none
    exact List.getElem?_eq_none (by omega)
  · rename_i c n f
    show (if i < n then some (Value.int (f i)) else none) = none
    rw [if_neg (by omega)]
  · rename_i c n f
    show (if i < n then some (Value.long (f i)) else none) = none
    rw [if_neg (by omega)]
  · rename_i c n g
    show (if i < n then some (va_rf (g i)) else none) = none
    rw [if_neg (by omega)]
  · exact hs.elim
theorem y_iarr {th : List Nat} {G : List pE} {b t n : Nat} (hI : xI x_tb th G) (tb : th[b]? = some t) (e : (x_tb t).2.2.1 = n) (ha : (x_tb t).2.2.2.all (fun q => q.2.1 == 0) = true) : ∃ f : Nat → Int32, ∀ i, i < n → x_sl G b i = some (.int (f i)) := by
  have h : ∀ i, i < n → ∃ x : Int32, x_sl G b i = some (.int x) := fun i hi => by
    obtain ⟨g, hg⟩ := x_tb_wf t i (by omega)
    obtain ⟨w, k1, k2⟩ := (hI.2.2 b t tb).2 i g hg
    have h0 := x_at_int _ i ha g hg
    unfold xf_ok at k2
    rw [h0] at k2
    obtain ⟨x, rfl, -⟩ := k2
    exact ⟨x, k1⟩
  refine ⟨fun i => if h' : i < n then Classical.choose (h i h') else 0, fun i hi => ?_⟩
  dsimp only
  rw [dif_pos hi]
  exact Classical.choose_spec (h i hi)
theorem z_cl0 : ∀ t, t < 8 → z_cl (41 + t) = 0 := by decide
section ZY
variable {th : List Nat} {xs : Nat → Int32} {L J d a nb hb sc : Nat} {G0 : List pE} {K : Option Value → List pE → Prop}
set_option maxHeartbeats 2000000 in
set_option maxRecDepth 100000 in
theorem g_lloop (hd : 305 ≤ d) (ta : th[a]? = some 10) (hK0 : ∀ x G', x_eff th E_l1 G0 G' → xI x_tb th G' → K (some (.int x)) G') (hK1 : ∀ G' lv, z_Pl th a nb hb G' → x_eff th E_l1 G0 G' → pm_get lv 0 = some (.ref a) → x_Gd xs L J (d + 5) m_161 K 78 lv [] G') : ∀ (m : Nat) (G : List pE) (lv : pL) (p : Int32), (940 - p.toInt).toNat = m → z_Pl th a nb hb G → x_sl G a 4 = some (.int p) → x_eff th E_l1 G0 G → pm_get lv 0 = some (.ref a) → x_Gd xs L J (d + 5) m_161 K 35 lv [] G := by
  intro m
  induction m using Nat.strongRecOn with
  | ind m ih =>
  intro G lv p hm hP hp hE g0
  have hI : xI x_tb th G := by
    obtain ⟨_, _, _, _, _, _, hH, _⟩ := hP
    exact hH.1
  have rp := y_fie (i := 4) (t := 10) hI ta rfl hp
  obtain ⟨tk, htk, -⟩ := y_fint (i := 11) hI ta rfl
  refine y_aln (e_161 (35, .aload_n 0, 1) (List.mem_of_getElem? (i := 19) rfl)) g0 ?_
  refine y_getf hI ta (e_161 (36, .getfield 141, 3) (List.mem_of_getElem? (i := 20) rfl)) u_17_141 ⟨rfl, rfl⟩ htk ?_
  refine y_ifc (e_161 (39, .ifCond .eq 39, 3) (List.mem_of_getElem? (i := 21) rfl)) rfl (fun _ => hK1 G lv hP hE g0) (fun _ => ?_)
  refine y_aln (e_161 (42, .aload_n 0, 1) (List.mem_of_getElem? (i := 22) rfl)) g0 ?_
  refine y_c1 (K' := _) (e_161 (43, .invokevirtual 223, 3) (List.mem_of_getElem? (i := 23) rfl)) ⟨rfl, rfl, rfl⟩ t_17_223 ⟨by decide, by decide, by decide, by decide⟩ m_167_ok rfl (by decide) (y_recv hI ta ⟨rfl, rfl⟩) (Nat.le_of_ble_eq_true rfl) (Nat.le_of_ble_eq_true rfl) (g_lineC (d := d) hd hP hp) (fun r1 G1 h1 => ?_)
  obtain ⟨ef1, hI1, hr⟩ := h1
  have hE1 : x_eff th E_l1 G0 G1 := hE.tr ef1.l.l
  rcases hr with rfl | ⟨rfl, hP1, p1, tk1, f4, f11, hpt⟩
  · simp only [Option.toList_some, Option.toList_none, List.cons_append, List.nil_append]
    refine y_ifc (e_161 (46, .ifCond .eq 12, 3) (List.mem_of_getElem? (i := 24) rfl)) rfl (fun _ => ?_) (fun hb => absurd hb (by decide))
    obtain ⟨fa, hfa, -⟩ := y_fint (i := 16) hI1 ta rfl
    refine y_st (e_161 (58, .iconst (-1), 1) (List.mem_of_getElem? (i := 29) rfl)) ⟨rfl, rfl, rfl, rfl⟩ ?_
    refine y_aln (e_161 (59, .aload_n 0, 1) (List.mem_of_getElem? (i := 30) rfl)) g0 ?_
    refine y_getf hI1 ta (e_161 (60, .getfield 161, 3) (List.mem_of_getElem? (i := 31) rfl)) u_17_161 ⟨rfl, rfl⟩ hfa ?_
    refine y_st (e_161 (63, .isub, 1) (List.mem_of_getElem? (i := 32) rfl)) ⟨rfl, rfl, rfl, rfl⟩ ?_
    refine y_ret (e_161 (64, .ireturn, 1) (List.mem_of_getElem? (i := 33) rfl)) ⟨rfl, y_ri⟩ (hK0 _ _ (hE1) hI1)
  · simp only [Option.toList_some, Option.toList_none, List.cons_append, List.nil_append]
    refine y_ifc (e_161 (46, .ifCond .eq 12, 3) (List.mem_of_getElem? (i := 24) rfl)) rfl (fun hb => absurd hb (by decide)) (fun _ => ?_)
    refine y_aln (e_161 (49, .aload_n 0, 1) (List.mem_of_getElem? (i := 25) rfl)) g0 ?_
    refine y_st (e_161 (50, .bipush 59, 2) (List.mem_of_getElem? (i := 26) rfl)) ⟨rfl, rfl, rfl, rfl⟩ ?_
    refine y_c2 (K' := _) (e_161 (52, .invokevirtual 226, 3) (List.mem_of_getElem? (i := 27) rfl)) ⟨rfl, rfl, rfl⟩ t_17_226 ⟨by decide, by decide, by decide, by decide⟩ m_180_ok rfl (by decide) (y_recv hI1 ta ⟨rfl, rfl⟩) (Nat.le_of_ble_eq_true rfl) (Nat.le_of_ble_eq_true rfl) (g_sign (d := d + 4) (by omega) hI1 ta f11 f4) (fun r1 G2 h1 => ?_)
    obtain ⟨ef2, hI2, hr⟩ := h1
    have hE2 : x_eff th E_l1 G0 G2 := hE1.tr ef2.r.l
    have hP2 : z_Pl th a nb hb G2 := hP1.eff hI2 ef2 rfl (by decide) (by decide) (by decide)
    rcases hr with rfl | ⟨rfl, t3, p2, f42, hp2⟩
    · simp only [Option.toList_some, Option.toList_none, List.cons_append, List.nil_append]
      refine y_ifc (e_161 (55, .ifCond .ne 10, 3) (List.mem_of_getElem? (i := 28) rfl)) rfl (fun hb => absurd hb (by decide)) (fun _ => ?_)
      obtain ⟨fa, hfa, -⟩ := y_fint (i := 16) hI2 ta rfl
      refine y_st (e_161 (58, .iconst (-1), 1) (List.mem_of_getElem? (i := 29) rfl)) ⟨rfl, rfl, rfl, rfl⟩ ?_
      refine y_aln (e_161 (59, .aload_n 0, 1) (List.mem_of_getElem? (i := 30) rfl)) g0 ?_
      refine y_getf hI2 ta (e_161 (60, .getfield 161, 3) (List.mem_of_getElem? (i := 31) rfl)) u_17_161 ⟨rfl, rfl⟩ hfa ?_
      refine y_st (e_161 (63, .isub, 1) (List.mem_of_getElem? (i := 32) rfl)) ⟨rfl, rfl, rfl, rfl⟩ ?_
      refine y_ret (e_161 (64, .ireturn, 1) (List.mem_of_getElem? (i := 33) rfl)) ⟨rfl, y_ri⟩ (hK0 _ _ (hE2) hI2)
    · simp only [Option.toList_some, Option.toList_none, List.cons_append, List.nil_append]
      refine y_ifc (e_161 (55, .ifCond .ne 10, 3) (List.mem_of_getElem? (i := 28) rfl)) rfl (fun _ => ?_) (fun hb => absurd hb (by decide))
      obtain ⟨li, hli, -⟩ := y_fint (i := 19) hI2 ta rfl
      have rp2 := y_fie (i := 4) (t := 10) hI2 ta rfl f42
      have q1 := hpt t3
      refine y_aln (e_161 (65, .aload_n 0, 1) (List.mem_of_getElem? (i := 34) rfl)) g0 ?_
      refine y_st (e_161 (66, .dup, 1) (List.mem_of_getElem? (i := 35) rfl)) ⟨rfl, rfl, rfl, rfl⟩ ?_
      refine y_getf hI2 ta (e_161 (67, .getfield 220, 3) (List.mem_of_getElem? (i := 36) rfl)) u_17_220 ⟨rfl, rfl⟩ hli ?_
      refine y_st (e_161 (70, .iconst 1, 1) (List.mem_of_getElem? (i := 37) rfl)) ⟨rfl, rfl, rfl, rfl⟩ ?_
      refine y_st (e_161 (71, .iadd, 1) (List.mem_of_getElem? (i := 38) rfl)) ⟨rfl, rfl, rfl, rfl⟩ ?_
      refine y_putf (f := (0, -2147483648, 2147483647)) hI2 ta (e_161 (72, .putfield 220, 3) (List.mem_of_getElem? (i := 39) rfl)) u_17_220 ⟨rfl, rfl, by decide, rfl, rfl⟩ ⟨_, rfl, (x_i32 _).1, (x_i32 _).2⟩ (fun G3 u3 => ?_)
      have hI3 := hI2.upd u3 ta (y_okA rfl)
      have ef3 : x_eff th [(10, 19, 19)] G2 G3 := x_eff.upd u3 ta (q := (10, 19, 19)) List.mem_cons_self rfl (by decide) (by decide)
      refine y_st (e_161 (75, .goto (-40), 3) (List.mem_of_getElem? (i := 40) rfl)) ⟨rfl, rfl, rfl, rfl⟩ ?_
      exact ih _ (by omega) G3 lv p2 rfl (hP2.eff hI3 ef3 rfl (by decide) (by decide) (by decide)) (by rw [ef3.at ta rfl]; exact f42) (hE2.tr ef3.r) g0
set_option maxHeartbeats 2000000 in
set_option maxRecDepth 100000 in
theorem g_lcp1 (ta : th[a]? = some 10) (h6 : x_sl G0 a 6 = some (.ref sc)) (tc : th[sc]? = some 36) (h7 : x_sl G0 a 7 = some (.ref hb)) (tb : th[hb]? = some 37) (hI0 : xI x_tb th G0) {hf : Nat → Int32} (hhf : ∀ i, i < 81 → x_sl G0 hb i = some (.int (hf i))) (hK : ∀ G' lv, xI x_tb th G' → (∀ k i, k ≠ sc → x_sl G' k i = x_sl G0 k i) → (∀ i, i < 324 → x_sl G' sc i = some (.int (if i < 81 then hf i else 0))) → x_eff th [(36, 0, 323)] G0 G' → pm_get lv 0 = some (.ref a) → x_Gd xs L J d m_161 K 115 lv [] G') : ∀ (m : Nat) (G : List pE) (lv : pL) (j : Int32), xI x_tb th G → (∀ k i, k ≠ sc → x_sl G k i = x_sl G0 k i) → x_eff th [(36, 0, 323)] G0 G → 0 ≤ j.toInt → j.toInt ≤ 324 → (324 - j.toInt).toNat = m → (∀ i : Nat, (i : Int) < j.toInt → x_sl G sc i = some (.int (if i < 81 then hf i else 0))) → pm_get lv 0 = some (.ref a) → pm_get lv 1 = some (.int j) → x_Gd xs L J d m_161 K 80 lv [] G := by
  have ne : a ≠ sc := fun z => by rw [z, tc] at ta; cases ta
  have ne2 : hb ≠ sc := fun z => by rw [z, tc] at tb; cases tb
  have e324 : ((Int16.ofInt 324).toInt32).toInt = 324 := by decide
  have e81 : ((Int8.ofInt 81).toInt32).toInt = 81 := by decide
  intro m
  induction m with
  | zero =>
    intro G lv j hI hO hE j0 j1 hm hj g0 g1
    refine y_iln (e_161 (80, .iload_n 1, 1) (List.mem_of_getElem? (i := 43) rfl)) g1 ?_
    refine y_st (e_161 (81, .sipush 324, 3) (List.mem_of_getElem? (i := 44) rfl)) ⟨rfl, rfl, rfl, rfl⟩ ?_
    refine y_icm (e_161 (84, .if_icmp .ge 31, 3) (List.mem_of_getElem? (i := 45) rfl)) rfl (fun hc => ?_) (fun hc => ?_)
    · exact hK G lv hI hO (fun i hi => hj i (by omega)) hE g0
    · have := y_hI.2.2.2.2.2.1 hc
      omega
  | succ m ih =>
    intro G lv j hI hO hE j0 j1 hm hj g0 g1
    have e1 := y_add1 (t := j) (by omega)
    have h6' : x_sl G a 6 = some (.ref sc) := (hO a 6 ne).trans h6
    have h7' : x_sl G a 7 = some (.ref hb) := (hO a 7 ne).trans h7
    have tail : ∀ x : Int32, x = (if j.toInt.toNat < 81 then hf j.toInt.toNat else 0) → (∀ f', x_at (x_tb 36).2.2.2 j.toInt.toNat = some f' → xf_ok th f' (.int x)) → j.toInt < 324 → x_Gd xs L J d m_161 K 108 lv [.int x, .int j, .ref sc] G := by
      intro x hx hok hlt
      refine y_iast hI tc (e_161 (108, .iastore, 1) (List.mem_of_getElem? (i := 58) rfl)) ⟨rfl, rfl⟩ ⟨j0, by show _ < (324 : Int); omega⟩ (fun G1 u1 => ?_)
      refine y_iinc (e_161 (109, .iinc 1 1, 3) (List.mem_of_getElem? (i := 59) rfl)) g1 (by decide) ?_
      refine y_st (e_161 (112, .goto (-32), 3) (List.mem_of_getElem? (i := 60) rfl)) ⟨rfl, rfl, rfl, rfl⟩ ?_
      refine ih G1 _ (j + Int32.ofInt 1) (hI.upd u1 tc hok) (y_updO hO u1) (hE.tr (x_eff.upd u1 tc (q := (36, 0, 323)) List.mem_cons_self rfl (Nat.zero_le _) (by show _ ≤ 323; omega))) (by omega) (by omega) (by omega) (fun i hi => ?_) (y_gpr g0 (by decide)) x_get_self
      rw [u1.2.1]
      by_cases hij : i = j.toInt.toNat
      · rw [if_pos ⟨rfl, hij⟩, hij, hx]
      · rw [if_neg (fun z => hij z.2)]
        exact hj i (by omega)
    refine y_iln (e_161 (80, .iload_n 1, 1) (List.mem_of_getElem? (i := 43) rfl)) g1 ?_
    refine y_st (e_161 (81, .sipush 324, 3) (List.mem_of_getElem? (i := 44) rfl)) ⟨rfl, rfl, rfl, rfl⟩ ?_
    refine y_icm (e_161 (84, .if_icmp .ge 31, 3) (List.mem_of_getElem? (i := 45) rfl)) rfl (fun hc => ?_) (fun hc => ?_)
    · have := y_hI.2.2.2.2.1 hc
      omega
    · have hlt := y_hI.2.2.2.2.2.1 hc
      refine y_aln (e_161 (87, .aload_n 0, 1) (List.mem_of_getElem? (i := 46) rfl)) g0 ?_
      refine y_getf hI ta (e_161 (88, .getfield 33, 3) (List.mem_of_getElem? (i := 47) rfl)) u_17_33 ⟨rfl, rfl⟩ h6' ?_
      refine y_iln (e_161 (91, .iload_n 1, 1) (List.mem_of_getElem? (i := 48) rfl)) g1 ?_
      refine y_iln (e_161 (92, .iload_n 1, 1) (List.mem_of_getElem? (i := 49) rfl)) g1 ?_
      refine y_st (e_161 (93, .bipush 81, 2) (List.mem_of_getElem? (i := 50) rfl)) ⟨rfl, rfl, rfl, rfl⟩ ?_
      refine y_icm (e_161 (95, .if_icmp .ge 12, 3) (List.mem_of_getElem? (i := 51) rfl)) rfl (fun hc2 => ?_) (fun hc2 => ?_)
      · have h81 := y_hI.2.2.2.2.1 hc2
        refine y_st (e_161 (107, .iconst 0, 1) (List.mem_of_getElem? (i := 57) rfl)) ⟨rfl, rfl, rfl, rfl⟩ ?_
        exact tail _ (by rw [if_neg (by omega)]; rfl) (y_zero_ok (E_360 _ (by omega) (by omega))) (by omega)
      · have h81 := y_hI.2.2.2.2.2.1 hc2
        have hv := hhf j.toInt.toNat (by omega)
        refine y_aln (e_161 (98, .aload_n 0, 1) (List.mem_of_getElem? (i := 52) rfl)) g0 ?_
        refine y_getf hI ta (e_161 (99, .getfield 37, 3) (List.mem_of_getElem? (i := 53) rfl)) u_17_37 ⟨rfl, rfl⟩ h7' ?_
        refine y_iln (e_161 (102, .iload_n 1, 1) (List.mem_of_getElem? (i := 54) rfl)) g1 ?_
        refine y_iald hI tb (e_161 (103, .iaload, 1) (List.mem_of_getElem? (i := 55) rfl)) ⟨rfl, rfl⟩ j0 ((hO hb _ ne2).trans hv) ?_
        refine y_st (e_161 (104, .goto 4, 3) (List.mem_of_getElem? (i := 56) rfl)) ⟨rfl, rfl, rfl, rfl⟩ ?_
        exact tail _ (by rw [if_pos (by omega)]) (y_sub_ok hI0 tb (E_3736 _ (by omega)) hv) (by omega)
set_option maxHeartbeats 2000000 in
set_option maxRecDepth 100000 in
theorem g_lcp2 (ta : th[a]? = some 10) (h9 : x_sl G0 a 9 = some (.ref nb)) (tn : th[nb]? = some 39) {nm : Nat → Int64} (hnm : ∀ i, i < 32 → x_sl G0 nb i = some (.long (nm i))) (hK : ∀ G' lv, xI x_tb th G' → (∀ k i, k ≠ nb → x_sl G' k i = x_sl G0 k i) → (∀ i, i < 16 → x_sl G' nb i = some (.long (nm (16 + i)))) → x_eff th [(39, 0, 31)] G0 G' → pm_get lv 0 = some (.ref a) → x_Gd xs L J d m_161 K 144 lv [] G') : ∀ (m : Nat) (G : List pE) (lv : pL) (j : Int32), xI x_tb th G → (∀ k i, k ≠ nb → x_sl G k i = x_sl G0 k i) → x_eff th [(39, 0, 31)] G0 G → 0 ≤ j.toInt → j.toInt ≤ 16 → (16 - j.toInt).toNat = m → (∀ i : Nat, (i : Int) < j.toInt → x_sl G nb i = some (.long (nm (16 + i)))) → (∀ i : Nat, j.toInt ≤ (i : Int) → i < 32 → x_sl G nb i = some (.long (nm i))) → pm_get lv 0 = some (.ref a) → pm_get lv 1 = some (.int j) → x_Gd xs L J d m_161 K 117 lv [] G := by
  have ne : a ≠ nb := fun z => by rw [z, tn] at ta; cases ta
  have e16 : ((Int8.ofInt 16).toInt32).toInt = 16 := by decide
  intro m
  induction m with
  | zero =>
    intro G lv j hI hO hE j0 j1 hm hj hj2 g0 g1
    refine y_iln (e_161 (117, .iload_n 1, 1) (List.mem_of_getElem? (i := 63) rfl)) g1 ?_
    refine y_st (e_161 (118, .bipush 16, 2) (List.mem_of_getElem? (i := 64) rfl)) ⟨rfl, rfl, rfl, rfl⟩ ?_
    refine y_icm (e_161 (120, .if_icmp .ge 24, 3) (List.mem_of_getElem? (i := 65) rfl)) rfl (fun hc => ?_) (fun hc => ?_)
    · exact hK G lv hI hO (fun i hi => hj i (by omega)) hE g0
    · have := y_hI.2.2.2.2.2.1 hc
      omega
  | succ m ih =>
    intro G lv j hI hO hE j0 j1 hm hj hj2 g0 g1
    have e1 := y_add1 (t := j) (by omega)
    have h9' : x_sl G a 9 = some (.ref nb) := (hO a 9 ne).trans h9
    have ej : ((Int8.ofInt 16).toInt32 + j).toInt = 16 + j.toInt := by rw [y_add (by omega) (by omega)]; omega
    refine y_iln (e_161 (117, .iload_n 1, 1) (List.mem_of_getElem? (i := 63) rfl)) g1 ?_
    refine y_st (e_161 (118, .bipush 16, 2) (List.mem_of_getElem? (i := 64) rfl)) ⟨rfl, rfl, rfl, rfl⟩ ?_
    refine y_icm (e_161 (120, .if_icmp .ge 24, 3) (List.mem_of_getElem? (i := 65) rfl)) rfl (fun hc => ?_) (fun hc => ?_)
    · have := y_hI.2.2.2.2.1 hc
      omega
    · refine y_aln (e_161 (123, .aload_n 0, 1) (List.mem_of_getElem? (i := 66) rfl)) g0 ?_
      refine y_getf hI ta (e_161 (124, .getfield 43, 3) (List.mem_of_getElem? (i := 67) rfl)) u_17_43 ⟨rfl, rfl⟩ h9' ?_
      refine y_iln (e_161 (127, .iload_n 1, 1) (List.mem_of_getElem? (i := 68) rfl)) g1 ?_
      refine y_aln (e_161 (128, .aload_n 0, 1) (List.mem_of_getElem? (i := 69) rfl)) g0 ?_
      refine y_getf hI ta (e_161 (129, .getfield 43, 3) (List.mem_of_getElem? (i := 70) rfl)) u_17_43 ⟨rfl, rfl⟩ h9' ?_
      refine y_st (e_161 (132, .bipush 16, 2) (List.mem_of_getElem? (i := 71) rfl)) ⟨rfl, rfl, rfl, rfl⟩ ?_
      refine y_iln (e_161 (134, .iload_n 1, 1) (List.mem_of_getElem? (i := 72) rfl)) g1 ?_
      refine y_st (e_161 (135, .iadd, 1) (List.mem_of_getElem? (i := 73) rfl)) ⟨rfl, rfl, rfl, rfl⟩ ?_
      refine y_lald hI tn (e_161 (136, .laload, 1) (List.mem_of_getElem? (i := 74) rfl)) ⟨rfl, rfl⟩ (by omega) (hj2 _ (by omega) (by omega)) ?_
      refine y_last hI tn (e_161 (137, .lastore, 1) (List.mem_of_getElem? (i := 75) rfl)) ⟨rfl, rfl⟩ ⟨j0, by show _ < (32 : Int); omega⟩ (fun G1 u1 => ?_)
      rw [show ((Int8.ofInt 16).toInt32 + j).toInt.toNat = 16 + j.toInt.toNat by omega] at u1
      refine y_iinc (e_161 (138, .iinc 1 1, 3) (List.mem_of_getElem? (i := 76) rfl)) g1 (by decide) ?_
      refine y_st (e_161 (141, .goto (-24), 3) (List.mem_of_getElem? (i := 77) rfl)) ⟨rfl, rfl, rfl, rfl⟩ ?_
      refine ih G1 _ (j + Int32.ofInt 1) (hI.upd u1 tn (y_okL (y_one (show j.toInt.toNat < 32 by omega)))) (y_updO hO u1) (hE.tr (x_eff.upd u1 tn (q := (39, 0, 31)) List.mem_cons_self rfl (Nat.zero_le _) (by show _ ≤ 31; omega))) (by omega) (by omega) (by omega) (fun i hi => ?_) (fun i hi hi2 => ?_) (y_gpr g0 (by decide)) x_get_self
      · rw [u1.2.1]
        by_cases hij : i = j.toInt.toNat
        · rw [if_pos ⟨rfl, hij⟩, hij]
        · rw [if_neg (fun z => hij z.2)]
          exact hj i (by omega)
      · rw [u1.2.1, if_neg (fun z => by omega)]
        exact hj2 i (by omega) hi2
set_option maxHeartbeats 2000000 in
set_option maxRecDepth 100000 in
theorem g_land (hd : 305 ≤ d) {G : List pE} (hI : xI x_tb th G) (ta : th[a]? = some 10) (hU : ∀ b b' : Nat, th[b]? = some 36 → th[b']? = some 36 → b = b') (hQ : x_Q th G) (hNs : z_Ns th a G) : x_Gd xs L J (d + 5) m_161 (z_Ld th G a) 0 (lv_args 0 [.ref a]) [] G := by
  refine sg_ld0_go (d := d + 4) (by omega) (v := (y_v [(a : Int)])) (G0 := G) ⟨y_v_Bd (List.forall_mem_cons.mpr ⟨(y_cellB hI ta), (fun _ h => absurd h List.not_mem_nil)⟩), (fun _ h => absurd h List.not_mem_nil), (List.forall_mem_cons.mpr ⟨⟨_, rfl, a, rfl, (by simp only [xl_ev, xt_ev, y_v, List.getD_cons_succ, List.getD_cons_zero]; omega), ta⟩, (fun _ h => absurd h List.not_mem_nil)⟩), trivial, (fun _ h => absurd h List.not_mem_nil), hI⟩ x_eff.rf (fun r G' h => ?_) (fun n hn vn lv G1 hag hS1 hE1 => ?_)
  · obtain ⟨v', -, -, -, -, p, hp, -⟩ := h
    exact absurd hp List.not_mem_nil
  obtain rfl : n = _ := List.mem_singleton.mp hn
  have z0 : vn 0 = (a : Int) := hag 0 (by decide)
  have g0 := hS1.loCe (i := 0) (t := 10) (l := ([(0, 1)], 0)) (a := a) (List.mem_of_getElem? (i := 0) rfl) (by simp only [xl_ev, xt_ev]; omega)
  have f2 := hS1.fa0e (i := 2) (t := 10) (cl := ([(0, 1)], 0)) (l := ([], 0)) (a := a) (x := 0) (List.mem_of_getElem? (i := 0) rfl) (by simp only [xl_ev, xt_ev]; omega) rfl
  have hI1 := hS1.2.2.2.2.2
  obtain ⟨hb, h7, tb⟩ := y_fref (i := 7) (u := 37) hI1 ta rfl
  have hE1' : x_eff th E_land G G1 := hE1.l.l.l.l
  refine y_aln (e_161 (27, .aload_n 0, 1) (List.mem_of_getElem? (i := 15) rfl)) g0 ?_
  refine y_c1 (K' := _) (e_161 (28, .invokevirtual 128, 3) (List.mem_of_getElem? (i := 16) rfl)) ⟨rfl, rfl, rfl⟩ t_17_128 ⟨by decide, by decide, by decide, by decide⟩ m_160_ok rfl (by decide) (y_recv hI1 ta ⟨rfl, rfl⟩) (Nat.le_of_ble_eq_true rfl) (Nat.le_of_ble_eq_true rfl) (g_clears (d := d + 4) hI1 ta h7 tb) (fun r1 G2 h1 => ?_)
  obtain ⟨rfl, hI2, hO2, hc2⟩ := h1
  simp only [Option.toList_some, Option.toList_none, List.cons_append, List.nil_append]
  have ef2 : x_eff th [(37, 0, 80)] G1 G2 := fun kk t i hk hi => by
    by_cases hkb : kk = hb
    · subst hkb
      rw [tb] at hk
      cases hk
      rcases Nat.lt_or_ge i 81 with z | z
      · exact absurd ⟨rfl, Nat.zero_le _, by show i ≤ 80; omega⟩ (hi _ List.mem_cons_self)
      · rw [y_sl_out hI2 tb (by show 81 ≤ i; omega), y_sl_out hI1 tb (by show 81 ≤ i; omega)]
    · exact hO2 kk i hkb
  refine y_aln (e_161 (31, .aload_n 0, 1) (List.mem_of_getElem? (i := 17) rfl)) g0 ?_
  refine y_c1 (K' := _) (e_161 (32, .invokevirtual 170, 3) (List.mem_of_getElem? (i := 18) rfl)) ⟨rfl, rfl, rfl⟩ t_17_170 ⟨by decide, by decide, by decide, by decide⟩ m_163_ok rfl (by decide) (y_recv hI2 ta ⟨rfl, rfl⟩) (Nat.le_of_ble_eq_true rfl) (Nat.le_of_ble_eq_true rfl) (g_next (d := d + 4) hI2 ta (by omega)) (fun r1 G3 h1 => ?_)
  obtain ⟨rfl, hI3, ef3⟩ := h1
  simp only [Option.toList_some, Option.toList_none, List.cons_append, List.nil_append]
  obtain ⟨nb, hb', nm, w, h3, h4, h5, hH⟩ := z_Hview hI3 ta
  obtain rfl : hb' = hb := by
    have e := hH.2.2.2.2.2.2.1
    rw [ef3.at ta rfl, ef2.at ta rfl, h7] at e
    exact (Value.ref.inj (Option.some.inj e)).symm
  have v3 : ∀ i, i < 81 → x_sl G3 hb' i = some (.int (z_cl i)) := fun i hi => by rw [ef3.at tb rfl]; exact hc2 i hi
  have h30 : h3 = 0 := by
    have e := hH.2.2.2.2.2.2.2.2.1
    rw [v3 3 (by decide)] at e
    exact (Value.int.inj (Option.some.inj e)).symm
  have hP : z_Pl th a nb hb' G3 := ⟨nm, w, h3, h4, h5, fun t => z_cl (41 + t), hH, fun i j hi hj => by rw [h30] at hi; exact absurd hi (by show ¬ (i : Int) < 0; omega), fun t ht => ⟨v3 (41 + t) (by omega), by dsimp only; rw [h30, z_cl0 t ht]; show (0 : Int) ≤ 8 * 0 - 0 + t; omega⟩⟩
  obtain ⟨p, hp, -⟩ := y_fint (i := 4) hI3 ta rfl
  have hE3 : x_eff th E_land G G3 := (hE1'.tr (ef2.sub (by decide))).tr (ef3.sub (by decide))
  have hQ3 : x_Q th G3 := x_Q_eff (by decide) ef3 (x_Q_eff (by decide) ef2 (x_Q_eff (by decide) hE1 hQ))
  have hN3 : z_Ns th a G3 := ((hNs.eff ta hI hE1 rfl (by decide)).eff ta hI1 ef2 rfl (by decide)).eff ta hI2 ef3 rfl (by decide)
  have f23 : x_sl G3 a 2 = some (.int 0) := by rw [ef3.at ta rfl, ef2.at ta rfl]; exact f2
  refine g_lloop (G0 := G3) (nb := nb) (hb := hb') hd ta (fun x G' ef hI' => ⟨⟨x, rfl⟩, hI', x_Q_eff (by decide) ef hQ3, hN3.eff ta hI3 ef rfl (by decide), hE3.tr (ef.sub (by decide)), by rw [ef.at ta rfl]; exact f23⟩) (fun G4 lv4 hP4 ef4 g04 => ?_) _ G3 lv p rfl hP hp x_eff.rf g0
  obtain ⟨nm4, w4, n3, n4, n5, wt, hH4, hD4, hw4⟩ := hP4
  obtain ⟨hI4, -, q9, tnb, hnm4, -, q7, -, v43, -, v45⟩ := id hH4
  obtain ⟨sc, q6, tsc⟩ := y_fref (i := 6) (u := 36) hI4 ta rfl
  obtain ⟨hf, hhf⟩ := y_iarr (t := 37) (n := 81) hI4 tb rfl rfl
  have hQ4 := x_Q_eff (by decide) ef4 hQ3
  have f24 : x_sl G4 a 2 = some (.int 0) := by rw [ef4.at ta rfl]; exact f23
  have hE4 : x_eff th E_land G G4 := hE3.tr (ef4.sub (by decide))
  refine y_st (e_161 (78, .iconst 0, 1) (List.mem_of_getElem? (i := 41) rfl)) ⟨rfl, rfl, rfl, rfl⟩ ?_
  refine y_isn (e_161 (79, .istore_n 1, 1) (List.mem_of_getElem? (i := 42) rfl)) (by decide) ?_
  refine g_lcp1 (G0 := G4) (sc := sc) (hb := hb') (hf := hf) ta q6 tsc q7 tb hI4 hhf (fun G5 lv5 hI5 hO5 hc5 ef5 g05 => ?_) _ G4 _ 0 hI4 (fun _ _ _ => rfl) x_eff.rf (by decide) (by decide) rfl (fun i hi => absurd hi (by show ¬ (i : Int) < 0; omega)) (y_gpr g04 (by decide)) x_get_self
  have ne : a ≠ sc := fun z => by rw [z, tsc] at ta; cases ta
  have ne2 : nb ≠ sc := fun z => by rw [z, tsc] at tnb; cases tnb
  have ne3 : sc ≠ nb := Ne.symm ne2
  have ne4 : a ≠ nb := fun z => by rw [z, tnb] at ta; cases ta
  refine y_st (e_161 (115, .iconst 0, 1) (List.mem_of_getElem? (i := 61) rfl)) ⟨rfl, rfl, rfl, rfl⟩ ?_
  refine y_isn (e_161 (116, .istore_n 1, 1) (List.mem_of_getElem? (i := 62) rfl)) (by decide) ?_
  refine g_lcp2 (G0 := G5) (nb := nb) (nm := nm4) ta ((hO5 a 9 ne).trans q9) tnb (fun i hi => (hO5 nb i ne2).trans (hnm4 i hi)) (fun G6 lv6 hI6 hO6 hc6 ef6 g06 => ?_) _ G5 _ 0 hI5 (fun _ _ _ => rfl) x_eff.rf (by decide) (by decide) rfl (fun i hi => absurd hi (by show ¬ (i : Int) < 0; omega)) (fun i _ hi => (hO5 nb i ne2).trans (hnm4 i hi)) (y_gpr g05 (by decide)) x_get_self
  have s6 : ∀ i, i < 324 → x_sl G6 sc i = some (.int (if i < 81 then hf i else 0)) := fun i hi => (hO6 sc i ne3).trans (hc5 i hi)
  have s3 : hf 3 = n3 := by
    have e := hhf 3 (by decide)
    rw [v43] at e
    exact (Value.int.inj (Option.some.inj e)).symm
  have s5 : hf 5 = n5 := by
    have e := hhf 5 (by decide)
    rw [v45] at e
    exact (Value.int.inj (Option.some.inj e)).symm
  have q63 : x_sl G6 sc 3 = some (.int n3) := by rw [s6 3 (by decide), if_pos (by decide), s3]
  have q65 : x_sl G6 sc 5 = some (.int n5) := by rw [s6 5 (by decide), if_pos (by decide), s5]
  have hQ6 : x_Q th G6 := fun b hb2 => by
    obtain rfl := hU b sc hb2 tsc
    refine ⟨fun n x t a1 a2 a3 a4 => ?_, fun n x i a1 a2 a3 => ?_⟩
    · rw [q63] at a1
      cases a1
      rw [s6 (41 + t) (by omega), if_pos (by omega)] at a4
      cases a4
      have e := (hw4 t a3).1
      rw [hhf (41 + t) (by omega)] at e
      have e2 := (hw4 t a3).2
      have e3 := Value.int.inj (Option.some.inj e)
      rw [← e3] at e2
      omega
    · rw [s6 143 (by decide), if_neg (by decide)] at a1
      cases a1
      exact absurd a2 (by show ¬ (i : Int) < 0; omega)
  have hN6 : z_Ns th a G6 := ⟨nb, sc, (hO6 a 9 ne4).trans ((hO5 a 9 ne).trans q9), tnb, (hO6 a 6 ne4).trans ((hO5 a 6 ne).trans q6), tsc, fun n3' n5' i j x y a1 a2 a3 a4 a5 a6 => by
    rw [q63] at a1
    cases a1
    rw [q65] at a2
    cases a2
    have r3 := hH4.r3
    have r5 := hH4.r5
    rw [hc6 i (by omega)] at a5
    rw [hc6 (12 + j) (by omega)] at a6
    cases a5
    cases a6
    rw [show 16 + (12 + j) = 28 + j by omega]
    exact hD4 i j a3 a4⟩
  have f26 : x_sl G6 a 2 = some (.int 0) := (hO6 a 2 ne4).trans ((hO5 a 2 ne).trans f24)
  have hE6 : x_eff th E_land G G6 := (hE4.tr (ef5.sub (by decide))).tr (ef6.sub (by decide))
  refine sg_ld144_go (d := d + 4) (by omega) (v := (y_v [(a : Int)])) (G0 := G6) ⟨y_v_Bd (List.forall_mem_cons.mpr ⟨(y_cellB hI6 ta), (fun _ h => absurd h List.not_mem_nil)⟩), (fun _ h => absurd h List.not_mem_nil), (List.forall_mem_cons.mpr ⟨⟨_, g06, a, rfl, (by simp only [xl_ev, xt_ev, y_v, List.getD_cons_succ, List.getD_cons_zero]; omega), ta⟩, (fun _ h => absurd h List.not_mem_nil)⟩), trivial, (fun _ h => absurd h List.not_mem_nil), hI6⟩ x_eff.rf (fun r G' h => ?_) (fun n hn => absurd hn List.not_mem_nil)
  obtain ⟨v', -, -, hI', ef, p7, hp7, -, -, pa⟩ := h
  obtain rfl : p7 = _ := List.mem_singleton.mp hp7
  obtain ⟨y, rfl, -⟩ := y_pI pa
  exact ⟨⟨y, rfl⟩, hI', x_Q_eff (by decide) ef hQ6, hN6.eff ta hI6 ef rfl (by decide), hE6.tr (ef.sub (by decide)), by rw [ef.at ta rfl]; exact f26⟩
end ZY
