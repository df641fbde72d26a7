/-- what a kept place holds, or s -/
def z_SL (fs fn : Nat → Option Value) : Prop := x_Qs fs ∧ z_DD fs fn ∧ (∀ x : Int32, fs 6 = some (.int x) → 1 ≤ x.toInt) ∧ ∀ x : Int32, fs 11 = some (.int x) → 1 ≤ x.toInt
def z_Kp (th : List Nat) (a : Nat) (G : List pE) : Prop := ∃ kb nk ab : Nat, x_sl G a 42 = some (.ref kb) ∧ th[kb]? = some 47 ∧ x_sl G a 43 = some (.ref nk) ∧ th[nk]? = some 48 ∧ x_sl G a 44 = some (.ref ab) ∧ th[ab]? = some 49 ∧ ∀ q : Nat, q < 2 → ∀ x : Int32, x_sl G ab q = some (.int x) → x ≠ 0 → z_SL (fun i => x_sl G kb (324 * q + i)) (fun i => x_sl G nk (16 * q + i))
theorem z_dep_c {f g : Nat → Option Value} (h : ∀ i, i < 324 → g i = f i) : ∀ i, i ≤ 60 → x_dep g i = x_dep f i
  | 0, _ => rfl
  | i + 1, hi => by
    unfold x_dep
    rw [h (144 + 3 * i) (by omega), z_dep_c h i (by omega)]
theorem z_Qs_c {f g : Nat → Option Value} (h : ∀ i, i < 324 → g i = f i) (hn : ∀ n : Int32, g 143 = some (.int n) → n.toInt ≤ 45) (hf : x_Qs f) : x_Qs g := by
  refine ⟨fun n x t h1 h2 h3 h4 => hf.1 n x t (by rw [← h 3 (by omega)]; exact h1) h2 h3 (by rw [← h _ (by omega)]; exact h4), fun n x i h1 h2 h3 => ?_⟩
  have := hn n h1
  rw [z_dep_c h i (by omega)]
  exact hf.2 n x i (by rw [← h 143 (by omega)]; exact h1) h2 (by rw [← h _ (by omega)]; exact h3)
theorem z_DD_c {f g fn gn : Nat → Option Value} (h : ∀ i, i < 324 → g i = f i) (h3 : ∀ n : Int32, g 3 = some (.int n) → n.toInt ≤ 8) (h5 : ∀ n : Int32, g 5 = some (.int n) → n.toInt ≤ 4) (hg : ∀ i, i < 16 → gn i = fn i) (hf : z_DD f fn) : z_DD g gn := by
  intro n3 n5 i j x y a1 a2 a3 a4 a5 a6
  have b3 := h3 n3 a1
  have b5 := h5 n5 a2
  exact hf n3 n5 i j x y (by rw [← h 3 (by omega)]; exact a1) (by rw [← h 5 (by omega)]; exact a2) a3 a4 (by rw [← hg i (by omega)]; exact a5) (by rw [← hg (12 + j) (by omega)]; exact a6)
theorem z_Kp.eff {th : List Nat} {a : Nat} {G G' : List pE} {E : List (Nat × Nat × Nat)} (ta : th[a]? = some 10) (h : z_Kp th a G) (he : x_eff th E G G') (h1 : (y_out E 10 42 && y_out E 10 43 && y_out E 10 44) = true) (h2 : E.all (fun q => !(q.1 == 47) && !(q.1 == 48) && !(q.1 == 49)) = true) : z_Kp th a G' := by
  rw [Bool.and_eq_true, Bool.and_eq_true] at h1
  obtain ⟨⟨o1, o2⟩, o3⟩ := h1
  obtain ⟨kb, nk, ab, k1, k2, k3, k4, k5, k6, k7⟩ := h
  have out : ∀ t i, t = 47 ∨ t = 48 ∨ t = 49 → y_out E t i = true := fun t i ht => by
    unfold y_out
    rw [List.all_eq_true] at h2 ⊢
    intro q hq
    have := h2 q hq
    simp only [Bool.and_eq_true, Bool.not_eq_true', beq_eq_false_iff_ne] at this
    simp only [Bool.not_eq_true', Bool.and_eq_false_iff, beq_eq_false_iff_ne]
    exact Or.inl (Or.inl (by omega))
  refine ⟨kb, nk, ab, by rw [he.at ta o1]; exact k1, k2, by rw [he.at ta o2]; exact k3, k4, by rw [he.at ta o3]; exact k5, k6, fun q hq x hx hx0 => ?_⟩
  rw [he.at k6 (out _ _ (by omega))] at hx
  have e1 : (fun i => x_sl G' kb (324 * q + i)) = fun i => x_sl G kb (324 * q + i) := funext (fun i => he.at k2 (out _ _ (by omega)))
  have e2 : (fun i => x_sl G' nk (16 * q + i)) = fun i => x_sl G nk (16 * q + i) := funext (fun i => he.at k4 (out _ _ (by omega)))
  rw [e1, e2]
  exact k7 q hq x hx hx0
theorem E_s2k : ∀ q, q < 2 → ∀ i, i < 324 → y_sub (x_tb 36).2.2.2 i (x_tb 47).2.2.2 (324 * q + i) = true := by decide +kernel
theorem E_k2s : ∀ q, q < 2 → ∀ i, i < 324 → i ≠ 6 → i ≠ 11 → y_sub (x_tb 47).2.2.2 (324 * q + i) (x_tb 36).2.2.2 i = true := by decide +kernel
theorem E_k6 : ∀ q, q < 2 → x_at (x_tb 47).2.2.2 (324 * q + 6) = some (0, 0, 12) ∧ x_at (x_tb 47).2.2.2 (324 * q + 11) = some (0, 0, 20) := by decide +kernel
theorem E_k3 : ∀ q, q < 2 → x_at (x_tb 47).2.2.2 (324 * q + 3) = some (0, 0, 8) ∧ x_at (x_tb 47).2.2.2 (324 * q + 5) = some (0, 0, 4) ∧ x_at (x_tb 47).2.2.2 (324 * q + 143) = some (0, 0, 45) := by decide +kernel
def d_257 : xD := [(0, .aload_n 0, 1), (1, .iconst 0, 1), (2, .putfield 1, 3), (5, .iload_n 1, 1), (6, .iconst 0, 1), (7, .iconst 1, 1), (8, .invokestatic 173, 3), (11, .ifCond .ne 5, 3), (14, .iconst 0, 1), (15, .ireturn, 1), (16, .iconst 0, 1), (17, .istore_n 2, 1), (18, .iload_n 2, 1), (19, .sipush 324, 3), (22, .if_icmp .ge 27, 3), (25, .aload_n 0, 1), (26, .getfield 69, 3), (29, .sipush 324, 3), (32, .iload_n 1, 1), (33, .imul, 1), (34, .iload_n 2, 1), (35, .iadd, 1), (36, .aload_n 0, 1), (37, .getfield 33, 3), (40, .iload_n 2, 1), (41, .iaload, 1), (42, .iastore, 1), (43, .iinc 2 1, 3), (46, .goto (-28), 3), (49, .iconst 0, 1), (50, .istore_n 2, 1), (51, .iload_n 2, 1), (52, .bipush 16, 2), (54, .if_icmp .ge 26, 3), (57, .aload_n 0, 1), (58, .getfield 72, 3), (61, .bipush 16, 2), (63, .iload_n 1, 1), (64, .imul, 1), (65, .iload_n 2, 1), (66, .iadd, 1), (67, .aload_n 0, 1), (68, .getfield 43, 3), (71, .iload_n 2, 1), (72, .laload, 1), (73, .lastore, 1), (74, .iinc 2 1, 3), (77, .goto (-26), 3), (80, .aload_n 0, 1), (81, .getfield 75, 3), (84, .iload_n 1, 1), (85, .iconst 1, 1), (86, .bastore, 1), (87, .iconst 1, 1), (88, .ireturn, 1)]
set_option maxRecDepth 100000 in
theorem d_257_ok : x_dchk 257 d_257 = true := by decide +kernel
def m_257 : pM := (⟨"BreathingHillModel", "image", "(I)Z"⟩, 1857, 3, some (FieldType.boolean), 17, 1, false, 10, 103, 1855, 1856)
set_option maxRecDepth 100000 in
theorem m_257_ok : pm_tab[257]? = some m_257 := rfl
theorem e_257 : ∀ q ∈ d_257, decode m_257.code q.1 = .ok (q.2.1, q.2.2) := y_dec d_257_ok m_257_ok
def E_th : List (Nat × Nat × Nat) := [(10, 0, 0)]
def sg_im0_ns : List xN := []
def sg_im0_os : List xN := [(16, [(0, (20, ([(0, 1)], 0))), (1, (0, ([(1, 1)], 0)))], [], [([(1, 1)], 0), ([(1, -1)], 1)], 2, [([], 0), ([], 0), ([], 0), ([], 0), ([], 0)])]
def sg_im0_g : xG := ([], [(0, (20, ([(0, 1)], 0))), (1, (0, ([(1, 1)], 0)))], [], [], 2)
def sg_im0_ps : List xP := [(some (0, ([], 0)), [([(1, -1)], -1)], []), (some (0, ([], 0)), [([(1, 1)], -2)], [])]
set_option maxRecDepth 100000 in
set_option maxHeartbeats 4000000 in
theorem sg_im0_ok : x_seg x_tb [c_305] m_257 d_257 E_th 2 sg_im0_ps sg_im0_ns sg_im0_os 19 false 0 sg_im0_g = true := by decide +kernel
set_option maxRecDepth 100000 in
theorem sg_im0_go {th : List Nat} {xs : Nat → Int32} {L J d : Nat} {K : Option Value → List pE → Prop} (hd : 306 ≤ d) {v : Nat → Int} {lv : pL} {ws : List Value} {G0 G : List pE} (hS : x_S x_tb th v sg_im0_g lv ws G) (hE : x_eff th E_th G0 G) (hK : ∀ r G', x_Post x_tb th E_th sg_im0_ps 2 v G0 r G' → K r G') (hO : ∀ n ∈ sg_im0_os, ∀ (vn : Nat → Int) (lv : pL) (G1 : List pE), x_ag 2 v vn → x_S x_tb th vn (n.2.2.2.1, n.2.1, [], n.2.2.1, n.2.2.2.2.1) lv [] G1 → x_eff th E_th G0 G1 → x_Gd xs L J (d + 1) m_257 K n.1 lv [] G1) : x_Gd xs L J (d + 1) m_257 K 0 lv ws G :=
  x_seg_ok (dm := 306) x_tb_wf ⟨rfl, rfl, rfl⟩ e_257 (List.forall_mem_cons.mpr ⟨(h_305 th xs L J).mono (by omega), fun _ h => absurd h List.not_mem_nil⟩) hd sg_im0_ok hS hE (fun z => by cases z) hK hO
def sg_im80a_ns : List xN := []
def sg_im80a_os : List xN := []
def sg_im80a_g : xG := ([], [(0, (20, ([(0, 1)], 0))), (1, (0, ([], 0)))], [], [], 1)
def sg_im80a_ps : List xP := [(some (0, ([], 1)), [], [])]
set_option maxRecDepth 100000 in
set_option maxHeartbeats 4000000 in
theorem sg_im80a_ok : x_seg x_tb [] m_257 d_257 [(49, 0, 0)] 1 sg_im80a_ps sg_im80a_ns sg_im80a_os 16 false 80 sg_im80a_g = true := by decide +kernel
set_option maxRecDepth 100000 in
theorem sg_im80a_go {th : List Nat} {xs : Nat → Int32} {L J d : Nat} {K : Option Value → List pE → Prop} (hd : 0 ≤ d) {v : Nat → Int} {lv : pL} {ws : List Value} {G0 G : List pE} (hS : x_S x_tb th v sg_im80a_g lv ws G) (hE : x_eff th [(49, 0, 0)] G0 G) (hK : ∀ r G', x_Post x_tb th [(49, 0, 0)] sg_im80a_ps 1 v G0 r G' → K r G') (hO : ∀ n ∈ sg_im80a_os, ∀ (vn : Nat → Int) (lv : pL) (G1 : List pE), x_ag 1 v vn → x_S x_tb th vn (n.2.2.2.1, n.2.1, [], n.2.2.1, n.2.2.2.2.1) lv [] G1 → x_eff th [(49, 0, 0)] G0 G1 → x_Gd xs L J (d + 1) m_257 K n.1 lv [] G1) : x_Gd xs L J (d + 1) m_257 K 80 lv ws G :=
  x_seg_ok (dm := 0) x_tb_wf ⟨rfl, rfl, rfl⟩ e_257 (fun _ h => absurd h List.not_mem_nil) hd sg_im80a_ok hS hE (fun z => by cases z) hK hO
def sg_im80b_ns : List xN := []
def sg_im80b_os : List xN := []
def sg_im80b_g : xG := ([], [(0, (20, ([(0, 1)], 0))), (1, (0, ([], 1)))], [], [], 1)
def sg_im80b_ps : List xP := [(some (0, ([], 1)), [], [])]
set_option maxRecDepth 100000 in
set_option maxHeartbeats 4000000 in
theorem sg_im80b_ok : x_seg x_tb [] m_257 d_257 [(49, 1, 1)] 1 sg_im80b_ps sg_im80b_ns sg_im80b_os 16 false 80 sg_im80b_g = true := by decide +kernel
set_option maxRecDepth 100000 in
theorem sg_im80b_go {th : List Nat} {xs : Nat → Int32} {L J d : Nat} {K : Option Value → List pE → Prop} (hd : 0 ≤ d) {v : Nat → Int} {lv : pL} {ws : List Value} {G0 G : List pE} (hS : x_S x_tb th v sg_im80b_g lv ws G) (hE : x_eff th [(49, 1, 1)] G0 G) (hK : ∀ r G', x_Post x_tb th [(49, 1, 1)] sg_im80b_ps 1 v G0 r G' → K r G') (hO : ∀ n ∈ sg_im80b_os, ∀ (vn : Nat → Int) (lv : pL) (G1 : List pE), x_ag 1 v vn → x_S x_tb th vn (n.2.2.2.1, n.2.1, [], n.2.2.1, n.2.2.2.2.1) lv [] G1 → x_eff th [(49, 1, 1)] G0 G1 → x_Gd xs L J (d + 1) m_257 K n.1 lv [] G1) : x_Gd xs L J (d + 1) m_257 K 80 lv ws G :=
  x_seg_ok (dm := 0) x_tb_wf ⟨rfl, rfl, rfl⟩ e_257 (fun _ h => absurd h List.not_mem_nil) hd sg_im80b_ok hS hE (fun z => by cases z) hK hO
section ZM
variable {th : List Nat} {xs : Nat → Int32} {L J d a sc kb nb nk ab : Nat} {G0 : List pE} {K : Option Value → List pE → Prop}
theorem y_324 {q : Int32} (q0 : 0 ≤ q.toInt) (q1 : q.toInt ≤ 1) : ((Int16.ofInt 324).toInt32 * q).toInt = 324 * q.toInt := by
  rw [Int32.toInt_mul, show ((Int16.ofInt 324).toInt32).toInt = 324 by decide, Jvm.Kit.bmod32 (by omega) (by omega)]
theorem y_16 {q : Int32} (q0 : 0 ≤ q.toInt) (q1 : q.toInt ≤ 1) : ((Int8.ofInt 16).toInt32 * q).toInt = 16 * q.toInt := by
  rw [Int32.toInt_mul, show ((Int8.ofInt 16).toInt32).toInt = 16 by decide, Jvm.Kit.bmod32 (by omega) (by omega)]
set_option maxHeartbeats 2000000 in
set_option maxRecDepth 100000 in
theorem g_im1 {q : Int32} (q0 : 0 ≤ q.toInt) (q1 : q.toInt ≤ 1) (ta : th[a]? = some 10) (h6 : x_sl G0 a 6 = some (.ref sc)) (tc : th[sc]? = some 36) (h42 : x_sl G0 a 42 = some (.ref kb)) (tb : th[kb]? = some 47) (hI0 : xI x_tb th G0) {f : Nat → Int32} (hf : ∀ i, i < 324 → x_sl G0 sc i = some (.int (f i))) (hK : ∀ G' lv, xI x_tb th G' → (∀ c i : Nat, (c ≠ kb ∨ (i : Int) < 324 * q.toInt ∨ 324 * q.toInt + 324 ≤ (i : Int)) → x_sl G' c i = x_sl G0 c i) → (∀ i, i < 324 → x_sl G' kb (324 * q.toInt.toNat + i) = some (.int (f i))) → x_eff th [(47, 0, 647)] G0 G' → pm_get lv 0 = some (.ref a) → pm_get lv 1 = some (.int q) → x_Gd xs L J d m_257 K 49 lv [] G') : ∀ (m : Nat) (G : List pE) (lv : pL) (j : Int32), xI x_tb th G → (∀ c i : Nat, (c ≠ kb ∨ (i : Int) < 324 * q.toInt ∨ 324 * q.toInt + 324 ≤ (i : Int)) → x_sl G c i = x_sl G0 c i) → x_eff th [(47, 0, 647)] G0 G → 0 ≤ j.toInt → j.toInt ≤ 324 → (324 - j.toInt).toNat = m → (∀ i : Nat, (i : Int) < j.toInt → x_sl G kb (324 * q.toInt.toNat + i) = some (.int (f i))) → pm_get lv 0 = some (.ref a) → pm_get lv 1 = some (.int q) → pm_get lv 2 = some (.int j) → x_Gd xs L J d m_257 K 18 lv [] G := by
  have ne : a ≠ kb := fun z => by rw [z, tb] at ta; cases ta
  have ne2 : sc ≠ kb := fun z => by rw [z, tb] at tc; cases tc
  have e324 : ((Int16.ofInt 324).toInt32).toInt = 324 := by decide
  have e16 : ((Int8.ofInt 16).toInt32).toInt = 16 := by decide
  have m1 := y_324 q0 q1
  have m2 := y_16 q0 q1
  intro m
  induction m with
  | zero =>
    intro G lv j hI hO hE j0 j1 hm hj g0 g1 g2
    refine y_iln (e_257 (18, .iload_n 2, 1) (List.mem_of_getElem? (i := 12) rfl)) g2 ?_
    refine y_st (e_257 (19, .sipush 324, 3) (List.mem_of_getElem? (i := 13) rfl)) ⟨rfl, rfl, rfl, rfl⟩ ?_
    refine y_icm (e_257 (22, .if_icmp .ge 27, 3) (List.mem_of_getElem? (i := 14) rfl)) rfl (fun hc => ?_) (fun hc => ?_)
    · exact hK G lv hI hO (fun i hi => hj i (by omega)) hE g0 g1
    · have := y_hI.2.2.2.2.2.1 hc
      omega
  | succ m ih =>
    intro G lv j hI hO hE j0 j1 hm hj g0 g1 g2
    have e1 := y_add1 (t := j) (by omega)
    have h6' : x_sl G a 6 = some (.ref sc) := (hO a 6 (Or.inl ne)).trans h6
    have h42' : x_sl G a 42 = some (.ref kb) := (hO a 42 (Or.inl ne)).trans h42
    refine y_iln (e_257 (18, .iload_n 2, 1) (List.mem_of_getElem? (i := 12) rfl)) g2 ?_
    refine y_st (e_257 (19, .sipush 324, 3) (List.mem_of_getElem? (i := 13) rfl)) ⟨rfl, rfl, rfl, rfl⟩ ?_
    refine y_icm (e_257 (22, .if_icmp .ge 27, 3) (List.mem_of_getElem? (i := 14) rfl)) rfl (fun hc => ?_) (fun hc => ?_)
    · have := y_hI.2.2.2.2.1 hc
      omega
    · have hlt := y_hI.2.2.2.2.2.1 hc
      have ej : ((Int16.ofInt 324).toInt32 * q + j).toInt = 324 * q.toInt + j.toInt := by rw [y_add (by omega) (by omega)]; omega
      have hv := hf j.toInt.toNat (by omega)
      refine y_aln (e_257 (25, .aload_n 0, 1) (List.mem_of_getElem? (i := 15) rfl)) g0 ?_
      refine y_getf hI ta (e_257 (26, .getfield 69, 3) (List.mem_of_getElem? (i := 16) rfl)) u_17_69 ⟨rfl, rfl⟩ h42' ?_
      refine y_st (e_257 (29, .sipush 324, 3) (List.mem_of_getElem? (i := 17) rfl)) ⟨rfl, rfl, rfl, rfl⟩ ?_
      refine y_iln (e_257 (32, .iload_n 1, 1) (List.mem_of_getElem? (i := 18) rfl)) g1 ?_
      refine y_st (e_257 (33, .imul, 1) (List.mem_of_getElem? (i := 19) rfl)) ⟨rfl, rfl, rfl, rfl⟩ ?_
      refine y_iln (e_257 (34, .iload_n 2, 1) (List.mem_of_getElem? (i := 20) rfl)) g2 ?_
      refine y_st (e_257 (35, .iadd, 1) (List.mem_of_getElem? (i := 21) rfl)) ⟨rfl, rfl, rfl, rfl⟩ ?_
      refine y_aln (e_257 (36, .aload_n 0, 1) (List.mem_of_getElem? (i := 22) rfl)) g0 ?_
      refine y_getf hI ta (e_257 (37, .getfield 33, 3) (List.mem_of_getElem? (i := 23) rfl)) u_17_33 ⟨rfl, rfl⟩ h6' ?_
      refine y_iln (e_257 (40, .iload_n 2, 1) (List.mem_of_getElem? (i := 24) rfl)) g2 ?_
      refine y_iald hI tc (e_257 (41, .iaload, 1) (List.mem_of_getElem? (i := 25) rfl)) ⟨rfl, rfl⟩ j0 ((hO sc _ (Or.inl ne2)).trans hv) ?_
      refine y_iast hI tb (e_257 (42, .iastore, 1) (List.mem_of_getElem? (i := 26) rfl)) ⟨rfl, rfl⟩ ⟨by omega, by show _ < (648 : Int); omega⟩ (fun G1 u1 => ?_)
      rw [show ((Int16.ofInt 324).toInt32 * q + j).toInt.toNat = 324 * q.toInt.toNat + j.toInt.toNat by omega] at u1
      refine y_iinc (e_257 (43, .iinc 2 1, 3) (List.mem_of_getElem? (i := 27) rfl)) g2 (by decide) ?_
      refine y_st (e_257 (46, .goto (-28), 3) (List.mem_of_getElem? (i := 28) rfl)) ⟨rfl, rfl, rfl, rfl⟩ ?_
      refine ih G1 _ (j + Int32.ofInt 1) (hI.upd u1 tb (y_sub_ok hI0 tc (E_s2k _ (by omega) _ (by omega)) hv)) (fun c i hci => ?_) (hE.tr (x_eff.upd u1 tb (q := (47, 0, 647)) List.mem_cons_self rfl (Nat.zero_le _) (by show _ ≤ 647; omega))) (by omega) (by omega) (by omega) (fun i hi => ?_) (y_gpr g0 (by decide)) (y_gpi g1 (by decide)) x_get_self
      · rw [u1.2.1, if_neg (fun z => by omega)]
        exact hO c i hci
      · rw [u1.2.1]
        by_cases hij : i = j.toInt.toNat
        · rw [if_pos ⟨rfl, by omega⟩, hij]
        · rw [if_neg (fun z => by omega)]
          exact hj i (by omega)
set_option maxHeartbeats 2000000 in
set_option maxRecDepth 100000 in
theorem g_im2 {q : Int32} (q0 : 0 ≤ q.toInt) (q1 : q.toInt ≤ 1) (ta : th[a]? = some 10) (h9 : x_sl G0 a 9 = some (.ref nb)) (tc : th[nb]? = some 39) (h43 : x_sl G0 a 43 = some (.ref nk)) (tb : th[nk]? = some 48) {f : Nat → Int64} (hf : ∀ i, i < 32 → x_sl G0 nb i = some (.long (f i))) (hK : ∀ G' lv, xI x_tb th G' → (∀ c i : Nat, (c ≠ nk ∨ (i : Int) < 16 * q.toInt ∨ 16 * q.toInt + 16 ≤ (i : Int)) → x_sl G' c i = x_sl G0 c i) → (∀ i, i < 16 → x_sl G' nk (16 * q.toInt.toNat + i) = some (.long (f i))) → x_eff th [(48, 0, 31)] G0 G' → pm_get lv 0 = some (.ref a) → pm_get lv 1 = some (.int q) → x_Gd xs L J d m_257 K 80 lv [] G') : ∀ (m : Nat) (G : List pE) (lv : pL) (j : Int32), xI x_tb th G → (∀ c i : Nat, (c ≠ nk ∨ (i : Int) < 16 * q.toInt ∨ 16 * q.toInt + 16 ≤ (i : Int)) → x_sl G c i = x_sl G0 c i) → x_eff th [(48, 0, 31)] G0 G → 0 ≤ j.toInt → j.toInt ≤ 16 → (16 - j.toInt).toNat = m → (∀ i : Nat, (i : Int) < j.toInt → x_sl G nk (16 * q.toInt.toNat + i) = some (.long (f i))) → pm_get lv 0 = some (.ref a) → pm_get lv 1 = some (.int q) → pm_get lv 2 = some (.int j) → x_Gd xs L J d m_257 K 51 lv [] G := by
  have ne : a ≠ nk := fun z => by rw [z, tb] at ta; cases ta
  have ne2 : nb ≠ nk := fun z => by rw [z, tb] at tc; cases tc
  have e324 : ((Int16.ofInt 324).toInt32).toInt = 324 := by decide
  have e16 : ((Int8.ofInt 16).toInt32).toInt = 16 := by decide
  have m1 := y_324 q0 q1
  have m2 := y_16 q0 q1
  intro m
  induction m with
  | zero =>
    intro G lv j hI hO hE j0 j1 hm hj g0 g1 g2
    refine y_iln (e_257 (51, .iload_n 2, 1) (List.mem_of_getElem? (i := 31) rfl)) g2 ?_
    refine y_st (e_257 (52, .bipush 16, 2) (List.mem_of_getElem? (i := 32) rfl)) ⟨rfl, rfl, rfl, rfl⟩ ?_
    refine y_icm (e_257 (54, .if_icmp .ge 26, 3) (List.mem_of_getElem? (i := 33) rfl)) rfl (fun hc => ?_) (fun hc => ?_)
    · exact hK G lv hI hO (fun i hi => hj i (by omega)) hE g0 g1
    · have := y_hI.2.2.2.2.2.1 hc
      omega
  | succ m ih =>
    intro G lv j hI hO hE j0 j1 hm hj g0 g1 g2
    have e1 := y_add1 (t := j) (by omega)
    have h9' : x_sl G a 9 = some (.ref nb) := (hO a 9 (Or.inl ne)).trans h9
    have h43' : x_sl G a 43 = some (.ref nk) := (hO a 43 (Or.inl ne)).trans h43
    refine y_iln (e_257 (51, .iload_n 2, 1) (List.mem_of_getElem? (i := 31) rfl)) g2 ?_
    refine y_st (e_257 (52, .bipush 16, 2) (List.mem_of_getElem? (i := 32) rfl)) ⟨rfl, rfl, rfl, rfl⟩ ?_
    refine y_icm (e_257 (54, .if_icmp .ge 26, 3) (List.mem_of_getElem? (i := 33) rfl)) rfl (fun hc => ?_) (fun hc => ?_)
    · have := y_hI.2.2.2.2.1 hc
      omega
    · have hlt := y_hI.2.2.2.2.2.1 hc
      have ej : ((Int8.ofInt 16).toInt32 * q + j).toInt = 16 * q.toInt + j.toInt := by rw [y_add (by omega) (by omega)]; omega
      have hv := hf j.toInt.toNat (by omega)
      refine y_aln (e_257 (57, .aload_n 0, 1) (List.mem_of_getElem? (i := 34) rfl)) g0 ?_
      refine y_getf hI ta (e_257 (58, .getfield 72, 3) (List.mem_of_getElem? (i := 35) rfl)) u_17_72 ⟨rfl, rfl⟩ h43' ?_
      refine y_st (e_257 (61, .bipush 16, 2) (List.mem_of_getElem? (i := 36) rfl)) ⟨rfl, rfl, rfl, rfl⟩ ?_
      refine y_iln (e_257 (63, .iload_n 1, 1) (List.mem_of_getElem? (i := 37) rfl)) g1 ?_
      refine y_st (e_257 (64, .imul, 1) (List.mem_of_getElem? (i := 38) rfl)) ⟨rfl, rfl, rfl, rfl⟩ ?_
      refine y_iln (e_257 (65, .iload_n 2, 1) (List.mem_of_getElem? (i := 39) rfl)) g2 ?_
      refine y_st (e_257 (66, .iadd, 1) (List.mem_of_getElem? (i := 40) rfl)) ⟨rfl, rfl, rfl, rfl⟩ ?_
      refine y_aln (e_257 (67, .aload_n 0, 1) (List.mem_of_getElem? (i := 41) rfl)) g0 ?_
      refine y_getf hI ta (e_257 (68, .getfield 43, 3) (List.mem_of_getElem? (i := 42) rfl)) u_17_43 ⟨rfl, rfl⟩ h9' ?_
      refine y_iln (e_257 (71, .iload_n 2, 1) (List.mem_of_getElem? (i := 43) rfl)) g2 ?_
      refine y_lald hI tc (e_257 (72, .laload, 1) (List.mem_of_getElem? (i := 44) rfl)) ⟨rfl, rfl⟩ j0 ((hO nb _ (Or.inl ne2)).trans hv) ?_
      refine y_last hI tb (e_257 (73, .lastore, 1) (List.mem_of_getElem? (i := 45) rfl)) ⟨rfl, rfl⟩ ⟨by omega, by show _ < (32 : Int); omega⟩ (fun G1 u1 => ?_)
      rw [show ((Int8.ofInt 16).toInt32 * q + j).toInt.toNat = 16 * q.toInt.toNat + j.toInt.toNat by omega] at u1
      refine y_iinc (e_257 (74, .iinc 2 1, 3) (List.mem_of_getElem? (i := 46) rfl)) g2 (by decide) ?_
      refine y_st (e_257 (77, .goto (-26), 3) (List.mem_of_getElem? (i := 47) rfl)) ⟨rfl, rfl, rfl, rfl⟩ ?_
      refine ih G1 _ (j + Int32.ofInt 1) (hI.upd u1 tb (y_okL (y_one (show 16 * q.toInt.toNat + j.toInt.toNat < 32 by omega)))) (fun c i hci => ?_) (hE.tr (x_eff.upd u1 tb (q := (48, 0, 31)) List.mem_cons_self rfl (Nat.zero_le _) (by show _ ≤ 31; omega))) (by omega) (by omega) (by omega) (fun i hi => ?_) (y_gpr g0 (by decide)) (y_gpi g1 (by decide)) x_get_self
      · rw [u1.2.1, if_neg (fun z => by omega)]
        exact hO c i hci
      · rw [u1.2.1]
        by_cases hij : i = j.toInt.toNat
        · rw [if_pos ⟨rfl, by omega⟩, hij]
        · rw [if_neg (fun z => by omega)]
          exact hj i (by omega)
end ZM
