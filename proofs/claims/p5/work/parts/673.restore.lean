def d_258 : xD := [(0, .aload_n 0, 1), (1, .iconst 0, 1), (2, .putfield 1, 3), (5, .iload_n 1, 1), (6, .iconst 0, 1), (7, .iconst 1, 1), (8, .invokestatic 173, 3), (11, .ifCond .eq 12, 3), (14, .aload_n 0, 1), (15, .getfield 75, 3), (18, .iload_n 1, 1), (19, .baload, 1), (20, .ifCond .ne 5, 3), (23, .iconst 0, 1), (24, .ireturn, 1), (25, .iconst 0, 1), (26, .istore_n 2, 1), (27, .iload_n 2, 1), (28, .sipush 324, 3), (31, .if_icmp .ge 27, 3), (34, .aload_n 0, 1), (35, .getfield 33, 3), (38, .iload_n 2, 1), (39, .aload_n 0, 1), (40, .getfield 69, 3), (43, .sipush 324, 3), (46, .iload_n 1, 1), (47, .imul, 1), (48, .iload_n 2, 1), (49, .iadd, 1), (50, .iaload, 1), (51, .iastore, 1), (52, .iinc 2 1, 3), (55, .goto (-28), 3), (58, .iconst 0, 1), (59, .istore_n 2, 1), (60, .iload_n 2, 1), (61, .bipush 16, 2), (63, .if_icmp .ge 26, 3), (66, .aload_n 0, 1), (67, .getfield 43, 3), (70, .iload_n 2, 1), (71, .aload_n 0, 1), (72, .getfield 72, 3), (75, .bipush 16, 2), (77, .iload_n 1, 1), (78, .imul, 1), (79, .iload_n 2, 1), (80, .iadd, 1), (81, .laload, 1), (82, .lastore, 1), (83, .iinc 2 1, 3), (86, .goto (-26), 3), (89, .aload_n 0, 1), (90, .iconst 0, 1), (91, .putfield 229, 3), (94, .iconst 1, 1), (95, .ireturn, 1)]
set_option maxRecDepth 100000 in
theorem d_258_ok : x_dchk 258 d_258 = true := by decide +kernel
def m_258 : pM := (⟨"BreathingHillModel", "restore", "(I)Z"⟩, 1861, 3, some (FieldType.boolean), 17, 1, false, 10, 103, 1859, 1860)
set_option maxRecDepth 100000 in
theorem m_258_ok : pm_tab[258]? = some m_258 := rfl
theorem e_258 : ∀ q ∈ d_258, decode m_258.code q.1 = .ok (q.2.1, q.2.2) := y_dec d_258_ok m_258_ok
def sg_rs0_ns : List xN := []
def sg_rs0_os : List xN := [(14, [(0, (20, ([(0, 1)], 0))), (1, (0, ([(1, 1)], 0)))], [], [([(1, 1)], 0), ([(1, -1)], 1)], 2, [([], 0), ([], 0), ([], 0), ([], 0), ([], 0)])]
def sg_rs0_g : xG := ([], [(0, (20, ([(0, 1)], 0))), (1, (0, ([(1, 1)], 0)))], [], [], 2)
def sg_rs0_ps : List xP := [(some (0, ([], 0)), [([(1, -1)], -1)], []), (some (0, ([], 0)), [([(1, 1)], -2)], [])]
set_option maxRecDepth 100000 in
set_option maxHeartbeats 4000000 in
theorem sg_rs0_ok : x_seg x_tb [c_305] m_258 d_258 E_th 2 sg_rs0_ps sg_rs0_ns sg_rs0_os 19 false 0 sg_rs0_g = true := by decide +kernel
set_option maxRecDepth 100000 in
theorem sg_rs0_go {th : List Nat} {xs : Nat → Int32} {L J d : Nat} {K : Option Value → List pE → Prop} (hd : 306 ≤ d) {v : Nat → Int} {lv : pL} {ws : List Value} {G0 G : List pE} (hS : x_S x_tb th v sg_rs0_g lv ws G) (hE : x_eff th E_th G0 G) (hK : ∀ r G', x_Post x_tb th E_th sg_rs0_ps 2 v G0 r G' → K r G') (hO : ∀ n ∈ sg_rs0_os, ∀ (vn : Nat → Int) (lv : pL) (G1 : List pE), x_ag 2 v vn → x_S x_tb th vn (n.2.2.2.1, n.2.1, [], n.2.2.1, n.2.2.2.2.1) lv [] G1 → x_eff th E_th G0 G1 → x_Gd xs L J (d + 1) m_258 K n.1 lv [] G1) : x_Gd xs L J (d + 1) m_258 K 0 lv ws G :=
  x_seg_ok (dm := 306) x_tb_wf ⟨rfl, rfl, rfl⟩ e_258 (List.forall_mem_cons.mpr ⟨(h_305 th xs L J).mono (by omega), fun _ h => absurd h List.not_mem_nil⟩) hd sg_rs0_ok hS hE (fun z => by cases z) hK hO
def sg_rs89_ns : List xN := []
def sg_rs89_os : List xN := []
def sg_rs89_g : xG := ([], [(0, (20, ([(0, 1)], 0)))], [], [], 1)
def sg_rs89_ps : List xP := [(some (0, ([], 1)), [], [])]
set_option maxRecDepth 100000 in
set_option maxHeartbeats 4000000 in
theorem sg_rs89_ok : x_seg x_tb [] m_258 d_258 [(10, 28, 28)] 1 sg_rs89_ps sg_rs89_ns sg_rs89_os 14 false 89 sg_rs89_g = true := by decide +kernel
set_option maxRecDepth 100000 in
theorem sg_rs89_go {th : List Nat} {xs : Nat → Int32} {L J d : Nat} {K : Option Value → List pE → Prop} (hd : 0 ≤ d) {v : Nat → Int} {lv : pL} {ws : List Value} {G0 G : List pE} (hS : x_S x_tb th v sg_rs89_g lv ws G) (hE : x_eff th [(10, 28, 28)] G0 G) (hK : ∀ r G', x_Post x_tb th [(10, 28, 28)] sg_rs89_ps 1 v G0 r G' → K r G') (hO : ∀ n ∈ sg_rs89_os, ∀ (vn : Nat → Int) (lv : pL) (G1 : List pE), x_ag 1 v vn → x_S x_tb th vn (n.2.2.2.1, n.2.1, [], n.2.2.1, n.2.2.2.2.1) lv [] G1 → x_eff th [(10, 28, 28)] G0 G1 → x_Gd xs L J (d + 1) m_258 K n.1 lv [] G1) : x_Gd xs L J (d + 1) m_258 K 89 lv ws G :=
  x_seg_ok (dm := 0) x_tb_wf ⟨rfl, rfl, rfl⟩ e_258 (fun _ h => absurd h List.not_mem_nil) hd sg_rs89_ok hS hE (fun z => by cases z) hK hO
section ZR
variable {th : List Nat} {xs : Nat → Int32} {L J d a sc kb nb nk ab : Nat} {G0 : List pE} {K : Option Value → List pE → Prop}
set_option maxHeartbeats 2000000 in
set_option maxRecDepth 100000 in
theorem g_rs1 {q : Int32} (q0 : 0 ≤ q.toInt) (q1 : q.toInt ≤ 1) (ta : th[a]? = some 10) (h6 : x_sl G0 a 6 = some (.ref sc)) (tc : th[sc]? = some 36) (h42 : x_sl G0 a 42 = some (.ref kb)) (tb : th[kb]? = some 47) (hI0 : xI x_tb th G0) {f : Nat → Int32} (hf : ∀ i, i < 324 → x_sl G0 kb (324 * q.toInt.toNat + i) = some (.int (f i))) (p6 : 1 ≤ (f 6).toInt) (p11 : 1 ≤ (f 11).toInt) (hK : ∀ G' lv, xI x_tb th G' → (∀ c i : Nat, c ≠ sc → x_sl G' c i = x_sl G0 c i) → (∀ i, i < 324 → x_sl G' sc i = some (.int (f i))) → x_eff th [(36, 0, 323)] G0 G' → pm_get lv 0 = some (.ref a) → pm_get lv 1 = some (.int q) → x_Gd xs L J d m_258 K 58 lv [] G') : ∀ (m : Nat) (G : List pE) (lv : pL) (j : Int32), xI x_tb th G → (∀ c i : Nat, c ≠ sc → x_sl G c i = x_sl G0 c i) → x_eff th [(36, 0, 323)] G0 G → 0 ≤ j.toInt → j.toInt ≤ 324 → (324 - j.toInt).toNat = m → (∀ i : Nat, (i : Int) < j.toInt → x_sl G sc i = some (.int (f i))) → pm_get lv 0 = some (.ref a) → pm_get lv 1 = some (.int q) → pm_get lv 2 = some (.int j) → x_Gd xs L J d m_258 K 27 lv [] G := by
  have ne : a ≠ sc := fun z => by rw [z, tc] at ta; cases ta
  have ne2 : kb ≠ sc := fun z => by rw [z, tc] at tb; cases tb
  have typ : ∀ i, i < 324 → ∀ f', x_at (x_tb 36).2.2.2 i = some f' → xf_ok th f' (.int (f i)) := fun i hi => by
    by_cases h6 : i = 6
    · subst h6
      exact y_okI (lo := 1) (hi := 12) rfl p6 (y_fie hI0 tb (E_k6 q.toInt.toNat (by omega)).1 (hf 6 (by decide))).2
    · by_cases h11 : i = 11
      · subst h11
        exact y_okI (lo := 1) (hi := 20) rfl p11 (y_fie hI0 tb (E_k6 q.toInt.toNat (by omega)).2 (hf 11 (by decide))).2
      · exact y_sub_ok hI0 tb (E_k2s q.toInt.toNat (by omega) i hi h6 h11) (hf i hi)
  have e324 : ((Int16.ofInt 324).toInt32).toInt = 324 := by decide
  have e16 : ((Int8.ofInt 16).toInt32).toInt = 16 := by decide
  have m1 := y_324 q0 q1
  have m2 := y_16 q0 q1
  intro m
  induction m with
  | zero =>
    intro G lv j hI hO hE j0 j1 hm hj g0 g1 g2
    refine y_iln (e_258 (27, .iload_n 2, 1) (List.mem_of_getElem? (i := 17) rfl)) g2 ?_
    refine y_st (e_258 (28, .sipush 324, 3) (List.mem_of_getElem? (i := 18) rfl)) ⟨rfl, rfl, rfl, rfl⟩ ?_
    refine y_icm (e_258 (31, .if_icmp .ge 27, 3) (List.mem_of_getElem? (i := 19) rfl)) rfl (fun hc => ?_) (fun hc => ?_)
    · exact hK G lv hI hO (fun i hi => hj i (by omega)) hE g0 g1
    · have := y_hI.2.2.2.2.2.1 hc
      omega
  | succ m ih =>
    intro G lv j hI hO hE j0 j1 hm hj g0 g1 g2
    have e1 := y_add1 (t := j) (by omega)
    have h6' : x_sl G a 6 = some (.ref sc) := (hO a 6 ne).trans h6
    have h42' : x_sl G a 42 = some (.ref kb) := (hO a 42 ne).trans h42
    refine y_iln (e_258 (27, .iload_n 2, 1) (List.mem_of_getElem? (i := 17) rfl)) g2 ?_
    refine y_st (e_258 (28, .sipush 324, 3) (List.mem_of_getElem? (i := 18) rfl)) ⟨rfl, rfl, rfl, rfl⟩ ?_
    refine y_icm (e_258 (31, .if_icmp .ge 27, 3) (List.mem_of_getElem? (i := 19) rfl)) rfl (fun hc => ?_) (fun hc => ?_)
    · have := y_hI.2.2.2.2.1 hc
      omega
    · have hlt := y_hI.2.2.2.2.2.1 hc
      have ej : ((Int16.ofInt 324).toInt32 * q + j).toInt = 324 * q.toInt + j.toInt := by rw [y_add (by omega) (by omega)]; omega
      have hv := hf j.toInt.toNat (by omega)
      rw [show 324 * q.toInt.toNat + j.toInt.toNat = ((Int16.ofInt 324).toInt32 * q + j).toInt.toNat by omega] at hv
      refine y_aln (e_258 (34, .aload_n 0, 1) (List.mem_of_getElem? (i := 20) rfl)) g0 ?_
      refine y_getf hI ta (e_258 (35, .getfield 33, 3) (List.mem_of_getElem? (i := 21) rfl)) u_17_33 ⟨rfl, rfl⟩ h6' ?_
      refine y_iln (e_258 (38, .iload_n 2, 1) (List.mem_of_getElem? (i := 22) rfl)) g2 ?_
      refine y_aln (e_258 (39, .aload_n 0, 1) (List.mem_of_getElem? (i := 23) rfl)) g0 ?_
      refine y_getf hI ta (e_258 (40, .getfield 69, 3) (List.mem_of_getElem? (i := 24) rfl)) u_17_69 ⟨rfl, rfl⟩ h42' ?_
      refine y_st (e_258 (43, .sipush 324, 3) (List.mem_of_getElem? (i := 25) rfl)) ⟨rfl, rfl, rfl, rfl⟩ ?_
      refine y_iln (e_258 (46, .iload_n 1, 1) (List.mem_of_getElem? (i := 26) rfl)) g1 ?_
      refine y_st (e_258 (47, .imul, 1) (List.mem_of_getElem? (i := 27) rfl)) ⟨rfl, rfl, rfl, rfl⟩ ?_
      refine y_iln (e_258 (48, .iload_n 2, 1) (List.mem_of_getElem? (i := 28) rfl)) g2 ?_
      refine y_st (e_258 (49, .iadd, 1) (List.mem_of_getElem? (i := 29) rfl)) ⟨rfl, rfl, rfl, rfl⟩ ?_
      refine y_iald hI tb (e_258 (50, .iaload, 1) (List.mem_of_getElem? (i := 30) rfl)) ⟨rfl, rfl⟩ (by omega) ((hO kb _ ne2).trans hv) ?_
      refine y_iast hI tc (e_258 (51, .iastore, 1) (List.mem_of_getElem? (i := 31) rfl)) ⟨rfl, rfl⟩ ⟨by omega, by show _ < (324 : Int); omega⟩ (fun G1 u1 => ?_)
      refine y_iinc (e_258 (52, .iinc 2 1, 3) (List.mem_of_getElem? (i := 32) rfl)) g2 (by decide) ?_
      refine y_st (e_258 (55, .goto (-28), 3) (List.mem_of_getElem? (i := 33) rfl)) ⟨rfl, rfl, rfl, rfl⟩ ?_
      refine ih G1 _ (j + Int32.ofInt 1) (hI.upd u1 tc (typ _ (by omega))) (y_updO hO u1) (hE.tr (x_eff.upd u1 tc (q := (36, 0, 323)) List.mem_cons_self rfl (Nat.zero_le _) (by show _ ≤ 323; omega))) (by omega) (by omega) (by omega) (fun i hi => ?_) (y_gpr g0 (by decide)) (y_gpi g1 (by decide)) x_get_self
      rw [u1.2.1]
      by_cases hij : i = j.toInt.toNat
      · rw [if_pos ⟨rfl, by omega⟩, hij]
      · rw [if_neg (fun z => by omega)]
        exact hj i (by omega)
set_option maxHeartbeats 2000000 in
set_option maxRecDepth 100000 in
theorem g_rs2 {q : Int32} (q0 : 0 ≤ q.toInt) (q1 : q.toInt ≤ 1) (ta : th[a]? = some 10) (h9 : x_sl G0 a 9 = some (.ref nb)) (tc : th[nb]? = some 39) (h43 : x_sl G0 a 43 = some (.ref nk)) (tb : th[nk]? = some 48) {f : Nat → Int64} (hf : ∀ i, i < 32 → x_sl G0 nk i = some (.long (f i))) (hK : ∀ G' lv, xI x_tb th G' → (∀ c i : Nat, c ≠ nb → x_sl G' c i = x_sl G0 c i) → (∀ i, i < 16 → x_sl G' nb i = some (.long (f (16 * q.toInt.toNat + i)))) → x_eff th [(39, 0, 31)] G0 G' → pm_get lv 0 = some (.ref a) → pm_get lv 1 = some (.int q) → x_Gd xs L J d m_258 K 89 lv [] G') : ∀ (m : Nat) (G : List pE) (lv : pL) (j : Int32), xI x_tb th G → (∀ c i : Nat, c ≠ nb → x_sl G c i = x_sl G0 c i) → x_eff th [(39, 0, 31)] G0 G → 0 ≤ j.toInt → j.toInt ≤ 16 → (16 - j.toInt).toNat = m → (∀ i : Nat, (i : Int) < j.toInt → x_sl G nb i = some (.long (f (16 * q.toInt.toNat + i)))) → pm_get lv 0 = some (.ref a) → pm_get lv 1 = some (.int q) → pm_get lv 2 = some (.int j) → x_Gd xs L J d m_258 K 60 lv [] G := by
  have ne : a ≠ nb := fun z => by rw [z, tc] at ta; cases ta
  have ne2 : nk ≠ nb := fun z => by rw [z, tc] at tb; cases tb
  have e324 : ((Int16.ofInt 324).toInt32).toInt = 324 := by decide
  have e16 : ((Int8.ofInt 16).toInt32).toInt = 16 := by decide
  have m1 := y_324 q0 q1
  have m2 := y_16 q0 q1
  intro m
  induction m with
  | zero =>
    intro G lv j hI hO hE j0 j1 hm hj g0 g1 g2
    refine y_iln (e_258 (60, .iload_n 2, 1) (List.mem_of_getElem? (i := 36) rfl)) g2 ?_
    refine y_st (e_258 (61, .bipush 16, 2) (List.mem_of_getElem? (i := 37) rfl)) ⟨rfl, rfl, rfl, rfl⟩ ?_
    refine y_icm (e_258 (63, .if_icmp .ge 26, 3) (List.mem_of_getElem? (i := 38) rfl)) rfl (fun hc => ?_) (fun hc => ?_)
    · exact hK G lv hI hO (fun i hi => hj i (by omega)) hE g0 g1
    · have := y_hI.2.2.2.2.2.1 hc
      omega
  | succ m ih =>
    intro G lv j hI hO hE j0 j1 hm hj g0 g1 g2
    have e1 := y_add1 (t := j) (by omega)
    have h9' : x_sl G a 9 = some (.ref nb) := (hO a 9 ne).trans h9
    have h43' : x_sl G a 43 = some (.ref nk) := (hO a 43 ne).trans h43
    refine y_iln (e_258 (60, .iload_n 2, 1) (List.mem_of_getElem? (i := 36) rfl)) g2 ?_
    refine y_st (e_258 (61, .bipush 16, 2) (List.mem_of_getElem? (i := 37) rfl)) ⟨rfl, rfl, rfl, rfl⟩ ?_
    refine y_icm (e_258 (63, .if_icmp .ge 26, 3) (List.mem_of_getElem? (i := 38) rfl)) rfl (fun hc => ?_) (fun hc => ?_)
    · have := y_hI.2.2.2.2.1 hc
      omega
    · have hlt := y_hI.2.2.2.2.2.1 hc
      have ej : ((Int8.ofInt 16).toInt32 * q + j).toInt = 16 * q.toInt + j.toInt := by rw [y_add (by omega) (by omega)]; omega
      have en : ((Int8.ofInt 16).toInt32 * q + j).toInt.toNat = 16 * q.toInt.toNat + j.toInt.toNat := by omega
      have hv := hf (16 * q.toInt.toNat + j.toInt.toNat) (by omega)
      refine y_aln (e_258 (66, .aload_n 0, 1) (List.mem_of_getElem? (i := 39) rfl)) g0 ?_
      refine y_getf hI ta (e_258 (67, .getfield 43, 3) (List.mem_of_getElem? (i := 40) rfl)) u_17_43 ⟨rfl, rfl⟩ h9' ?_
      refine y_iln (e_258 (70, .iload_n 2, 1) (List.mem_of_getElem? (i := 41) rfl)) g2 ?_
      refine y_aln (e_258 (71, .aload_n 0, 1) (List.mem_of_getElem? (i := 42) rfl)) g0 ?_
      refine y_getf hI ta (e_258 (72, .getfield 72, 3) (List.mem_of_getElem? (i := 43) rfl)) u_17_72 ⟨rfl, rfl⟩ h43' ?_
      refine y_st (e_258 (75, .bipush 16, 2) (List.mem_of_getElem? (i := 44) rfl)) ⟨rfl, rfl, rfl, rfl⟩ ?_
      refine y_iln (e_258 (77, .iload_n 1, 1) (List.mem_of_getElem? (i := 45) rfl)) g1 ?_
      refine y_st (e_258 (78, .imul, 1) (List.mem_of_getElem? (i := 46) rfl)) ⟨rfl, rfl, rfl, rfl⟩ ?_
      refine y_iln (e_258 (79, .iload_n 2, 1) (List.mem_of_getElem? (i := 47) rfl)) g2 ?_
      refine y_st (e_258 (80, .iadd, 1) (List.mem_of_getElem? (i := 48) rfl)) ⟨rfl, rfl, rfl, rfl⟩ ?_
      refine y_lald hI tb (e_258 (81, .laload, 1) (List.mem_of_getElem? (i := 49) rfl)) ⟨rfl, rfl⟩ (by omega) (by rw [en]; exact (hO nk _ ne2).trans hv) ?_
      refine y_last hI tc (e_258 (82, .lastore, 1) (List.mem_of_getElem? (i := 50) rfl)) ⟨rfl, rfl⟩ ⟨by omega, by show _ < (32 : Int); omega⟩ (fun G1 u1 => ?_)
      refine y_iinc (e_258 (83, .iinc 2 1, 3) (List.mem_of_getElem? (i := 51) rfl)) g2 (by decide) ?_
      refine y_st (e_258 (86, .goto (-26), 3) (List.mem_of_getElem? (i := 52) rfl)) ⟨rfl, rfl, rfl, rfl⟩ ?_
      refine ih G1 _ (j + Int32.ofInt 1) (hI.upd u1 tc (y_okL (y_one (show j.toInt.toNat < 32 by omega)))) (y_updO hO u1) (hE.tr (x_eff.upd u1 tc (q := (39, 0, 31)) List.mem_cons_self rfl (Nat.zero_le _) (by show _ ≤ 31; omega))) (by omega) (by omega) (by omega) (fun i hi => ?_) (y_gpr g0 (by decide)) (y_gpi g1 (by decide)) x_get_self
      rw [u1.2.1]
      by_cases hij : i = j.toInt.toNat
      · rw [if_pos ⟨rfl, by omega⟩, hij]
      · rw [if_neg (fun z => by omega)]
        exact hj i (by omega)
def E_rst : List (Nat × Nat × Nat) := [(10, 0, 0), (10, 28, 28), (36, 0, 323), (39, 0, 31)]
set_option maxHeartbeats 2000000 in
set_option maxRecDepth 100000 in
theorem g_restore (hd : 306 ≤ d) {q : Int32} {G : List pE} (ta : th[a]? = some 10) (hU : ∀ b b' : Nat, th[b]? = some 36 → th[b']? = some 36 → b = b') (hV : z_IV th a G) : x_Gd xs L J (d + 1) m_258 (fun r G' => z_IV th a G' ∧ x_eff th E_rst G G' ∧ ∃ y : Int32, r = some (.int y) ∧ (y = 0 ∨ y = 1) ∧ (y = 1 ↔ 0 ≤ q.toInt ∧ q.toInt ≤ 1 ∧ ∃ ab : Nat, x_sl G a 44 = some (.ref ab) ∧ ∃ x : Int32, x_sl G ab q.toInt.toNat = some (.int x) ∧ x ≠ 0)) 0 (lv_args 0 [.ref a, .int q]) [] G := by
  have hI := hV.1
  refine sg_rs0_go (d := d) (by omega) (v := (y_v [(a : Int), q.toInt])) (G0 := G) ⟨y_v_Bd (List.forall_mem_cons.mpr ⟨(y_cellB hI ta), (List.forall_mem_cons.mpr ⟨(x_i32 q), (fun _ h => absurd h List.not_mem_nil)⟩)⟩), (fun _ h => absurd h List.not_mem_nil), (List.forall_mem_cons.mpr ⟨⟨_, rfl, a, rfl, (by simp only [xl_ev, xt_ev, y_v, List.getD_cons_succ, List.getD_cons_zero]; omega), ta⟩, (List.forall_mem_cons.mpr ⟨⟨_, rfl, q, rfl, (by simp only [xl_ev, xt_ev, y_v, List.getD_cons_succ, List.getD_cons_zero]; omega)⟩, (fun _ h => absurd h List.not_mem_nil)⟩)⟩), trivial, (fun _ h => absurd h List.not_mem_nil), hI⟩ x_eff.rf (fun r G' h => ?_) (fun n hn vn lv G1 hag hS1 hE1 => ?_)
  · obtain ⟨v', hag, -, hI', ef, p, hp, pc, pf, pa⟩ := h
    have z1 : v' 1 = q.toInt := hag 1 (by decide)
    simp only [sg_rs0_ps, List.mem_cons, List.not_mem_nil, or_false] at hp
    rcases hp with rfl | rfl
    · obtain ⟨y, rfl, hy⟩ := y_p1 pa
      have c := pc _ (List.mem_of_getElem? (i := 0) rfl)
      simp only [xl_ev, xt_ev] at c
      obtain rfl : y = 0 := y_i0 hy
      exact ⟨hV.eff ta hI' ef rfl rfl (by decide) rfl rfl, ef.sub (by decide), 0, rfl, Or.inl rfl, fun z => absurd z (by decide), fun z => by omega⟩
    · obtain ⟨y, rfl, hy⟩ := y_p1 pa
      have c := pc _ (List.mem_of_getElem? (i := 0) rfl)
      simp only [xl_ev, xt_ev] at c
      obtain rfl : y = 0 := y_i0 hy
      exact ⟨hV.eff ta hI' ef rfl rfl (by decide) rfl rfl, ef.sub (by decide), 0, rfl, Or.inl rfl, fun z => absurd z (by decide), fun z => by omega⟩
  obtain rfl : n = _ := List.mem_singleton.mp hn
  have z0 : vn 0 = (a : Int) := hag 0 (by decide)
  have z1 : vn 1 = q.toInt := hag 1 (by decide)
  have g0 := hS1.loCe (i := 0) (t := 10) (l := ([(0, 1)], 0)) (a := a) (List.mem_of_getElem? (i := 0) rfl) (by simp only [xl_ev, xt_ev]; omega)
  have g1 := hS1.lo0e (i := 1) (l := ([(1, 1)], 0)) (x := q) (List.mem_of_getElem? (i := 1) rfl) (by simp only [xl_ev, xt_ev]; omega)
  have q0 := hS1.2.1 ([(1, 1)], 0) (List.mem_of_getElem? (i := 0) rfl)
  have q1 := hS1.2.1 ([(1, -1)], 1) (List.mem_of_getElem? (i := 1) rfl)
  simp only [xl_ev, xt_ev] at q0 q1
  replace q0 : 0 ≤ q.toInt := by omega
  replace q1 : q.toInt ≤ 1 := by omega
  have hI1 := hS1.2.2.2.2.2
  have hV1 : z_IV th a G1 := hV.eff ta hI1 hE1 rfl rfl (by decide) rfl rfl
  obtain ⟨-, hQ1, ⟨nb, sc, k9, tnb, k6, tsc, hDD⟩, kb, nk, ab, k42, tkb, k43, tnk, k44, tab, hK1⟩ := id hV1
  obtain ⟨x, hx, -⟩ := y_fi (i := q.toInt.toNat) (t := 49) (lo := 0) (hi := 1) hI1 tab (y_one (by omega))
  have k440 : x_sl G a 44 = some (.ref ab) := by rw [← hE1.at ta rfl]; exact k44
  have hx0 : x_sl G ab q.toInt.toNat = some (.int x) := by rw [← hE1.at tab rfl]; exact hx
  refine y_aln (e_258 (14, .aload_n 0, 1) (List.mem_of_getElem? (i := 8) rfl)) g0 ?_
  refine y_getf hI1 ta (e_258 (15, .getfield 75, 3) (List.mem_of_getElem? (i := 9) rfl)) u_17_75 ⟨rfl, rfl⟩ k44 ?_
  refine y_iln (e_258 (18, .iload_n 1, 1) (List.mem_of_getElem? (i := 10) rfl)) g1 ?_
  refine y_bald hI1 tab (e_258 (19, .baload, 1) (List.mem_of_getElem? (i := 11) rfl)) ⟨rfl, Or.inr rfl⟩ q0 hx ?_
  refine y_ifc (e_258 (20, .ifCond .ne 5, 3) (List.mem_of_getElem? (i := 12) rfl)) rfl (fun hb => ?_) (fun hb => ?_)
  · have xne : x ≠ 0 := y_hI.2.2.1 hb
    have hS := hK1 q.toInt.toNat (by omega) x hx xne
    obtain ⟨kf, hkf⟩ := y_iarr (t := 47) (n := 648) hI1 tkb rfl rfl
    obtain ⟨nm, hnm⟩ := y_larr (t := 48) (n := 32) hI1 tnk rfl
    have ne1 : a ≠ sc := fun z => by rw [z, tsc] at ta; cases ta
    have ne2 : nk ≠ sc := fun z => by rw [z, tsc] at tnk; cases tnk
    have ne3 : a ≠ nb := fun z => by rw [z, tnb] at ta; cases ta
    have ne4 : sc ≠ nb := fun z => by rw [z, tnb] at tsc; cases tsc
    have hf : ∀ i, i < 324 → x_sl G1 kb (324 * q.toInt.toNat + i) = some (.int (kf (324 * q.toInt.toNat + i))) := fun i hi => hkf _ (by omega)
    refine y_st (e_258 (25, .iconst 0, 1) (List.mem_of_getElem? (i := 15) rfl)) ⟨rfl, rfl, rfl, rfl⟩ ?_
    refine y_isn (e_258 (26, .istore_n 2, 1) (List.mem_of_getElem? (i := 16) rfl)) (by decide) ?_
    refine g_rs1 (G0 := G1) (kb := kb) (sc := sc) (f := fun i => kf (324 * q.toInt.toNat + i)) q0 q1 ta k6 tsc k42 tkb hI1 hf (hS.2.2.1 _ (hf 6 (by decide))) (hS.2.2.2 _ (hf 11 (by decide))) (fun G2 lv2 hI2 hO2 hc2 ef2 g02 g12 => ?_) _ G1 _ 0 hI1 (fun _ _ _ => rfl) x_eff.rf (by decide) (by decide) rfl (fun i hi => absurd hi (by show ¬ (i : Int) < 0; omega)) (y_gpr g0 (by decide)) (y_gpi g1 (by decide)) x_get_self
    refine y_st (e_258 (58, .iconst 0, 1) (List.mem_of_getElem? (i := 34) rfl)) ⟨rfl, rfl, rfl, rfl⟩ ?_
    refine y_isn (e_258 (59, .istore_n 2, 1) (List.mem_of_getElem? (i := 35) rfl)) (by decide) ?_
    refine g_rs2 (G0 := G2) (nk := nk) (nb := nb) (f := nm) q0 q1 ta ((hO2 a 9 ne1).trans k9) tnb ((hO2 a 43 ne1).trans k43) tnk (fun i hi => (hO2 nk i ne2).trans (hnm i hi)) (fun G3 lv3 hI3 hO3 hc3 ef3 g03 g13 => ?_) _ G2 _ 0 hI2 (fun _ _ _ => rfl) x_eff.rf (by decide) (by decide) rfl (fun i hi => absurd hi (by show ¬ (i : Int) < 0; omega)) (y_gpr g02 (by decide)) (y_gpi g12 (by decide)) x_get_self
    refine sg_rs89_go (d := d) (by omega) (v := (y_v [(a : Int)])) (G0 := G3) ⟨y_v_Bd (List.forall_mem_cons.mpr ⟨(y_cellB hI3 ta), (fun _ h => absurd h List.not_mem_nil)⟩), (fun _ h => absurd h List.not_mem_nil), (List.forall_mem_cons.mpr ⟨⟨_, g03, a, rfl, (by simp only [xl_ev, xt_ev, y_v, List.getD_cons_succ, List.getD_cons_zero]; omega), ta⟩, (fun _ h => absurd h List.not_mem_nil)⟩), trivial, (fun _ h => absurd h List.not_mem_nil), hI3⟩ x_eff.rf (fun r G' h => ?_) (fun n hn => absurd hn List.not_mem_nil)
    obtain ⟨v', -, -, hI', ef, p7, hp7, -, -, pa⟩ := h
    obtain rfl : p7 = _ := List.mem_singleton.mp hp7
    obtain ⟨y, rfl, hy⟩ := y_p1 pa
    obtain rfl : y = 1 := y_i1 hy
    have hA : ∀ i, i < 324 → x_sl G' sc i = x_sl G1 kb (324 * q.toInt.toNat + i) := fun i hi => by rw [ef.at tsc rfl, hO3 sc i ne4, hc2 i hi, hf i hi]
    have hB : ∀ i, i < 16 → x_sl G' nb i = x_sl G1 nk (16 * q.toInt.toNat + i) := fun i hi => by rw [ef.at tnb rfl, hc3 i hi, hnm _ (by omega)]
    have efA : x_eff th E_rst G1 G' := ((ef2.sub (by decide)).tr (ef3.sub (by decide))).tr (ef.sub (by decide))
    refine ⟨⟨hI', fun b hb2 => ?_, ⟨nb, sc, by rw [efA.at ta rfl]; exact k9, tnb, by rw [efA.at ta rfl]; exact k6, tsc, ?_⟩, hV1.2.2.2.eff ta efA rfl rfl⟩, (hE1.sub (by decide)).tr efA, 1, rfl, Or.inr rfl, fun _ => ⟨q0, q1, ab, k440, x, hx0, xne⟩, fun _ => rfl⟩
    · obtain rfl := hU b sc hb2 tsc
      exact z_Qs_c hA (fun n hn => (y_fie (i := 143) (t := 36) hI' tsc rfl hn).2) hS.1
    · exact z_DD_c hA (fun n hn => (y_fie (i := 3) (t := 36) hI' tsc rfl hn).2) (fun n hn => (y_fie (i := 5) (t := 36) hI' tsc rfl hn).2) hB hS.2.1
  · have xz : x = 0 := y_hI.2.2.2.1 hb
    refine y_st (e_258 (23, .iconst 0, 1) (List.mem_of_getElem? (i := 13) rfl)) ⟨rfl, rfl, rfl, rfl⟩ ?_
    refine y_ret (e_258 (24, .ireturn, 1) (List.mem_of_getElem? (i := 14) rfl)) ⟨rfl, y_rb (by decide)⟩ ⟨hV1, hE1.sub (by decide), 0, rfl, Or.inl rfl, fun z => absurd z (by decide), fun z => ?_⟩
    obtain ⟨-, -, ab2, k2, x2, h2, hx2⟩ := z
    rw [k440] at k2
    cases k2
    rw [hx0] at h2
    cases h2
    exact absurd xz hx2
end ZR
