def m_175 : pM := (⟨"BreathingHillModel", "readThing", "()Z"⟩, 1530, 2, some (FieldType.boolean), 17, 0, false, 10, 103, 1529, 43)
set_option maxRecDepth 100000 in
theorem m_175_ok : pm_tab[175]? = some m_175 := rfl
theorem e_175 : ∀ q ∈ d_175, decode m_175.code q.1 = .ok (q.2.1, q.2.2) := y_dec d_175_ok m_175_ok
def E_rtT : List (Nat × Nat × Nat) := [(10, 4, 4), (10, 11, 18), (37, 41, 64)]
def sg_rt0_ns : List xN := []
def sg_rt0_os : List xN := [(19, [(0, (20, ([(0, 1)], 0))), (1, (0, ([(2, 1)], 0)))], [], [([(2, -1)], 7)], 3, [([], 0), ([], 0), ([], 0), ([], 0), ([], 0)])]
def sg_rt0_g : xG := ([([(2, 1)], 0), ([(2, -1)], 8)], [(0, (20, ([(0, 1)], 0)))], [], [(10, ([(0, 1)], 0), 7, (47, ([(1, 1)], 0))), (37, ([(1, 1)], 0), 3, (0, ([(2, 1)], 0)))], 3)
def sg_rt0_ps : List xP := [(some (0, ([], 0)), [], [])]
set_option maxRecDepth 100000 in
set_option maxHeartbeats 4000000 in
theorem sg_rt0_ok : x_seg x_tb [c_189] m_175 d_175 E_bad 3 sg_rt0_ps sg_rt0_ns sg_rt0_os 21 false 0 sg_rt0_g = true := by decide +kernel
set_option maxRecDepth 100000 in
theorem sg_rt0_go {th : List Nat} {xs : Nat → Int32} {L J d : Nat} {K : Option Value → List pE → Prop} (hd : 190 ≤ d) {v : Nat → Int} {lv : pL} {ws : List Value} {G0 G : List pE} (hS : x_S x_tb th v sg_rt0_g lv ws G) (hE : x_eff th E_bad G0 G) (hK : ∀ r G', x_Post x_tb th E_bad sg_rt0_ps 3 v G0 r G' → K r G') (hO : ∀ n ∈ sg_rt0_os, ∀ (vn : Nat → Int) (lv : pL) (G1 : List pE), x_ag 3 v vn → x_S x_tb th vn (n.2.2.2.1, n.2.1, [], n.2.2.1, n.2.2.2.2.1) lv [] G1 → x_eff th E_bad G0 G1 → x_Gd xs L J (d + 1) m_175 K n.1 lv [] G1) : x_Gd xs L J (d + 1) m_175 K 0 lv ws G :=
  x_seg_ok (dm := 190) x_tb_wf ⟨rfl, rfl, rfl⟩ e_175 (List.forall_mem_cons.mpr ⟨(h_189 th xs L J).mono (by omega), fun _ h => absurd h List.not_mem_nil⟩) hd sg_rt0_ok hS hE (fun z => by cases z) hK hO
def sg_rt38_ns : List xN := []
def sg_rt38_os : List xN := [(106, [(0, (20, ([(0, 1)], 0)))], [], [], 2, [([], 0), ([], 0), ([], 0), ([], 0), ([], 0)])]
def sg_rt38_g : xG := ([([(1, 1)], 0), ([(1, -1)], 7)], [(0, (20, ([(0, 1)], 0))), (1, (0, ([(1, 1)], 0)))], [], [], 2)
def sg_rt38_ps : List xP := [(some (0, ([], 0)), [], [])]
set_option maxRecDepth 100000 in
set_option maxHeartbeats 4000000 in
theorem sg_rt38_ok : x_seg x_tb [c_188, c_190, c_204, c_304] m_175 d_175 E_rtT 2 sg_rt38_ps sg_rt38_ns sg_rt38_os 44 false 38 sg_rt38_g = true := by decide +kernel
set_option maxRecDepth 100000 in
theorem sg_rt38_go {th : List Nat} {xs : Nat → Int32} {L J d : Nat} {K : Option Value → List pE → Prop} (hd : 305 ≤ d) {v : Nat → Int} {lv : pL} {ws : List Value} {G0 G : List pE} (hS : x_S x_tb th v sg_rt38_g lv ws G) (hE : x_eff th E_rtT G0 G) (hK : ∀ r G', x_Post x_tb th E_rtT sg_rt38_ps 2 v G0 r G' → K r G') (hO : ∀ n ∈ sg_rt38_os, ∀ (vn : Nat → Int) (lv : pL) (G1 : List pE), x_ag 2 v vn → x_S x_tb th vn (n.2.2.2.1, n.2.1, [], n.2.2.1, n.2.2.2.2.1) lv [] G1 → x_eff th E_rtT G0 G1 → x_Gd xs L J (d + 1) m_175 K n.1 lv [] G1) : x_Gd xs L J (d + 1) m_175 K 38 lv ws G :=
  x_seg_ok (dm := 305) x_tb_wf ⟨rfl, rfl, rfl⟩ e_175 (List.forall_mem_cons.mpr ⟨(h_188 th xs L J).mono (by omega), List.forall_mem_cons.mpr ⟨(h_190 th xs L J).mono (by omega), List.forall_mem_cons.mpr ⟨(h_204 th xs L J).mono (by omega), List.forall_mem_cons.mpr ⟨(h_304 th xs L J).mono (by omega), fun _ h => absurd h List.not_mem_nil⟩⟩⟩⟩) hd sg_rt38_ok hS hE (fun z => by cases z) hK hO
/-- what line() leaves of the names -/
def z_Ln (th : List Nat) (a nb hb : Nat) (r : Option Value) (G' : List pE) : Prop := (∃ y : Int32, r = some (.int y) ∧ (y = 0 ∨ y = 1)) ∧ ∃ nm w h3 h4 h5, z_H th G' a nb hb nm w h3 h4 h5 ∧ z_D8 nm h3 h5
theorem z_H.eff2 {th : List Nat} {a nb hb : Nat} {nm : Nat → Int64} {w : Int64} {h3 h4 h5 : Int32} {G : List pE} {E : List (Nat × Nat × Nat)} {G' : List pE} (h : z_H th G a nb hb nm w h3 h4 h5) (hI : xI x_tb th G') (he : x_eff th E G G') (h1 : (y_out E 10 9 && y_out E 10 7 && y_out E 37 3 && y_out E 37 5) = true) : ∃ nm' w' h4', z_H th G' a nb hb nm' w' h3 h4' h5 ∧ (∀ i, i < 32 → y_out E 39 i = true → nm' i = nm i) := by
  rw [Bool.and_eq_true, Bool.and_eq_true, Bool.and_eq_true] at h1
  obtain ⟨⟨⟨o1, o2⟩, o3⟩, o5⟩ := h1
  obtain ⟨-, ta, n1, n2, n3, n4, n5, n6, n7, n8, n9⟩ := h
  obtain ⟨nm', k1⟩ := y_larr (t := 39) (n := 32) hI n2 rfl
  obtain ⟨w', k2⟩ := y_flong (i := 17) hI ta rfl
  obtain ⟨h4', k3, -⟩ := y_fi (i := 4) hI n6 rfl
  refine ⟨nm', w', h4', ⟨hI, ta, by rw [he.at ta o1]; exact n1, n2, k1, k2, by rw [he.at ta o2]; exact n5, n6, by rw [he.at n6 o3]; exact n7, k3, by rw [he.at n6 o5]; exact n9⟩, fun i hi ho => ?_⟩
  have := k1 i hi
  rw [he.at n2 ho, n3 i hi] at this
  exact (Value.long.inj (Option.some.inj this)).symm
theorem z_Ln.of {th : List Nat} {a nb hb : Nat} {nm : Nat → Int64} {w : Int64} {h3 h4 h5 : Int32} {G : List pE} {E : List (Nat × Nat × Nat)} {G' : List pE} {r : Option Value} (hr : ∃ y : Int32, r = some (.int y) ∧ (y = 0 ∨ y = 1)) (h : z_H th G a nb hb nm w h3 h4 h5) (hD : z_D8 nm h3 h5) (hI : xI x_tb th G') (he : x_eff th E G G') (h1 : (y_out E 10 9 && y_out E 10 7 && y_out E 37 3 && y_out E 37 5) = true) (h2 : ∀ i, i < 8 → y_out E 39 (16 + i) = true) (h3' : ∀ i, i < 4 → y_out E 39 (28 + i) = true) : z_Ln th a nb hb r G' := by
  obtain ⟨nm', w', h4', k1, k2⟩ := h.eff2 hI he h1
  refine ⟨hr, nm', w', h3, h4', h5, k1, fun i j hi hj => ?_⟩
  have r3 := h.r3
  have r5 := h.r5
  rw [k2 _ (by omega) (h2 i (by omega)), k2 _ (by omega) (h3' j (by omega))]
  exact hD i j hi hj
theorem y_app {E1 E2 : List (Nat × Nat × Nat)} {t i : Nat} (h1 : y_out E1 t i = true) (h2 : y_out E2 t i = true) : y_out (E1 ++ E2) t i = true := by
  unfold y_out at *
  rw [List.all_append, h1, h2]
  rfl
theorem y_fr {n t i : Nat} (h : y_out [(10, 4, 4), (10, 11, 17)] t i = true) (hn : t = 39 → i ≠ n) : y_out (E_fr n) t i = true := by
  show y_out ([(10, 4, 4), (10, 11, 17)] ++ [(39, n, n)]) t i = true
  refine y_app h ?_
  unfold y_out
  simp only [List.all_cons, List.all_nil, Bool.and_true, Bool.not_eq_true', Bool.and_eq_false_iff, beq_eq_false_iff_ne, decide_eq_false_iff_not]
  by_cases ht : 39 = t
  · have := hn ht.symm
    omega
  · exact Or.inl (Or.inl ht)
section ZK
variable {th : List Nat} {xs : Nat → Int32} {L J d a nb hb : Nat} {nm : Nat → Int64} {w : Int64} {h3 h4 h5 : Int32} {G : List pE}
set_option maxHeartbeats 2000000 in
set_option maxRecDepth 100000 in
theorem g_readThing (hd : 305 ≤ d) (hN : z_H th G a nb hb nm w h3 h4 h5) (hD : z_D8 nm h3 h5) : x_Gd xs L J (d + 3) m_175 (z_Ln th a nb hb) 0 (lv_args 0 [.ref a]) [] G := by
  obtain ⟨hI, ta, n1, n2, n3, n4, n5, n6, n7, n8, n9⟩ := id hN
  have r3 := hN.r3
  have r5 := hN.r5
  refine sg_rt0_go (d := d + 2) (by omega) (v := (y_v [(a : Int), (hb : Int), h3.toInt])) (G0 := G) ⟨y_v_Bd (List.forall_mem_cons.mpr ⟨(y_cellB hI ta), (List.forall_mem_cons.mpr ⟨(y_cellB hI n6), (List.forall_mem_cons.mpr ⟨(x_i32 h3), (fun _ h => absurd h List.not_mem_nil)⟩)⟩)⟩), (List.forall_mem_cons.mpr ⟨(by simp only [xl_ev, xt_ev, y_v, List.getD_cons_succ, List.getD_cons_zero]; omega), (List.forall_mem_cons.mpr ⟨(by simp only [xl_ev, xt_ev, y_v, List.getD_cons_succ, List.getD_cons_zero]; omega), (fun _ h => absurd h List.not_mem_nil)⟩)⟩), (List.forall_mem_cons.mpr ⟨⟨_, rfl, a, rfl, (by simp only [xl_ev, xt_ev, y_v, List.getD_cons_succ, List.getD_cons_zero]; omega), ta⟩, (fun _ h => absurd h List.not_mem_nil)⟩), trivial, (List.forall_mem_cons.mpr ⟨⟨a, (by simp only [xl_ev, xt_ev, y_v, List.getD_cons_succ, List.getD_cons_zero]; omega), ta, _, n5, hb, rfl, (by simp only [xl_ev, xt_ev, y_v, List.getD_cons_succ, List.getD_cons_zero]; omega), n6⟩, (List.forall_mem_cons.mpr ⟨⟨hb, (by simp only [xl_ev, xt_ev, y_v, List.getD_cons_succ, List.getD_cons_zero]; omega), n6, _, n7, h3, rfl, (by simp only [xl_ev, xt_ev, y_v, List.getD_cons_succ, List.getD_cons_zero]; omega)⟩, (fun _ h => absurd h List.not_mem_nil)⟩)⟩), hI⟩ x_eff.rf (fun r G' h => ?_) (fun n hn vn lv G1 hag hS1 hE1 => ?_)
  · obtain ⟨v', -, -, hI', ef, p, hp, -, -, pa⟩ := h
    obtain rfl : p = _ := List.mem_singleton.mp hp
    obtain ⟨y, rfl, hy⟩ := y_p1 pa
    exact z_Ln.of ⟨y, rfl, Or.inl (y_i0 hy)⟩ hN hD hI' ef rfl (by decide) (by decide)
  obtain rfl : n = _ := List.mem_singleton.mp hn
  have z0 : vn 0 = (a : Int) := hag 0 (by decide)
  have z2 : vn 2 = h3.toInt := hag 2 (by decide)
  have g0 := hS1.loCe (i := 0) (t := 10) (l := ([(0, 1)], 0)) (a := a) (List.mem_of_getElem? (i := 0) rfl) (by simp only [xl_ev, xt_ev]; omega)
  have g1 := hS1.lo0e (i := 1) (l := ([(2, 1)], 0)) (x := h3) (List.mem_of_getElem? (i := 1) rfl) (by simp only [xl_ev, xt_ev]; omega)
  have c7 := hS1.2.1 ([(2, -1)], 7) (List.mem_of_getElem? (i := 0) rfl)
  simp only [xl_ev, xt_ev] at c7
  have hI1 := hS1.2.2.2.2.2
  obtain ⟨nm1, w1, hN1, en, -⟩ := hN.eff hI1 hE1 rfl
  have hD1 : z_D8 nm1 h3 h5 := fun i j hi hj => by
    rw [en _ (by omega) rfl, en _ (by omega) rfl]
    exact hD i j hi hj
  have f16 : ((Int8.ofInt 16).toInt32).toInt = 16 := by decide
  have f25 : ((Int8.ofInt 25).toInt32).toInt = 25 := by decide
  have f33 : ((Int8.ofInt 33).toInt32).toInt = 33 := by decide
  have e16 : ((Int8.ofInt 16).toInt32 + h3).toInt = 16 + h3.toInt := by rw [y_add (by omega) (by omega)]; omega
  have e25 : ((Int8.ofInt 25).toInt32 + h3).toInt = 25 + h3.toInt := by rw [y_add (by omega) (by omega)]; omega
  have e33 : ((Int8.ofInt 33).toInt32 + h3).toInt = 33 + h3.toInt := by rw [y_add (by omega) (by omega)]; omega
  refine y_aln (e_175 (19, .aload_n 0, 1) (List.mem_of_getElem? (i := 12) rfl)) g0 ?_
  refine y_st (e_175 (20, .bipush 16, 2) (List.mem_of_getElem? (i := 13) rfl)) ⟨rfl, rfl, rfl, rfl⟩ ?_
  refine y_iln (e_175 (22, .iload_n 1, 1) (List.mem_of_getElem? (i := 14) rfl)) g1 ?_
  refine y_st (e_175 (23, .iadd, 1) (List.mem_of_getElem? (i := 15) rfl)) ⟨rfl, rfl, rfl, rfl⟩ ?_
  refine y_st (e_175 (24, .bipush 25, 2) (List.mem_of_getElem? (i := 16) rfl)) ⟨rfl, rfl, rfl, rfl⟩ ?_
  refine y_iln (e_175 (26, .iload_n 1, 1) (List.mem_of_getElem? (i := 17) rfl)) g1 ?_
  refine y_st (e_175 (27, .iadd, 1) (List.mem_of_getElem? (i := 18) rfl)) ⟨rfl, rfl, rfl, rfl⟩ ?_
  refine y_st (e_175 (28, .bipush 33, 2) (List.mem_of_getElem? (i := 19) rfl)) ⟨rfl, rfl, rfl, rfl⟩ ?_
  refine y_iln (e_175 (30, .iload_n 1, 1) (List.mem_of_getElem? (i := 20) rfl)) g1 ?_
  refine y_st (e_175 (31, .iadd, 1) (List.mem_of_getElem? (i := 21) rfl)) ⟨rfl, rfl, rfl, rfl⟩ ?_
  refine y_c4 (K' := _) (e_175 (32, .invokevirtual 211, 3) (List.mem_of_getElem? (i := 22) rfl)) ⟨rfl, rfl, rfl⟩ t_17_211 ⟨by decide, by decide, by decide, by decide⟩ m_176_ok rfl (by decide) (y_recv hI1 ta ⟨rfl, rfl⟩) (Nat.le_of_ble_eq_true rfl) (Nat.le_of_ble_eq_true rfl) (g_rpT (d := d) (by omega) (by omega) (by omega) (by omega) (by omega) (by omega) (by omega) hN1) (fun r1 G2 h1 => ?_)
  obtain ⟨hI2, ef2, hr⟩ := h1
  rw [e16] at ef2 hr
  rw [show (16 + h3.toInt).toNat = 16 + h3.toInt.toNat by omega] at ef2 hr
  obtain ⟨nm2, w2, h42, hN2, en2⟩ := hN1.eff2 hI2 ef2 (by rw [Bool.and_eq_true, Bool.and_eq_true, Bool.and_eq_true]; exact ⟨⟨⟨y_app rfl (y_fr rfl (fun z => by cases z)), y_app rfl (y_fr rfl (fun z => by cases z))⟩, y_app rfl (y_fr rfl (fun z => by cases z))⟩, y_app rfl (y_fr rfl (fun z => by cases z))⟩)
  have o16 : ∀ i : Nat, i < 32 → i ≠ 16 + h3.toInt.toNat → nm2 i = nm1 i := fun i hi hne => en2 i hi (y_app rfl (y_fr rfl (fun _ => hne)))
  have hD2 : z_D8 nm2 h3 h5 := fun i j hi hj => by
    rw [o16 _ (by omega) (by omega), o16 _ (by omega) (by omega)]
    exact hD1 i j hi hj
  rcases hr with rfl | ⟨rfl, wn, q1, q2, q3⟩
  · simp only [Option.toList_some, Option.toList_none, List.cons_append, List.nil_append]
    refine y_ifc (e_175 (35, .ifCond .eq 31, 3) (List.mem_of_getElem? (i := 23) rfl)) rfl (fun _ => ?_) (fun hb => absurd hb (by decide))
    refine y_st (e_175 (66, .iconst 0, 1) (List.mem_of_getElem? (i := 40) rfl)) ⟨rfl, rfl, rfl, rfl⟩ ?_
    refine y_ret (e_175 (67, .ireturn, 1) (List.mem_of_getElem? (i := 41) rfl)) ⟨rfl, y_rb (by decide)⟩ ⟨⟨0, rfl, Or.inl rfl⟩, nm2, w2, h3, h42, h5, hN2, hD2⟩
  · simp only [Option.toList_some, Option.toList_none, List.cons_append, List.nil_append]
    refine y_ifc (e_175 (35, .ifCond .eq 31, 3) (List.mem_of_getElem? (i := 23) rfl)) rfl (fun hb => absurd hb (by decide)) (fun _ => ?_)
    refine sg_rt38_go (d := d + 2) (by omega) (v := (y_v [(a : Int), h3.toInt])) (G0 := G2) ⟨y_v_Bd (List.forall_mem_cons.mpr ⟨(y_cellB hI2 ta), (List.forall_mem_cons.mpr ⟨(x_i32 h3), (fun _ h => absurd h List.not_mem_nil)⟩)⟩), (List.forall_mem_cons.mpr ⟨(by simp only [xl_ev, xt_ev, y_v, List.getD_cons_succ, List.getD_cons_zero]; omega), (List.forall_mem_cons.mpr ⟨(by simp only [xl_ev, xt_ev, y_v, List.getD_cons_succ, List.getD_cons_zero]; omega), (fun _ h => absurd h List.not_mem_nil)⟩)⟩), (List.forall_mem_cons.mpr ⟨⟨_, g0, a, rfl, (by simp only [xl_ev, xt_ev, y_v, List.getD_cons_succ, List.getD_cons_zero]; omega), ta⟩, (List.forall_mem_cons.mpr ⟨⟨_, g1, h3, rfl, (by simp only [xl_ev, xt_ev, y_v, List.getD_cons_succ, List.getD_cons_zero]; omega)⟩, (fun _ h => absurd h List.not_mem_nil)⟩)⟩), trivial, (fun _ h => absurd h List.not_mem_nil), hI2⟩ x_eff.rf (fun r G' h => ?_) (fun n hn vn lv3 G3 hag hS3 hE3 => ?_)
    · obtain ⟨v', -, -, hI', ef, p, hp, -, -, pa⟩ := h
      obtain rfl : p = _ := List.mem_singleton.mp hp
      obtain ⟨y, rfl, hy⟩ := y_p1 pa
      exact z_Ln.of ⟨y, rfl, Or.inl (y_i0 hy)⟩ hN2 hD2 hI' ef rfl (by decide) (by decide)
    obtain rfl : n = _ := List.mem_singleton.mp hn
    have z0 : vn 0 = (a : Int) := hag 0 (by decide)
    have g0 := hS3.loCe (i := 0) (t := 10) (l := ([(0, 1)], 0)) (a := a) (List.mem_of_getElem? (i := 0) rfl) (by simp only [xl_ev, xt_ev]; omega)
    have hI3 := hS3.2.2.2.2.2
    obtain ⟨nm3, w3, hN3, en3, -⟩ := hN2.eff hI3 hE3 rfl
    have wn3 : nm3 (16 + h3.toInt.toNat) = wn := by
      have e := hN3.2.2.2.2.1 (16 + h3.toInt.toNat) (by omega)
      rw [hE3.at n2 rfl, q1] at e
      exact (Value.long.inj (Option.some.inj e)).symm
    obtain ⟨-, -, m1, m2, m3, m4, m5, m6, m7, m8, m9⟩ := id hN3
    have e1 := y_add1 (t := h3) (by omega)
    refine y_aln (e_175 (106, .aload_n 0, 1) (List.mem_of_getElem? (i := 61) rfl)) g0 ?_
    refine y_getf hI3 ta (e_175 (107, .getfield 37, 3) (List.mem_of_getElem? (i := 62) rfl)) u_17_37 ⟨rfl, rfl⟩ m5 ?_
    refine y_st (e_175 (110, .iconst 3, 1) (List.mem_of_getElem? (i := 63) rfl)) ⟨rfl, rfl, rfl, rfl⟩ ?_
    refine y_st (e_175 (111, .dup2, 1) (List.mem_of_getElem? (i := 64) rfl)) ⟨rfl, rfl, rfl, rfl⟩ ?_
    refine y_iald hI3 m6 (e_175 (112, .iaload, 1) (List.mem_of_getElem? (i := 65) rfl)) ⟨rfl, rfl⟩ (by decide) m7 ?_
    refine y_st (e_175 (113, .iconst 1, 1) (List.mem_of_getElem? (i := 66) rfl)) ⟨rfl, rfl, rfl, rfl⟩ ?_
    refine y_st (e_175 (114, .iadd, 1) (List.mem_of_getElem? (i := 67) rfl)) ⟨rfl, rfl, rfl, rfl⟩ ?_
    refine y_iast hI3 m6 (e_175 (115, .iastore, 1) (List.mem_of_getElem? (i := 68) rfl)) ⟨rfl, rfl⟩ ⟨by decide, by decide⟩ (fun G4 u4 => ?_)
    rw [show (Int32.ofInt 3).toInt.toNat = 3 by decide] at u4
    have hI4 : xI x_tb th G4 := hI3.upd u4 m6 (y_okI (lo := 0) (hi := 8) rfl (by omega) (by omega))
    refine y_st (e_175 (116, .iconst 1, 1) (List.mem_of_getElem? (i := 69) rfl)) ⟨rfl, rfl, rfl, rfl⟩ ?_
    refine y_ret (e_175 (117, .ireturn, 1) (List.mem_of_getElem? (i := 70) rfl)) ⟨rfl, y_rb (by decide)⟩ ⟨⟨1, rfl, Or.inr rfl⟩, nm3, w3, h3 + Int32.ofInt 1, h42, h5, ⟨hI4, ta, ?_, m2, fun i hi => ?_, ?_, ?_, m6, ?_, ?_, ?_⟩, fun i j hi hj => ?_⟩
    · rw [u4.2.1, if_neg (fun z => by rw [z.1, m6] at ta; cases ta)]; exact m1
    · rw [u4.2.1, if_neg (fun z => by rw [z.1, m6] at m2; cases m2)]; exact m3 i hi
    · rw [u4.2.1, if_neg (fun z => by rw [z.1, m6] at ta; cases ta)]; exact m4
    · rw [u4.2.1, if_neg (fun z => by rw [z.1, m6] at ta; cases ta)]; exact m5
    · rw [u4.2.1, if_pos ⟨rfl, rfl⟩]
    · rw [u4.2.1, if_neg (fun z => by omega)]; exact m8
    · rw [u4.2.1, if_neg (fun z => by omega)]; exact m9
    · by_cases hi3 : (i : Int) < h3.toInt
      · rw [en3 _ (by omega) rfl, en3 _ (by omega) rfl]; exact hD2 i j hi3 hj
      · obtain rfl : i = h3.toInt.toNat := by omega
        rw [wn3, en3 _ (by omega) rfl, o16 _ (by omega) (by omega)]
        exact fun z => q3 j hj z.symm
end ZK
