def m_176 : pM := (⟨"BreathingHillModel", "readPlace", "(III)Z"⟩, 1534, 4, some (FieldType.boolean), 17, 3, false, 10, 103, 1533, 44)
set_option maxRecDepth 100000 in
theorem m_176_ok : pm_tab[176]? = some m_176 := rfl
theorem e_176 : ∀ q ∈ d_176, decode m_176.code q.1 = .ok (q.2.1, q.2.2) := y_dec d_176_ok m_176_ok
def E_rpA : List (Nat × Nat × Nat) := [(10, 20, 20), (10, 4, 4), (10, 11, 14), (10, 17, 17)]
def E_rpT : List (Nat × Nat × Nat) := [(10, 4, 4), (10, 11, 18), (37, 25, 32), (37, 33, 40)]
def E_rpM : List (Nat × Nat × Nat) := [(10, 4, 4), (10, 11, 18), (37, 73, 76), (37, 77, 80)]
def sg_rpA_ns : List xN := []
def sg_rpA_os : List xN := [(14, [(0, (20, ([(0, 1)], 0))), (1, (0, ([(1, 1)], 0))), (2, (0, ([(2, 1)], 0))), (3, (0, ([(3, 1)], 0)))], [], [], 4, [([], 0), ([], 0), ([], 0), ([], 0), ([], 0)])]
def sg_rpA_g : xG := ([], [(0, (20, ([(0, 1)], 0))), (1, (0, ([(1, 1)], 0))), (2, (0, ([(2, 1)], 0))), (3, (0, ([(3, 1)], 0)))], [], [], 4)
def sg_rpA_ps : List xP := []
set_option maxRecDepth 100000 in
set_option maxHeartbeats 4000000 in
theorem sg_rpA_ok : x_seg x_tb [c_188] m_176 d_176 E_rpA 4 sg_rpA_ps sg_rpA_ns sg_rpA_os 18 false 0 sg_rpA_g = true := by decide +kernel
set_option maxRecDepth 100000 in
theorem sg_rpA_go {th : List Nat} {xs : Nat → Int32} {L J d : Nat} {K : Option Value → List pE → Prop} (hd : 189 ≤ d) {v : Nat → Int} {lv : pL} {ws : List Value} {G0 G : List pE} (hS : x_S x_tb th v sg_rpA_g lv ws G) (hE : x_eff th E_rpA G0 G) (hK : ∀ r G', x_Post x_tb th E_rpA sg_rpA_ps 4 v G0 r G' → K r G') (hO : ∀ n ∈ sg_rpA_os, ∀ (vn : Nat → Int) (lv : pL) (G1 : List pE), x_ag 4 v vn → x_S x_tb th vn (n.2.2.2.1, n.2.1, [], n.2.2.1, n.2.2.2.2.1) lv [] G1 → x_eff th E_rpA G0 G1 → x_Gd xs L J (d + 1) m_176 K n.1 lv [] G1) : x_Gd xs L J (d + 1) m_176 K 0 lv ws G :=
  x_seg_ok (dm := 189) x_tb_wf ⟨rfl, rfl, rfl⟩ e_176 (List.forall_mem_cons.mpr ⟨(h_188 th xs L J).mono (by omega), fun _ h => absurd h List.not_mem_nil⟩) hd sg_rpA_ok hS hE (fun z => by cases z) hK hO
def sg_rpT_ns : List xN := []
def sg_rpT_os : List xN := []
def sg_rpT_g : xG := ([([(1, 1)], -25), ([(1, -1)], 32), ([(2, 1)], -33), ([(2, -1)], 40)], [(0, (20, ([(0, 1)], 0))), (2, (0, ([(1, 1)], 0))), (3, (0, ([(2, 1)], 0)))], [], [], 3)
def sg_rpT_ps : List xP := [(some (0, ([(3, 1)], 0)), [([(3, 1)], 0), ([(3, -1)], 1)], [])]
set_option maxRecDepth 100000 in
set_option maxHeartbeats 4000000 in
theorem sg_rpT_ok : x_seg x_tb [c_202, c_203] m_176 d_176 E_rpT 3 sg_rpT_ps sg_rpT_ns sg_rpT_os 34 false 22 sg_rpT_g = true := by decide +kernel
set_option maxRecDepth 100000 in
theorem sg_rpT_go {th : List Nat} {xs : Nat → Int32} {L J d : Nat} {K : Option Value → List pE → Prop} (hd : 204 ≤ d) {v : Nat → Int} {lv : pL} {ws : List Value} {G0 G : List pE} (hS : x_S x_tb th v sg_rpT_g lv ws G) (hE : x_eff th E_rpT G0 G) (hK : ∀ r G', x_Post x_tb th E_rpT sg_rpT_ps 3 v G0 r G' → K r G') (hO : ∀ n ∈ sg_rpT_os, ∀ (vn : Nat → Int) (lv : pL) (G1 : List pE), x_ag 3 v vn → x_S x_tb th vn (n.2.2.2.1, n.2.1, [], n.2.2.1, n.2.2.2.2.1) lv [] G1 → x_eff th E_rpT G0 G1 → x_Gd xs L J (d + 1) m_176 K n.1 lv [] G1) : x_Gd xs L J (d + 1) m_176 K 22 lv ws G :=
  x_seg_ok (dm := 204) x_tb_wf ⟨rfl, rfl, rfl⟩ e_176 (List.forall_mem_cons.mpr ⟨(h_202 th xs L J).mono (by omega), List.forall_mem_cons.mpr ⟨(h_203 th xs L J).mono (by omega), fun _ h => absurd h List.not_mem_nil⟩⟩) hd sg_rpT_ok hS hE (fun z => by cases z) hK hO
def sg_rpM_ns : List xN := []
def sg_rpM_os : List xN := []
def sg_rpM_g : xG := ([([(1, 1)], -73), ([(1, -1)], 76), ([(2, 1)], -77), ([(2, -1)], 80)], [(0, (20, ([(0, 1)], 0))), (2, (0, ([(1, 1)], 0))), (3, (0, ([(2, 1)], 0)))], [], [], 3)
def sg_rpM_ps : List xP := [(some (0, ([(3, 1)], 0)), [([(3, 1)], 0), ([(3, -1)], 1)], [])]
set_option maxRecDepth 100000 in
set_option maxHeartbeats 4000000 in
theorem sg_rpM_ok : x_seg x_tb [c_207, c_208] m_176 d_176 E_rpM 3 sg_rpM_ps sg_rpM_ns sg_rpM_os 34 false 22 sg_rpM_g = true := by decide +kernel
set_option maxRecDepth 100000 in
theorem sg_rpM_go {th : List Nat} {xs : Nat → Int32} {L J d : Nat} {K : Option Value → List pE → Prop} (hd : 209 ≤ d) {v : Nat → Int} {lv : pL} {ws : List Value} {G0 G : List pE} (hS : x_S x_tb th v sg_rpM_g lv ws G) (hE : x_eff th E_rpM G0 G) (hK : ∀ r G', x_Post x_tb th E_rpM sg_rpM_ps 3 v G0 r G' → K r G') (hO : ∀ n ∈ sg_rpM_os, ∀ (vn : Nat → Int) (lv : pL) (G1 : List pE), x_ag 3 v vn → x_S x_tb th vn (n.2.2.2.1, n.2.1, [], n.2.2.1, n.2.2.2.2.1) lv [] G1 → x_eff th E_rpM G0 G1 → x_Gd xs L J (d + 1) m_176 K n.1 lv [] G1) : x_Gd xs L J (d + 1) m_176 K 22 lv ws G :=
  x_seg_ok (dm := 209) x_tb_wf ⟨rfl, rfl, rfl⟩ e_176 (List.forall_mem_cons.mpr ⟨(h_207 th xs L J).mono (by omega), List.forall_mem_cons.mpr ⟨(h_208 th xs L J).mono (by omega), fun _ h => absurd h List.not_mem_nil⟩⟩) hd sg_rpM_ok hS hE (fun z => by cases z) hK hO
/-- what readPlace() leaves -/
def z_G (th : List Nat) (G : List pE) (nb : Nat) (nm : Nat → Int64) (h3 h5 to : Int32) (E : List (Nat × Nat × Nat)) (r : Option Value) (G' : List pE) : Prop := xI x_tb th G' ∧ x_eff th (E_rpA ++ E ++ E_fr to.toInt.toNat) G G' ∧ (r = some (.int 0) ∨ (r = some (.int 1) ∧ ∃ w, x_sl G' nb to.toInt.toNat = some (.long w) ∧ (∀ i : Nat, (i : Int) < h3.toInt → nm (16 + i) ≠ w) ∧ ∀ j : Nat, (j : Int) < h5.toInt → nm (28 + j) ≠ w))
theorem x_eff.l {th : List Nat} {E1 E2 : List (Nat × Nat × Nat)} {G G' : List pE} (h : x_eff th E1 G G') : x_eff th (E1 ++ E2) G G' := h.mono (fun q hq => ⟨q, List.mem_append_left _ hq, rfl, Nat.le_refl _, Nat.le_refl _⟩)
theorem x_eff.r {th : List Nat} {E1 E2 : List (Nat × Nat × Nat)} {G G' : List pE} (h : x_eff th E2 G G') : x_eff th (E1 ++ E2) G G' := h.mono (fun q hq => ⟨q, List.mem_append_right _ hq, rfl, Nat.le_refl _, Nat.le_refl _⟩)
section ZK
variable {th : List Nat} {xs : Nat → Int32} {L J d a nb hb : Nat} {nm : Nat → Int64} {w : Int64} {h3 h4 h5 : Int32} {G : List pE}
set_option maxHeartbeats 2000000 in
set_option maxRecDepth 100000 in
theorem g_rpT (hd : 209 ≤ d) {to vy ce : Int32} (t0 : 16 ≤ to.toInt) (t1 : to.toInt ≤ 31) (v0 : 25 ≤ vy.toInt) (v1 : vy.toInt ≤ 32) (c0 : 33 ≤ ce.toInt) (c1 : ce.toInt ≤ 40) (hN : z_H th G a nb hb nm w h3 h4 h5) : x_Gd xs L J (d + 2) m_176 (z_G th G nb nm h3 h5 to E_rpT) 0 (lv_args 0 [.ref a, .int to, .int vy, .int ce]) [] G := by
  have hI := hN.1
  have ta := hN.2.1
  refine sg_rpA_go (d := d + 1) (by omega) (v := (y_v [(a : Int), to.toInt, vy.toInt, ce.toInt])) (G0 := G) ⟨y_v_Bd (List.forall_mem_cons.mpr ⟨(y_cellB hI ta), (List.forall_mem_cons.mpr ⟨(x_i32 to), (List.forall_mem_cons.mpr ⟨(x_i32 vy), (List.forall_mem_cons.mpr ⟨(x_i32 ce), (fun _ h => absurd h List.not_mem_nil)⟩)⟩)⟩)⟩), (fun _ h => absurd h List.not_mem_nil), (List.forall_mem_cons.mpr ⟨⟨_, rfl, a, rfl, (by simp only [xl_ev, xt_ev, y_v, List.getD_cons_succ, List.getD_cons_zero]; omega), ta⟩, (List.forall_mem_cons.mpr ⟨⟨_, rfl, to, rfl, (by simp only [xl_ev, xt_ev, y_v, List.getD_cons_succ, List.getD_cons_zero]; omega)⟩, (List.forall_mem_cons.mpr ⟨⟨_, rfl, vy, rfl, (by simp only [xl_ev, xt_ev, y_v, List.getD_cons_succ, List.getD_cons_zero]; omega)⟩, (List.forall_mem_cons.mpr ⟨⟨_, rfl, ce, rfl, (by simp only [xl_ev, xt_ev, y_v, List.getD_cons_succ, List.getD_cons_zero]; omega)⟩, (fun _ h => absurd h List.not_mem_nil)⟩)⟩)⟩)⟩), trivial, (fun _ h => absurd h List.not_mem_nil), hI⟩ x_eff.rf (fun r G' h => ?_) (fun n hn vn lv G1 hag hS1 hE1 => ?_)
  · obtain ⟨v', -, -, -, -, p, hp, -⟩ := h
    exact absurd hp List.not_mem_nil
  obtain rfl : n = _ := List.mem_singleton.mp hn
  have z0 : vn 0 = (a : Int) := hag 0 (by decide)
  have z1 : vn 1 = to.toInt := hag 1 (by decide)
  have z2 : vn 2 = vy.toInt := hag 2 (by decide)
  have z3 : vn 3 = ce.toInt := hag 3 (by decide)
  have g0 := hS1.loCe (i := 0) (t := 10) (l := ([(0, 1)], 0)) (a := a) (List.mem_of_getElem? (i := 0) rfl) (by simp only [xl_ev, xt_ev]; omega)
  have g1 := hS1.lo0e (i := 1) (l := ([(1, 1)], 0)) (x := to) (List.mem_of_getElem? (i := 1) rfl) (by simp only [xl_ev, xt_ev]; omega)
  have g2 := hS1.lo0e (i := 2) (l := ([(2, 1)], 0)) (x := vy) (List.mem_of_getElem? (i := 2) rfl) (by simp only [xl_ev, xt_ev]; omega)
  have g3 := hS1.lo0e (i := 3) (l := ([(3, 1)], 0)) (x := ce) (List.mem_of_getElem? (i := 3) rfl) (by simp only [xl_ev, xt_ev]; omega)
  have hI1 := hS1.2.2.2.2.2
  obtain ⟨nm1, w1, hN1, en, -⟩ := hN.eff hI1 hE1 rfl
  have n2 := hN1.2.2.2.1
  refine y_aln (e_176 (14, .aload_n 0, 1) (List.mem_of_getElem? (i := 8) rfl)) g0 ?_
  refine y_iln (e_176 (15, .iload_n 1, 1) (List.mem_of_getElem? (i := 9) rfl)) g1 ?_
  refine y_c2 (K' := _) (e_176 (16, .invokevirtual 214, 3) (List.mem_of_getElem? (i := 10) rfl)) ⟨rfl, rfl, rfl⟩ t_17_214 ⟨by decide, by decide, by decide, by decide⟩ m_177_ok rfl (by decide) (y_recv hI1 ta ⟨rfl, rfl⟩) (Nat.le_of_ble_eq_true rfl) (Nat.le_of_ble_eq_true rfl) (g_fresh (d := d) (by omega) t0 t1 hN1) (fun r1 G2 h1 => ?_)
  obtain ⟨hI2, ef2, hr⟩ := h1
  have ef : x_eff th (E_rpA ++ E_rpT ++ E_fr to.toInt.toNat) G G2 := hE1.l.l.tr ef2.r
  rcases hr with rfl | ⟨rfl, w2, q1, q2, q3⟩
  · simp only [Option.toList_some, Option.toList_none, List.cons_append, List.nil_append]
    refine y_ifc (e_176 (19, .ifCond .eq 41, 3) (List.mem_of_getElem? (i := 11) rfl)) rfl (fun _ => ?_) (fun hb => absurd hb (by decide))
    refine y_st (e_176 (60, .iconst 0, 1) (List.mem_of_getElem? (i := 36) rfl)) ⟨rfl, rfl, rfl, rfl⟩ ?_
    refine y_ret (e_176 (61, .ireturn, 1) (List.mem_of_getElem? (i := 37) rfl)) ⟨rfl, y_rb (by decide)⟩ ⟨hI2, ef, Or.inl rfl⟩
  · simp only [Option.toList_some, Option.toList_none, List.cons_append, List.nil_append]
    refine y_ifc (e_176 (19, .ifCond .eq 41, 3) (List.mem_of_getElem? (i := 11) rfl)) rfl (fun hb => absurd hb (by decide)) (fun _ => ?_)
    refine sg_rpT_go (d := d + 1) (by omega) (v := (y_v [(a : Int), vy.toInt, ce.toInt])) (G0 := G2) ⟨y_v_Bd (List.forall_mem_cons.mpr ⟨(y_cellB hI2 ta), (List.forall_mem_cons.mpr ⟨(x_i32 vy), (List.forall_mem_cons.mpr ⟨(x_i32 ce), (fun _ h => absurd h List.not_mem_nil)⟩)⟩)⟩), (List.forall_mem_cons.mpr ⟨(by simp only [xl_ev, xt_ev, y_v, List.getD_cons_succ, List.getD_cons_zero]; omega), (List.forall_mem_cons.mpr ⟨(by simp only [xl_ev, xt_ev, y_v, List.getD_cons_succ, List.getD_cons_zero]; omega), (List.forall_mem_cons.mpr ⟨(by simp only [xl_ev, xt_ev, y_v, List.getD_cons_succ, List.getD_cons_zero]; omega), (List.forall_mem_cons.mpr ⟨(by simp only [xl_ev, xt_ev, y_v, List.getD_cons_succ, List.getD_cons_zero]; omega), (fun _ h => absurd h List.not_mem_nil)⟩)⟩)⟩)⟩), (List.forall_mem_cons.mpr ⟨⟨_, g0, a, rfl, (by simp only [xl_ev, xt_ev, y_v, List.getD_cons_succ, List.getD_cons_zero]; omega), ta⟩, (List.forall_mem_cons.mpr ⟨⟨_, g2, vy, rfl, (by simp only [xl_ev, xt_ev, y_v, List.getD_cons_succ, List.getD_cons_zero]; omega)⟩, (List.forall_mem_cons.mpr ⟨⟨_, g3, ce, rfl, (by simp only [xl_ev, xt_ev, y_v, List.getD_cons_succ, List.getD_cons_zero]; omega)⟩, (fun _ h => absurd h List.not_mem_nil)⟩)⟩)⟩), trivial, (fun _ h => absurd h List.not_mem_nil), hI2⟩ x_eff.rf (fun r G' h => ?_) (fun n hn => absurd hn List.not_mem_nil)
    obtain ⟨v', -, -, hI', ef3, p, hp, pc, -, pa⟩ := h
    obtain rfl : p = _ := List.mem_singleton.mp hp
    have c0 := pc ([(3, 1)], 0) (List.mem_of_getElem? (i := 0) rfl)
    have c1 := pc ([(3, -1)], 1) (List.mem_of_getElem? (i := 1) rfl)
    obtain ⟨y, rfl, hy⟩ := y_pI pa
    simp only [xl_ev, xt_ev] at c0 c1 hy
    have ef4 : x_eff th (E_rpA ++ E_rpT ++ E_fr to.toInt.toNat) G2 G' := ef3.r.l
    rcases (show y.toInt = 0 ∨ y.toInt = 1 by omega) with y0 | y1
    · obtain rfl : y = 0 := y_i0 y0
      exact ⟨hI', ef.tr ef4, Or.inl rfl⟩
    · obtain rfl : y = 1 := y_i1 y1
      refine ⟨hI', ef.tr ef4, Or.inr ⟨rfl, w2, by rw [ef3.at n2 rfl]; exact q1, fun i hi => ?_, fun j hj => ?_⟩⟩
      · have r3 := hN.r3
        rw [← en (16 + i) (by omega) rfl]
        exact q2 i hi
      · have r5 := hN.r5
        rw [← en (28 + j) (by omega) rfl]
        exact q3 j hj
set_option maxHeartbeats 2000000 in
set_option maxRecDepth 100000 in
theorem g_rpM (hd : 209 ≤ d) {to vy ce : Int32} (t0 : 16 ≤ to.toInt) (t1 : to.toInt ≤ 31) (v0 : 73 ≤ vy.toInt) (v1 : vy.toInt ≤ 76) (c0 : 77 ≤ ce.toInt) (c1 : ce.toInt ≤ 80) (hN : z_H th G a nb hb nm w h3 h4 h5) : x_Gd xs L J (d + 2) m_176 (z_G th G nb nm h3 h5 to E_rpM) 0 (lv_args 0 [.ref a, .int to, .int vy, .int ce]) [] G := by
  have hI := hN.1
  have ta := hN.2.1
  refine sg_rpA_go (d := d + 1) (by omega) (v := (y_v [(a : Int), to.toInt, vy.toInt, ce.toInt])) (G0 := G) ⟨y_v_Bd (List.forall_mem_cons.mpr ⟨(y_cellB hI ta), (List.forall_mem_cons.mpr ⟨(x_i32 to), (List.forall_mem_cons.mpr ⟨(x_i32 vy), (List.forall_mem_cons.mpr ⟨(x_i32 ce), (fun _ h => absurd h List.not_mem_nil)⟩)⟩)⟩)⟩), (fun _ h => absurd h List.not_mem_nil), (List.forall_mem_cons.mpr ⟨⟨_, rfl, a, rfl, (by simp only [xl_ev, xt_ev, y_v, List.getD_cons_succ, List.getD_cons_zero]; omega), ta⟩, (List.forall_mem_cons.mpr ⟨⟨_, rfl, to, rfl, (by simp only [xl_ev, xt_ev, y_v, List.getD_cons_succ, List.getD_cons_zero]; omega)⟩, (List.forall_mem_cons.mpr ⟨⟨_, rfl, vy, rfl, (by simp only [xl_ev, xt_ev, y_v, List.getD_cons_succ, List.getD_cons_zero]; omega)⟩, (List.forall_mem_cons.mpr ⟨⟨_, rfl, ce, rfl, (by simp only [xl_ev, xt_ev, y_v, List.getD_cons_succ, List.getD_cons_zero]; omega)⟩, (fun _ h => absurd h List.not_mem_nil)⟩)⟩)⟩)⟩), trivial, (fun _ h => absurd h List.not_mem_nil), hI⟩ x_eff.rf (fun r G' h => ?_) (fun n hn vn lv G1 hag hS1 hE1 => ?_)
  · obtain ⟨v', -, -, -, -, p, hp, -⟩ := h
    exact absurd hp List.not_mem_nil
  obtain rfl : n = _ := List.mem_singleton.mp hn
  have z0 : vn 0 = (a : Int) := hag 0 (by decide)
  have z1 : vn 1 = to.toInt := hag 1 (by decide)
  have z2 : vn 2 = vy.toInt := hag 2 (by decide)
  have z3 : vn 3 = ce.toInt := hag 3 (by decide)
  have g0 := hS1.loCe (i := 0) (t := 10) (l := ([(0, 1)], 0)) (a := a) (List.mem_of_getElem? (i := 0) rfl) (by simp only [xl_ev, xt_ev]; omega)
  have g1 := hS1.lo0e (i := 1) (l := ([(1, 1)], 0)) (x := to) (List.mem_of_getElem? (i := 1) rfl) (by simp only [xl_ev, xt_ev]; omega)
  have g2 := hS1.lo0e (i := 2) (l := ([(2, 1)], 0)) (x := vy) (List.mem_of_getElem? (i := 2) rfl) (by simp only [xl_ev, xt_ev]; omega)
  have g3 := hS1.lo0e (i := 3) (l := ([(3, 1)], 0)) (x := ce) (List.mem_of_getElem? (i := 3) rfl) (by simp only [xl_ev, xt_ev]; omega)
  have hI1 := hS1.2.2.2.2.2
  obtain ⟨nm1, w1, hN1, en, -⟩ := hN.eff hI1 hE1 rfl
  have n2 := hN1.2.2.2.1
  refine y_aln (e_176 (14, .aload_n 0, 1) (List.mem_of_getElem? (i := 8) rfl)) g0 ?_
  refine y_iln (e_176 (15, .iload_n 1, 1) (List.mem_of_getElem? (i := 9) rfl)) g1 ?_
  refine y_c2 (K' := _) (e_176 (16, .invokevirtual 214, 3) (List.mem_of_getElem? (i := 10) rfl)) ⟨rfl, rfl, rfl⟩ t_17_214 ⟨by decide, by decide, by decide, by decide⟩ m_177_ok rfl (by decide) (y_recv hI1 ta ⟨rfl, rfl⟩) (Nat.le_of_ble_eq_true rfl) (Nat.le_of_ble_eq_true rfl) (g_fresh (d := d) (by omega) t0 t1 hN1) (fun r1 G2 h1 => ?_)
  obtain ⟨hI2, ef2, hr⟩ := h1
  have ef : x_eff th (E_rpA ++ E_rpM ++ E_fr to.toInt.toNat) G G2 := hE1.l.l.tr ef2.r
  rcases hr with rfl | ⟨rfl, w2, q1, q2, q3⟩
  · simp only [Option.toList_some, Option.toList_none, List.cons_append, List.nil_append]
    refine y_ifc (e_176 (19, .ifCond .eq 41, 3) (List.mem_of_getElem? (i := 11) rfl)) rfl (fun _ => ?_) (fun hb => absurd hb (by decide))
    refine y_st (e_176 (60, .iconst 0, 1) (List.mem_of_getElem? (i := 36) rfl)) ⟨rfl, rfl, rfl, rfl⟩ ?_
    refine y_ret (e_176 (61, .ireturn, 1) (List.mem_of_getElem? (i := 37) rfl)) ⟨rfl, y_rb (by decide)⟩ ⟨hI2, ef, Or.inl rfl⟩
  · simp only [Option.toList_some, Option.toList_none, List.cons_append, List.nil_append]
    refine y_ifc (e_176 (19, .ifCond .eq 41, 3) (List.mem_of_getElem? (i := 11) rfl)) rfl (fun hb => absurd hb (by decide)) (fun _ => ?_)
    refine sg_rpM_go (d := d + 1) (by omega) (v := (y_v [(a : Int), vy.toInt, ce.toInt])) (G0 := G2) ⟨y_v_Bd (List.forall_mem_cons.mpr ⟨(y_cellB hI2 ta), (List.forall_mem_cons.mpr ⟨(x_i32 vy), (List.forall_mem_cons.mpr ⟨(x_i32 ce), (fun _ h => absurd h List.not_mem_nil)⟩)⟩)⟩), (List.forall_mem_cons.mpr ⟨(by simp only [xl_ev, xt_ev, y_v, List.getD_cons_succ, List.getD_cons_zero]; omega), (List.forall_mem_cons.mpr ⟨(by simp only [xl_ev, xt_ev, y_v, List.getD_cons_succ, List.getD_cons_zero]; omega), (List.forall_mem_cons.mpr ⟨(by simp only [xl_ev, xt_ev, y_v, List.getD_cons_succ, List.getD_cons_zero]; omega), (List.forall_mem_cons.mpr ⟨(by simp only [xl_ev, xt_ev, y_v, List.getD_cons_succ, List.getD_cons_zero]; omega), (fun _ h => absurd h List.not_mem_nil)⟩)⟩)⟩)⟩), (List.forall_mem_cons.mpr ⟨⟨_, g0, a, rfl, (by simp only [xl_ev, xt_ev, y_v, List.getD_cons_succ, List.getD_cons_zero]; omega), ta⟩, (List.forall_mem_cons.mpr ⟨⟨_, g2, vy, rfl, (by simp only [xl_ev, xt_ev, y_v, List.getD_cons_succ, List.getD_cons_zero]; omega)⟩, (List.forall_mem_cons.mpr ⟨⟨_, g3, ce, rfl, (by simp only [xl_ev, xt_ev, y_v, List.getD_cons_succ, List.getD_cons_zero]; omega)⟩, (fun _ h => absurd h List.not_mem_nil)⟩)⟩)⟩), trivial, (fun _ h => absurd h List.not_mem_nil), hI2⟩ x_eff.rf (fun r G' h => ?_) (fun n hn => absurd hn List.not_mem_nil)
    obtain ⟨v', -, -, hI', ef3, p, hp, pc, -, pa⟩ := h
    obtain rfl : p = _ := List.mem_singleton.mp hp
    have c0 := pc ([(3, 1)], 0) (List.mem_of_getElem? (i := 0) rfl)
    have c1 := pc ([(3, -1)], 1) (List.mem_of_getElem? (i := 1) rfl)
    obtain ⟨y, rfl, hy⟩ := y_pI pa
    simp only [xl_ev, xt_ev] at c0 c1 hy
    have ef4 : x_eff th (E_rpA ++ E_rpM ++ E_fr to.toInt.toNat) G2 G' := ef3.r.l
    rcases (show y.toInt = 0 ∨ y.toInt = 1 by omega) with y0 | y1
    · obtain rfl : y = 0 := y_i0 y0
      exact ⟨hI', ef.tr ef4, Or.inl rfl⟩
    · obtain rfl : y = 1 := y_i1 y1
      refine ⟨hI', ef.tr ef4, Or.inr ⟨rfl, w2, by rw [ef3.at n2 rfl]; exact q1, fun i hi => ?_, fun j hj => ?_⟩⟩
      · have r3 := hN.r3
        rw [← en (16 + i) (by omega) rfl]
        exact q2 i hi
      · have r5 := hN.r5
        rw [← en (28 + j) (by omega) rfl]
        exact q3 j hj
end ZK
