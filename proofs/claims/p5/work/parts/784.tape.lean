section ZI3
variable {th : List Nat} {xs : Nat → Int32} {L J d ax am : Nat} {G G' : List pE} {sc sm : Int32} {E : List (Nat × Nat × Nat)}
theorem z_INp.effC {P P' : Prop} (tx : th[ax]? = some 9) (ta : th[am]? = some 10) (h : z_INp P th ax am G sc sm) (hI : xI x_tb th G') (he : x_eff th E G G') (hok : (okE0 E && (y_out E 9 0 && y_out E 10 2)) = true) {tp : Nat} {sc' : Int32} (k1 : x_sl G ax 0 = some (.ref tp)) (k2 : th[tp]? = some 7) (hs : x_sl G' tp 1 = some (.int sc')) (hP : P') : z_INp P' th ax am G' sc' sm := by
  obtain ⟨h0, hok⟩ := Bool.and_eq_true_iff.mp hok
  obtain ⟨h1, h3⟩ := Bool.and_eq_true_iff.mp hok
  obtain ⟨-, hV, tp', j1, j2, j3, j4, jK⟩ := h
  exact ⟨hI, okE0_ok ta hV hI he h0, tp, by rw [he.at tx h1]; exact k1, k2, hs, by rw [he.at ta h3]; exact j4, hP⟩
theorem z_IN.effC (tx : th[ax]? = some 9) (ta : th[am]? = some 10) (h : z_IN th ax am G sc sm) (hI : xI x_tb th G') (he : x_eff th E G G') (hok : ((okE0 E && (y_out E 9 0 && y_out E 10 2)) && okK E) = true) {tp : Nat} {sc' : Int32} (k1 : x_sl G ax 0 = some (.ref tp)) (k2 : th[tp]? = some 7) (hs : x_sl G' tp 1 = some (.int sc')) : z_IN th ax am G' sc' sm := by
  obtain ⟨h0, h4⟩ := Bool.and_eq_true_iff.mp hok
  exact z_INp.effC tx ta h hI he h0 k1 k2 hs (h.kk.eff he h4)
theorem z_INp.effM {P P' : Prop} (tx : th[ax]? = some 9) (ta : th[am]? = some 10) (h : z_INp P th ax am G sc sm) (hI : xI x_tb th G') (hV' : z_IV th am G') (he : x_eff th E G G') (hok : (y_out E 9 0 && y_out E 7 1) = true) {sm' : Int32} (hs : x_sl G' am 2 = some (.int sm')) (hP : P') : z_INp P' th ax am G' sc sm' := by
  obtain ⟨h0, h1⟩ := Bool.and_eq_true_iff.mp hok
  obtain ⟨-, -, tp, j1, j2, j3, j4, jK⟩ := h
  exact ⟨hI, hV', tp, by rw [he.at tx h0]; exact j1, j2, by rw [he.at j2 h1]; exact j3, hs, hP⟩
theorem z_IN.effM (tx : th[ax]? = some 9) (ta : th[am]? = some 10) (h : z_IN th ax am G sc sm) (hI : xI x_tb th G') (hV' : z_IV th am G') (he : x_eff th E G G') (hok : ((y_out E 9 0 && y_out E 7 1) && okK E) = true) {sm' : Int32} (hs : x_sl G' am 2 = some (.int sm')) : z_IN th ax am G' sc sm' := by
  obtain ⟨h0, h1⟩ := Bool.and_eq_true_iff.mp hok
  exact z_INp.effM tx ta h hI hV' he h0 hs (h.kk.eff he h1)
theorem z_INp.tape {P : Prop} (tx : th[ax]? = some 9) (h : z_INp P th ax am G sc sm) : 0 ≤ sc.toInt ∧ sc.toInt ≤ 940 := by
  obtain ⟨hI, -, tp, j1, j2, j3, j4, jK⟩ := h
  exact y_fie (i := 1) (t := 7) hI j2 rfl j3
theorem z_IN.tape (tx : th[ax]? = some 9) (h : z_IN th ax am G sc sm) : 0 ≤ sc.toInt ∧ sc.toInt ≤ 940 := z_INp.tape tx h
theorem z_INp.len {P : Prop} (ta : th[am]? = some 10) (h : z_INp P th ax am G sc sm) : 0 ≤ sm.toInt ∧ sm.toInt ≤ 940 := by
  obtain ⟨hI, -, tp, j1, j2, j3, j4, jK⟩ := h
  exact y_fie (i := 2) (t := 10) hI ta rfl j4
theorem z_IN.len (ta : th[am]? = some 10) (h : z_IN th ax am G sc sm) : 0 ≤ sm.toInt ∧ sm.toInt ≤ 940 := z_INp.len ta h
theorem th0_tx4 : th0[0]? = some 9 := by decide +kernel
theorem b_feedk (h : z_IN th ax am G sc sm) (x1 x2 x3 x4 x5 : Int32) : x_Gd xs L J (d + 1) m_11 (fun r G' => ∀ i, x_sl G' 2 i = if sc.toInt ≤ 920 then f_w20 (x_sl G 2) sc.toInt.toNat x1 x2 x3 x4 x5 i else x_sl G 2 i) 0 (lv_args 0 [.ref ax, .int x1, .int x2, .int x3, .int x4, .int x5]) [] G := by
  obtain ⟨tp, j1, j2, j3, j4, jK⟩ := h.2.2
  obtain ⟨rfl, rfl, rfl, ⟨hC, hB⟩, -⟩ := jK
  have rs := h.tape th0_tx4
  obtain ⟨p0, -, -, p3, -, -, -, -, -, -, -, -, -, -, -, -, -, -, -, -, -, -, -⟩ := id hC
  obtain rfl : tp = 1 := by
    rw [p0] at j1
    cases j1
    rfl
  exact kb_feed (d := d) th0_tx4 p0 (n := sc) (b := 2) (g := x_sl G 2) ⟨h.1, th0_p.1, th0_p.2.1, p3, j3, fun _ => rfl, fun _ _ _ _ => rfl⟩ rs x1 x2 x3 x4 x5
theorem z_LIp {x1 x2 x3 x4 x5 : Int32} (h : z_IN th ax am G sc sc) (ef : x_eff th E G G') (h1 : okLp E = true) (h2 : E.all (fun q => !(q.1 == 35)) = true) (h3 : y_outs E z_fz = true) (h4 : y_outs E z_fm = true) (kb : ∀ i, x_sl G' 2 i = if sc.toInt ≤ 920 then f_w20 (x_sl G 2) sc.toInt.toNat x1 x2 x3 x4 x5 i else x_sl G 2 i) : z_KK (z_LIJ sc x1 x2 x3 x4 x5) th ax am G' := by
  obtain ⟨rfl, rfl, rfl, ⟨hC, hB⟩, w, wi, hX, hM⟩ := h.kk
  refine ⟨rfl, rfl, rfl, ⟨hC.eff ef h1, fun i hi => ?_⟩, w, wi, hX.eff ef h3, hM.eff ef h4⟩
  have e0 : x_sl G' 350 i = x_sl G 350 i := ef.at (show th0[350]? = some 35 from th0_z _ (List.mem_of_getElem? (i := 10) rfl)) (y_outT h2 i)
  rw [kb i]
  by_cases hl : sc.toInt ≤ 920
  · rw [if_pos hl, if_pos hl]
    exact f_w20_c ((hB i hi).trans e0.symm)
  · rw [if_neg hl, if_neg hl, hB i hi, e0]
theorem n_feedk {x1 x2 x3 x4 x5 : Int32} (h : z_IH th ax am G sc sm x1 x2 x3 x4 x5) : x_Gd xs L J (d + 1) m_156 (fun r G' => ∀ i, x_sl G' 350 i = if sm.toInt ≤ 920 then f_w20 (x_sl G 350) sm.toInt.toNat x1 x2 x3 x4 x5 i else x_sl G 350 i) 0 (lv_args 0 [.ref am, .int x1, .int x2, .int x3, .int x4, .int x5]) [] G := by
  obtain ⟨tp, j1, j2, j3, j4, jK⟩ := h.2.2
  obtain ⟨rfl, rfl, rfl, ⟨hC, hB⟩, -⟩ := jK
  have ta : th0[349]? = some 10 := th0_z (349, 10) (List.mem_of_getElem? (i := 9) rfl)
  have rs := z_INp.len ta h
  obtain ⟨-, -, -, -, -, -, -, -, -, -, -, -, -, -, -, p15, -, -, -, -, -, -, -⟩ := id hC
  exact kf_feed (d := d) (n := sm) (g := x_sl G 350) ⟨h.1, ta, th0_z (350, 35) (List.mem_of_getElem? (i := 10) rfl), p15, j4, fun _ => rfl⟩ rs x1 x2 x3 x4 x5
theorem z_LAp {x1 x2 x3 x4 x5 : Int32} (h : z_IH th ax am G sc sm x1 x2 x3 x4 x5) (ef : x_eff th E G G') (h1 : okLp E = true) (h2 : E.all (fun q => !(q.1 == 28)) = true) (h3 : y_outs E z_fz = true) (h4 : y_outs E z_fm = true) (kb : ∀ i, x_sl G' 350 i = if sm.toInt ≤ 920 then f_w20 (x_sl G 350) sm.toInt.toNat x1 x2 x3 x4 x5 i else x_sl G 350 i) : z_KK z_LJ th ax am G' := by
  obtain ⟨tp, j1, j2, j3, j4, jK⟩ := h.2.2
  obtain ⟨rfl, rfl, rfl, ⟨hC, hB⟩, w, wi, hX, hM⟩ := jK
  exact ⟨rfl, rfl, rfl, ⟨hC.eff ef h1, fun i hi => by rw [ef.at (show th0[2]? = some 28 from th0_z _ (List.mem_of_getElem? (i := 2) rfl)) (y_outT h2 i), kb i, hB i hi]⟩, w, wi, hX.eff ef h3, hM.eff ef h4⟩
set_option maxHeartbeats 2000000 in
set_option maxRecDepth 100000 in
theorem b_feed (hd : 318 ≤ d) (tx : th[ax]? = some 9) (ta : th[am]? = some 10) (h : z_IN th ax am G sc sc) (x1 x2 x3 x4 x5 : Int32) : x_Gd xs L J d m_11 (fun r G' => ∃ y sc' : Int32, r = some (.int y) ∧ z_IH th ax am G' sc' sc x1 x2 x3 x4 x5 ∧ ((sc.toInt ≤ 920 ∧ sc'.toInt = sc.toInt + 20) ∨ (921 ≤ sc.toInt ∧ sc'.toInt = sc.toInt))) 0 (lv_args 0 [.ref ax, .int x1, .int x2, .int x3, .int x4, .int x5]) [] G := by
  obtain ⟨d, rfl⟩ : ∃ k, d = k + 1 := ⟨d - 1, by omega⟩
  obtain ⟨tp, j1, j2, j3, j4, jK⟩ := h.2.2
  have rs := h.tape tx
  refine (((h_311 th xs L J).gd (G := G) (d := d + 1) m_11_ok (by omega) (v := (y_v [(ax : Int), x1.toInt, x2.toInt, x3.toInt, x4.toInt, x5.toInt, (tp : Int), sc.toInt])) (as := [.ref ax, .int x1, .int x2, .int x3, .int x4, .int x5]) (y_v_Bd (List.forall_mem_cons.mpr ⟨(y_cellB h.1 tx), (List.forall_mem_cons.mpr ⟨(x_i32 x1), (List.forall_mem_cons.mpr ⟨(x_i32 x2), (List.forall_mem_cons.mpr ⟨(x_i32 x3), (List.forall_mem_cons.mpr ⟨(x_i32 x4), (List.forall_mem_cons.mpr ⟨(x_i32 x5), (List.forall_mem_cons.mpr ⟨(y_cellB h.1 j2), (List.forall_mem_cons.mpr ⟨(x_i32 sc), (fun _ h => absurd h List.not_mem_nil)⟩)⟩)⟩)⟩)⟩)⟩)⟩)⟩)) (List.forall_mem_cons.mpr ⟨(by simp only [xl_ev, xt_ev, y_v, List.getD_cons_succ, List.getD_cons_zero]; omega), (List.forall_mem_cons.mpr ⟨(by simp only [xl_ev, xt_ev, y_v, List.getD_cons_succ, List.getD_cons_zero]; omega), (fun _ h => absurd h List.not_mem_nil)⟩)⟩) ⟨⟨ax, rfl, (by simp only [xl_ev, xt_ev, y_v, List.getD_cons_succ, List.getD_cons_zero]; omega), tx⟩, ⟨x1, rfl, (by simp only [xl_ev, xt_ev, y_v, List.getD_cons_succ, List.getD_cons_zero]; omega)⟩, ⟨x2, rfl, (by simp only [xl_ev, xt_ev, y_v, List.getD_cons_succ, List.getD_cons_zero]; omega)⟩, ⟨x3, rfl, (by simp only [xl_ev, xt_ev, y_v, List.getD_cons_succ, List.getD_cons_zero]; omega)⟩, ⟨x4, rfl, (by simp only [xl_ev, xt_ev, y_v, List.getD_cons_succ, List.getD_cons_zero]; omega)⟩, ⟨x5, rfl, (by simp only [xl_ev, xt_ev, y_v, List.getD_cons_succ, List.getD_cons_zero]; omega)⟩, trivial⟩ (List.forall_mem_cons.mpr ⟨⟨ax, (by simp only [xl_ev, xt_ev, y_v, List.getD_cons_succ, List.getD_cons_zero]; omega), tx, _, j1, tp, rfl, (by simp only [xl_ev, xt_ev, y_v, List.getD_cons_succ, List.getD_cons_zero]; omega), j2⟩, (List.forall_mem_cons.mpr ⟨⟨tp, (by simp only [xl_ev, xt_ev, y_v, List.getD_cons_succ, List.getD_cons_zero]; omega), j2, _, j3, sc, rfl, (by simp only [xl_ev, xt_ev, y_v, List.getD_cons_succ, List.getD_cons_zero]; omega)⟩, (fun _ h => absurd h List.not_mem_nil)⟩)⟩) h.1 (fun z => by cases z)).and (b_feedk (d := d) h x1 x2 x3 x4 x5)).mono (fun r G' h' => ?_)
  obtain ⟨⟨v', hag, -, hI', ef, p, hp, qc, qf, pa⟩, kb⟩ := h'
  have hP := z_LIp h ef (by decide +kernel) (by decide +kernel) (by decide +kernel) (by decide +kernel) kb
  have zt : v' 6 = (tp : Int) := hag 6 (by decide)
  have z1 : v' 1 = x1.toInt := hag 1 (by decide)
  have z2 : v' 2 = x2.toInt := hag 2 (by decide)
  have z3 : v' 3 = x3.toInt := hag 3 (by decide)
  have z4 : v' 4 = x4.toInt := hag 4 (by decide)
  have z5 : v' 5 = x5.toInt := hag 5 (by decide)
  have zs : v' 7 = sc.toInt := hag 7 (by decide)
  simp only [c_311, List.mem_cons, List.not_mem_nil, or_false] at hp
  rcases hp with rfl | rfl
  · obtain ⟨y, rfl, hy⟩ := y_pI pa
    have c0 := qc _ (List.mem_of_getElem? (i := 0) rfl)
    obtain ⟨s2, f2, e2⟩ := y_pf0 (a := tp) (qf _ (List.mem_of_getElem? (i := 0) rfl)) (by simp only [xl_ev, xt_ev]; omega)
    simp only [xl_ev, xt_ev] at hy e2 c0
    have hN := z_INp.effC tx ta h hI' ef (by decide +kernel) j1 j2 f2 hP
    exact ⟨y, s2, rfl, hN, Or.inl ⟨by omega, by omega⟩⟩
  · obtain ⟨y, rfl, hy⟩ := y_pI pa
    have c0 := qc _ (List.mem_of_getElem? (i := 0) rfl)
    obtain ⟨s2, f2, e2⟩ := y_pf0 (a := tp) (qf _ (List.mem_of_getElem? (i := 0) rfl)) (by simp only [xl_ev, xt_ev]; omega)
    simp only [xl_ev, xt_ev] at hy e2 c0
    have hN := z_INp.effC tx ta h hI' ef (by decide +kernel) j1 j2 f2 hP
    exact ⟨y, s2, rfl, hN, Or.inr ⟨by omega, by omega⟩⟩
set_option maxHeartbeats 2000000 in
set_option maxRecDepth 100000 in
theorem b_end (hd : 318 ≤ d) (tx : th[ax]? = some 9) (ta : th[am]? = some 10) (h : z_IN th ax am G sc sm) (x1 : Int32) : x_Gd xs L J d m_14 (fun r G' => ∃ y sc' : Int32, r = some (.int y) ∧ z_IN th ax am G' sc' sm ∧ ((y = 1 ∧ 0 ≤ x1.toInt ∧ x1.toInt ≤ sc.toInt ∧ sc' = x1) ∨ (y = 0 ∧ ¬ (0 ≤ x1.toInt ∧ x1.toInt ≤ sc.toInt) ∧ sc' = sc))) 0 (lv_args 0 [.ref ax, .int x1]) [] G := by
  obtain ⟨tp, j1, j2, j3, j4, jK⟩ := h.2.2
  have rs := h.tape tx
  refine ((h_312 th xs L J).gd (G := G) (d := d) m_14_ok (by omega) (v := (y_v [(ax : Int), x1.toInt, (tp : Int), sc.toInt])) (as := [.ref ax, .int x1]) (y_v_Bd (List.forall_mem_cons.mpr ⟨(y_cellB h.1 tx), (List.forall_mem_cons.mpr ⟨(x_i32 x1), (List.forall_mem_cons.mpr ⟨(y_cellB h.1 j2), (List.forall_mem_cons.mpr ⟨(x_i32 sc), (fun _ h => absurd h List.not_mem_nil)⟩)⟩)⟩)⟩)) (List.forall_mem_cons.mpr ⟨(by simp only [xl_ev, xt_ev, y_v, List.getD_cons_succ, List.getD_cons_zero]; omega), (List.forall_mem_cons.mpr ⟨(by simp only [xl_ev, xt_ev, y_v, List.getD_cons_succ, List.getD_cons_zero]; omega), (fun _ h => absurd h List.not_mem_nil)⟩)⟩) ⟨⟨ax, rfl, (by simp only [xl_ev, xt_ev, y_v, List.getD_cons_succ, List.getD_cons_zero]; omega), tx⟩, ⟨x1, rfl, (by simp only [xl_ev, xt_ev, y_v, List.getD_cons_succ, List.getD_cons_zero]; omega)⟩, trivial⟩ (List.forall_mem_cons.mpr ⟨⟨ax, (by simp only [xl_ev, xt_ev, y_v, List.getD_cons_succ, List.getD_cons_zero]; omega), tx, _, j1, tp, rfl, (by simp only [xl_ev, xt_ev, y_v, List.getD_cons_succ, List.getD_cons_zero]; omega), j2⟩, (List.forall_mem_cons.mpr ⟨⟨tp, (by simp only [xl_ev, xt_ev, y_v, List.getD_cons_succ, List.getD_cons_zero]; omega), j2, _, j3, sc, rfl, (by simp only [xl_ev, xt_ev, y_v, List.getD_cons_succ, List.getD_cons_zero]; omega)⟩, (fun _ h => absurd h List.not_mem_nil)⟩)⟩) h.1 (fun z => by cases z)).mono (fun r G' h' => ?_)
  obtain ⟨v', hag, -, hI', ef, p, hp, qc, qf, pa⟩ := h'
  have zt : v' 2 = (tp : Int) := hag 2 (by decide)
  have z1 : v' 1 = x1.toInt := hag 1 (by decide)
  have zs : v' 3 = sc.toInt := hag 3 (by decide)
  simp only [c_312, List.mem_cons, List.not_mem_nil, or_false] at hp
  rcases hp with rfl | rfl | rfl
  · obtain ⟨y, rfl, hy⟩ := y_pI pa
    have c0 := qc _ (List.mem_of_getElem? (i := 0) rfl)
    have c1 := qc _ (List.mem_of_getElem? (i := 1) rfl)
    obtain ⟨s2, f2, e2⟩ := y_pf0 (a := tp) (qf _ (List.mem_of_getElem? (i := 0) rfl)) (by simp only [xl_ev, xt_ev]; omega)
    simp only [xl_ev, xt_ev] at hy e2 c0 c1
    have hN := h.effC tx ta hI' ef (by decide +kernel) j1 j2 f2
    exact ⟨y, s2, rfl, hN, Or.inl ⟨y_i1 (by omega), by omega, by omega, Int32.toInt_inj.mp (by omega)⟩⟩
  · obtain ⟨y, rfl, hy⟩ := y_pI pa
    have c0 := qc _ (List.mem_of_getElem? (i := 0) rfl)
    obtain ⟨s2, f2, e2⟩ := y_pf0 (a := tp) (qf _ (List.mem_of_getElem? (i := 0) rfl)) (by simp only [xl_ev, xt_ev]; omega)
    simp only [xl_ev, xt_ev] at hy e2 c0
    have hN := h.effC tx ta hI' ef (by decide +kernel) j1 j2 f2
    exact ⟨y, s2, rfl, hN, Or.inr ⟨y_i0 (by omega), by omega, Int32.toInt_inj.mp (by omega)⟩⟩
  · obtain ⟨y, rfl, hy⟩ := y_pI pa
    have c0 := qc _ (List.mem_of_getElem? (i := 0) rfl)
    obtain ⟨s2, f2, e2⟩ := y_pf0 (a := tp) (qf _ (List.mem_of_getElem? (i := 0) rfl)) (by simp only [xl_ev, xt_ev]; omega)
    simp only [xl_ev, xt_ev] at hy e2 c0
    have hN := h.effC tx ta hI' ef (by decide +kernel) j1 j2 f2
    exact ⟨y, s2, rfl, hN, Or.inr ⟨y_i0 (by omega), by omega, Int32.toInt_inj.mp (by omega)⟩⟩
theorem t_0_107 : pm_ctab.find? (fun r => r.1 == 0 && r.2.1 == 107) = some (0, 107, 1, 17, 540) := by decide +kernel
theorem z_KK.land (h : z_KK z_LJ th ax am G) (he : x_eff th E G G') (hok : (okA E && y_outs E z_f9) = true) : z_KK (fun G' => z_LA G' ∧ ∀ w wi, z_JM w wi G → z_JN wi G') th ax am G' := by
  obtain ⟨rfl, rfl, rfl, h, -⟩ := h
  obtain ⟨h1, h2⟩ := Bool.and_eq_true_iff.mp hok
  exact ⟨rfl, rfl, rfl, h.eff he h1, fun w wi hM => hM.jn.eff he h2⟩
def z_fr : List (Nat × Nat × Nat) := [(36, 0, 24), (39, 0, 15)]
/-- a new kind of FAULT on the class's side -/
theorem z_KK.lq {w : Nat → Nat → Option Value} {wi : Nat → Nat → Nat → Option Value} {F : Int32 → List pE → Prop} {q : Int32} (h : z_KK z_LJ th ax am G) (he : x_eff th E G G') (hok : (okA E && (y_outs E z_f9 && y_outs E z_fr)) = true) (hJ : z_JW w wi G) (hX : ZX w wi G') (h17 : x_sl G' 0 17 = some (.int q)) (hF : F q G') : z_KK (z_LQ F) th ax am G' := by
  obtain ⟨rfl, rfl, rfl, h, -⟩ := h
  obtain ⟨h1, h2⟩ := Bool.and_eq_true_iff.mp hok
  obtain ⟨h2, h3⟩ := Bool.and_eq_true_iff.mp h2
  exact ⟨rfl, rfl, rfl, h.eff he h1, w, wi, q, hX, hJ.2.jn.eff he h2, hJ.2.2.1.c (z_nrow_c (fun i hi => he.at z_mt.1 (y_outs_ok h3 (List.mem_of_getElem? (i := 0) rfl) (Nat.zero_le _) (by omega))) (fun i hi => he.at z_mt2.1 (y_outs_ok h3 (List.mem_of_getElem? (i := 1) rfl) (Nat.zero_le _) (by omega)))), h17, hF⟩
theorem z_IN.zx (h : z_IN th ax am G sc sm) (he : x_eff th E G G') (hok : y_outs E z_fz = true) : ∃ w wi, z_JW w wi G ∧ ZX w wi G' := by
  obtain ⟨rfl, rfl, rfl, -, w, wi, hJ⟩ := h.kk
  exact ⟨w, wi, hJ, hJ.1.eff he hok⟩
theorem z_JL {w' : Nat → Nat → Option Value} {wi : Nat → Nat → Nat → Option Value} (h : z_JN wi G) (he : x_eff th0 E G G') (hok : y_outs E z_f9 = true) (hR : RW w' (z_nrow G')) (hF : z_FK G') : z_JM w' wi G' := by
  obtain ⟨a, b, c⟩ := h.eff he hok
  exact ⟨a, hR, ⟨b, hF⟩, c⟩
/-- the model has said it as well -/
theorem z_KK.lqn {w : Nat → Nat → Option Value} {wi : Nat → Nat → Nat → Option Value} {q : Int32} (hA : z_LA G) (hX : ZX w wi G) (hN : z_JN wi G) (hR : RW w (z_nrow G)) (h17 : x_sl G 0 17 = some (.int q)) (he : x_eff th0 E G G') (hok : (okA E && ((y_outs E z_f9 && y_outs E z_fr) && (y_outs E z_fz && y_out E 9 17))) = true) (h15 : x_sl G' 349 15 = some (.int q)) : z_KK z_LJ th0 0 349 G' := by
  obtain ⟨h1, h2⟩ := Bool.and_eq_true_iff.mp hok
  obtain ⟨h2, h4⟩ := Bool.and_eq_true_iff.mp h2
  obtain ⟨h2, h3⟩ := Bool.and_eq_true_iff.mp h2
  obtain ⟨h4, h5⟩ := Bool.and_eq_true_iff.mp h4
  exact ⟨rfl, rfl, rfl, hA.eff he h1, w, wi, hX.eff he h4, z_JL hN he h2 (hR.c (z_nrow_c (fun i hi => he.at z_mt.1 (y_outs_ok h3 (List.mem_of_getElem? (i := 0) rfl) (Nat.zero_le _) (by omega))) (fun i hi => he.at z_mt2.1 (y_outs_ok h3 (List.mem_of_getElem? (i := 1) rfl) (Nat.zero_le _) (by omega))))) ((he.at z_ty.1 h5).trans (h17.trans h15.symm))⟩
theorem th0_U4 : ∀ b b' : Nat, th0[b]? = some 36 → th0[b']? = some 36 → b = b' := by
  have q : ∀ b, b < 366 → th0[b]? = some 36 → b = 351 := by decide +kernel
  have key : ∀ b : Nat, th0[b]? = some 36 → b = 351 := fun b hb => by
    have := (List.getElem?_eq_some_iff.mp hb).1
    rw [th2_len.2] at this
    exact q b this hb
  intro b b' h1 h2
  rw [key b h1, key b' h2]
/-- a LAND has been read into the trial hill -/
theorem ZL.rd {w : Nat → Nat → Option Value} {wi : Nat → Nat → Nat → Option Value} {pc : Int32} (H : ZL w wi pc G) (he : x_eff th0 E G G') (hok : (y_outs E z_fp && (y_out E 9 5 && E.all (fun q => !(q.1 == 29)))) = true) (hfr : ∀ h ∈ z_hs, h ≠ 32 → ∀ c, z_nc c → ∀ i, x_sl G' (h + c) i = x_sl G (h + c) i) : ZL w wi pc G' := by
  obtain ⟨h1, hok⟩ := Bool.and_eq_true_iff.mp hok
  obtain ⟨h2, h3⟩ := Bool.and_eq_true_iff.mp hok
  obtain ⟨hp, h6, h5, hk, i0, i1⟩ := H
  have lv : ∀ h, h ∈ z_hs → h ≠ 32 → ∀ w', LV h w' G → LV h w' G' := fun h hh hne w' hl => hl.fc (fun c hc i => hfr h hh hne c hc i)
  refine ⟨hp.eff he h1, lv 6 (by decide) (by decide) w h6, (he.at z_ty.1 h2).trans h5, fun k k8 => ?_, lv 287 (by decide) (by decide) _ i0, lv 318 (by decide) (by decide) _ i1⟩
  obtain ⟨p, pp, e, hl⟩ := hk k k8
  exact ⟨p, pp, (he.at z_ty.2.1 (y_outT5 h3 k)).trans e, fun z => lv p (z_psH p pp).1 (by have := (z_psH p pp).2; omega) w (hl z)⟩
theorem y_fiT {th : List Nat} {G : List pE} {a i t : Nat} {lo hi : Int} (hI : xI x_tb th G) (ta : th[a]? = some t) (e : x_at (x_tb t).2.2.2 i = some (0, lo, hi)) : ∃ x : Int32, x_sl G a i = some (.int x) := by
  obtain ⟨w, k1, x, rfl, -⟩ := (hI.2.2 a t ta).2 i _ e
  exact ⟨x, k1⟩
theorem y_ftok {th : List Nat} {G : List pE} {a i t : Nat} (hI : xI x_tb th G) (ta : th[a]? = some t) (e : x_at (x_tb t).2.2.2 i = some (3, 0, 0)) : ∃ k : Nat, x_sl G a i = some (.ref (pm_TB + k)) := by
  obtain ⟨w, k1, x, rfl, hx⟩ := (hI.2.2 a t ta).2 i _ e
  unfold pm_isTok at hx
  simp only [Bool.and_eq_true, decide_eq_true_eq] at hx
  exact ⟨x - pm_TB, by rw [k1, show pm_TB + (x - pm_TB) = x by omega]⟩
theorem y_fam {th : List Nat} {G : List pE} {a n t : Nat} (hI : xI x_tb th G) (ta : ∀ i, i < n → th[a + i]? = some t) (e : x_at (x_tb t).2.2.2 0 = some (1, 0, 0)) : ∃ f : Nat → Int64, ∀ i, i < n → x_sl G (a + i) 0 = some (.long (f i)) := by
  have h : ∀ i, i < n → ∃ x : Int64, x_sl G (a + i) 0 = some (.long x) := fun i hi => y_flong hI (ta i hi) e
  refine ⟨fun i => if h' : i < n then Classical.choose (h i h') else 0, fun i hi => ?_⟩
  dsimp only
  rw [dif_pos hi]
  exact Classical.choose_spec (h i hi)
theorem z_CZ {G : List pE} {f : Nat → Int32} {sz : Int32} (hI : xI x_tb th0 G) (hC : z_LC G) (hf : ∀ i, i < 940 → x_sl G 2 i = some (.int (f i))) (hs : x_sl G 1 1 = some (.int sz)) : ∃ (lim nx : Int32) (tk : Nat) (pl num : Int32) (nm : Int64) (ft fp : Int32) (cc : Nat → Int32) (np nt nl nn : Int32) (ot : Nat → Nat) (tn ln mn : Nat → Int64), CZ f sz lim nx tk pl num nm ft fp cc np nt nl nn ot tn ln mn G := by
  obtain ⟨-, -, -, p3, p4, p5, p6, p7, p8, p9, p10, p11, p12, p13, p14, -, -, -, -, a0, a1, a2, -⟩ := hC
  obtain ⟨lim, c2⟩ := y_fiT (i := 2) hI th0_p.1 rfl
  obtain ⟨nx, c3⟩ := y_fiT (i := 3) hI th0_p.1 rfl
  obtain ⟨tk, c4⟩ := y_ftok (i := 4) hI th0_p.1 rfl
  obtain ⟨pl, c5⟩ := y_fiT (i := 5) hI th0_p.1 rfl
  obtain ⟨num, c6⟩ := y_fiT (i := 6) hI th0_p.1 rfl
  obtain ⟨nm, c7⟩ := y_flong (i := 7) hI th0_p.1 rfl
  obtain ⟨ft, c8⟩ := y_fiT (i := 8) hI th0_p.1 rfl
  obtain ⟨fp, c9⟩ := y_fiT (i := 9) hI th0_p.1 rfl
  obtain ⟨c34, k34⟩ := y_iarr (t := 14) (n := 2) hI th0_p.2.2.2.2.2.2.2.1 rfl rfl
  obtain ⟨c35, k35⟩ := y_iarr (t := 15) (n := 4) hI th0_p.2.2.2.2.2.2.2.2.1 rfl rfl
  obtain ⟨c36, k36⟩ := y_iarr (t := 16) (n := 4) hI th0_p.2.2.2.2.2.2.2.2.2.1 rfl rfl
  obtain ⟨c37, k37⟩ := y_iarr (t := 17) (n := 4) hI th0_p.2.2.2.2.2.2.2.2.2.2.1 rfl rfl
  obtain ⟨c38, k38⟩ := y_iarr (t := 18) (n := 4) hI th0_p.2.2.2.2.2.2.2.2.2.2.2.1 rfl rfl
  obtain ⟨v2, l2⟩ := y_fiT (i := 2) hI th0_p.2.2.2.2.2.2.1 rfl
  obtain ⟨v3, l3⟩ := y_fiT (i := 3) hI th0_p.2.2.2.2.2.2.1 rfl
  obtain ⟨v4, l4⟩ := y_fiT (i := 4) hI th0_p.2.2.2.2.2.2.1 rfl
  obtain ⟨np, k1⟩ := y_fiT (i := 5) hI th0_p.2.2.2.2.2.2.1 rfl
  obtain ⟨nt, k2⟩ := y_fiT (i := 4) hI th0_p.2.2.2.2.2.1 rfl
  obtain ⟨nl, k3⟩ := y_fiT (i := 5) hI th0_p.2.2.2.2.2.1 rfl
  obtain ⟨nn, k4⟩ := y_fiT (i := 6) hI th0_p.2.2.2.2.2.1 rfl
  obtain ⟨tn, h1⟩ := y_fam hI th0_n.1 rfl
  obtain ⟨ln, h2⟩ := y_fam hI th0_n.2.1 rfl
  obtain ⟨mn, h3⟩ := y_fam hI th0_n.2.2 rfl
  have e : ∀ c i : Nat, ¬ (c = 3 ∧ i = 2) → t_m0 G c i = x_sl G c i := fun c i hc => by
    unfold t_m0
    rw [if_neg hc]
  refine ⟨lim, nx, tk, pl, num, nm, ft, fp, fun j => if j < 2 then c34 j else if j < 10 then c35 (j - 6) else if j = 10 then v2 else if j = 11 then v3 else if j = 12 then v4 else if j < 17 then c36 (j - 13) else if j < 21 then c37 (j - 17) else c38 (j - 21), np, nt, nl, nn, fun _ => 0, tn, ln, mn, ⟨hI, th0_p.1, th0_p.2.1, hf, fun _ _ _ => rfl, p3, hs, c2, c3, c4, c5, c6, c7, c8, c9⟩, ?_⟩
  exact ⟨(e 3 0 (by omega)).trans p4, (e 3 1 (by omega)).trans p5, by unfold t_m0; rw [if_pos ⟨rfl, rfl⟩], (e 32 0 (by omega)).trans p6, (e 32 1 (by omega)).trans p7, (e 32 2 (by omega)).trans p8, (e 32 3 (by omega)).trans p9, (e 32 4 (by omega)).trans k2, (e 32 5 (by omega)).trans k3, (e 32 6 (by omega)).trans k4, (e 33 0 (by omega)).trans p10, (e 33 1 (by omega)).trans p11, (e 33 2 (by omega)).trans l2, (e 33 3 (by omega)).trans l3, (e 33 4 (by omega)).trans l4, (e 33 5 (by omega)).trans k1, (e 33 6 (by omega)).trans p12, (e 33 7 (by omega)).trans p13, (e 33 8 (by omega)).trans p14, fun i hi => by dsimp only; rw [if_pos hi]; exact (e 34 i (by omega)).trans (k34 i hi), fun i hi => by dsimp only; rw [if_neg (by omega), if_pos (by omega), show 6 + i - 6 = i by omega]; exact (e 35 i (by omega)).trans (k35 i hi), fun i hi => by dsimp only; rw [if_neg (by omega), if_neg (by omega), if_neg (by omega), if_neg (by omega), if_neg (by omega), if_pos (by omega), show 13 + i - 13 = i by omega]; exact (e 36 i (by omega)).trans (k36 i hi), fun i hi => by dsimp only; rw [if_neg (by omega), if_neg (by omega), if_neg (by omega), if_neg (by omega), if_neg (by omega), if_neg (by omega), if_pos (by omega), show 17 + i - 17 = i by omega]; exact (e 37 i (by omega)).trans (k37 i hi), fun i hi => by dsimp only; rw [if_neg (by omega), if_neg (by omega), if_neg (by omega), if_neg (by omega), if_neg (by omega), if_neg (by omega), if_neg (by omega), show 21 + i - 21 = i by omega]; exact (e 38 i (by omega)).trans (k38 i hi), fun i hi => (e 39 i (by omega)).trans (a0 i hi), fun i hi => (e 40 i (by omega)).trans (a1 i hi), fun i hi => (e 41 i (by omega)).trans (a2 i hi), fun i _ hi => absurd hi (by show ¬ (i : Int) < 0; omega), fun i hi => (e (42 + i) 0 (by omega)).trans (h1 i hi), fun i hi => (e (50 + i) 0 (by omega)).trans (h2 i hi), fun i hi => (e (54 + i) 0 (by omega)).trans (h3 i hi)⟩
theorem z_MS {G : List pE} {f : Nat → Int32} (hI : xI x_tb th0 G) (hC : z_LC G) (hf : ∀ i, i < 940 → x_sl G 350 i = some (.int (f i))) : ∃ (n lim p tok at9 sp num : Int32) (wd : Int64) (hf : Nat → Int32) (nf : Nat → Int64) (on : Int32), MSo th0 349 350 352 354 355 f n lim p tok at9 sp num wd hf nf on G := by
  obtain ⟨-, -, -, -, -, -, -, -, -, -, -, -, -, -, -, p15, p16, p17, p18, -, -, -, a3⟩ := hC
  have ta : th0[349]? = some 10 := (th0_z (349, 10) (List.mem_of_getElem? (i := 9) rfl))
  obtain ⟨n, c3⟩ := y_fiT (i := 3) hI ta rfl
  obtain ⟨p, c4⟩ := y_fiT (i := 4) hI ta rfl
  obtain ⟨lim, c5⟩ := y_fiT (i := 5) hI ta rfl
  obtain ⟨tok, c11⟩ := y_fiT (i := 11) hI ta rfl
  obtain ⟨at9, c12⟩ := y_fiT (i := 12) hI ta rfl
  obtain ⟨sp, c13⟩ := y_fiT (i := 13) hI ta rfl
  obtain ⟨num, c14⟩ := y_fiT (i := 14) hI ta rfl
  obtain ⟨wd, c17⟩ := y_flong (i := 17) hI ta rfl
  obtain ⟨on, c20⟩ := y_fiT (i := 20) hI ta rfl
  obtain ⟨hf', k1⟩ := y_iarr (t := 37) (n := 81) hI (show th0[352]? = some 37 by decide +kernel) rfl rfl
  obtain ⟨nf, k2⟩ := y_larr (t := 39) (n := 32) hI (show th0[354]? = some 39 by decide +kernel) rfl
  exact ⟨n, lim, p, tok, at9, sp, num, wd, hf', nf, on, ⟨hI, ta, (th0_z (350, 35) (List.mem_of_getElem? (i := 10) rfl)), hf, fun _ _ _ => rfl, p15, c3, c4, c5, c11, c12, c13, c14, c17⟩, by decide +kernel, by decide +kernel, (th0_z (355, 40) (List.mem_of_getElem? (i := 11) rfl)), p16, p17, p18, c20, k1, k2, a3⟩
theorem MSo.same {th : List Nat} {am mb hb nb rb : Nat} {f : Nat → Int32} {n lim p tok at9 sp num : Int32} {wd : Int64} {hf : Nat → Int32} {nf : Nat → Int64} {on : Int32} {G G' : List pE} (h : MSo th am mb hb nb rb f n lim p tok at9 sp num wd hf nf on G) (hI : xI x_tb th G') (hs : z_sm th G G') : MSo th am mb hb nb rb f n lim p tok at9 sp num wd hf nf on G' := by
  obtain ⟨⟨-, ta, tm, k1, -, s1, s3, s4, s5, s11, s12, s13, s14, s17⟩, b1, b2, b3, c1, c2, c3, c4, d1, d2, d3⟩ := h
  have ea : ∀ i, x_sl G' am i = x_sl G am i := fun i => hs am 10 i ta (Or.inl rfl)
  exact ⟨⟨hI, ta, tm, fun i hi => (hs mb 35 i tm (Or.inr (Or.inl rfl))).trans (k1 i hi), fun _ _ _ => rfl, (ea _).trans s1, (ea _).trans s3, (ea _).trans s4, (ea _).trans s5, (ea _).trans s11, (ea _).trans s12, (ea _).trans s13, (ea _).trans s14, (ea _).trans s17⟩, b1, b2, b3, (ea _).trans c1, (ea _).trans c2, (ea _).trans c3, (ea _).trans c4, fun i hi => (hs hb 37 i b1 (Or.inr (Or.inr (Or.inl rfl)))).trans (d1 i hi), fun i hi => (hs nb 39 i b2 (Or.inr (Or.inr (Or.inr (Or.inl rfl))))).trans (d2 i hi), fun i hi => (hs rb 40 i b3 (Or.inr (Or.inr (Or.inr (Or.inr (Or.inl rfl)))))).trans (d3 i hi)⟩
set_option maxHeartbeats 2000000 in
set_option maxRecDepth 100000 in
theorem b_land0 (hd : 318 ≤ d) (tx : th[ax]? = some 9) (ta : th[am]? = some 10) (h : z_IN th ax am G sc sm)  : x_Gd xs L J d m_16 (fun r G' => ∃ y : Int32, r = some (.int y) ∧ (∀ P' : Prop, P' → z_INp P' th ax am G' 0 sm) ∧ z_sm th G G' ∧ z_KK (fun G' => z_LA G' ∧ ∀ w wi, z_JM w wi G → z_JN wi G') th ax am G') 0 (lv_args 0 [.ref ax]) [] G := by
  obtain ⟨tp, j1, j2, j3, j4, jK⟩ := h.2.2
  have rs := h.tape tx
  refine ((h_313 th xs L J).gd (G := G) (d := d) m_16_ok (by omega) (v := (y_v [(ax : Int), (tp : Int)])) (as := [.ref ax]) (y_v_Bd (List.forall_mem_cons.mpr ⟨(y_cellB h.1 tx), (List.forall_mem_cons.mpr ⟨(y_cellB h.1 j2), (fun _ h => absurd h List.not_mem_nil)⟩)⟩)) (fun _ h => absurd h List.not_mem_nil) ⟨⟨ax, rfl, (by simp only [xl_ev, xt_ev, y_v, List.getD_cons_succ, List.getD_cons_zero]; omega), tx⟩, trivial⟩ (List.forall_mem_cons.mpr ⟨⟨ax, (by simp only [xl_ev, xt_ev, y_v, List.getD_cons_succ, List.getD_cons_zero]; omega), tx, _, j1, tp, rfl, (by simp only [xl_ev, xt_ev, y_v, List.getD_cons_succ, List.getD_cons_zero]; omega), j2⟩, (fun _ h => absurd h List.not_mem_nil)⟩) h.1 (fun z => by cases z)).mono (fun r G' h' => ?_)
  obtain ⟨v', hag, -, hI', ef, p, hp, qc, qf, pa⟩ := h'
  have zt : v' 1 = (tp : Int) := hag 1 (by decide)
  obtain rfl : p = _ := List.mem_singleton.mp hp
  obtain ⟨y, rfl, hy⟩ := y_pI pa
  obtain ⟨s2, f2, e2⟩ := y_pf0 (a := tp) (qf _ (List.mem_of_getElem? (i := 0) rfl)) (by simp only [xl_ev, xt_ev]; omega)
  simp only [xl_ev, xt_ev] at hy e2
  have hN : ∀ P' : Prop, P' → z_INp P' th ax am G' s2 sm := fun P' hp => z_INp.effC tx ta h hI' ef (by decide +kernel) j1 j2 f2 hp
  obtain rfl : s2 = 0 := y_i0 (by omega)
  exact ⟨y, rfl, hN, fun c t i hc ht => by rcases ht with rfl | rfl | rfl | rfl | rfl | rfl <;> exact ef.at hc (y_outT (by decide +kernel) i), h.kk.land ef (by decide +kernel)⟩
/-- the tape is cut, and the kind of the FAULT is kept -/
theorem bl16 {xs : Nat → Int32} {L J d : Nat} {K : Option Value → List pE → Prop} {lv : pL} {G1 : List pE} {y0 q : Int32} (hd : 9 ≤ d) (hI1 : xI x_tb th0 G1) (q0 : x_sl G1 0 0 = some (.ref 1)) (h8 : x_sl G1 1 8 = some (.int q)) (g0 : pm_get lv 0 = some (.ref 0)) (g1 : pm_get lv 1 = some (.int y0)) (hk : ∀ (G2 : List pE), xI x_tb th0 G2 → x_eff th0 [(7, 1, 1), (9, 17, 17)] G1 G2 → x_sl G2 0 17 = some (.int q) → x_Gd xs L J (d + 1) m_16 K 36 lv [] G2) : x_Gd xs L J (d + 1) m_16 K 16 lv [] G1 := by
  refine y_aln (e_16 (16, .aload_n 0, 1) (List.mem_of_getElem? (i := 8) rfl)) g0 ?_
  refine y_getf hI1 z_ty.1 (e_16 (17, .getfield 10, 3) (List.mem_of_getElem? (i := 9) rfl)) u_0_10 ⟨rfl, rfl⟩ q0 ?_
  refine y_st (e_16 (20, .iconst 0, 1) (List.mem_of_getElem? (i := 10) rfl)) ⟨rfl, rfl, rfl, rfl⟩ ?_
  refine y_c2 (K' := _) (e_16 (21, .invokevirtual 104, 3) (List.mem_of_getElem? (i := 11) rfl)) ⟨rfl, rfl, rfl⟩ t_0_104 ⟨by decide, by decide, by decide, by decide⟩ m_15_ok rfl (by decide) (y_recv hI1 th0_p.1 ⟨rfl, rfl⟩) (Nat.le_of_ble_eq_true rfl) (Nat.le_of_ble_eq_true rfl) (((h_8 th0 xs L J).gd (G := G1) (d := d) m_15_ok (by omega) (v := y_v [((1 : Nat) : Int), (Int32.ofInt 0).toInt]) (as := [.ref 1, .int (Int32.ofInt 0)]) (y_v_Bd (List.forall_mem_cons.mpr ⟨(y_cellB hI1 th0_p.1), (List.forall_mem_cons.mpr ⟨(x_i32 (Int32.ofInt 0)), (fun _ h => absurd h List.not_mem_nil)⟩)⟩)) (fun _ h => absurd h List.not_mem_nil) ⟨⟨1, rfl, (by simp only [xl_ev, xt_ev, y_v, List.getD_cons_succ, List.getD_cons_zero]; omega), th0_p.1⟩, ⟨Int32.ofInt 0, rfl, (by simp only [xl_ev, xt_ev, y_v, List.getD_cons_succ, List.getD_cons_zero]; omega)⟩, trivial⟩ (fun q hq => absurd hq List.not_mem_nil) hI1 (fun z => by cases z))) (fun r1 G2 h2 => ?_)
  obtain ⟨v2, -, -, hI2, ef2, p, hp, -, -, pa⟩ := h2
  obtain rfl : p = _ := List.mem_singleton.mp hp
  obtain ⟨z, rfl, -⟩ := y_pI pa
  simp only [Option.toList_some, Option.toList_none, List.cons_append, List.nil_append]
  have r0 : x_sl G2 0 0 = some (.ref 1) := by rw [ef2.at z_ty.1 (by decide +kernel)]; exact q0
  have r8 : x_sl G2 1 8 = some (.int q) := by rw [ef2.at th0_p.1 (by decide +kernel)]; exact h8
  refine y_st (e_16 (24, .pop, 1) (List.mem_of_getElem? (i := 12) rfl)) ⟨rfl, rfl, rfl, rfl⟩ ?_
  refine y_aln (e_16 (25, .aload_n 0, 1) (List.mem_of_getElem? (i := 13) rfl)) g0 ?_
  refine y_aln (e_16 (26, .aload_n 0, 1) (List.mem_of_getElem? (i := 14) rfl)) g0 ?_
  refine y_getf hI2 z_ty.1 (e_16 (27, .getfield 10, 3) (List.mem_of_getElem? (i := 15) rfl)) u_0_10 ⟨rfl, rfl⟩ r0 ?_
  refine y_getf hI2 th0_p.1 (e_16 (30, .getfield 111, 3) (List.mem_of_getElem? (i := 16) rfl)) u_0_111 ⟨rfl, rfl⟩ r8 ?_
  refine y_putf (f := (0, -2147483648, 2147483647)) hI2 z_ty.1 (e_16 (33, .putfield 90, 3) (List.mem_of_getElem? (i := 17) rfl)) u_0_90 ⟨rfl, rfl, by decide, rfl, rfl⟩ ⟨_, rfl, (x_i32 _).1, (x_i32 _).2⟩ (fun G3 u3 => ?_)
  have e3 : x_eff th0 [(7, 1, 1), (9, 17, 17)] G2 G3 := x_eff.upd u3 z_ty.1 (q := (9, 17, 17)) (List.mem_of_getElem? (i := 1) rfl) rfl (by decide) (by decide)
  exact hk G3 (hI2.upd u3 z_ty.1 (y_okA rfl)) ((ef2.sub (by decide)).tr e3) (by rw [u3.2.1, if_pos ⟨rfl, rfl⟩])
def sg_bl62_ns : List xN := []
def sg_bl62_os : List xN := [(69, [(0, (19, ([(0, 1)], 0))), (1, (0, ([(1, 1)], 0)))], [], [], 2, [([], 0), ([], 0), ([], 0), ([], 0), ([], 0)])]
def sg_bl62_g : xG := ([], [(0, (19, ([(0, 1)], 0))), (1, (0, ([(1, 1)], 0)))], [], [], 2)
def sg_bl62_ps : List xP := []
set_option maxRecDepth 100000 in
set_option maxHeartbeats 4000000 in
theorem sg_bl62_ok : x_seg x_tb [c_91] m_16 d_16 [(6, 4, 5)] 2 sg_bl62_ps sg_bl62_ns sg_bl62_os 13 false 62 sg_bl62_g = true := by decide +kernel
set_option maxRecDepth 100000 in
theorem sg_bl62_go {th : List Nat} {xs : Nat → Int32} {L J d : Nat} {K : Option Value → List pE → Prop} (hd : 92 ≤ d) {v : Nat → Int} {lv : pL} {ws : List Value} {G0 G : List pE} (hS : x_S x_tb th v sg_bl62_g lv ws G) (hE : x_eff th [(6, 4, 5)] G0 G) (hK : ∀ r G', x_Post x_tb th [(6, 4, 5)] sg_bl62_ps 2 v G0 r G' → K r G') (hO : ∀ n ∈ sg_bl62_os, ∀ (vn : Nat → Int) (lv : pL) (G1 : List pE), x_ag 2 v vn → x_S x_tb th vn (n.2.2.2.1, n.2.1, [], n.2.2.1, n.2.2.2.2.1) lv [] G1 → x_eff th [(6, 4, 5)] G0 G1 → x_Gd xs L J (d + 1) m_16 K n.1 lv [] G1) : x_Gd xs L J (d + 1) m_16 K 62 lv ws G :=
  x_seg_ok (dm := 92) x_tb_wf ⟨rfl, rfl, rfl⟩ e_16 (List.forall_mem_cons.mpr ⟨(h_91 th xs L J).mono (by omega), fun _ h => absurd h List.not_mem_nil⟩) hd sg_bl62_ok hS hE (fun z => by cases z) hK hO
set_option maxHeartbeats 2000000 in
set_option maxRecDepth 100000 in
theorem b_land1 {sz : Int32} (hd : 318 ≤ d) (h : z_IN th0 0 349 G sz sz) : x_Gd xs L J d m_16 (fun r G' => ∃ (y q : Int32) (wc : Nat → Nat → Option Value), r = some (.int y) ∧ ∃ w wi, z_JW w wi G ∧ ZX wc wi G' ∧ x_sl G' 0 17 = some (.int q) ∧ ∀ G2 : List pE, xI x_tb th0 G2 → z_sm th0 G G2 → z_AN y q wc G2) 0 (lv_args 0 [.ref 0]) [] G := by
  have hr := h.tape th0_tx4
  obtain ⟨tp, j1, j2, j3, j4, jK⟩ := h.2.2
  obtain ⟨-, -, -, ⟨hC, hB⟩, w, wi, hJ⟩ := jK
  obtain ⟨pc, hZ⟩ := id hJ.1
  have hk8 : ∀ k, k < 8 → ∃ p ∈ z_ps, x_sl G 58 k = some (.ref p) := fun k k8 => by
    obtain ⟨p, pp, ep, -⟩ := hZ.2.2.2.1 k k8
    exact ⟨p, pp, ep⟩
  obtain ⟨p0, p1, p2, p3, -, -, -, -, -, -, -, -, -, -, -, -, -, -, -, -, -, -, -⟩ := id hC
  obtain rfl : tp = 1 := by
    rw [p0] at j1
    cases j1
    rfl
  obtain ⟨f, hf⟩ := y_iarr (t := 28) (n := 940) h.1 th0_p.2.1 rfl rfl
  have hfb : ∀ i, i < 940 → -128 ≤ (f i).toInt ∧ (f i).toInt ≤ 127 := fun i hi => y_fie (t := 28) h.1 th0_p.2.1 (by rw [show (x_tb 28).2.2.2 = [(940, ((0 : Nat), (-128 : Int), (127 : Int)))] from rfl]; exact y_one hi) (hf i hi)
  obtain ⟨lim, nx, tk, pl, num, nm, ft, fp, cc, np, nt, nl, nn, ot, tn, ln, mn, hCZ⟩ := z_CZ h.1 hC hf j3
  obtain ⟨n2, lim2, p2', tok, at9, sp, mu, wd, hf2, nf, on, hMS⟩ := z_MS h.1 hC (fun i hi => (hB i hi).symm.trans (hf i hi))
  obtain ⟨d, rfl⟩ : ∃ k, d = k + 8 := ⟨d - 8, by omega⟩
  have ta : th0[349]? = some 10 := (th0_z (349, 10) (List.mem_of_getElem? (i := 9) rfl))
  rcases p_read (lim := lim) (nx0 := nx) (tk0 := tk) (pl0 := pl) (num0 := num) (nm0 := nm) (ft := ft) (fp := fp) (cc := cc) (np := np) (nt := nt) (nl := nl) (nn := nn) (ot := ot) (tn := tn) (ln := ln) (mn := mn) (th := th0) (am := 349) (mb := 350) (hb := 352) (nb := 354) (rb := 355) (n := n2) (lim2 := lim2) (p0 := p2') (tok0 := tok) (at0 := at9) (sp0 := sp) (mu0 := mu) (wd0 := wd) (hf := hf2) (nf := nf) (on := on) hr hfb with ⟨p', q', hc, hm⟩ | ⟨l', cc9, np9, nt9, nl9, nn9, tn9, mn9, hf9, nf9, hl, hq9, hc, hm⟩
  · have hA : ∀ G2 : List pE, xI x_tb th0 G2 → z_sm th0 G G2 → z_AN (Int32.ofInt (-1) - p') q' w G2 := fun G2 hI2 hs xs L J d hd => by
      obtain ⟨d, rfl⟩ : ∃ k, d = k + 7 := ⟨d - 7, by omega⟩
      exact (hm xs L J d G2 (by omega) (hMS.same hI2 hs) ((hs 349 10 2 ta (Or.inl rfl)).trans j4)).mono (fun r G' z => ⟨z.1, hJ.2.2.1.c (z_nrow_c (fun i hi => (z.2.1 351 i (Or.inl z_mt.1)).trans (hs 351 36 i z_mt.1 (Or.inr (Or.inr (Or.inr (Or.inr (Or.inr rfl))))))) (fun i hi => (z.2.1 354 i (Or.inr ⟨z_mt2.1, hi⟩)).trans (hs 354 39 i z_mt2.1 (Or.inr (Or.inr (Or.inr (Or.inl rfl))))))), z.2.2⟩)
    refine y_aln (e_16 (0, .aload_n 0, 1) (List.mem_of_getElem? (i := 0) rfl)) rfl ?_
    refine y_getf h.1 th0_tx4 (e_16 (1, .getfield 19, 3) (List.mem_of_getElem? (i := 1) rfl)) u_0_19 ⟨rfl, rfl⟩ p1 ?_
    refine y_aln (e_16 (4, .aload_n 0, 1) (List.mem_of_getElem? (i := 2) rfl)) rfl ?_
    refine y_getf h.1 th0_tx4 (e_16 (5, .getfield 10, 3) (List.mem_of_getElem? (i := 3) rfl)) u_0_10 ⟨rfl, rfl⟩ p0 ?_
    refine y_aln (e_16 (8, .aload_n 0, 1) (List.mem_of_getElem? (i := 4) rfl)) rfl ?_
    refine y_getf h.1 th0_tx4 (e_16 (9, .getfield 30, 3) (List.mem_of_getElem? (i := 5) rfl)) u_0_30 ⟨rfl, rfl⟩ p2 ?_
    refine y_c3 (K' := _) (e_16 (12, .invokevirtual 107, 3) (List.mem_of_getElem? (i := 6) rfl)) ⟨rfl, rfl, rfl⟩ t_0_107 ⟨by decide, by decide, by decide, by decide⟩ m_17_ok rfl (by decide) (y_recv h.1 (th0_z (3, 2) (List.mem_of_getElem? (i := 3) rfl)) ⟨rfl, rfl⟩) (Nat.le_of_ble_eq_true rfl) (Nat.le_of_ble_eq_true rfl) (((hc xs L J d G hCZ).and ((h_85 th0 xs L J).gd (G := G) (d := d + 7) m_17_ok (by omega) (v := y_v [((3 : Nat) : Int), ((1 : Nat) : Int), ((32 : Nat) : Int)]) (as := [.ref 3, .ref 1, .ref 32]) (y_v_Bd (List.forall_mem_cons.mpr ⟨(y_cellB h.1 (th0_z (3, 2) (List.mem_of_getElem? (i := 3) rfl))), (List.forall_mem_cons.mpr ⟨(y_cellB h.1 (th0_z (1, 7) (List.mem_of_getElem? (i := 1) rfl))), (List.forall_mem_cons.mpr ⟨(y_cellB h.1 (th0_z (32, 0) (List.mem_of_getElem? (i := 4) rfl))), (fun _ h => absurd h List.not_mem_nil)⟩)⟩)⟩)) (fun _ h => absurd h List.not_mem_nil) ⟨⟨3, rfl, (by simp only [xl_ev, xt_ev, y_v, List.getD_cons_succ, List.getD_cons_zero]; omega), (th0_z (3, 2) (List.mem_of_getElem? (i := 3) rfl))⟩, ⟨1, rfl, (by simp only [xl_ev, xt_ev, y_v, List.getD_cons_succ, List.getD_cons_zero]; omega), (th0_z (1, 7) (List.mem_of_getElem? (i := 1) rfl))⟩, ⟨32, rfl, (by simp only [xl_ev, xt_ev, y_v, List.getD_cons_succ, List.getD_cons_zero]; omega), (th0_z (32, 0) (List.mem_of_getElem? (i := 4) rfl))⟩, trivial⟩ (fun q hq => absurd hq List.not_mem_nil) h.1 (fun z => by cases z))).and (zr_land (by omega) h.1 hZ.1 hk8)) (fun r1 G1 h1 => ?_)
    obtain ⟨⟨⟨rfl, s9, s8⟩, v', hag, -, hI1, ef1, -⟩, hfr⟩ := h1
    have hZ1 := hZ.rd ef1 (by decide +kernel) hfr
    simp only [Option.toList_some, Option.toList_none, List.cons_append, List.nil_append]
    refine y_isn (e_16 (15, .istore_n 1, 1) (List.mem_of_getElem? (i := 7) rfl)) (by decide) ?_
    have hC1 := hC.eff ef1 (by decide +kernel)
    obtain ⟨c0', -, -, -, -, -, -, -, -, -, -, -, -, -, -, -, -, -, -, -, -, -, -⟩ := id hC1
    have g0 : pm_get (pm_put1 (lv_args 0 [.ref 0]) 1 (.int (Int32.ofInt (-1)))) 0 = some (.ref 0) := y_gpr rfl (by decide)
    have g1 : pm_get (pm_put1 (lv_args 0 [.ref 0]) 1 (.int (Int32.ofInt (-1)))) 1 = some (.int (Int32.ofInt (-1))) := x_get_self
    change x_Gd _ _ _ _ _ _ _ (pm_put1 (lv_args 0 [.ref 0]) 1 (.int (Int32.ofInt (-1)))) _ _
    generalize pm_put1 (lv_args 0 [.ref 0]) 1 (.int (Int32.ofInt (-1))) = lv at g0 g1 ⊢
    refine bl16 (d := d + 7) (by omega) hI1 c0' s8 g0 g1 (fun G2 hI2 hE2 h17 => ?_)
    have hC2 := hC1.eff hE2 (by decide +kernel)
    have hZ2 := hZ1.eff hE2 (by decide)
    refine y_iln (e_16 (36, .iload_n 1, 1) (List.mem_of_getElem? (i := 18) rfl)) g1 ?_
    refine y_st (e_16 (37, .iconst (-1), 1) (List.mem_of_getElem? (i := 19) rfl)) ⟨rfl, rfl, rfl, rfl⟩ ?_
    refine y_icm (e_16 (38, .if_icmp .ne 13, 3) (List.mem_of_getElem? (i := 20) rfl)) rfl (fun hne => absurd hne (by decide)) (fun _ => ?_)
    obtain ⟨q0, -, -, -, -, -, -, -, -, -, -, -, -, -, -, -, -, -, -, -, -, -, -⟩ := id hC2
    refine y_st (e_16 (41, .iconst (-1), 1) (List.mem_of_getElem? (i := 21) rfl)) ⟨rfl, rfl, rfl, rfl⟩ ?_
    refine y_aln (e_16 (42, .aload_n 0, 1) (List.mem_of_getElem? (i := 22) rfl)) g0 ?_
    refine y_getf hI2 th0_tx4 (e_16 (43, .getfield 10, 3) (List.mem_of_getElem? (i := 23) rfl)) u_0_10 ⟨rfl, rfl⟩ q0 ?_
    refine y_getf hI2 th0_p.1 (e_16 (46, .getfield 114, 3) (List.mem_of_getElem? (i := 24) rfl)) u_0_114 ⟨rfl, rfl⟩ (by rw [hE2.at th0_p.1 rfl]; exact s9) ?_
    refine y_st (e_16 (49, .isub, 1) (List.mem_of_getElem? (i := 25) rfl)) ⟨rfl, rfl, rfl, rfl⟩ ?_
    exact y_ret (e_16 (50, .ireturn, 1) (List.mem_of_getElem? (i := 26) rfl)) ⟨rfl, y_ri⟩ ⟨_, q', w, rfl, w, wi, hJ, ⟨pc, hZ2⟩, h17, hA⟩
  · have hA : ∀ G2 : List pE, xI x_tb th0 G2 → z_sm th0 G G2 → z_AN l' (Int32.ofInt 0) (wq cc9 np9 nt9 nl9 nn9 tn9 mn9) G2 := fun G2 hI2 hs xs L J d hd => by
      obtain ⟨d, rfl⟩ : ∃ k, d = k + 7 := ⟨d - 7, by omega⟩
      exact hm xs L J d G2 _ (by omega) (hMS.same hI2 hs) ((hs 349 10 2 ta (Or.inl rfl)).trans j4) (fun G' lv hP h19 hq hn h15 g0 => (v_tail (d := d + 6) ta hP h19 hq hn h15 th0_U4 g0).mono (fun r G' z => ⟨z.1, hq9.rw (fun i hi => by unfold z_nrow; rw [if_pos (by omega)]; exact z.2.1 351 i z_mt.1 (by omega)) (fun i hi => by unfold z_nrow; rw [if_neg (by omega), show 400 + i - 400 = i by omega]; exact z.2.2.1 i hi), z.2.2.2⟩))
    refine y_aln (e_16 (0, .aload_n 0, 1) (List.mem_of_getElem? (i := 0) rfl)) rfl ?_
    refine y_getf h.1 th0_tx4 (e_16 (1, .getfield 19, 3) (List.mem_of_getElem? (i := 1) rfl)) u_0_19 ⟨rfl, rfl⟩ p1 ?_
    refine y_aln (e_16 (4, .aload_n 0, 1) (List.mem_of_getElem? (i := 2) rfl)) rfl ?_
    refine y_getf h.1 th0_tx4 (e_16 (5, .getfield 10, 3) (List.mem_of_getElem? (i := 3) rfl)) u_0_10 ⟨rfl, rfl⟩ p0 ?_
    refine y_aln (e_16 (8, .aload_n 0, 1) (List.mem_of_getElem? (i := 4) rfl)) rfl ?_
    refine y_getf h.1 th0_tx4 (e_16 (9, .getfield 30, 3) (List.mem_of_getElem? (i := 5) rfl)) u_0_30 ⟨rfl, rfl⟩ p2 ?_
    refine y_c3 (K' := _) (e_16 (12, .invokevirtual 107, 3) (List.mem_of_getElem? (i := 6) rfl)) ⟨rfl, rfl, rfl⟩ t_0_107 ⟨by decide, by decide, by decide, by decide⟩ m_17_ok rfl (by decide) (y_recv h.1 (th0_z (3, 2) (List.mem_of_getElem? (i := 3) rfl)) ⟨rfl, rfl⟩) (Nat.le_of_ble_eq_true rfl) (Nat.le_of_ble_eq_true rfl) (((hc xs L J d G hCZ).and ((h_85 th0 xs L J).gd (G := G) (d := d + 7) m_17_ok (by omega) (v := y_v [((3 : Nat) : Int), ((1 : Nat) : Int), ((32 : Nat) : Int)]) (as := [.ref 3, .ref 1, .ref 32]) (y_v_Bd (List.forall_mem_cons.mpr ⟨(y_cellB h.1 (th0_z (3, 2) (List.mem_of_getElem? (i := 3) rfl))), (List.forall_mem_cons.mpr ⟨(y_cellB h.1 (th0_z (1, 7) (List.mem_of_getElem? (i := 1) rfl))), (List.forall_mem_cons.mpr ⟨(y_cellB h.1 (th0_z (32, 0) (List.mem_of_getElem? (i := 4) rfl))), (fun _ h => absurd h List.not_mem_nil)⟩)⟩)⟩)) (fun _ h => absurd h List.not_mem_nil) ⟨⟨3, rfl, (by simp only [xl_ev, xt_ev, y_v, List.getD_cons_succ, List.getD_cons_zero]; omega), (th0_z (3, 2) (List.mem_of_getElem? (i := 3) rfl))⟩, ⟨1, rfl, (by simp only [xl_ev, xt_ev, y_v, List.getD_cons_succ, List.getD_cons_zero]; omega), (th0_z (1, 7) (List.mem_of_getElem? (i := 1) rfl))⟩, ⟨32, rfl, (by simp only [xl_ev, xt_ev, y_v, List.getD_cons_succ, List.getD_cons_zero]; omega), (th0_z (32, 0) (List.mem_of_getElem? (i := 4) rfl))⟩, trivial⟩ (fun q hq => absurd hq List.not_mem_nil) h.1 (fun z => by cases z))).and (zr_land (by omega) h.1 hZ.1 hk8)) (fun r1 G1 h1 => ?_)
    obtain ⟨⟨⟨rfl, hcq, s8⟩, v', hag, -, hI1, ef1, -⟩, hfr⟩ := h1
    have hZ1 := hZ.rd ef1 (by decide +kernel) hfr
    simp only [Option.toList_some, Option.toList_none, List.cons_append, List.nil_append]
    refine y_isn (e_16 (15, .istore_n 1, 1) (List.mem_of_getElem? (i := 7) rfl)) (by decide) ?_
    have hC1 := hC.eff ef1 (by decide +kernel)
    obtain ⟨c0', -, -, -, -, -, -, -, -, -, -, -, -, -, -, -, -, -, -, -, -, -, -⟩ := id hC1
    have g0 : pm_get (pm_put1 (lv_args 0 [.ref 0]) 1 (.int l')) 0 = some (.ref 0) := y_gpr rfl (by decide)
    have g1 : pm_get (pm_put1 (lv_args 0 [.ref 0]) 1 (.int l')) 1 = some (.int l') := x_get_self
    change x_Gd _ _ _ _ _ _ _ (pm_put1 (lv_args 0 [.ref 0]) 1 (.int l')) _ _
    generalize pm_put1 (lv_args 0 [.ref 0]) 1 (.int l') = lv at g0 g1 ⊢
    refine bl16 (d := d + 7) (by omega) hI1 c0' s8 g0 g1 (fun G2 hI2 hE2 h17 => ?_)
    have hC2 := hC1.eff hE2 (by decide +kernel)
    have hZ2 := hZ1.eff hE2 (by decide)
    refine y_iln (e_16 (36, .iload_n 1, 1) (List.mem_of_getElem? (i := 18) rfl)) g1 ?_
    refine y_st (e_16 (37, .iconst (-1), 1) (List.mem_of_getElem? (i := 19) rfl)) ⟨rfl, rfl, rfl, rfl⟩ ?_
    refine y_icm (e_16 (38, .if_icmp .ne 13, 3) (List.mem_of_getElem? (i := 20) rfl)) rfl (fun _ => ?_) (fun hne => ?_)
    rotate_left
    · have := y_hI.2.2.2.1 hne
      rw [this] at hl
      exact absurd hl (by decide)
    have hw2 : LV 32 (wq cc9 np9 nt9 nl9 nn9 tn9 mn9) G2 := hcq.lv.eff (by decide) hE2 (by decide)
    refine y_aln (e_16 (51, .aload_n 0, 1) (List.mem_of_getElem? (i := 27) rfl)) g0 ?_
    refine y_getf hI2 z_ty.1 (e_16 (52, .getfield 26, 3) (List.mem_of_getElem? (i := 28) rfl)) u_0_26 ⟨rfl, rfl⟩ hZ2.1.2.1 ?_
    refine y_aln (e_16 (55, .aload_n 0, 1) (List.mem_of_getElem? (i := 29) rfl)) g0 ?_
    refine y_getf hI2 z_ty.1 (e_16 (56, .getfield 30, 3) (List.mem_of_getElem? (i := 30) rfl)) u_0_30 ⟨rfl, rfl⟩ hZ2.1.2.2.1 ?_
    refine y_c2 (K' := _) (e_16 (59, .invokevirtual 117, 3) (List.mem_of_getElem? (i := 31) rfl)) ⟨rfl, rfl, rfl⟩ t_0_117 ⟨by decide, by decide, by decide, by decide⟩ m_47_ok rfl (by decide) (y_recv hI2 (z_tp 6 (by decide)) ⟨rfl, rfl⟩) (Nat.le_of_ble_eq_true rfl) (Nat.le_of_ble_eq_true rfl) (k_copy2 (by omega) hZ2.1 hI2 (by decide) (by decide) (by decide)) (fun r3 G3 h3 => ?_)
    obtain ⟨rfl, C3, ef3⟩ := h3
    simp only [Option.toList_some, Option.toList_none, List.cons_append, List.nil_append]
    have h6 := hw2.kd C3
    refine sg_bl62_go (th := th0) (d := d + 7) (by omega) (v := y_v [((0 : Nat) : Int), l'.toInt]) (G0 := G3) (G := G3) ⟨y_v_Bd (List.forall_mem_cons.mpr ⟨(y_cellB C3.1 th0_tx4), (List.forall_mem_cons.mpr ⟨(x_i32 l'), (fun _ h => absurd h List.not_mem_nil)⟩)⟩), (fun _ h => absurd h List.not_mem_nil), (List.forall_mem_cons.mpr ⟨⟨_, g0, 0, rfl, (by simp only [xl_ev, xt_ev, y_v, List.getD_cons_succ, List.getD_cons_zero]; omega), th0_tx4⟩, (List.forall_mem_cons.mpr ⟨⟨_, g1, l', rfl, (by simp only [xl_ev, xt_ev, y_v, List.getD_cons_succ, List.getD_cons_zero]; omega)⟩, (fun _ h => absurd h List.not_mem_nil)⟩)⟩), trivial, (fun _ h => absurd h List.not_mem_nil), C3.1⟩ x_eff.rf (fun r G' hp => ?_) (fun n hn vn4 lv4 G4 hag4 hS4 hE4 => ?_)
    · obtain ⟨v', -, -, -, -, p, hp, -⟩ := hp
      exact absurd hp List.not_mem_nil
    obtain rfl : n = _ := List.mem_singleton.mp hn
    have y0 : vn4 0 = ((0 : Nat) : Int) := hag4 0 (by decide)
    have y1 : vn4 1 = l'.toInt := hag4 1 (by decide)
    have a0 := hS4.loCe (i := 0) (t := 9) (l := ([(0, 1)], 0)) (a := 0) (List.mem_of_getElem? (i := 0) rfl) (by simp only [xl_ev, xt_ev]; omega)
    have a1 := hS4.lo0e (i := 1) (l := ([(1, 1)], 0)) (x := l') (List.mem_of_getElem? (i := 1) rfl) (by simp only [xl_ev, xt_ev]; omega)
    have hI4 := hS4.2.2.2.2.2
    refine y_aln (e_16 (69, .aload_n 0, 1) (List.mem_of_getElem? (i := 35) rfl)) a0 ?_
    refine y_st (e_16 (70, .iconst 0, 1) (List.mem_of_getElem? (i := 36) rfl)) ⟨rfl, rfl, rfl, rfl⟩ ?_
    refine y_putf (f := (0, 0, 8)) hI4 z_ty.1 (e_16 (71, .putfield 37, 3) (List.mem_of_getElem? (i := 37) rfl)) u_0_37 ⟨rfl, rfl, by decide, rfl, rfl⟩ ⟨_, rfl, by decide, by decide⟩ (fun G5 u5 => ?_)
    refine y_iln (e_16 (74, .iload_n 1, 1) (List.mem_of_getElem? (i := 38) rfl)) a1 ?_
    refine y_ret (e_16 (75, .ireturn, 1) (List.mem_of_getElem? (i := 39) rfl)) ⟨rfl, y_ri⟩ ⟨_, Int32.ofInt 0, wq cc9 np9 nt9 nl9 nn9 tn9 mn9, rfl, w, wi, hJ, ⟨Int32.ofInt 0, ?_⟩, ?_, hA⟩
    rotate_left
    · rw [u5.2.1, if_neg (fun z => absurd z.2 (by decide)), hE4.at z_ty.1 (by decide), ef3.at z_ty.1 (by decide)]
      exact h17
    have ef5 : x_eff th0 [(9, 5, 5)] G4 G5 := x_eff.upd u5 z_ty.1 (q := (9, 5, 5)) (List.mem_singleton.mpr rfl) rfl (Nat.le_refl _) (Nat.le_refl _)
    obtain ⟨hp, -, h5, hk, i0, i1⟩ := hZ2
    have E3 := fun {k : Nat} {w' : Nat → Nat → Option Value} (hk : k ∈ z_hs) (H : LV k w' G3) => (H.eff hk hE4 (by decide)).eff5 hk ef5
    refine ⟨((hp.eff ef3 (by decide)).eff hE4 (by decide)).eff ef5 (by decide), E3 (by decide) h6, by rw [u5.2.1, if_pos ⟨rfl, rfl⟩], fun j j8 => ?_, E3 (by decide) (i0.kc (by decide) (by decide) (by decide) C3), E3 (by decide) (i1.kc (by decide) (by decide) (by decide) C3)⟩
    obtain ⟨p, pp, e, -⟩ := hk j j8
    exact ⟨p, pp, (ef5.at z_ty.2.1 (y_outT5 (by decide) j)).trans ((hE4.at z_ty.2.1 (y_outT5 (by decide) j)).trans ((ef3.at z_ty.2.1 (y_outT5 (by decide) j)).trans e)), fun z => absurd z (by show ¬ (j : Int) < 0; omega)⟩
set_option maxHeartbeats 2000000 in
set_option maxRecDepth 100000 in
theorem b_land (hd : 318 ≤ d) (tx : th[ax]? = some 9) (ta : th[am]? = some 10) (h : z_IN th ax am G sc sc) : x_Gd xs L J d m_16 (fun r G' => ∃ y : Int32, r = some (.int y) ∧ z_INp (z_KK (z_LY y) th ax am G') th ax am G' 0 sc) 0 (lv_args 0 [.ref ax]) [] G := by
  obtain ⟨rfl, rfl, rfl, -⟩ := h.kk
  refine ((b_land0 hd tx ta h).and (b_land1 hd h)).mono (fun r G' h' => ?_)
  obtain ⟨⟨y, rfl, hN, hs, hK⟩, y', q, wc, e, w, wi, hJ, hX, h17, hA⟩ := h'
  cases e
  obtain ⟨-, -, -, hLA, hM⟩ := hK
  exact ⟨_, rfl, hN _ ⟨rfl, rfl, rfl, hLA, wi, wc, q, hX, hM w wi hJ.2, h17, hA G' (hN True trivial).1 hs⟩⟩
set_option maxHeartbeats 2000000 in
set_option maxRecDepth 100000 in
theorem b_which (hd : 318 ≤ d) (tx : th[ax]? = some 9) (ta : th[am]? = some 10) (h : z_IN th ax am G sc sm)  : x_Gd xs L J d m_112 (fun r G' => ∃ y : Int32, r = some (.int y) ∧ z_IN th ax am G' 0 sm) 0 (lv_args 0 [.ref ax]) [] G := by
  obtain ⟨tp, j1, j2, j3, j4, jK⟩ := h.2.2
  have rs := h.tape tx
  refine ((h_314 th xs L J).gd (G := G) (d := d) m_112_ok (by omega) (v := (y_v [(ax : Int), (tp : Int)])) (as := [.ref ax]) (y_v_Bd (List.forall_mem_cons.mpr ⟨(y_cellB h.1 tx), (List.forall_mem_cons.mpr ⟨(y_cellB h.1 j2), (fun _ h => absurd h List.not_mem_nil)⟩)⟩)) (fun _ h => absurd h List.not_mem_nil) ⟨⟨ax, rfl, (by simp only [xl_ev, xt_ev, y_v, List.getD_cons_succ, List.getD_cons_zero]; omega), tx⟩, trivial⟩ (List.forall_mem_cons.mpr ⟨⟨ax, (by simp only [xl_ev, xt_ev, y_v, List.getD_cons_succ, List.getD_cons_zero]; omega), tx, _, j1, tp, rfl, (by simp only [xl_ev, xt_ev, y_v, List.getD_cons_succ, List.getD_cons_zero]; omega), j2⟩, (fun _ h => absurd h List.not_mem_nil)⟩) h.1 (fun z => by cases z)).mono (fun r G' h' => ?_)
  obtain ⟨v', hag, -, hI', ef, p, hp, qc, qf, pa⟩ := h'
  have zt : v' 1 = (tp : Int) := hag 1 (by decide)
  obtain rfl : p = _ := List.mem_singleton.mp hp
  obtain ⟨y, rfl, hy⟩ := y_pI pa
  obtain ⟨s2, f2, e2⟩ := y_pf0 (a := tp) (qf _ (List.mem_of_getElem? (i := 0) rfl)) (by simp only [xl_ev, xt_ev]; omega)
  simp only [xl_ev, xt_ev] at hy e2
  have hN := h.effC tx ta hI' ef (by decide +kernel) j1 j2 f2
  obtain rfl : s2 = 0 := y_i0 (by omega)
  exact ⟨y, rfl, hN⟩
theorem bz_sentence (hd : 318 ≤ d) (h : z_IN th ax am G sc sc) : x_Gd xs L J d m_136 (fun r G' => ∃ q : Int32, x_sl G' 0 17 = some (.int q) ∧ ∀ G2 : List pE, xI x_tb th G2 → z_sm th G G2 → z_FS q G2) 0 (lv_args 0 [.ref ax]) [] G := by
  obtain ⟨d, rfl⟩ : ∃ k, d = k + 132 := ⟨d - 132, by omega⟩
  obtain ⟨tp, j1, j2, j3, j4, jK⟩ := h.2.2
  obtain ⟨rfl, rfl, rfl, ⟨hC, hB⟩, -⟩ := jK
  obtain ⟨p0, -, -, p3, -, -, -, -, -, -, -, -, -, -, -, p15, -, -, -, -, -, -, -⟩ := id hC
  obtain rfl : tp = 1 := by
    rw [p0] at j1
    cases j1
    rfl
  exact (s_bsent (d := d) (sz := sc) h.1 z_ty.1 th0_p.1 th0_p.2.1 z_mt.2.2.2.2.1 (by decide +kernel) p0 p3 p15 hB j3 j4).mono (fun r G' h' => by
    obtain ⟨y, q, -, h17, hA⟩ := h'
    exact ⟨q, h17, fun G2 hI2 hs xs L J d hd => (hA G2 hI2 (fun c t i hc ht => hs c t i hc (by rcases ht with rfl | rfl; exact Or.inl rfl; exact Or.inr (Or.inl rfl))) xs L J d (by omega)).mono (fun r G' z => z.2)⟩)
set_option maxHeartbeats 2000000 in
set_option maxRecDepth 100000 in
theorem b_sentence (hd : 318 ≤ d) (tx : th[ax]? = some 9) (ta : th[am]? = some 10) (h : z_IN th ax am G sc sc)  : x_Gd xs L J d m_136 (fun r G' => ∃ y : Int32, r = some (.int y) ∧ z_INp (z_KK (z_LQ z_FS) th ax am G') th ax am G' 0 sc) 0 (lv_args 0 [.ref ax]) [] G := by
  obtain ⟨tp, j1, j2, j3, j4, jK⟩ := h.2.2
  have rs := h.tape tx
  refine (((h_315 th xs L J).gd (G := G) (d := d) m_136_ok (by omega) (v := (y_v [(ax : Int), (tp : Int)])) (as := [.ref ax]) (y_v_Bd (List.forall_mem_cons.mpr ⟨(y_cellB h.1 tx), (List.forall_mem_cons.mpr ⟨(y_cellB h.1 j2), (fun _ h => absurd h List.not_mem_nil)⟩)⟩)) (fun _ h => absurd h List.not_mem_nil) ⟨⟨ax, rfl, (by simp only [xl_ev, xt_ev, y_v, List.getD_cons_succ, List.getD_cons_zero]; omega), tx⟩, trivial⟩ (List.forall_mem_cons.mpr ⟨⟨ax, (by simp only [xl_ev, xt_ev, y_v, List.getD_cons_succ, List.getD_cons_zero]; omega), tx, _, j1, tp, rfl, (by simp only [xl_ev, xt_ev, y_v, List.getD_cons_succ, List.getD_cons_zero]; omega), j2⟩, (fun _ h => absurd h List.not_mem_nil)⟩) h.1 (fun z => by cases z)).and (bz_sentence hd h)).mono (fun r G' h' => ?_)
  obtain ⟨⟨v', hag, -, hI', ef, p, hp, qc, qf, pa⟩, q, h17, hF⟩ := h'
  have zt : v' 1 = (tp : Int) := hag 1 (by decide)
  obtain rfl : p = _ := List.mem_singleton.mp hp
  obtain ⟨y, rfl, hy⟩ := y_pI pa
  obtain ⟨s2, f2, e2⟩ := y_pf0 (a := tp) (qf _ (List.mem_of_getElem? (i := 0) rfl)) (by simp only [xl_ev, xt_ev]; omega)
  simp only [xl_ev, xt_ev] at hy e2
  have hsm : z_sm th G G' := fun c t i hc ht => by rcases ht with rfl | rfl | rfl | rfl | rfl | rfl <;> exact ef.at hc (y_outT (by decide +kernel) i)
  have hN := z_INp.effC tx ta h hI' ef (by decide +kernel) j1 j2 f2 (by obtain ⟨w, wi, hJ, hX⟩ := h.zx ef (by decide); exact h.kk.lq ef (by decide +kernel) hJ hX h17 (hF G' hI' hsm))
  obtain rfl : s2 = 0 := y_i0 (by omega)
  exact ⟨y, rfl, hN⟩
theorem bz_log (hd : 318 ≤ d) (h : z_IN th ax am G sc sm) (x1 : Int32) : x_Gd xs L J d m_129 (fun r G' => ∃ w wi, z_JW w wi G ∧ ZX w wi G') 0 (lv_args 0 [.ref ax, .int x1]) [] G := by
  obtain ⟨rfl, rfl, rfl, -, w, wi, hJ⟩ := h.kk
  exact (zb_log hd hJ.1 h.1 x1).mono (fun r G' z => ⟨w, wi, hJ, z⟩)
set_option maxHeartbeats 2000000 in
set_option maxRecDepth 100000 in
theorem b_log (hd : 318 ≤ d) (tx : th[ax]? = some 9) (ta : th[am]? = some 10) (h : z_IN th ax am G sc sc) (x1 : Int32) : x_Gd xs L J d m_129 (fun r G' => ∃ y sc' : Int32, r = some (.int y) ∧ z_INp (z_KK (z_LQ (z_FL x1)) th ax am G') th ax am G' sc' sc ∧ ((0 ≤ x1.toInt ∧ x1.toInt ≤ 1 ∧ sc' = 0) ∨ (¬ (0 ≤ x1.toInt ∧ x1.toInt ≤ 1) ∧ sc' = sc))) 0 (lv_args 0 [.ref ax, .int x1]) [] G := by
  obtain ⟨tp, j1, j2, j3, j4, jK⟩ := h.2.2
  have rs := h.tape tx
  refine ((((h_316 th xs L J).gd (G := G) (d := d) m_129_ok (by omega) (v := (y_v [(ax : Int), x1.toInt, (tp : Int), sc.toInt])) (as := [.ref ax, .int x1]) (y_v_Bd (List.forall_mem_cons.mpr ⟨(y_cellB h.1 tx), (List.forall_mem_cons.mpr ⟨(x_i32 x1), (List.forall_mem_cons.mpr ⟨(y_cellB h.1 j2), (List.forall_mem_cons.mpr ⟨(x_i32 sc), (fun _ h => absurd h List.not_mem_nil)⟩)⟩)⟩)⟩)) (List.forall_mem_cons.mpr ⟨(by simp only [xl_ev, xt_ev, y_v, List.getD_cons_succ, List.getD_cons_zero]; omega), (List.forall_mem_cons.mpr ⟨(by simp only [xl_ev, xt_ev, y_v, List.getD_cons_succ, List.getD_cons_zero]; omega), (fun _ h => absurd h List.not_mem_nil)⟩)⟩) ⟨⟨ax, rfl, (by simp only [xl_ev, xt_ev, y_v, List.getD_cons_succ, List.getD_cons_zero]; omega), tx⟩, ⟨x1, rfl, (by simp only [xl_ev, xt_ev, y_v, List.getD_cons_succ, List.getD_cons_zero]; omega)⟩, trivial⟩ (List.forall_mem_cons.mpr ⟨⟨ax, (by simp only [xl_ev, xt_ev, y_v, List.getD_cons_succ, List.getD_cons_zero]; omega), tx, _, j1, tp, rfl, (by simp only [xl_ev, xt_ev, y_v, List.getD_cons_succ, List.getD_cons_zero]; omega), j2⟩, (List.forall_mem_cons.mpr ⟨⟨tp, (by simp only [xl_ev, xt_ev, y_v, List.getD_cons_succ, List.getD_cons_zero]; omega), j2, _, j3, sc, rfl, (by simp only [xl_ev, xt_ev, y_v, List.getD_cons_succ, List.getD_cons_zero]; omega)⟩, (fun _ h => absurd h List.not_mem_nil)⟩)⟩) h.1 (fun z => by cases z)).and (bz_log hd h x1)).and (bl_log hd h x1)).mono (fun r G' h' => ?_)
  obtain ⟨⟨⟨v', hag, -, hI', ef, p, hp, qc, qf, pa⟩, w, wi, hJ, hX⟩, q, h17, hF⟩ := h'
  have hsm : z_sm th G G' := fun c t i hc ht => by rcases ht with rfl | rfl | rfl | rfl | rfl | rfl <;> exact ef.at hc (y_outT (by decide +kernel) i)
  have zt : v' 2 = (tp : Int) := hag 2 (by decide)
  have z1 : v' 1 = x1.toInt := hag 1 (by decide)
  have zs : v' 3 = sc.toInt := hag 3 (by decide)
  simp only [c_316, List.mem_cons, List.not_mem_nil, or_false] at hp
  rcases hp with rfl | rfl | rfl
  · obtain ⟨y, rfl, hy⟩ := y_pI pa
    have c0 := qc _ (List.mem_of_getElem? (i := 0) rfl)
    have c1 := qc _ (List.mem_of_getElem? (i := 1) rfl)
    obtain ⟨s2, f2, e2⟩ := y_pf0 (a := tp) (qf _ (List.mem_of_getElem? (i := 0) rfl)) (by simp only [xl_ev, xt_ev]; omega)
    simp only [xl_ev, xt_ev] at hy e2 c0 c1
    have hN := z_INp.effC tx ta h hI' ef (by decide +kernel) j1 j2 f2 (h.kk.lq ef (by decide +kernel) hJ hX h17 (hF G' hI' hsm))
    exact ⟨y, s2, rfl, hN, Or.inl ⟨by omega, by omega, y_i0 (by omega)⟩⟩
  · obtain ⟨y, rfl, hy⟩ := y_pI pa
    have c0 := qc _ (List.mem_of_getElem? (i := 0) rfl)
    obtain ⟨s2, f2, e2⟩ := y_pf0 (a := tp) (qf _ (List.mem_of_getElem? (i := 0) rfl)) (by simp only [xl_ev, xt_ev]; omega)
    simp only [xl_ev, xt_ev] at hy e2 c0
    have hN := z_INp.effC tx ta h hI' ef (by decide +kernel) j1 j2 f2 (h.kk.lq ef (by decide +kernel) hJ hX h17 (hF G' hI' hsm))
    exact ⟨y, s2, rfl, hN, Or.inr ⟨by omega, Int32.toInt_inj.mp (by omega)⟩⟩
  · obtain ⟨y, rfl, hy⟩ := y_pI pa
    have c0 := qc _ (List.mem_of_getElem? (i := 0) rfl)
    obtain ⟨s2, f2, e2⟩ := y_pf0 (a := tp) (qf _ (List.mem_of_getElem? (i := 0) rfl)) (by simp only [xl_ev, xt_ev]; omega)
    simp only [xl_ev, xt_ev] at hy e2 c0
    have hN := z_INp.effC tx ta h hI' ef (by decide +kernel) j1 j2 f2 (h.kk.lq ef (by decide +kernel) hJ hX h17 (hF G' hI' hsm))
    exact ⟨y, s2, rfl, hN, Or.inr ⟨by omega, Int32.toInt_inj.mp (by omega)⟩⟩
set_option maxHeartbeats 2000000 in
set_option maxRecDepth 100000 in
theorem n_feed (hd : 318 ≤ d) (tx : th[ax]? = some 9) (ta : th[am]? = some 10) (x1 x2 x3 x4 x5 : Int32) (h : z_IH th ax am G sc sm x1 x2 x3 x4 x5) : x_Gd xs L J d m_156 (fun r G' => ∃ y sm' : Int32, r = some (.int y) ∧ z_IN th ax am G' sc sm' ∧ ((sm.toInt ≤ 920 ∧ sm'.toInt = sm.toInt + 20) ∨ (921 ≤ sm.toInt ∧ sm'.toInt = sm.toInt))) 0 (lv_args 0 [.ref am, .int x1, .int x2, .int x3, .int x4, .int x5]) [] G := by
  obtain ⟨d, rfl⟩ : ∃ k, d = k + 1 := ⟨d - 1, by omega⟩
  obtain ⟨tp, j1, j2, j3, j4, jK⟩ := h.2.2
  have rs := z_INp.len ta h
  refine (((h_177 th xs L J).gd (G := G) (d := d + 1) m_156_ok (by omega) (v := (y_v [(am : Int), x1.toInt, x2.toInt, x3.toInt, x4.toInt, x5.toInt, sm.toInt])) (as := [.ref am, .int x1, .int x2, .int x3, .int x4, .int x5]) (y_v_Bd (List.forall_mem_cons.mpr ⟨(y_cellB h.1 ta), (List.forall_mem_cons.mpr ⟨(x_i32 x1), (List.forall_mem_cons.mpr ⟨(x_i32 x2), (List.forall_mem_cons.mpr ⟨(x_i32 x3), (List.forall_mem_cons.mpr ⟨(x_i32 x4), (List.forall_mem_cons.mpr ⟨(x_i32 x5), (List.forall_mem_cons.mpr ⟨(x_i32 sm), (fun _ h => absurd h List.not_mem_nil)⟩)⟩)⟩)⟩)⟩)⟩)⟩)) (List.forall_mem_cons.mpr ⟨(by simp only [xl_ev, xt_ev, y_v, List.getD_cons_succ, List.getD_cons_zero]; omega), (List.forall_mem_cons.mpr ⟨(by simp only [xl_ev, xt_ev, y_v, List.getD_cons_succ, List.getD_cons_zero]; omega), (fun _ h => absurd h List.not_mem_nil)⟩)⟩) ⟨⟨am, rfl, (by simp only [xl_ev, xt_ev, y_v, List.getD_cons_succ, List.getD_cons_zero]; omega), ta⟩, ⟨x1, rfl, (by simp only [xl_ev, xt_ev, y_v, List.getD_cons_succ, List.getD_cons_zero]; omega)⟩, ⟨x2, rfl, (by simp only [xl_ev, xt_ev, y_v, List.getD_cons_succ, List.getD_cons_zero]; omega)⟩, ⟨x3, rfl, (by simp only [xl_ev, xt_ev, y_v, List.getD_cons_succ, List.getD_cons_zero]; omega)⟩, ⟨x4, rfl, (by simp only [xl_ev, xt_ev, y_v, List.getD_cons_succ, List.getD_cons_zero]; omega)⟩, ⟨x5, rfl, (by simp only [xl_ev, xt_ev, y_v, List.getD_cons_succ, List.getD_cons_zero]; omega)⟩, trivial⟩ (List.forall_mem_cons.mpr ⟨⟨am, (by simp only [xl_ev, xt_ev, y_v, List.getD_cons_succ, List.getD_cons_zero]; omega), ta, _, j4, sm, rfl, (by simp only [xl_ev, xt_ev, y_v, List.getD_cons_succ, List.getD_cons_zero]; omega)⟩, (fun _ h => absurd h List.not_mem_nil)⟩) h.1 (fun z => by cases z)).and (n_feedk (d := d) h)).mono (fun r G' h' => ?_)
  obtain ⟨⟨v', hag, -, hI', ef, p, hp, qc, qf, pa⟩, kb⟩ := h'
  have hP := z_LAp h ef (by decide +kernel) (by decide +kernel) (by decide +kernel) (by decide +kernel) kb
  have za : v' 0 = (am : Int) := hag 0 (by decide)
  have z1 : v' 1 = x1.toInt := hag 1 (by decide)
  have z2 : v' 2 = x2.toInt := hag 2 (by decide)
  have z3 : v' 3 = x3.toInt := hag 3 (by decide)
  have z4 : v' 4 = x4.toInt := hag 4 (by decide)
  have z5 : v' 5 = x5.toInt := hag 5 (by decide)
  have zs : v' 6 = sm.toInt := hag 6 (by decide)
  simp only [c_177, List.mem_cons, List.not_mem_nil, or_false] at hp
  rcases hp with rfl | rfl
  · obtain ⟨y, rfl, hy⟩ := y_pI pa
    have c0 := qc _ (List.mem_of_getElem? (i := 0) rfl)
    obtain ⟨s2, f2, e2⟩ := y_pf0 (a := am) (qf _ (List.mem_of_getElem? (i := 0) rfl)) (by simp only [xl_ev, xt_ev]; omega)
    simp only [xl_ev, xt_ev] at hy e2 c0
    have hN := z_INp.effM tx ta h hI' (okE0_ok ta h.2.1 hI' ef (by decide)) ef (by decide +kernel) f2 hP
    exact ⟨y, s2, rfl, hN, Or.inl ⟨by omega, by omega⟩⟩
  · obtain ⟨y, rfl, hy⟩ := y_pI pa
    have c0 := qc _ (List.mem_of_getElem? (i := 0) rfl)
    obtain ⟨s2, f2, e2⟩ := y_pf0 (a := am) (qf _ (List.mem_of_getElem? (i := 0) rfl)) (by simp only [xl_ev, xt_ev]; omega)
    simp only [xl_ev, xt_ev] at hy e2 c0
    have hN := z_INp.effM tx ta h hI' (okE0_ok ta h.2.1 hI' ef (by decide)) ef (by decide +kernel) f2 hP
    exact ⟨y, s2, rfl, hN, Or.inr ⟨by omega, by omega⟩⟩
set_option maxHeartbeats 2000000 in
set_option maxRecDepth 100000 in
theorem n_end (hd : 318 ≤ d) (tx : th[ax]? = some 9) (ta : th[am]? = some 10) (h : z_IN th ax am G sc sm) (x1 : Int32) : x_Gd xs L J d m_158 (fun r G' => ∃ y sm' : Int32, r = some (.int y) ∧ z_IN th ax am G' sc sm' ∧ ((y = 1 ∧ 0 ≤ x1.toInt ∧ x1.toInt ≤ sm.toInt ∧ sm' = x1) ∨ (y = 0 ∧ ¬ (0 ≤ x1.toInt ∧ x1.toInt ≤ sm.toInt) ∧ sm' = sm))) 0 (lv_args 0 [.ref am, .int x1]) [] G := by
  obtain ⟨tp, j1, j2, j3, j4, jK⟩ := h.2.2
  have rs := h.len ta
  refine ((h_178 th xs L J).gd (G := G) (d := d) m_158_ok (by omega) (v := (y_v [(am : Int), x1.toInt, sm.toInt])) (as := [.ref am, .int x1]) (y_v_Bd (List.forall_mem_cons.mpr ⟨(y_cellB h.1 ta), (List.forall_mem_cons.mpr ⟨(x_i32 x1), (List.forall_mem_cons.mpr ⟨(x_i32 sm), (fun _ h => absurd h List.not_mem_nil)⟩)⟩)⟩)) (List.forall_mem_cons.mpr ⟨(by simp only [xl_ev, xt_ev, y_v, List.getD_cons_succ, List.getD_cons_zero]; omega), (List.forall_mem_cons.mpr ⟨(by simp only [xl_ev, xt_ev, y_v, List.getD_cons_succ, List.getD_cons_zero]; omega), (fun _ h => absurd h List.not_mem_nil)⟩)⟩) ⟨⟨am, rfl, (by simp only [xl_ev, xt_ev, y_v, List.getD_cons_succ, List.getD_cons_zero]; omega), ta⟩, ⟨x1, rfl, (by simp only [xl_ev, xt_ev, y_v, List.getD_cons_succ, List.getD_cons_zero]; omega)⟩, trivial⟩ (List.forall_mem_cons.mpr ⟨⟨am, (by simp only [xl_ev, xt_ev, y_v, List.getD_cons_succ, List.getD_cons_zero]; omega), ta, _, j4, sm, rfl, (by simp only [xl_ev, xt_ev, y_v, List.getD_cons_succ, List.getD_cons_zero]; omega)⟩, (fun _ h => absurd h List.not_mem_nil)⟩) h.1 (fun z => by cases z)).mono (fun r G' h' => ?_)
  obtain ⟨v', hag, -, hI', ef, p, hp, qc, qf, pa⟩ := h'
  have za : v' 0 = (am : Int) := hag 0 (by decide)
  have z1 : v' 1 = x1.toInt := hag 1 (by decide)
  have zs : v' 2 = sm.toInt := hag 2 (by decide)
  simp only [c_178, List.mem_cons, List.not_mem_nil, or_false] at hp
  rcases hp with rfl | rfl | rfl
  · obtain ⟨y, rfl, hy⟩ := y_pI pa
    have c0 := qc _ (List.mem_of_getElem? (i := 0) rfl)
    have c1 := qc _ (List.mem_of_getElem? (i := 1) rfl)
    obtain ⟨s2, f2, e2⟩ := y_pf0 (a := am) (qf _ (List.mem_of_getElem? (i := 0) rfl)) (by simp only [xl_ev, xt_ev]; omega)
    simp only [xl_ev, xt_ev] at hy e2 c0 c1
    have hN := h.effM tx ta hI' (okE0_ok ta h.2.1 hI' ef (by decide)) ef (by decide +kernel) f2
    exact ⟨y, s2, rfl, hN, Or.inl ⟨y_i1 (by omega), by omega, by omega, Int32.toInt_inj.mp (by omega)⟩⟩
  · obtain ⟨y, rfl, hy⟩ := y_pI pa
    have c0 := qc _ (List.mem_of_getElem? (i := 0) rfl)
    obtain ⟨s2, f2, e2⟩ := y_pf0 (a := am) (qf _ (List.mem_of_getElem? (i := 0) rfl)) (by simp only [xl_ev, xt_ev]; omega)
    simp only [xl_ev, xt_ev] at hy e2 c0
    have hN := h.effM tx ta hI' (okE0_ok ta h.2.1 hI' ef (by decide)) ef (by decide +kernel) f2
    exact ⟨y, s2, rfl, hN, Or.inr ⟨y_i0 (by omega), by omega, Int32.toInt_inj.mp (by omega)⟩⟩
  · obtain ⟨y, rfl, hy⟩ := y_pI pa
    have c0 := qc _ (List.mem_of_getElem? (i := 0) rfl)
    obtain ⟨s2, f2, e2⟩ := y_pf0 (a := am) (qf _ (List.mem_of_getElem? (i := 0) rfl)) (by simp only [xl_ev, xt_ev]; omega)
    simp only [xl_ev, xt_ev] at hy e2 c0
    have hN := h.effM tx ta hI' (okE0_ok ta h.2.1 hI' ef (by decide)) ef (by decide +kernel) f2
    exact ⟨y, s2, rfl, hN, Or.inr ⟨y_i0 (by omega), by omega, Int32.toInt_inj.mp (by omega)⟩⟩
set_option maxHeartbeats 2000000 in
set_option maxRecDepth 100000 in
theorem n_which (hd : 318 ≤ d) (tx : th[ax]? = some 9) (ta : th[am]? = some 10) (h : z_IN th ax am G sc sm)  : x_Gd xs L J d m_224 (fun r G' => ∃ y : Int32, r = some (.int y) ∧ z_IN th ax am G' sc 0) 0 (lv_args 0 [.ref am]) [] G := by
  obtain ⟨tp, j1, j2, j3, j4, jK⟩ := h.2.2
  have rs := h.len ta
  refine ((h_317 th xs L J).gd (G := G) (d := d) m_224_ok (by omega) (v := (y_v [(am : Int)])) (as := [.ref am]) (y_v_Bd (List.forall_mem_cons.mpr ⟨(y_cellB h.1 ta), (fun _ h => absurd h List.not_mem_nil)⟩)) (fun _ h => absurd h List.not_mem_nil) ⟨⟨am, rfl, (by simp only [xl_ev, xt_ev, y_v, List.getD_cons_succ, List.getD_cons_zero]; omega), ta⟩, trivial⟩ (fun q hq => absurd hq List.not_mem_nil) h.1 (fun z => by cases z)).mono (fun r G' h' => ?_)
  obtain ⟨v', hag, -, hI', ef, p, hp, qc, qf, pa⟩ := h'
  have za : v' 0 = (am : Int) := hag 0 (by decide)
  obtain rfl : p = _ := List.mem_singleton.mp hp
  obtain ⟨y, rfl, hy⟩ := y_pI pa
  obtain ⟨s2, f2, e2⟩ := y_pf0 (a := am) (qf _ (List.mem_of_getElem? (i := 0) rfl)) (by simp only [xl_ev, xt_ev]; omega)
  simp only [xl_ev, xt_ev] at hy e2
  have hN := h.effM tx ta hI' (okE0_ok ta h.2.1 hI' ef (by decide)) ef (by decide +kernel) f2
  obtain rfl : s2 = 0 := y_i0 (by omega)
  exact ⟨y, rfl, hN⟩
set_option maxHeartbeats 2000000 in
set_option maxRecDepth 100000 in
theorem n_land (hd : 318 ≤ d) (tx : th[ax]? = some 9) (ta : th[am]? = some 10) (hU : ∀ b b' : Nat, th[b]? = some 36 → th[b']? = some 36 → b = b') {y0 : Int32} (h : z_INp (z_KK (z_LY y0) th ax am G) th ax am G sc sm) : x_Gd xs L J d m_161 (fun r G' => ∃ y : Int32, r = some (.int y) ∧ z_IN th ax am G' sc 0) 0 (lv_args 0 [.ref am]) [] G := by
  obtain ⟨d, rfl⟩ : ∃ k, d = k + 5 := ⟨d - 5, by omega⟩
  obtain ⟨tp, j1, j2, j3, j4, rfl, rfl, rfl, hLA, wi, wc, q, hX, hM, h17, hA⟩ := h.2.2
  refine ((g_land (d := d) (by omega) h.1 ta hU h.2.1.2.1 h.2.1.2.2.1).and (hA xs L J (d + 5) (by omega))).mono (fun r G' h' => ?_)
  obtain ⟨⟨⟨y, rfl⟩, hI', hQ', hN', ef, f2⟩, e, hR, h15⟩ := h'
  exact ⟨_, rfl, z_INp.effM tx ta h hI' ⟨hI', hQ', hN', h.2.1.2.2.2.eff ta ef (by decide +kernel) rfl⟩ ef (by decide +kernel) f2 ⟨rfl, rfl, rfl, hLA.eff ef (by decide +kernel), wc, wi, hX.eff ef (by decide +kernel), z_JL hM ef (by decide +kernel) hR ((ef.at z_ty.1 rfl).trans (h17.trans h15.symm))⟩⟩
set_option maxHeartbeats 2000000 in
set_option maxRecDepth 100000 in
theorem n_sentence (hd : 318 ≤ d) (tx : th[ax]? = some 9) (ta : th[am]? = some 10) (hU : ∀ b b' : Nat, th[b]? = some 36 → th[b']? = some 36 → b = b') (h : z_INp (z_KK (z_LQ z_FS) th ax am G) th ax am G sc sm)  : x_Gd xs L J d m_247 (fun r G' => ∃ y : Int32, r = some (.int y) ∧ z_IN th ax am G' sc 0) 0 (lv_args 0 [.ref am]) [] G := by
  obtain ⟨d, rfl⟩ : ∃ k, d = k + 3 := ⟨d - 3, by omega⟩
  obtain ⟨tp, j1, j2, j3, j4, rfl, rfl, rfl, hLA, w, wi, q, hX, hJN, hR, h17, hF⟩ := h.2.2
  refine ((g_sentence (d := d) (by omega) h.1 ta hU h.2.1.2.1).and (hF xs L J (d + 3) (by omega))).mono (fun r G' h' => ?_)
  obtain ⟨⟨⟨y, rfl⟩, hI', hQ', ef, f2⟩, h15⟩ := h'
  exact ⟨y, rfl, z_INp.effM tx ta h hI' ⟨hI', hQ', h.2.1.2.2.1.eff ta h.1 ef (by decide +kernel) (by decide), h.2.1.2.2.2.eff ta ef (by decide +kernel) rfl⟩ ef (by decide +kernel) f2 (z_KK.lqn hLA hX hJN hR h17 ef (by decide +kernel) h15)⟩
set_option maxHeartbeats 2000000 in
set_option maxRecDepth 100000 in
theorem n_log (hd : 318 ≤ d) (tx : th[ax]? = some 9) (ta : th[am]? = some 10) {x1 : Int32} (h : z_INp (z_KK (z_LQ (z_FL x1)) th ax am G) th ax am G sc sm) : x_Gd xs L J d m_243 (fun r G' => ∃ y sm' : Int32, r = some (.int y) ∧ z_IN th ax am G' sc sm' ∧ ((0 ≤ x1.toInt ∧ x1.toInt ≤ 1 ∧ sm' = 0) ∨ (¬ (0 ≤ x1.toInt ∧ x1.toInt ≤ 1) ∧ sm' = sm))) 0 (lv_args 0 [.ref am, .int x1]) [] G := by
  obtain ⟨d, rfl⟩ : ∃ k, d = k + 2 := ⟨d - 2, by omega⟩
  obtain ⟨tp, j1, j2, j3, j4, rfl, rfl, rfl, hLA, w, wi, q, hX, hJN, hR, h17, hF⟩ := h.2.2
  refine ((g_log (d := d) (lives := x1) (by omega) h.1 ta h.2.1.2.1 h.2.1.2.2.1).and (hF xs L J (d + 2) (by omega))).mono (fun r G' h' => ?_)
  obtain ⟨⟨⟨y, rfl⟩, hI', ef, f1, f2⟩, h15⟩ := h'
  have hK := z_KK.lqn hLA hX hJN hR h17 ef (by decide +kernel) h15
  have hV' := okE0_ok ta h.2.1 hI' ef (by decide)
  by_cases hx : 0 ≤ x1.toInt ∧ x1.toInt ≤ 1
  · exact ⟨y, 0, rfl, z_INp.effM tx ta h hI' hV' ef (by decide +kernel) (f1 hx) hK, Or.inl ⟨hx.1, hx.2, rfl⟩⟩
  · exact ⟨y, sm, rfl, z_INp.effM tx ta h hI' hV' ef (by decide +kernel) ((f2 hx).trans j4) hK, Or.inr ⟨hx, rfl⟩⟩
theorem z_k9 (h : z_LA G) : x_sl G 349 9 = some (.ref 354) := by
  obtain ⟨⟨-, -, -, -, -, -, -, -, -, -, -, -, -, -, -, -, -, p17, -⟩, -⟩ := h
  exact p17
theorem th0_U48 : ∀ b : Nat, th0[b]? = some 48 → b = 363 := by
  have q : ∀ b, b < 366 → th0[b]? = some 48 → b = 363 := by decide +kernel
  intro b hb
  have := (List.getElem?_eq_some_iff.mp hb).1
  rw [th2_len.2] at this
  exact q b this hb
theorem z_k43 {G : List pE} (h : z_IV th0 349 G) : x_sl G 349 43 = some (.ref 363) := by
  obtain ⟨-, -, -, kb, nk, ab, -, -, k43, tnk, -⟩ := h
  rw [th0_U48 nk tnk] at k43
  exact k43
theorem z_nk_eq {q : Nat} (h1 : ∀ i, i < 25 → x_sl G' 362 (324 * q + i) = x_sl G 351 i) (h2 : ∀ i, i < 16 → x_sl G' 363 (16 * q + i) = x_sl G 354 i) : ∀ i, i < 25 ∨ (400 ≤ i ∧ i < 416) → z_nrowk q G' i = z_nrow G i := fun i hi => by
  unfold z_nrowk z_nrow
  rcases hi with hi | ⟨a, b⟩
  · rw [if_pos (by omega), if_pos (by omega)]
    exact h1 i hi
  · rw [if_neg (by omega), if_neg (by omega)]
    exact h2 _ (by omega)
theorem z_kn_eq {q : Nat} (h1 : ∀ i, i < 25 → x_sl G' 351 i = x_sl G 362 (324 * q + i)) (h2 : ∀ i, i < 16 → x_sl G' 354 i = x_sl G 363 (16 * q + i)) : ∀ i, i < 25 ∨ (400 ≤ i ∧ i < 416) → z_nrow G' i = z_nrowk q G i := fun i hi => by
  unfold z_nrowk z_nrow
  rcases hi with hi | ⟨a, b⟩
  · rw [if_pos (by omega), if_pos (by omega)]
    exact h1 i hi
  · rw [if_neg (by omega), if_neg (by omega)]
    exact h2 _ (by omega)
set_option maxHeartbeats 2000000 in
set_option maxRecDepth 100000 in
theorem n_image (hd : 318 ≤ d) (tx : th[ax]? = some 9) (ta : th[am]? = some 10) (hU : ∀ b b' : Nat, th[b]? = some 36 → th[b']? = some 36 → b = b') {x1 : Int32} (h : z_INp (z_KK (z_LM x1) th ax am G) th ax am G sc sm) : x_Gd xs L J d m_257 (fun r G' => (∃ y : Int32, r = some (.int y)) ∧ z_IN th ax am G' sc sm) 0 (lv_args 0 [.ref am, .int x1]) [] G := by
  obtain ⟨d, rfl⟩ : ∃ k, d = k + 1 := ⟨d - 1, by omega⟩
  obtain ⟨tp, j1, j2, j3, j4, rfl, rfl, rfl, hLA, w, wi, hX, ⟨m1, m2, m3, m4⟩, hR, hF, hRI, hFK⟩ := h.2.2
  refine ((g_image (d := d) (q := x1) (by omega) ta hU h.2.1).and (g_image_c (d := d) (q := x1) (by omega) ta h.2.1)).mono (fun r G' h' => ?_)
  obtain ⟨⟨hV', ef, f1, f2⟩, hc⟩ := h'
  obtain ⟨c1, c3, c2⟩ := hc 362 351 364 m2 m1 m3
  have k9 : x_sl G 349 9 = some (.ref 354) := z_k9 hLA
  replace c3 := c3 354 363 k9 (z_k43 h.2.1)
  refine ⟨?_, z_INp.effM tx ta h hV'.1 hV' ef (by decide +kernel) (by rw [ef.at ta rfl]; exact j4) ⟨rfl, rfl, rfl, hLA.eff ef (by decide +kernel), w, _, hX.eff ef (by decide +kernel), ⟨(ef.at z_mt.2.2.2.2.1 rfl).trans m1, (ef.at z_mt.2.2.2.2.1 rfl).trans m2, (ef.at z_mt.2.2.2.2.1 rfl).trans m3, (ef.at z_mt.2.2.2.2.2 rfl).trans m4⟩, hR.c (z_nrow_c (fun i hi => ef.at z_mt.1 rfl) (fun i hi => ef.at z_mt2.1 rfl)), ⟨fun q hq => ?_, (ef.at z_ty.1 rfl).trans (hFK.trans (ef.at z_mt.2.2.2.2.1 rfl).symm)⟩, fun q hq x hx h0 => ?_⟩⟩
  · by_cases hx : 0 ≤ x1.toInt ∧ x1.toInt ≤ 1
    · exact ⟨1, f1 hx⟩
    · exact ⟨0, f2 hx⟩
  · rw [ef.at z_mt.2.2.2.1 rfl, hF q hq, c2 q]
  · by_cases e : 0 ≤ x1.toInt ∧ x1.toInt ≤ 1 ∧ q = x1.toInt.toNat
    · dsimp only
      rw [if_pos e]
      exact hR.c (z_nk_eq (fun i hi => (c1 q hq i (by omega)).trans (if_pos e)) (fun i hi => (c3 q hq i hi).trans (if_pos e)))
    · dsimp only
      rw [if_neg e]
      rw [c2 q, if_neg e] at hx
      exact (hRI q hq x hx h0).c (z_nrowk_c (fun i hi => (c1 q hq i (by omega)).trans (if_neg e)) (fun i hi => (c3 q hq i hi).trans (if_neg e)))
set_option maxHeartbeats 2000000 in
set_option maxRecDepth 100000 in
theorem n_restore (hd : 318 ≤ d) (tx : th[ax]? = some 9) (ta : th[am]? = some 10) (hU : ∀ b b' : Nat, th[b]? = some 36 → th[b']? = some 36 → b = b') {x1 : Int32} (h : z_INp (z_KK (z_LR x1) th ax am G) th ax am G sc sm) : x_Gd xs L J d m_258 (fun r G' => (∃ y : Int32, r = some (.int y)) ∧ z_IN th ax am G' sc sm) 0 (lv_args 0 [.ref am, .int x1]) [] G := by
  obtain ⟨d, rfl⟩ : ∃ k, d = k + 1 := ⟨d - 1, by omega⟩
  obtain ⟨tp, j1, j2, j3, j4, rfl, rfl, rfl, hLA, w, wi, wc, hX, hM, hq⟩ := h.2.2
  refine ((g_restore (d := d) (q := x1) (by omega) ta hU h.2.1).and (g_restore_c (d := d) (q := x1) (by omega) ta h.2.1)).mono (fun r G' h' => ?_)
  obtain ⟨⟨hV', ef, y, rfl, -⟩, hc⟩ := h'
  obtain ⟨c1, c2⟩ := hc 362 351 364 hM.1.2.1 hM.1.1 hM.1.2.2.1
  have k9 : x_sl G 349 9 = some (.ref 354) := z_k9 hLA
  have k43 := z_k43 h.2.1
  have hR : RW wc (z_nrow G') := by
    rcases hq with ⟨e, rfl⟩ | ⟨e, rfl⟩
    · obtain ⟨v, e1, e2⟩ := e.2.2
      exact (hM.2.2.2 _ (by omega) v e1 e2).c (z_kn_eq (fun i hi => (c1 e).1 i (by omega)) (fun i hi => (c1 e).2 354 363 k9 k43 i hi))
    · exact hM.2.1.c (z_nrow_c (fun i hi => (c2 e).1 i (by omega)) (fun i hi => (c2 e).2 354 k9 i hi))
  exact ⟨⟨y, rfl⟩, z_INp.effM tx ta h hV'.1 hV' ef (by decide +kernel) (by rw [ef.at ta rfl]; exact j4) ⟨rfl, rfl, rfl, hLA.eff ef (by decide +kernel), wc, wi, hX.eff ef (by decide +kernel), z_JL hM.jn ef (by decide +kernel) hR ((ef.at z_ty.1 rfl).trans (hM.2.2.1.2.trans (ef.at z_mt.2.2.2.2.1 rfl).symm))⟩⟩
end ZI3
