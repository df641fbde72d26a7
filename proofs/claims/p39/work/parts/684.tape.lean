section ZI3
variable {th : List Nat} {xs : Nat → Int32} {L J d ax am : Nat} {G G' : List pE} {sc sm : Int32} {E : List (Nat × Nat × Nat)}
theorem z_IN.effC (tx : th[ax]? = some 9) (ta : th[am]? = some 10) (h : z_IN th ax am G sc sm) (hI : xI x_tb th G') (he : x_eff th E G G') (hok : (okE0 E && (y_out E 9 0 && (y_out E 10 2 && okK E))) = true) {tp : Nat} {sc' : Int32} (k1 : x_sl G ax 0 = some (.ref tp)) (k2 : th[tp]? = some 7) (hs : x_sl G' tp 1 = some (.int sc')) : z_IN th ax am G' sc' sm := by
  obtain ⟨h0, hok⟩ := Bool.and_eq_true_iff.mp hok
  obtain ⟨h1, hok⟩ := Bool.and_eq_true_iff.mp hok
  obtain ⟨h3, h4⟩ := Bool.and_eq_true_iff.mp hok
  obtain ⟨-, hV, tp', j1, j2, j3, j4, jK⟩ := h
  exact ⟨hI, okE0_ok ta hV hI he h0, tp, by rw [he.at tx h1]; exact k1, k2, hs, by rw [he.at ta h3]; exact j4, jK.eff tx ta he h4⟩
theorem z_IN.effM (tx : th[ax]? = some 9) (ta : th[am]? = some 10) (h : z_IN th ax am G sc sm) (hI : xI x_tb th G') (hV' : z_IV th am G') (he : x_eff th E G G') (hok : (y_out E 9 0 && (y_out E 7 1 && okK E)) = true) {sm' : Int32} (hs : x_sl G' am 2 = some (.int sm')) : z_IN th ax am G' sc sm' := by
  obtain ⟨h0, hok⟩ := Bool.and_eq_true_iff.mp hok
  obtain ⟨h1, h2⟩ := Bool.and_eq_true_iff.mp hok
  obtain ⟨-, -, tp, j1, j2, j3, j4, jK⟩ := h
  exact ⟨hI, hV', tp, by rw [he.at tx h0]; exact j1, j2, by rw [he.at j2 h1]; exact j3, hs, jK.eff tx ta he h2⟩
theorem z_IN.tape (tx : th[ax]? = some 9) (h : z_IN th ax am G sc sm) : 0 ≤ sc.toInt ∧ sc.toInt ≤ 940 := by
  obtain ⟨hI, -, tp, j1, j2, j3, j4, jK⟩ := h
  exact y_fie (i := 1) (t := 7) hI j2 rfl j3
theorem z_IN.len (ta : th[am]? = some 10) (h : z_IN th ax am G sc sm) : 0 ≤ sm.toInt ∧ sm.toInt ≤ 940 := by
  obtain ⟨hI, -, tp, j1, j2, j3, j4, jK⟩ := h
  exact y_fie (i := 2) (t := 10) hI ta rfl j4
def m_11 : pM := (⟨"BreathingHill", "feed", "(IIIII)I"⟩, 519, 6, some (FieldType.int), 0, 5, false, 9, 91, 517, 518)
set_option maxRecDepth 100000 in
theorem m_11_ok : pm_tab[11]? = some m_11 := rfl
theorem e_11 : ∀ q ∈ d_11, decode m_11.code q.1 = .ok (q.2.1, q.2.2) := y_dec d_11_ok m_11_ok
set_option maxHeartbeats 2000000 in
set_option maxRecDepth 100000 in
theorem b_feed (hd : 318 ≤ d) (tx : th[ax]? = some 9) (ta : th[am]? = some 10) (h : z_IN th ax am G sc sm) (x1 x2 x3 x4 x5 : Int32) : x_Gd xs L J d m_11 (fun r G' => ∃ y sc' : Int32, r = some (.int y) ∧ z_IN th ax am G' sc' sm ∧ ((sc.toInt ≤ 920 ∧ sc'.toInt = sc.toInt + 20) ∨ (921 ≤ sc.toInt ∧ sc'.toInt = sc.toInt))) 0 (lv_args 0 [.ref ax, .int x1, .int x2, .int x3, .int x4, .int x5]) [] G := by
  obtain ⟨tp, j1, j2, j3, j4, jK⟩ := h.2.2
  have rs := h.tape tx
  refine ((h_311 th xs L J).gd (G := G) (d := d) m_11_ok (by omega) (v := (y_v [(ax : Int), x1.toInt, x2.toInt, x3.toInt, x4.toInt, x5.toInt, (tp : Int), sc.toInt])) (as := [.ref ax, .int x1, .int x2, .int x3, .int x4, .int x5]) (y_v_Bd (List.forall_mem_cons.mpr ⟨(y_cellB h.1 tx), (List.forall_mem_cons.mpr ⟨(x_i32 x1), (List.forall_mem_cons.mpr ⟨(x_i32 x2), (List.forall_mem_cons.mpr ⟨(x_i32 x3), (List.forall_mem_cons.mpr ⟨(x_i32 x4), (List.forall_mem_cons.mpr ⟨(x_i32 x5), (List.forall_mem_cons.mpr ⟨(y_cellB h.1 j2), (List.forall_mem_cons.mpr ⟨(x_i32 sc), (fun _ h => absurd h List.not_mem_nil)⟩)⟩)⟩)⟩)⟩)⟩)⟩)⟩)) (List.forall_mem_cons.mpr ⟨(by simp only [xl_ev, xt_ev, y_v, List.getD_cons_succ, List.getD_cons_zero]; omega), (List.forall_mem_cons.mpr ⟨(by simp only [xl_ev, xt_ev, y_v, List.getD_cons_succ, List.getD_cons_zero]; omega), (fun _ h => absurd h List.not_mem_nil)⟩)⟩) ⟨⟨ax, rfl, (by simp only [xl_ev, xt_ev, y_v, List.getD_cons_succ, List.getD_cons_zero]; omega), tx⟩, ⟨x1, rfl, (by simp only [xl_ev, xt_ev, y_v, List.getD_cons_succ, List.getD_cons_zero]; omega)⟩, ⟨x2, rfl, (by simp only [xl_ev, xt_ev, y_v, List.getD_cons_succ, List.getD_cons_zero]; omega)⟩, ⟨x3, rfl, (by simp only [xl_ev, xt_ev, y_v, List.getD_cons_succ, List.getD_cons_zero]; omega)⟩, ⟨x4, rfl, (by simp only [xl_ev, xt_ev, y_v, List.getD_cons_succ, List.getD_cons_zero]; omega)⟩, ⟨x5, rfl, (by simp only [xl_ev, xt_ev, y_v, List.getD_cons_succ, List.getD_cons_zero]; omega)⟩, trivial⟩ (List.forall_mem_cons.mpr ⟨⟨ax, (by simp only [xl_ev, xt_ev, y_v, List.getD_cons_succ, List.getD_cons_zero]; omega), tx, _, j1, tp, rfl, (by simp only [xl_ev, xt_ev, y_v, List.getD_cons_succ, List.getD_cons_zero]; omega), j2⟩, (List.forall_mem_cons.mpr ⟨⟨tp, (by simp only [xl_ev, xt_ev, y_v, List.getD_cons_succ, List.getD_cons_zero]; omega), j2, _, j3, sc, rfl, (by simp only [xl_ev, xt_ev, y_v, List.getD_cons_succ, List.getD_cons_zero]; omega)⟩, (fun _ h => absurd h List.not_mem_nil)⟩)⟩) h.1 (fun z => by cases z)).mono (fun r G' h' => ?_)
  obtain ⟨v', hag, -, hI', ef, p, hp, qc, qf, pa⟩ := h'
  have zt : v' 6 = (tp : Int) := hag 6 (by decide)
  have z1 : v' 1 = x1.toInt := hag 1 (by decide)
  have z2 : v' 2 = x2.toInt := hag 2 (by decide)
  have z3 : v' 3 = x3.toInt := hag 3 (by decide)
  have z4 : v' 4 = x4.toInt := hag 4 (by decide)
  have z5 : v' 5 = x5.toInt := hag 5 (by decide)
  have zs : v' 7 = sc.toInt := hag 7 (by decide)
  simp only [c_311, List.mem_cons, List.not_mem_nil, or_false] at hp
  rcases hp with rfl | rfl
  · obtain ⟨y, rfl, hy⟩ := y_pI pa
    have c0 := qc _ (List.mem_of_getElem? (i := 0) rfl)
    obtain ⟨s2, f2, e2⟩ := y_pf0 (a := tp) (qf _ (List.mem_of_getElem? (i := 0) rfl)) (by simp only [xl_ev, xt_ev]; omega)
    simp only [xl_ev, xt_ev] at hy e2 c0
    have hN := h.effC tx ta hI' ef (by decide) j1 j2 f2
    exact ⟨y, s2, rfl, hN, Or.inl ⟨by omega, by omega⟩⟩
  · obtain ⟨y, rfl, hy⟩ := y_pI pa
    have c0 := qc _ (List.mem_of_getElem? (i := 0) rfl)
    obtain ⟨s2, f2, e2⟩ := y_pf0 (a := tp) (qf _ (List.mem_of_getElem? (i := 0) rfl)) (by simp only [xl_ev, xt_ev]; omega)
    simp only [xl_ev, xt_ev] at hy e2 c0
    have hN := h.effC tx ta hI' ef (by decide) j1 j2 f2
    exact ⟨y, s2, rfl, hN, Or.inr ⟨by omega, by omega⟩⟩
def m_14 : pM := (⟨"BreathingHill", "end", "(I)Z"⟩, 531, 2, some (FieldType.boolean), 0, 1, false, 9, 91, 529, 530)
set_option maxRecDepth 100000 in
theorem m_14_ok : pm_tab[14]? = some m_14 := rfl
theorem e_14 : ∀ q ∈ d_14, decode m_14.code q.1 = .ok (q.2.1, q.2.2) := y_dec d_14_ok m_14_ok
set_option maxHeartbeats 2000000 in
set_option maxRecDepth 100000 in
theorem b_end (hd : 318 ≤ d) (tx : th[ax]? = some 9) (ta : th[am]? = some 10) (h : z_IN th ax am G sc sm) (x1 : Int32) : x_Gd xs L J d m_14 (fun r G' => ∃ y sc' : Int32, r = some (.int y) ∧ z_IN th ax am G' sc' sm ∧ ((y = 1 ∧ 0 ≤ x1.toInt ∧ x1.toInt ≤ sc.toInt ∧ sc' = x1) ∨ (y = 0 ∧ ¬ (0 ≤ x1.toInt ∧ x1.toInt ≤ sc.toInt) ∧ sc' = sc))) 0 (lv_args 0 [.ref ax, .int x1]) [] G := by
  obtain ⟨tp, j1, j2, j3, j4, jK⟩ := h.2.2
  have rs := h.tape tx
  refine ((h_312 th xs L J).gd (G := G) (d := d) m_14_ok (by omega) (v := (y_v [(ax : Int), x1.toInt, (tp : Int), sc.toInt])) (as := [.ref ax, .int x1]) (y_v_Bd (List.forall_mem_cons.mpr ⟨(y_cellB h.1 tx), (List.forall_mem_cons.mpr ⟨(x_i32 x1), (List.forall_mem_cons.mpr ⟨(y_cellB h.1 j2), (List.forall_mem_cons.mpr ⟨(x_i32 sc), (fun _ h => absurd h List.not_mem_nil)⟩)⟩)⟩)⟩)) (List.forall_mem_cons.mpr ⟨(by simp only [xl_ev, xt_ev, y_v, List.getD_cons_succ, List.getD_cons_zero]; omega), (List.forall_mem_cons.mpr ⟨(by simp only [xl_ev, xt_ev, y_v, List.getD_cons_succ, List.getD_cons_zero]; omega), (fun _ h => absurd h List.not_mem_nil)⟩)⟩) ⟨⟨ax, rfl, (by simp only [xl_ev, xt_ev, y_v, List.getD_cons_succ, List.getD_cons_zero]; omega), tx⟩, ⟨x1, rfl, (by simp only [xl_ev, xt_ev, y_v, List.getD_cons_succ, List.getD_cons_zero]; omega)⟩, trivial⟩ (List.forall_mem_cons.mpr ⟨⟨ax, (by simp only [xl_ev, xt_ev, y_v, List.getD_cons_succ, List.getD_cons_zero]; omega), tx, _, j1, tp, rfl, (by simp only [xl_ev, xt_ev, y_v, List.getD_cons_succ, List.getD_cons_zero]; omega), j2⟩, (List.forall_mem_cons.mpr ⟨⟨tp, (by simp only [xl_ev, xt_ev, y_v, List.getD_cons_succ, List.getD_cons_zero]; omega), j2, _, j3, sc, rfl, (by simp only [xl_ev, xt_ev, y_v, List.getD_cons_succ, List.getD_cons_zero]; omega)⟩, (fun _ h => absurd h List.not_mem_nil)⟩)⟩) h.1 (fun z => by cases z)).mono (fun r G' h' => ?_)
  obtain ⟨v', hag, -, hI', ef, p, hp, qc, qf, pa⟩ := h'
  have zt : v' 2 = (tp : Int) := hag 2 (by decide)
  have z1 : v' 1 = x1.toInt := hag 1 (by decide)
  have zs : v' 3 = sc.toInt := hag 3 (by decide)
  simp only [c_312, List.mem_cons, List.not_mem_nil, or_false] at hp
  rcases hp with rfl | rfl | rfl
  · obtain ⟨y, rfl, hy⟩ := y_pI pa
    have c0 := qc _ (List.mem_of_getElem? (i := 0) rfl)
    have c1 := qc _ (List.mem_of_getElem? (i := 1) rfl)
    obtain ⟨s2, f2, e2⟩ := y_pf0 (a := tp) (qf _ (List.mem_of_getElem? (i := 0) rfl)) (by simp only [xl_ev, xt_ev]; omega)
    simp only [xl_ev, xt_ev] at hy e2 c0 c1
    have hN := h.effC tx ta hI' ef (by decide) j1 j2 f2
    exact ⟨y, s2, rfl, hN, Or.inl ⟨y_i1 (by omega), by omega, by omega, Int32.toInt_inj.mp (by omega)⟩⟩
  · obtain ⟨y, rfl, hy⟩ := y_pI pa
    have c0 := qc _ (List.mem_of_getElem? (i := 0) rfl)
    obtain ⟨s2, f2, e2⟩ := y_pf0 (a := tp) (qf _ (List.mem_of_getElem? (i := 0) rfl)) (by simp only [xl_ev, xt_ev]; omega)
    simp only [xl_ev, xt_ev] at hy e2 c0
    have hN := h.effC tx ta hI' ef (by decide) j1 j2 f2
    exact ⟨y, s2, rfl, hN, Or.inr ⟨y_i0 (by omega), by omega, Int32.toInt_inj.mp (by omega)⟩⟩
  · obtain ⟨y, rfl, hy⟩ := y_pI pa
    have c0 := qc _ (List.mem_of_getElem? (i := 0) rfl)
    obtain ⟨s2, f2, e2⟩ := y_pf0 (a := tp) (qf _ (List.mem_of_getElem? (i := 0) rfl)) (by simp only [xl_ev, xt_ev]; omega)
    simp only [xl_ev, xt_ev] at hy e2 c0
    have hN := h.effC tx ta hI' ef (by decide) j1 j2 f2
    exact ⟨y, s2, rfl, hN, Or.inr ⟨y_i0 (by omega), by omega, Int32.toInt_inj.mp (by omega)⟩⟩
def m_16 : pM := (⟨"BreathingHill", "land", "()I"⟩, 539, 2, some (FieldType.int), 0, 0, false, 9, 91, 537, 538)
set_option maxRecDepth 100000 in
theorem m_16_ok : pm_tab[16]? = some m_16 := rfl
theorem e_16 : ∀ q ∈ d_16, decode m_16.code q.1 = .ok (q.2.1, q.2.2) := y_dec d_16_ok m_16_ok
set_option maxHeartbeats 2000000 in
set_option maxRecDepth 100000 in
theorem b_land (hd : 318 ≤ d) (tx : th[ax]? = some 9) (ta : th[am]? = some 10) (h : z_IN th ax am G sc sm)  : x_Gd xs L J d m_16 (fun r G' => ∃ y : Int32, r = some (.int y) ∧ z_IN th ax am G' 0 sm) 0 (lv_args 0 [.ref ax]) [] G := by
  obtain ⟨tp, j1, j2, j3, j4, jK⟩ := h.2.2
  have rs := h.tape tx
  refine ((h_313 th xs L J).gd (G := G) (d := d) m_16_ok (by omega) (v := (y_v [(ax : Int), (tp : Int)])) (as := [.ref ax]) (y_v_Bd (List.forall_mem_cons.mpr ⟨(y_cellB h.1 tx), (List.forall_mem_cons.mpr ⟨(y_cellB h.1 j2), (fun _ h => absurd h List.not_mem_nil)⟩)⟩)) (fun _ h => absurd h List.not_mem_nil) ⟨⟨ax, rfl, (by simp only [xl_ev, xt_ev, y_v, List.getD_cons_succ, List.getD_cons_zero]; omega), tx⟩, trivial⟩ (List.forall_mem_cons.mpr ⟨⟨ax, (by simp only [xl_ev, xt_ev, y_v, List.getD_cons_succ, List.getD_cons_zero]; omega), tx, _, j1, tp, rfl, (by simp only [xl_ev, xt_ev, y_v, List.getD_cons_succ, List.getD_cons_zero]; omega), j2⟩, (fun _ h => absurd h List.not_mem_nil)⟩) h.1 (fun z => by cases z)).mono (fun r G' h' => ?_)
  obtain ⟨v', hag, -, hI', ef, p, hp, qc, qf, pa⟩ := h'
  have zt : v' 1 = (tp : Int) := hag 1 (by decide)
  obtain rfl : p = _ := List.mem_singleton.mp hp
  obtain ⟨y, rfl, hy⟩ := y_pI pa
  obtain ⟨s2, f2, e2⟩ := y_pf0 (a := tp) (qf _ (List.mem_of_getElem? (i := 0) rfl)) (by simp only [xl_ev, xt_ev]; omega)
  simp only [xl_ev, xt_ev] at hy e2
  have hN := h.effC tx ta hI' ef (by decide) j1 j2 f2
  obtain rfl : s2 = 0 := y_i0 (by omega)
  exact ⟨y, rfl, hN⟩
def m_112 : pM := (⟨"BreathingHill", "which", "()I"⟩, 985, 5, some (FieldType.int), 0, 0, false, 9, 91, 983, 984)
set_option maxRecDepth 100000 in
theorem m_112_ok : pm_tab[112]? = some m_112 := rfl
theorem e_112 : ∀ q ∈ d_112, decode m_112.code q.1 = .ok (q.2.1, q.2.2) := y_dec d_112_ok m_112_ok
set_option maxHeartbeats 2000000 in
set_option maxRecDepth 100000 in
theorem b_which (hd : 318 ≤ d) (tx : th[ax]? = some 9) (ta : th[am]? = some 10) (h : z_IN th ax am G sc sm)  : x_Gd xs L J d m_112 (fun r G' => ∃ y : Int32, r = some (.int y) ∧ z_IN th ax am G' 0 sm) 0 (lv_args 0 [.ref ax]) [] G := by
  obtain ⟨tp, j1, j2, j3, j4, jK⟩ := h.2.2
  have rs := h.tape tx
  refine ((h_314 th xs L J).gd (G := G) (d := d) m_112_ok (by omega) (v := (y_v [(ax : Int), (tp : Int)])) (as := [.ref ax]) (y_v_Bd (List.forall_mem_cons.mpr ⟨(y_cellB h.1 tx), (List.forall_mem_cons.mpr ⟨(y_cellB h.1 j2), (fun _ h => absurd h List.not_mem_nil)⟩)⟩)) (fun _ h => absurd h List.not_mem_nil) ⟨⟨ax, rfl, (by simp only [xl_ev, xt_ev, y_v, List.getD_cons_succ, List.getD_cons_zero]; omega), tx⟩, trivial⟩ (List.forall_mem_cons.mpr ⟨⟨ax, (by simp only [xl_ev, xt_ev, y_v, List.getD_cons_succ, List.getD_cons_zero]; omega), tx, _, j1, tp, rfl, (by simp only [xl_ev, xt_ev, y_v, List.getD_cons_succ, List.getD_cons_zero]; omega), j2⟩, (fun _ h => absurd h List.not_mem_nil)⟩) h.1 (fun z => by cases z)).mono (fun r G' h' => ?_)
  obtain ⟨v', hag, -, hI', ef, p, hp, qc, qf, pa⟩ := h'
  have zt : v' 1 = (tp : Int) := hag 1 (by decide)
  obtain rfl : p = _ := List.mem_singleton.mp hp
  obtain ⟨y, rfl, hy⟩ := y_pI pa
  obtain ⟨s2, f2, e2⟩ := y_pf0 (a := tp) (qf _ (List.mem_of_getElem? (i := 0) rfl)) (by simp only [xl_ev, xt_ev]; omega)
  simp only [xl_ev, xt_ev] at hy e2
  have hN := h.effC tx ta hI' ef (by decide) j1 j2 f2
  obtain rfl : s2 = 0 := y_i0 (by omega)
  exact ⟨y, rfl, hN⟩
def m_136 : pM := (⟨"BreathingHill", "sentence", "()I"⟩, 1112, 2, some (FieldType.int), 0, 0, false, 9, 91, 1110, 1111)
set_option maxRecDepth 100000 in
theorem m_136_ok : pm_tab[136]? = some m_136 := rfl
theorem e_136 : ∀ q ∈ d_136, decode m_136.code q.1 = .ok (q.2.1, q.2.2) := y_dec d_136_ok m_136_ok
set_option maxHeartbeats 2000000 in
set_option maxRecDepth 100000 in
theorem b_sentence (hd : 318 ≤ d) (tx : th[ax]? = some 9) (ta : th[am]? = some 10) (h : z_IN th ax am G sc sm)  : x_Gd xs L J d m_136 (fun r G' => ∃ y : Int32, r = some (.int y) ∧ z_IN th ax am G' 0 sm) 0 (lv_args 0 [.ref ax]) [] G := by
  obtain ⟨tp, j1, j2, j3, j4, jK⟩ := h.2.2
  have rs := h.tape tx
  refine ((h_315 th xs L J).gd (G := G) (d := d) m_136_ok (by omega) (v := (y_v [(ax : Int), (tp : Int)])) (as := [.ref ax]) (y_v_Bd (List.forall_mem_cons.mpr ⟨(y_cellB h.1 tx), (List.forall_mem_cons.mpr ⟨(y_cellB h.1 j2), (fun _ h => absurd h List.not_mem_nil)⟩)⟩)) (fun _ h => absurd h List.not_mem_nil) ⟨⟨ax, rfl, (by simp only [xl_ev, xt_ev, y_v, List.getD_cons_succ, List.getD_cons_zero]; omega), tx⟩, trivial⟩ (List.forall_mem_cons.mpr ⟨⟨ax, (by simp only [xl_ev, xt_ev, y_v, List.getD_cons_succ, List.getD_cons_zero]; omega), tx, _, j1, tp, rfl, (by simp only [xl_ev, xt_ev, y_v, List.getD_cons_succ, List.getD_cons_zero]; omega), j2⟩, (fun _ h => absurd h List.not_mem_nil)⟩) h.1 (fun z => by cases z)).mono (fun r G' h' => ?_)
  obtain ⟨v', hag, -, hI', ef, p, hp, qc, qf, pa⟩ := h'
  have zt : v' 1 = (tp : Int) := hag 1 (by decide)
  obtain rfl : p = _ := List.mem_singleton.mp hp
  obtain ⟨y, rfl, hy⟩ := y_pI pa
  obtain ⟨s2, f2, e2⟩ := y_pf0 (a := tp) (qf _ (List.mem_of_getElem? (i := 0) rfl)) (by simp only [xl_ev, xt_ev]; omega)
  simp only [xl_ev, xt_ev] at hy e2
  have hN := h.effC tx ta hI' ef (by decide) j1 j2 f2
  obtain rfl : s2 = 0 := y_i0 (by omega)
  exact ⟨y, rfl, hN⟩
def m_129 : pM := (⟨"BreathingHill", "log", "(I)I"⟩, 1058, 3, some (FieldType.int), 0, 1, false, 9, 91, 1056, 1057)
set_option maxRecDepth 100000 in
theorem m_129_ok : pm_tab[129]? = some m_129 := rfl
theorem e_129 : ∀ q ∈ d_129, decode m_129.code q.1 = .ok (q.2.1, q.2.2) := y_dec d_129_ok m_129_ok
set_option maxHeartbeats 2000000 in
set_option maxRecDepth 100000 in
theorem b_log (hd : 318 ≤ d) (tx : th[ax]? = some 9) (ta : th[am]? = some 10) (h : z_IN th ax am G sc sm) (x1 : Int32) : x_Gd xs L J d m_129 (fun r G' => ∃ y sc' : Int32, r = some (.int y) ∧ z_IN th ax am G' sc' sm ∧ ((0 ≤ x1.toInt ∧ x1.toInt ≤ 1 ∧ sc' = 0) ∨ (¬ (0 ≤ x1.toInt ∧ x1.toInt ≤ 1) ∧ sc' = sc))) 0 (lv_args 0 [.ref ax, .int x1]) [] G := by
  obtain ⟨tp, j1, j2, j3, j4, jK⟩ := h.2.2
  have rs := h.tape tx
  refine ((h_316 th xs L J).gd (G := G) (d := d) m_129_ok (by omega) (v := (y_v [(ax : Int), x1.toInt, (tp : Int), sc.toInt])) (as := [.ref ax, .int x1]) (y_v_Bd (List.forall_mem_cons.mpr ⟨(y_cellB h.1 tx), (List.forall_mem_cons.mpr ⟨(x_i32 x1), (List.forall_mem_cons.mpr ⟨(y_cellB h.1 j2), (List.forall_mem_cons.mpr ⟨(x_i32 sc), (fun _ h => absurd h List.not_mem_nil)⟩)⟩)⟩)⟩)) (List.forall_mem_cons.mpr ⟨(by simp only [xl_ev, xt_ev, y_v, List.getD_cons_succ, List.getD_cons_zero]; omega), (List.forall_mem_cons.mpr ⟨(by simp only [xl_ev, xt_ev, y_v, List.getD_cons_succ, List.getD_cons_zero]; omega), (fun _ h => absurd h List.not_mem_nil)⟩)⟩) ⟨⟨ax, rfl, (by simp only [xl_ev, xt_ev, y_v, List.getD_cons_succ, List.getD_cons_zero]; omega), tx⟩, ⟨x1, rfl, (by simp only [xl_ev, xt_ev, y_v, List.getD_cons_succ, List.getD_cons_zero]; omega)⟩, trivial⟩ (List.forall_mem_cons.mpr ⟨⟨ax, (by simp only [xl_ev, xt_ev, y_v, List.getD_cons_succ, List.getD_cons_zero]; omega), tx, _, j1, tp, rfl, (by simp only [xl_ev, xt_ev, y_v, List.getD_cons_succ, List.getD_cons_zero]; omega), j2⟩, (List.forall_mem_cons.mpr ⟨⟨tp, (by simp only [xl_ev, xt_ev, y_v, List.getD_cons_succ, List.getD_cons_zero]; omega), j2, _, j3, sc, rfl, (by simp only [xl_ev, xt_ev, y_v, List.getD_cons_succ, List.getD_cons_zero]; omega)⟩, (fun _ h => absurd h List.not_mem_nil)⟩)⟩) h.1 (fun z => by cases z)).mono (fun r G' h' => ?_)
  obtain ⟨v', hag, -, hI', ef, p, hp, qc, qf, pa⟩ := h'
  have zt : v' 2 = (tp : Int) := hag 2 (by decide)
  have z1 : v' 1 = x1.toInt := hag 1 (by decide)
  have zs : v' 3 = sc.toInt := hag 3 (by decide)
  simp only [c_316, List.mem_cons, List.not_mem_nil, or_false] at hp
  rcases hp with rfl | rfl | rfl
  · obtain ⟨y, rfl, hy⟩ := y_pI pa
    have c0 := qc _ (List.mem_of_getElem? (i := 0) rfl)
    have c1 := qc _ (List.mem_of_getElem? (i := 1) rfl)
    obtain ⟨s2, f2, e2⟩ := y_pf0 (a := tp) (qf _ (List.mem_of_getElem? (i := 0) rfl)) (by simp only [xl_ev, xt_ev]; omega)
    simp only [xl_ev, xt_ev] at hy e2 c0 c1
    have hN := h.effC tx ta hI' ef (by decide) j1 j2 f2
    exact ⟨y, s2, rfl, hN, Or.inl ⟨by omega, by omega, y_i0 (by omega)⟩⟩
  · obtain ⟨y, rfl, hy⟩ := y_pI pa
    have c0 := qc _ (List.mem_of_getElem? (i := 0) rfl)
    obtain ⟨s2, f2, e2⟩ := y_pf0 (a := tp) (qf _ (List.mem_of_getElem? (i := 0) rfl)) (by simp only [xl_ev, xt_ev]; omega)
    simp only [xl_ev, xt_ev] at hy e2 c0
    have hN := h.effC tx ta hI' ef (by decide) j1 j2 f2
    exact ⟨y, s2, rfl, hN, Or.inr ⟨by omega, Int32.toInt_inj.mp (by omega)⟩⟩
  · obtain ⟨y, rfl, hy⟩ := y_pI pa
    have c0 := qc _ (List.mem_of_getElem? (i := 0) rfl)
    obtain ⟨s2, f2, e2⟩ := y_pf0 (a := tp) (qf _ (List.mem_of_getElem? (i := 0) rfl)) (by simp only [xl_ev, xt_ev]; omega)
    simp only [xl_ev, xt_ev] at hy e2 c0
    have hN := h.effC tx ta hI' ef (by decide) j1 j2 f2
    exact ⟨y, s2, rfl, hN, Or.inr ⟨by omega, Int32.toInt_inj.mp (by omega)⟩⟩
def m_156 : pM := (⟨"BreathingHillModel", "feed", "(IIIII)I"⟩, 1294, 6, some (FieldType.int), 17, 5, false, 10, 103, 1292, 1293)
set_option maxRecDepth 100000 in
theorem m_156_ok : pm_tab[156]? = some m_156 := rfl
theorem e_156 : ∀ q ∈ d_156, decode m_156.code q.1 = .ok (q.2.1, q.2.2) := y_dec d_156_ok m_156_ok
set_option maxHeartbeats 2000000 in
set_option maxRecDepth 100000 in
theorem n_feed (hd : 318 ≤ d) (tx : th[ax]? = some 9) (ta : th[am]? = some 10) (h : z_IN th ax am G sc sm) (x1 x2 x3 x4 x5 : Int32) : x_Gd xs L J d m_156 (fun r G' => ∃ y sm' : Int32, r = some (.int y) ∧ z_IN th ax am G' sc sm' ∧ ((sm.toInt ≤ 920 ∧ sm'.toInt = sm.toInt + 20) ∨ (921 ≤ sm.toInt ∧ sm'.toInt = sm.toInt))) 0 (lv_args 0 [.ref am, .int x1, .int x2, .int x3, .int x4, .int x5]) [] G := by
  obtain ⟨tp, j1, j2, j3, j4, jK⟩ := h.2.2
  have rs := h.len ta
  refine ((h_177 th xs L J).gd (G := G) (d := d) m_156_ok (by omega) (v := (y_v [(am : Int), x1.toInt, x2.toInt, x3.toInt, x4.toInt, x5.toInt, sm.toInt])) (as := [.ref am, .int x1, .int x2, .int x3, .int x4, .int x5]) (y_v_Bd (List.forall_mem_cons.mpr ⟨(y_cellB h.1 ta), (List.forall_mem_cons.mpr ⟨(x_i32 x1), (List.forall_mem_cons.mpr ⟨(x_i32 x2), (List.forall_mem_cons.mpr ⟨(x_i32 x3), (List.forall_mem_cons.mpr ⟨(x_i32 x4), (List.forall_mem_cons.mpr ⟨(x_i32 x5), (List.forall_mem_cons.mpr ⟨(x_i32 sm), (fun _ h => absurd h List.not_mem_nil)⟩)⟩)⟩)⟩)⟩)⟩)⟩)) (List.forall_mem_cons.mpr ⟨(by simp only [xl_ev, xt_ev, y_v, List.getD_cons_succ, List.getD_cons_zero]; omega), (List.forall_mem_cons.mpr ⟨(by simp only [xl_ev, xt_ev, y_v, List.getD_cons_succ, List.getD_cons_zero]; omega), (fun _ h => absurd h List.not_mem_nil)⟩)⟩) ⟨⟨am, rfl, (by simp only [xl_ev, xt_ev, y_v, List.getD_cons_succ, List.getD_cons_zero]; omega), ta⟩, ⟨x1, rfl, (by simp only [xl_ev, xt_ev, y_v, List.getD_cons_succ, List.getD_cons_zero]; omega)⟩, ⟨x2, rfl, (by simp only [xl_ev, xt_ev, y_v, List.getD_cons_succ, List.getD_cons_zero]; omega)⟩, ⟨x3, rfl, (by simp only [xl_ev, xt_ev, y_v, List.getD_cons_succ, List.getD_cons_zero]; omega)⟩, ⟨x4, rfl, (by simp only [xl_ev, xt_ev, y_v, List.getD_cons_succ, List.getD_cons_zero]; omega)⟩, ⟨x5, rfl, (by simp only [xl_ev, xt_ev, y_v, List.getD_cons_succ, List.getD_cons_zero]; omega)⟩, trivial⟩ (List.forall_mem_cons.mpr ⟨⟨am, (by simp only [xl_ev, xt_ev, y_v, List.getD_cons_succ, List.getD_cons_zero]; omega), ta, _, j4, sm, rfl, (by simp only [xl_ev, xt_ev, y_v, List.getD_cons_succ, List.getD_cons_zero]; omega)⟩, (fun _ h => absurd h List.not_mem_nil)⟩) h.1 (fun z => by cases z)).mono (fun r G' h' => ?_)
  obtain ⟨v', hag, -, hI', ef, p, hp, qc, qf, pa⟩ := h'
  have za : v' 0 = (am : Int) := hag 0 (by decide)
  have z1 : v' 1 = x1.toInt := hag 1 (by decide)
  have z2 : v' 2 = x2.toInt := hag 2 (by decide)
  have z3 : v' 3 = x3.toInt := hag 3 (by decide)
  have z4 : v' 4 = x4.toInt := hag 4 (by decide)
  have z5 : v' 5 = x5.toInt := hag 5 (by decide)
  have zs : v' 6 = sm.toInt := hag 6 (by decide)
  simp only [c_177, List.mem_cons, List.not_mem_nil, or_false] at hp
  rcases hp with rfl | rfl
  · obtain ⟨y, rfl, hy⟩ := y_pI pa
    have c0 := qc _ (List.mem_of_getElem? (i := 0) rfl)
    obtain ⟨s2, f2, e2⟩ := y_pf0 (a := am) (qf _ (List.mem_of_getElem? (i := 0) rfl)) (by simp only [xl_ev, xt_ev]; omega)
    simp only [xl_ev, xt_ev] at hy e2 c0
    have hN := h.effM tx ta hI' (okE0_ok ta h.2.1 hI' ef (by decide)) ef (by decide) f2
    exact ⟨y, s2, rfl, hN, Or.inl ⟨by omega, by omega⟩⟩
  · obtain ⟨y, rfl, hy⟩ := y_pI pa
    have c0 := qc _ (List.mem_of_getElem? (i := 0) rfl)
    obtain ⟨s2, f2, e2⟩ := y_pf0 (a := am) (qf _ (List.mem_of_getElem? (i := 0) rfl)) (by simp only [xl_ev, xt_ev]; omega)
    simp only [xl_ev, xt_ev] at hy e2 c0
    have hN := h.effM tx ta hI' (okE0_ok ta h.2.1 hI' ef (by decide)) ef (by decide) f2
    exact ⟨y, s2, rfl, hN, Or.inr ⟨by omega, by omega⟩⟩
def m_158 : pM := (⟨"BreathingHillModel", "end", "(I)Z"⟩, 1303, 2, some (FieldType.boolean), 17, 1, false, 10, 103, 1301, 1302)
set_option maxRecDepth 100000 in
theorem m_158_ok : pm_tab[158]? = some m_158 := rfl
theorem e_158 : ∀ q ∈ d_158, decode m_158.code q.1 = .ok (q.2.1, q.2.2) := y_dec d_158_ok m_158_ok
set_option maxHeartbeats 2000000 in
set_option maxRecDepth 100000 in
theorem n_end (hd : 318 ≤ d) (tx : th[ax]? = some 9) (ta : th[am]? = some 10) (h : z_IN th ax am G sc sm) (x1 : Int32) : x_Gd xs L J d m_158 (fun r G' => ∃ y sm' : Int32, r = some (.int y) ∧ z_IN th ax am G' sc sm' ∧ ((y = 1 ∧ 0 ≤ x1.toInt ∧ x1.toInt ≤ sm.toInt ∧ sm' = x1) ∨ (y = 0 ∧ ¬ (0 ≤ x1.toInt ∧ x1.toInt ≤ sm.toInt) ∧ sm' = sm))) 0 (lv_args 0 [.ref am, .int x1]) [] G := by
  obtain ⟨tp, j1, j2, j3, j4, jK⟩ := h.2.2
  have rs := h.len ta
  refine ((h_178 th xs L J).gd (G := G) (d := d) m_158_ok (by omega) (v := (y_v [(am : Int), x1.toInt, sm.toInt])) (as := [.ref am, .int x1]) (y_v_Bd (List.forall_mem_cons.mpr ⟨(y_cellB h.1 ta), (List.forall_mem_cons.mpr ⟨(x_i32 x1), (List.forall_mem_cons.mpr ⟨(x_i32 sm), (fun _ h => absurd h List.not_mem_nil)⟩)⟩)⟩)) (List.forall_mem_cons.mpr ⟨(by simp only [xl_ev, xt_ev, y_v, List.getD_cons_succ, List.getD_cons_zero]; omega), (List.forall_mem_cons.mpr ⟨(by simp only [xl_ev, xt_ev, y_v, List.getD_cons_succ, List.getD_cons_zero]; omega), (fun _ h => absurd h List.not_mem_nil)⟩)⟩) ⟨⟨am, rfl, (by simp only [xl_ev, xt_ev, y_v, List.getD_cons_succ, List.getD_cons_zero]; omega), ta⟩, ⟨x1, rfl, (by simp only [xl_ev, xt_ev, y_v, List.getD_cons_succ, List.getD_cons_zero]; omega)⟩, trivial⟩ (List.forall_mem_cons.mpr ⟨⟨am, (by simp only [xl_ev, xt_ev, y_v, List.getD_cons_succ, List.getD_cons_zero]; omega), ta, _, j4, sm, rfl, (by simp only [xl_ev, xt_ev, y_v, List.getD_cons_succ, List.getD_cons_zero]; omega)⟩, (fun _ h => absurd h List.not_mem_nil)⟩) h.1 (fun z => by cases z)).mono (fun r G' h' => ?_)
  obtain ⟨v', hag, -, hI', ef, p, hp, qc, qf, pa⟩ := h'
  have za : v' 0 = (am : Int) := hag 0 (by decide)
  have z1 : v' 1 = x1.toInt := hag 1 (by decide)
  have zs : v' 2 = sm.toInt := hag 2 (by decide)
  simp only [c_178, List.mem_cons, List.not_mem_nil, or_false] at hp
  rcases hp with rfl | rfl | rfl
  · obtain ⟨y, rfl, hy⟩ := y_pI pa
    have c0 := qc _ (List.mem_of_getElem? (i := 0) rfl)
    have c1 := qc _ (List.mem_of_getElem? (i := 1) rfl)
    obtain ⟨s2, f2, e2⟩ := y_pf0 (a := am) (qf _ (List.mem_of_getElem? (i := 0) rfl)) (by simp only [xl_ev, xt_ev]; omega)
    simp only [xl_ev, xt_ev] at hy e2 c0 c1
    have hN := h.effM tx ta hI' (okE0_ok ta h.2.1 hI' ef (by decide)) ef (by decide) f2
    exact ⟨y, s2, rfl, hN, Or.inl ⟨y_i1 (by omega), by omega, by omega, Int32.toInt_inj.mp (by omega)⟩⟩
  · obtain ⟨y, rfl, hy⟩ := y_pI pa
    have c0 := qc _ (List.mem_of_getElem? (i := 0) rfl)
    obtain ⟨s2, f2, e2⟩ := y_pf0 (a := am) (qf _ (List.mem_of_getElem? (i := 0) rfl)) (by simp only [xl_ev, xt_ev]; omega)
    simp only [xl_ev, xt_ev] at hy e2 c0
    have hN := h.effM tx ta hI' (okE0_ok ta h.2.1 hI' ef (by decide)) ef (by decide) f2
    exact ⟨y, s2, rfl, hN, Or.inr ⟨y_i0 (by omega), by omega, Int32.toInt_inj.mp (by omega)⟩⟩
  · obtain ⟨y, rfl, hy⟩ := y_pI pa
    have c0 := qc _ (List.mem_of_getElem? (i := 0) rfl)
    obtain ⟨s2, f2, e2⟩ := y_pf0 (a := am) (qf _ (List.mem_of_getElem? (i := 0) rfl)) (by simp only [xl_ev, xt_ev]; omega)
    simp only [xl_ev, xt_ev] at hy e2 c0
    have hN := h.effM tx ta hI' (okE0_ok ta h.2.1 hI' ef (by decide)) ef (by decide) f2
    exact ⟨y, s2, rfl, hN, Or.inr ⟨y_i0 (by omega), by omega, Int32.toInt_inj.mp (by omega)⟩⟩
def m_224 : pM := (⟨"BreathingHillModel", "which", "()I"⟩, 1725, 3, some (FieldType.int), 17, 0, false, 10, 103, 1723, 1724)
set_option maxRecDepth 100000 in
theorem m_224_ok : pm_tab[224]? = some m_224 := rfl
theorem e_224 : ∀ q ∈ d_224, decode m_224.code q.1 = .ok (q.2.1, q.2.2) := y_dec d_224_ok m_224_ok
set_option maxHeartbeats 2000000 in
set_option maxRecDepth 100000 in
theorem n_which (hd : 318 ≤ d) (tx : th[ax]? = some 9) (ta : th[am]? = some 10) (h : z_IN th ax am G sc sm)  : x_Gd xs L J d m_224 (fun r G' => ∃ y : Int32, r = some (.int y) ∧ z_IN th ax am G' sc 0) 0 (lv_args 0 [.ref am]) [] G := by
  obtain ⟨tp, j1, j2, j3, j4, jK⟩ := h.2.2
  have rs := h.len ta
  refine ((h_317 th xs L J).gd (G := G) (d := d) m_224_ok (by omega) (v := (y_v [(am : Int)])) (as := [.ref am]) (y_v_Bd (List.forall_mem_cons.mpr ⟨(y_cellB h.1 ta), (fun _ h => absurd h List.not_mem_nil)⟩)) (fun _ h => absurd h List.not_mem_nil) ⟨⟨am, rfl, (by simp only [xl_ev, xt_ev, y_v, List.getD_cons_succ, List.getD_cons_zero]; omega), ta⟩, trivial⟩ (fun q hq => absurd hq List.not_mem_nil) h.1 (fun z => by cases z)).mono (fun r G' h' => ?_)
  obtain ⟨v', hag, -, hI', ef, p, hp, qc, qf, pa⟩ := h'
  have za : v' 0 = (am : Int) := hag 0 (by decide)
  obtain rfl : p = _ := List.mem_singleton.mp hp
  obtain ⟨y, rfl, hy⟩ := y_pI pa
  obtain ⟨s2, f2, e2⟩ := y_pf0 (a := am) (qf _ (List.mem_of_getElem? (i := 0) rfl)) (by simp only [xl_ev, xt_ev]; omega)
  simp only [xl_ev, xt_ev] at hy e2
  have hN := h.effM tx ta hI' (okE0_ok ta h.2.1 hI' ef (by decide)) ef (by decide) f2
  obtain rfl : s2 = 0 := y_i0 (by omega)
  exact ⟨y, rfl, hN⟩
set_option maxHeartbeats 2000000 in
set_option maxRecDepth 100000 in
theorem n_land (hd : 318 ≤ d) (tx : th[ax]? = some 9) (ta : th[am]? = some 10) (hU : ∀ b b' : Nat, th[b]? = some 36 → th[b']? = some 36 → b = b') (h : z_IN th ax am G sc sm)  : x_Gd xs L J d m_161 (fun r G' => ∃ y : Int32, r = some (.int y) ∧ z_IN th ax am G' sc 0) 0 (lv_args 0 [.ref am]) [] G := by
  obtain ⟨d, rfl⟩ : ∃ k, d = k + 5 := ⟨d - 5, by omega⟩
  refine (g_land (d := d) (by omega) h.1 ta hU h.2.1.2.1 h.2.1.2.2.1).mono (fun r G' h' => ?_)
  obtain ⟨⟨y, rfl⟩, hI', hQ', hN', ef, f2⟩ := h'
  exact ⟨y, rfl, h.effM tx ta hI' ⟨hI', hQ', hN', h.2.1.2.2.2.eff ta ef rfl rfl⟩ ef rfl f2⟩
set_option maxHeartbeats 2000000 in
set_option maxRecDepth 100000 in
theorem n_sentence (hd : 318 ≤ d) (tx : th[ax]? = some 9) (ta : th[am]? = some 10) (hU : ∀ b b' : Nat, th[b]? = some 36 → th[b']? = some 36 → b = b') (h : z_IN th ax am G sc sm)  : x_Gd xs L J d m_247 (fun r G' => ∃ y : Int32, r = some (.int y) ∧ z_IN th ax am G' sc 0) 0 (lv_args 0 [.ref am]) [] G := by
  obtain ⟨d, rfl⟩ : ∃ k, d = k + 3 := ⟨d - 3, by omega⟩
  refine (g_sentence (d := d) (by omega) h.1 ta hU h.2.1.2.1).mono (fun r G' h' => ?_)
  obtain ⟨⟨y, rfl⟩, hI', hQ', ef, f2⟩ := h'
  exact ⟨y, rfl, h.effM tx ta hI' ⟨hI', hQ', h.2.1.2.2.1.eff ta h.1 ef rfl (by decide), h.2.1.2.2.2.eff ta ef rfl rfl⟩ ef rfl f2⟩
set_option maxHeartbeats 2000000 in
set_option maxRecDepth 100000 in
theorem n_log (hd : 318 ≤ d) (tx : th[ax]? = some 9) (ta : th[am]? = some 10) (h : z_IN th ax am G sc sm) (x1 : Int32) : x_Gd xs L J d m_243 (fun r G' => ∃ y sm' : Int32, r = some (.int y) ∧ z_IN th ax am G' sc sm' ∧ ((0 ≤ x1.toInt ∧ x1.toInt ≤ 1 ∧ sm' = 0) ∨ (¬ (0 ≤ x1.toInt ∧ x1.toInt ≤ 1) ∧ sm' = sm))) 0 (lv_args 0 [.ref am, .int x1]) [] G := by
  obtain ⟨d, rfl⟩ : ∃ k, d = k + 2 := ⟨d - 2, by omega⟩
  obtain ⟨tp, j1, j2, j3, j4, jK⟩ := h.2.2
  refine (g_log (d := d) (lives := x1) (by omega) h.1 ta h.2.1.2.1 h.2.1.2.2.1).mono (fun r G' h' => ?_)
  obtain ⟨⟨y, rfl⟩, hI', ef, f1, f2⟩ := h'
  have hV' := okE0_ok ta h.2.1 hI' ef (by decide)
  by_cases hx : 0 ≤ x1.toInt ∧ x1.toInt ≤ 1
  · exact ⟨y, 0, rfl, h.effM tx ta hI' hV' ef rfl (f1 hx), Or.inl ⟨hx.1, hx.2, rfl⟩⟩
  · exact ⟨y, sm, rfl, h.effM tx ta hI' hV' ef rfl ((f2 hx).trans j4), Or.inr ⟨hx, rfl⟩⟩
set_option maxHeartbeats 2000000 in
set_option maxRecDepth 100000 in
theorem g_image_k (hd : 306 ≤ d) {a ab : Nat} {q : Int32} {G : List pE} (ta : th[a]? = some 10) (hV : z_IV th a G) (k44 : x_sl G a 44 = some (.ref ab)) (tab : th[ab]? = some 49) : x_Gd xs L J (d + 1) m_257 (fun r G' => ∀ i : Nat, x_sl G' ab i = if 0 ≤ q.toInt ∧ q.toInt ≤ 1 ∧ i = q.toInt.toNat then some (.int 1) else x_sl G ab i) 0 (lv_args 0 [.ref a, .int q]) [] G := by
  have hI := hV.1
  refine sg_im0_go (d := d) (by omega) (v := (y_v [(a : Int), q.toInt])) (G0 := G) ⟨y_v_Bd (List.forall_mem_cons.mpr ⟨(y_cellB hI ta), (List.forall_mem_cons.mpr ⟨(x_i32 q), (fun _ h => absurd h List.not_mem_nil)⟩)⟩), (fun _ h => absurd h List.not_mem_nil), (List.forall_mem_cons.mpr ⟨⟨_, rfl, a, rfl, (by simp only [xl_ev, xt_ev, y_v, List.getD_cons_succ, List.getD_cons_zero]; omega), ta⟩, (List.forall_mem_cons.mpr ⟨⟨_, rfl, q, rfl, (by simp only [xl_ev, xt_ev, y_v, List.getD_cons_succ, List.getD_cons_zero]; omega)⟩, (fun _ h => absurd h List.not_mem_nil)⟩)⟩), trivial, (fun _ h => absurd h List.not_mem_nil), hI⟩ x_eff.rf (fun r G' h => ?_) (fun n hn vn lv G1 hag hS1 hE1 => ?_)
  · obtain ⟨v', hag, -, hI', ef, p, hp, pc, pf, pa⟩ := h
    have z1 : v' 1 = q.toInt := hag 1 (by decide)
    simp only [sg_im0_ps, List.mem_cons, List.not_mem_nil, or_false] at hp
    rcases hp with rfl | rfl
    · have c := pc _ (List.mem_of_getElem? (i := 0) rfl)
      simp only [xl_ev, xt_ev] at c
      intro i
      rw [if_neg (fun z => by omega), ef.at tab rfl]
    · have c := pc _ (List.mem_of_getElem? (i := 0) rfl)
      simp only [xl_ev, xt_ev] at c
      intro i
      rw [if_neg (fun z => by omega), ef.at tab rfl]
  obtain rfl : n = _ := List.mem_singleton.mp hn
  have z0 : vn 0 = (a : Int) := hag 0 (by decide)
  have z1 : vn 1 = q.toInt := hag 1 (by decide)
  have g0 := hS1.loCe (i := 0) (t := 10) (l := ([(0, 1)], 0)) (a := a) (List.mem_of_getElem? (i := 0) rfl) (by simp only [xl_ev, xt_ev]; omega)
  have g1 := hS1.lo0e (i := 1) (l := ([(1, 1)], 0)) (x := q) (List.mem_of_getElem? (i := 1) rfl) (by simp only [xl_ev, xt_ev]; omega)
  have q0 := hS1.2.1 ([(1, 1)], 0) (List.mem_of_getElem? (i := 0) rfl)
  have q1 := hS1.2.1 ([(1, -1)], 1) (List.mem_of_getElem? (i := 1) rfl)
  simp only [xl_ev, xt_ev] at q0 q1
  replace q0 : 0 ≤ q.toInt := by omega
  replace q1 : q.toInt ≤ 1 := by omega
  have hI1 := hS1.2.2.2.2.2
  have hV1 : z_IV th a G1 := hV.eff ta hI1 hE1 rfl rfl (by decide) rfl rfl
  obtain ⟨-, hQ1, ⟨nb, sc, k9, tnb, k6, tsc, hDD⟩, kb, nk, ab', k42, tkb, k43, tnk, k44', tab', hK1⟩ := id hV1
  have e44 : x_sl G1 a 44 = some (.ref ab) := by rw [hE1.at ta rfl]; exact k44
  rw [e44] at k44'
  cases k44'
  obtain ⟨f, hf⟩ := y_iarr (t := 36) (n := 324) hI1 tsc rfl rfl
  obtain ⟨nm, hnm⟩ := y_larr (t := 39) (n := 32) hI1 tnb rfl
  have ne1 : a ≠ kb := fun z => by rw [z, tkb] at ta; cases ta
  have ne2 : nb ≠ kb := fun z => by rw [z, tkb] at tnb; cases tnb
  have ne3 : a ≠ nk := fun z => by rw [z, tnk] at ta; cases ta
  have ne4 : kb ≠ nk := fun z => by rw [z, tnk] at tkb; cases tkb
  have ne5 : nk ≠ kb := Ne.symm ne4
  have ne6 : ab ≠ kb := fun z => by rw [z, tkb] at tab; cases tab
  have ne7 : ab ≠ nk := fun z => by rw [z, tnk] at tab; cases tab
  refine y_st (e_257 (16, .iconst 0, 1) (List.mem_of_getElem? (i := 10) rfl)) ⟨rfl, rfl, rfl, rfl⟩ ?_
  refine y_isn (e_257 (17, .istore_n 2, 1) (List.mem_of_getElem? (i := 11) rfl)) (by decide) ?_
  refine g_im1 (G0 := G1) (kb := kb) (sc := sc) (f := f) q0 q1 ta k6 tsc k42 tkb hI1 hf (fun G2 lv2 hI2 hO2 hc2 ef2 g02 g12 => ?_) _ G1 _ 0 hI1 (fun _ _ _ => rfl) x_eff.rf (by decide) (by decide) rfl (fun i hi => absurd hi (by show ¬ (i : Int) < 0; omega)) (y_gpr g0 (by decide)) (y_gpi g1 (by decide)) x_get_self
  refine y_st (e_257 (49, .iconst 0, 1) (List.mem_of_getElem? (i := 29) rfl)) ⟨rfl, rfl, rfl, rfl⟩ ?_
  refine y_isn (e_257 (50, .istore_n 2, 1) (List.mem_of_getElem? (i := 30) rfl)) (by decide) ?_
  refine g_im2 (G0 := G2) (nk := nk) (nb := nb) (f := nm) q0 q1 ta ((hO2 a 9 (Or.inl ne1)).trans k9) tnb ((hO2 a 43 (Or.inl ne1)).trans k43) tnk (fun i hi => (hO2 nb i (Or.inl ne2)).trans (hnm i hi)) (fun G3 lv3 hI3 hO3 hc3 ef3 g03 g13 => ?_) _ G2 _ 0 hI2 (fun _ _ _ => rfl) x_eff.rf (by decide) (by decide) rfl (fun i hi => absurd hi (by show ¬ (i : Int) < 0; omega)) (y_gpr g02 (by decide)) (y_gpi g12 (by decide)) x_get_self
  refine y_aln (e_257 (80, .aload_n 0, 1) (List.mem_of_getElem? (i := 48) rfl)) g03 ?_
  refine y_getf hI3 ta (e_257 (81, .getfield 75, 3) (List.mem_of_getElem? (i := 49) rfl)) u_17_75 ⟨rfl, rfl⟩ ((hO3 a 44 (Or.inl ne3)).trans ((hO2 a 44 (Or.inl ne1)).trans e44)) ?_
  refine y_iln (e_257 (84, .iload_n 1, 1) (List.mem_of_getElem? (i := 50) rfl)) g13 ?_
  refine y_st (e_257 (85, .iconst 1, 1) (List.mem_of_getElem? (i := 51) rfl)) ⟨rfl, rfl, rfl, rfl⟩ ?_
  refine y_zast hI3 tab (e_257 (86, .bastore, 1) (List.mem_of_getElem? (i := 52) rfl)) ⟨rfl, rfl⟩ ⟨q0, by show q.toInt < 2; omega⟩ (fun G4 hu => ?_)
  refine y_st (e_257 (87, .iconst 1, 1) (List.mem_of_getElem? (i := 53) rfl)) ⟨rfl, rfl, rfl, rfl⟩ ?_
  refine y_ret (e_257 (88, .ireturn, 1) (List.mem_of_getElem? (i := 54) rfl)) ⟨rfl, y_rb (Or.inr rfl)⟩ (fun i => ?_)
  rw [hu.2.1 ab i]
  by_cases hi : i = q.toInt.toNat
  · rw [if_pos (show ab = ab ∧ i = q.toInt.toNat from ⟨rfl, hi⟩), if_pos (show 0 ≤ q.toInt ∧ q.toInt ≤ 1 ∧ i = q.toInt.toNat from ⟨q0, q1, hi⟩)]
  · rw [if_neg (show ¬ (ab = ab ∧ i = q.toInt.toNat) from fun z => hi z.2), if_neg (show ¬ (0 ≤ q.toInt ∧ q.toInt ≤ 1 ∧ i = q.toInt.toNat) from fun z => hi z.2.2), hO3 ab i (Or.inl ne7), hO2 ab i (Or.inl ne6), hE1.at tab rfl]
set_option maxHeartbeats 2000000 in
set_option maxRecDepth 100000 in
theorem n_image (hd : 318 ≤ d) (tx : th[ax]? = some 9) (ta : th[am]? = some 10) (hU : ∀ b b' : Nat, th[b]? = some 36 → th[b']? = some 36 → b = b') {x1 : Int32} (h : z_IH th ax am G sc sm x1) : x_Gd xs L J d m_257 (fun r G' => (∃ y : Int32, r = some (.int y)) ∧ z_IN th ax am G' sc sm) 0 (lv_args 0 [.ref am, .int x1]) [] G := by
  obtain ⟨d, rfl⟩ : ∃ k, d = k + 1 := ⟨d - 1, by omega⟩
  obtain ⟨tp, j1, j2, j3, j4, ik, ab, i1, i2, i3, i4, i5⟩ := h.2.2
  refine ((g_image (d := d) (q := x1) (by omega) ta hU h.2.1).and (g_image_k (d := d) (q := x1) (by omega) ta h.2.1 i3 i4)).mono (fun r G' h' => ?_)
  obtain ⟨⟨hV', ef, f1, f2⟩, hk⟩ := h'
  refine ⟨?_, hV'.1, hV', tp, by rw [ef.at tx rfl]; exact j1, j2, by rw [ef.at j2 rfl]; exact j3, by rw [ef.at ta rfl]; exact j4, ik, ab, by rw [ef.at tx rfl]; exact i1, i2, by rw [ef.at ta rfl]; exact i3, i4, fun q hq => ?_⟩
  · by_cases hx : 0 ≤ x1.toInt ∧ x1.toInt ≤ 1
    · exact ⟨1, f1 hx⟩
    · exact ⟨0, f2 hx⟩
  · rw [ef.at i2 rfl, i5 q hq, hk q]
set_option maxHeartbeats 2000000 in
set_option maxRecDepth 100000 in
theorem n_restore (hd : 318 ≤ d) (tx : th[ax]? = some 9) (ta : th[am]? = some 10) (hU : ∀ b b' : Nat, th[b]? = some 36 → th[b']? = some 36 → b = b') (h : z_IN th ax am G sc sm) (x1 : Int32) : x_Gd xs L J d m_258 (fun r G' => (∃ y : Int32, r = some (.int y) ∧ (y = 0 ∨ y = 1) ∧ (y = 1 ↔ 0 ≤ x1.toInt ∧ x1.toInt ≤ 1 ∧ z_kc G am 44 x1.toInt.toNat)) ∧ z_IN th ax am G' sc sm) 0 (lv_args 0 [.ref am, .int x1]) [] G := by
  obtain ⟨d, rfl⟩ : ∃ k, d = k + 1 := ⟨d - 1, by omega⟩
  obtain ⟨tp, j1, j2, j3, j4, jK⟩ := h.2.2
  refine (g_restore (d := d) (q := x1) (by omega) ta hU h.2.1).mono (fun r G' h' => ?_)
  obtain ⟨hV', ef, y, rfl, c, q⟩ := h'
  exact ⟨⟨y, rfl, c, q⟩, h.effM tx ta hV'.1 hV' ef rfl (by rw [ef.at ta rfl]; exact j4)⟩
theorem z_eyR {y1 y2 x1 : Int32} (h : z_IN th ax am G sc sm) (c1 : y1 = 0 ∨ y1 = 1) (q1 : y1 = 1 ↔ 0 ≤ x1.toInt ∧ x1.toInt ≤ 1 ∧ z_kc G ax 10 x1.toInt.toNat) (c2 : y2 = 0 ∨ y2 = 1) (q2 : y2 = 1 ↔ 0 ≤ x1.toInt ∧ x1.toInt ≤ 1 ∧ z_kc G am 44 x1.toInt.toNat) : y1 = y2 := by
  obtain ⟨ik, ab, i1, i2, i3, i4, i5⟩ := h.kk
  have e : ∀ q, q < 2 → (z_kc G ax 10 q ↔ z_kc G am 44 q) := fun q hq => by
    constructor
    · rintro ⟨b, b1, x, b2, b3⟩
      rw [i1] at b1
      cases b1
      exact ⟨ab, i3, x, by rw [← i5 q hq]; exact b2, b3⟩
    · rintro ⟨b, b1, x, b2, b3⟩
      rw [i3] at b1
      cases b1
      exact ⟨ik, i1, x, by rw [i5 q hq]; exact b2, b3⟩
  have e2 : y1 = 1 ↔ y2 = 1 := by
    rw [q1, q2]
    constructor
    · rintro ⟨a1, a2, a3⟩
      exact ⟨a1, a2, (e _ (by omega)).mp a3⟩
    · rintro ⟨a1, a2, a3⟩
      exact ⟨a1, a2, (e _ (by omega)).mpr a3⟩
  rcases c1 with rfl | rfl
  · rcases c2 with rfl | rfl
    · rfl
    · exact absurd (e2.mpr rfl) (by decide)
  · exact (e2.mp rfl).symm
end ZI3
