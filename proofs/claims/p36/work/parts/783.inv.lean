/-- the pointers that never change -/
def z_LC (G : List pE) : Prop := x_sl G 0 0 = some (.ref 1) ∧ x_sl G 0 1 = some (.ref 3) ∧ x_sl G 0 3 = some (.ref 32) ∧ x_sl G 1 0 = some (.ref 2) ∧ x_sl G 3 0 = some (.ref 4) ∧ x_sl G 3 1 = some (.ref 5) ∧ x_sl G 32 0 = some (.ref 33) ∧ x_sl G 32 1 = some (.ref 39) ∧ x_sl G 32 2 = some (.ref 40) ∧ x_sl G 32 3 = some (.ref 41) ∧ x_sl G 33 0 = some (.ref 34) ∧ x_sl G 33 1 = some (.ref 35) ∧ x_sl G 33 6 = some (.ref 36) ∧ x_sl G 33 7 = some (.ref 37) ∧ x_sl G 33 8 = some (.ref 38) ∧ x_sl G 349 1 = some (.ref 350) ∧ x_sl G 349 7 = some (.ref 352) ∧ x_sl G 349 9 = some (.ref 354) ∧ x_sl G 349 10 = some (.ref 355) ∧ (∀ i, i < 8 → x_sl G 39 i = some (.ref (42 + i))) ∧ (∀ i, i < 4 → x_sl G 40 i = some (.ref (50 + i))) ∧ (∀ i, i < 4 → x_sl G 41 i = some (.ref (54 + i))) ∧ (∀ i, i < 25 → x_sl G 355 i = some (.long (t_W i)))
def z_LA (G : List pE) : Prop := z_LC G ∧ ∀ i, i < 940 → x_sl G 2 i = x_sl G 350 i
/-- the class has read a row of numbers which the model has not yet -/
def z_LI (n x1 x2 x3 x4 x5 : Int32) (G : List pE) : Prop := z_LC G ∧ ∀ i, i < 940 → x_sl G 2 i = if n.toInt ≤ 920 then f_w20 (x_sl G 350) n.toInt.toNat x1 x2 x3 x4 x5 i else x_sl G 350 i
def z_KK (P : List pE → Prop) (th : List Nat) (ax am : Nat) (G : List pE) : Prop := th = th0 ∧ ax = 0 ∧ am = 349 ∧ P G
/-- what both keep; the two tapes' sizes; P -/
def z_INp (P : Prop) (th : List Nat) (ax am : Nat) (G : List pE) (sc sm : Int32) : Prop := xI x_tb th G ∧ z_IV th am G ∧ ∃ tp : Nat, x_sl G ax 0 = some (.ref tp) ∧ th[tp]? = some 7 ∧ x_sl G tp 1 = some (.int sc) ∧ x_sl G am 2 = some (.int sm) ∧ P
def z_IN (th : List Nat) (ax am : Nat) (G : List pE) (sc sm : Int32) : Prop := z_INp (z_KK z_LA th ax am G) th ax am G sc sm
def z_IH (th : List Nat) (ax am : Nat) (G : List pE) (sc sm x1 x2 x3 x4 x5 : Int32) : Prop := z_INp (z_KK (z_LI sm x1 x2 x3 x4 x5) th ax am G) th ax am G sc sm
def z_fb : List (Nat × Nat × Nat) := [(0, 0, 3), (1, 0, 1), (1, 6, 8), (2, 0, 1), (7, 0, 0), (9, 0, 1), (9, 3, 3), (10, 1, 1), (10, 7, 7), (10, 9, 10), (11, 0, 7), (12, 0, 3), (13, 0, 3), (40, 0, 24)]
def okLp (E : List (Nat × Nat × Nat)) : Bool := E.all (fun q => z_fb.all (fun f => !(q.1 == f.1) || decide (q.2.2 < f.2.1) || decide (f.2.2 < q.2.1)))
def okK (E : List (Nat × Nat × Nat)) : Bool := okLp E && E.all (fun q => !(q.1 == 28) && !(q.1 == 35))
def okE0 (E : List (Nat × Nat × Nat)) : Bool := x_dis E && ((y_out E 10 9 && y_out E 10 6 && y_out E 36 3 && y_out E 36 5) && ((List.range 16).all (fun i => y_out E 39 i) && ((y_out E 10 42 && y_out E 10 43 && y_out E 10 44) && E.all (fun q => !(q.1 == 47) && !(q.1 == 48) && !(q.1 == 49)))))
def okE1 (E : List (Nat × Nat × Nat)) : Bool := okE0 E && (y_out E 9 0 && (y_out E 7 1 && y_out E 10 2))
def okE (E : List (Nat × Nat × Nat)) : Bool := okE1 E && okK E
section ZI2
variable {th : List Nat} {xs : Nat → Int32} {L J d ax am : Nat} {G G' : List pE} {sc sm : Int32} {E : List (Nat × Nat × Nat)}
theorem okE0_ok (ta : th[am]? = some 10) (h : z_IV th am G) (hI : xI x_tb th G') (he : x_eff th E G G') (hok : okE0 E = true) : z_IV th am G' := by
  unfold okE0 at hok
  obtain ⟨h0, hok⟩ := Bool.and_eq_true_iff.mp hok
  obtain ⟨h1, hok⟩ := Bool.and_eq_true_iff.mp hok
  obtain ⟨h2, hok⟩ := Bool.and_eq_true_iff.mp hok
  obtain ⟨h3, h4⟩ := Bool.and_eq_true_iff.mp hok
  exact h.eff ta hI he h0 h1 (fun i hi => List.all_eq_true.mp h2 i (List.mem_range.mpr hi)) h3 h4
theorem th0_z : ∀ q ∈ ([(0, 9), (1, 7), (2, 28), (3, 2), (32, 0), (33, 1), (39, 11), (40, 12), (41, 13), (349, 10), (350, 35), (355, 40)] : List (Nat × Nat)), th0[q.1]? = some q.2 := by decide +kernel
theorem okLp_out {t lo hi i : Nat} (h : okLp E = true) (hf : (t, lo, hi) ∈ z_fb) (h1 : lo ≤ i) (h2 : i ≤ hi) : y_out E t i = true := by
  unfold y_out
  unfold okLp at h
  rw [List.all_eq_true] at h ⊢
  intro q hq
  have := List.all_eq_true.mp (h q hq) _ hf
  simp only [Bool.or_eq_true, Bool.not_eq_true', beq_eq_false_iff_ne, decide_eq_true_eq] at this
  simp only [Bool.not_eq_true', Bool.and_eq_false_iff, beq_eq_false_iff_ne, decide_eq_false_iff_not]
  by_cases e : q.1 = t
  · rcases this with (z | z) | z
    · exact absurd e z
    · exact Or.inr (by omega)
    · exact Or.inl (Or.inr (by omega))
  · exact Or.inl (Or.inl e)
theorem y_outT {t : Nat} (h : E.all (fun q => !(q.1 == t)) = true) (i : Nat) : y_out E t i = true := by
  unfold y_out
  rw [List.all_eq_true] at h ⊢
  intro q hq
  have := h q hq
  simp only [Bool.not_eq_true', beq_eq_false_iff_ne] at this
  simp only [Bool.not_eq_true', Bool.and_eq_false_iff, beq_eq_false_iff_ne]
  exact Or.inl (Or.inl this)
theorem z_LC.eff (h : z_LC G) (he : x_eff th0 E G G') (hok : okLp E = true) : z_LC G' := by
  obtain ⟨p0, p1, p2, p3, p4, p5, p6, p7, p8, p9, p10, p11, p12, p13, p14, p15, p16, p17, p18, a0, a1, a2, a3⟩ := h
  exact ⟨by rw [he.at (show th0[0]? = some 9 from th0_z _ (List.mem_of_getElem? (i := 0) rfl)) (okLp_out hok (List.mem_of_getElem? (i := 5) rfl) (by decide) (by decide))]; exact p0, by rw [he.at (show th0[0]? = some 9 from th0_z _ (List.mem_of_getElem? (i := 0) rfl)) (okLp_out hok (List.mem_of_getElem? (i := 5) rfl) (by decide) (by decide))]; exact p1, by rw [he.at (show th0[0]? = some 9 from th0_z _ (List.mem_of_getElem? (i := 0) rfl)) (okLp_out hok (List.mem_of_getElem? (i := 6) rfl) (by decide) (by decide))]; exact p2, by rw [he.at (show th0[1]? = some 7 from th0_z _ (List.mem_of_getElem? (i := 1) rfl)) (okLp_out hok (List.mem_of_getElem? (i := 4) rfl) (by decide) (by decide))]; exact p3, by rw [he.at (show th0[3]? = some 2 from th0_z _ (List.mem_of_getElem? (i := 3) rfl)) (okLp_out hok (List.mem_of_getElem? (i := 3) rfl) (by decide) (by decide))]; exact p4, by rw [he.at (show th0[3]? = some 2 from th0_z _ (List.mem_of_getElem? (i := 3) rfl)) (okLp_out hok (List.mem_of_getElem? (i := 3) rfl) (by decide) (by decide))]; exact p5, by rw [he.at (show th0[32]? = some 0 from th0_z _ (List.mem_of_getElem? (i := 4) rfl)) (okLp_out hok (List.mem_of_getElem? (i := 0) rfl) (by decide) (by decide))]; exact p6, by rw [he.at (show th0[32]? = some 0 from th0_z _ (List.mem_of_getElem? (i := 4) rfl)) (okLp_out hok (List.mem_of_getElem? (i := 0) rfl) (by decide) (by decide))]; exact p7, by rw [he.at (show th0[32]? = some 0 from th0_z _ (List.mem_of_getElem? (i := 4) rfl)) (okLp_out hok (List.mem_of_getElem? (i := 0) rfl) (by decide) (by decide))]; exact p8, by rw [he.at (show th0[32]? = some 0 from th0_z _ (List.mem_of_getElem? (i := 4) rfl)) (okLp_out hok (List.mem_of_getElem? (i := 0) rfl) (by decide) (by decide))]; exact p9, by rw [he.at (show th0[33]? = some 1 from th0_z _ (List.mem_of_getElem? (i := 5) rfl)) (okLp_out hok (List.mem_of_getElem? (i := 1) rfl) (by decide) (by decide))]; exact p10, by rw [he.at (show th0[33]? = some 1 from th0_z _ (List.mem_of_getElem? (i := 5) rfl)) (okLp_out hok (List.mem_of_getElem? (i := 1) rfl) (by decide) (by decide))]; exact p11, by rw [he.at (show th0[33]? = some 1 from th0_z _ (List.mem_of_getElem? (i := 5) rfl)) (okLp_out hok (List.mem_of_getElem? (i := 2) rfl) (by decide) (by decide))]; exact p12, by rw [he.at (show th0[33]? = some 1 from th0_z _ (List.mem_of_getElem? (i := 5) rfl)) (okLp_out hok (List.mem_of_getElem? (i := 2) rfl) (by decide) (by decide))]; exact p13, by rw [he.at (show th0[33]? = some 1 from th0_z _ (List.mem_of_getElem? (i := 5) rfl)) (okLp_out hok (List.mem_of_getElem? (i := 2) rfl) (by decide) (by decide))]; exact p14, by rw [he.at (show th0[349]? = some 10 from th0_z _ (List.mem_of_getElem? (i := 9) rfl)) (okLp_out hok (List.mem_of_getElem? (i := 7) rfl) (by decide) (by decide))]; exact p15, by rw [he.at (show th0[349]? = some 10 from th0_z _ (List.mem_of_getElem? (i := 9) rfl)) (okLp_out hok (List.mem_of_getElem? (i := 8) rfl) (by decide) (by decide))]; exact p16, by rw [he.at (show th0[349]? = some 10 from th0_z _ (List.mem_of_getElem? (i := 9) rfl)) (okLp_out hok (List.mem_of_getElem? (i := 9) rfl) (by decide) (by decide))]; exact p17, by rw [he.at (show th0[349]? = some 10 from th0_z _ (List.mem_of_getElem? (i := 9) rfl)) (okLp_out hok (List.mem_of_getElem? (i := 9) rfl) (by decide) (by decide))]; exact p18, fun i hi => by rw [he.at (show th0[39]? = some 11 from th0_z _ (List.mem_of_getElem? (i := 6) rfl)) (okLp_out hok (List.mem_of_getElem? (i := 10) rfl) (Nat.zero_le _) (by show i ≤ 7; omega))]; exact a0 i hi, fun i hi => by rw [he.at (show th0[40]? = some 12 from th0_z _ (List.mem_of_getElem? (i := 7) rfl)) (okLp_out hok (List.mem_of_getElem? (i := 11) rfl) (Nat.zero_le _) (by show i ≤ 3; omega))]; exact a1 i hi, fun i hi => by rw [he.at (show th0[41]? = some 13 from th0_z _ (List.mem_of_getElem? (i := 8) rfl)) (okLp_out hok (List.mem_of_getElem? (i := 12) rfl) (Nat.zero_le _) (by show i ≤ 3; omega))]; exact a2 i hi, fun i hi => by rw [he.at (show th0[355]? = some 40 from th0_z _ (List.mem_of_getElem? (i := 11) rfl)) (okLp_out hok (List.mem_of_getElem? (i := 13) rfl) (Nat.zero_le _) (by show i ≤ 24; omega))]; exact a3 i hi⟩
theorem z_LA.eff (h : z_LA G) (he : x_eff th0 E G G') (hok : okK E = true) : z_LA G' := by
  unfold okK at hok
  obtain ⟨h1, h2⟩ := Bool.and_eq_true_iff.mp hok
  refine ⟨h.1.eff he h1, fun i hi => ?_⟩
  have o1 : E.all (fun q => !(q.1 == 28)) = true := List.all_eq_true.mpr (fun q hq => (Bool.and_eq_true_iff.mp (List.all_eq_true.mp h2 q hq)).1)
  have o2 : E.all (fun q => !(q.1 == 35)) = true := List.all_eq_true.mpr (fun q hq => (Bool.and_eq_true_iff.mp (List.all_eq_true.mp h2 q hq)).2)
  rw [he.at (show th0[2]? = some 28 from th0_z _ (List.mem_of_getElem? (i := 2) rfl)) (y_outT o1 i), he.at (show th0[350]? = some 35 from th0_z _ (List.mem_of_getElem? (i := 10) rfl)) (y_outT o2 i)]
  exact h.2 i hi
theorem z_KK.eff (h : z_KK z_LA th ax am G) (he : x_eff th E G G') (hok : okK E = true) : z_KK z_LA th ax am G' := by
  obtain ⟨rfl, rfl, rfl, h⟩ := h
  exact ⟨rfl, rfl, rfl, h.eff he hok⟩
theorem z_INp.eff {P P' : Prop} (tx : th[ax]? = some 9) (ta : th[am]? = some 10) (h : z_INp P th ax am G sc sm) (hI : xI x_tb th G') (he : x_eff th E G G') (hok : okE1 E = true) (hP : P') : z_INp P' th ax am G' sc sm := by
  unfold okE1 at hok
  obtain ⟨h0, hok⟩ := Bool.and_eq_true_iff.mp hok
  obtain ⟨h1, hok⟩ := Bool.and_eq_true_iff.mp hok
  obtain ⟨h2, h3⟩ := Bool.and_eq_true_iff.mp hok
  obtain ⟨-, hV, tp, k1, k2, k3, k4, -⟩ := h
  exact ⟨hI, okE0_ok ta hV hI he h0, tp, by rw [he.at tx h1]; exact k1, k2, by rw [he.at k2 h2]; exact k3, by rw [he.at ta h3]; exact k4, hP⟩
theorem z_IN.kk (h : z_IN th ax am G sc sm) : z_KK z_LA th ax am G := by
  obtain ⟨-, -, tp, -, -, -, -, hk⟩ := h
  exact hk
theorem z_IN.eff (tx : th[ax]? = some 9) (ta : th[am]? = some 10) (h : z_IN th ax am G sc sm) (hI : xI x_tb th G') (he : x_eff th E G G') (hok : okE E = true) : z_IN th ax am G' sc sm := by
  unfold okE at hok
  obtain ⟨h0, h1⟩ := Bool.and_eq_true_iff.mp hok
  exact z_INp.eff tx ta h hI he h0 (h.kk.eff he h1)
def m_182 : pM := (⟨"BreathingHillModel", "fault", "()I"⟩, 1558, 1, some (FieldType.int), 17, 0, false, 10, 103, 1556, 1557)
set_option maxRecDepth 100000 in
theorem m_182_ok : pm_tab[182]? = some m_182 := rfl
theorem e_182 : ∀ q ∈ d_182, decode m_182.code q.1 = .ok (q.2.1, q.2.2) := y_dec d_182_ok m_182_ok
def m_53 : pM := (⟨"BreathingHill", "fault", "()I"⟩, 719, 1, some (FieldType.int), 0, 0, false, 9, 91, 717, 718)
set_option maxRecDepth 100000 in
theorem m_53_ok : pm_tab[53]? = some m_53 := rfl
theorem e_53 : ∀ q ∈ d_53, decode m_53.code q.1 = .ok (q.2.1, q.2.2) := y_dec d_53_ok m_53_ok
set_option maxHeartbeats 2000000 in
set_option maxRecDepth 100000 in
theorem b_fault (hd : 318 ≤ d) (tx : th[ax]? = some 9) (ta : th[am]? = some 10) (h : z_IN th ax am G sc sm)  : x_Gd xs L J d m_53 (fun r G' => (∃ y : Int32, r = some (.int y)) ∧ z_IN th ax am G' sc sm) 0 (lv_args 0 [.ref ax]) [] G := by
  refine ((h_134 th xs L J).gd (G := G) (d := d) m_53_ok (by omega) (v := (y_v [(ax : Int)])) (as := [.ref ax]) (y_v_Bd (List.forall_mem_cons.mpr ⟨(y_cellB h.1 tx), (fun _ h => absurd h List.not_mem_nil)⟩)) (fun _ h => absurd h List.not_mem_nil) ⟨⟨ax, rfl, (by simp only [xl_ev, xt_ev, y_v, List.getD_cons_succ, List.getD_cons_zero]; omega), tx⟩, trivial⟩ (fun q hq => absurd hq List.not_mem_nil) h.1 (fun z => by cases z)).mono (fun r G' h' => ?_)
  obtain ⟨v', -, -, hI', ef, p, hp, -, -, pa⟩ := h'
  obtain rfl : p = _ := List.mem_singleton.mp hp
  obtain ⟨y, rfl, -⟩ := y_pI pa
  exact ⟨⟨y, rfl⟩, h.eff tx ta hI' ef (by decide +kernel)⟩
set_option maxHeartbeats 2000000 in
set_option maxRecDepth 100000 in
theorem n_fault (hd : 318 ≤ d) (tx : th[ax]? = some 9) (ta : th[am]? = some 10) (h : z_IN th ax am G sc sm)  : x_Gd xs L J d m_182 (fun r G' => (∃ y : Int32, r = some (.int y)) ∧ z_IN th ax am G' sc sm) 0 (lv_args 0 [.ref am]) [] G := by
  refine ((h_240 th xs L J).gd (G := G) (d := d) m_182_ok (by omega) (v := (y_v [(am : Int)])) (as := [.ref am]) (y_v_Bd (List.forall_mem_cons.mpr ⟨(y_cellB h.1 ta), (fun _ h => absurd h List.not_mem_nil)⟩)) (fun _ h => absurd h List.not_mem_nil) ⟨⟨am, rfl, (by simp only [xl_ev, xt_ev, y_v, List.getD_cons_succ, List.getD_cons_zero]; omega), ta⟩, trivial⟩ (fun q hq => absurd hq List.not_mem_nil) h.1 (fun z => by cases z)).mono (fun r G' h' => ?_)
  obtain ⟨v', -, -, hI', ef, p, hp, -, -, pa⟩ := h'
  obtain rfl : p = _ := List.mem_singleton.mp hp
  obtain ⟨y, rfl, -⟩ := y_pI pa
  exact ⟨⟨y, rfl⟩, h.eff tx ta hI' ef (by decide +kernel)⟩
def m_183 : pM := (⟨"BreathingHillModel", "thing", "(II)I"⟩, 1562, 4, some (FieldType.int), 17, 2, false, 10, 103, 1560, 1561)
set_option maxRecDepth 100000 in
theorem m_183_ok : pm_tab[183]? = some m_183 := rfl
theorem e_183 : ∀ q ∈ d_183, decode m_183.code q.1 = .ok (q.2.1, q.2.2) := y_dec d_183_ok m_183_ok
set_option maxHeartbeats 2000000 in
set_option maxRecDepth 100000 in
theorem n_thing (hd : 318 ≤ d) (tx : th[ax]? = some 9) (ta : th[am]? = some 10) (h : z_IN th ax am G sc sm) (x1 x2 : Int32) : x_Gd xs L J d m_183 (fun r G' => (∃ y : Int32, r = some (.int y)) ∧ z_IN th ax am G' sc sm) 0 (lv_args 0 [.ref am, .int x1, .int x2]) [] G := by
  refine ((h_241 th xs L J).gd (G := G) (d := d) m_183_ok (by omega) (v := (y_v [(am : Int), x1.toInt, x2.toInt])) (as := [.ref am, .int x1, .int x2]) (y_v_Bd (List.forall_mem_cons.mpr ⟨(y_cellB h.1 ta), (List.forall_mem_cons.mpr ⟨(x_i32 x1), (List.forall_mem_cons.mpr ⟨(x_i32 x2), (fun _ h => absurd h List.not_mem_nil)⟩)⟩)⟩)) (fun _ h => absurd h List.not_mem_nil) ⟨⟨am, rfl, (by simp only [xl_ev, xt_ev, y_v, List.getD_cons_succ, List.getD_cons_zero]; omega), ta⟩, ⟨x1, rfl, (by simp only [xl_ev, xt_ev, y_v, List.getD_cons_succ, List.getD_cons_zero]; omega)⟩, ⟨x2, rfl, (by simp only [xl_ev, xt_ev, y_v, List.getD_cons_succ, List.getD_cons_zero]; omega)⟩, trivial⟩ (fun q hq => absurd hq List.not_mem_nil) h.1 (fun _ => h.2.1.2.1)).mono (fun r G' h' => ?_)
  obtain ⟨v', -, -, hI', ef, p, hp, -, -, pa⟩ := h'
  obtain rfl : p = _ := List.mem_singleton.mp hp
  obtain ⟨y, rfl, -⟩ := y_pI pa
  exact ⟨⟨y, rfl⟩, h.eff tx ta hI' ef (by decide +kernel)⟩
def m_186 : pM := (⟨"BreathingHillModel", "mill", "(II)I"⟩, 1574, 3, some (FieldType.int), 17, 2, false, 10, 103, 1572, 1573)
set_option maxRecDepth 100000 in
theorem m_186_ok : pm_tab[186]? = some m_186 := rfl
theorem e_186 : ∀ q ∈ d_186, decode m_186.code q.1 = .ok (q.2.1, q.2.2) := y_dec d_186_ok m_186_ok
def m_54 : pM := (⟨"BreathingHill", "mill", "(II)I"⟩, 723, 4, some (FieldType.int), 0, 2, false, 9, 91, 721, 722)
set_option maxRecDepth 100000 in
theorem m_54_ok : pm_tab[54]? = some m_54 := rfl
theorem e_54 : ∀ q ∈ d_54, decode m_54.code q.1 = .ok (q.2.1, q.2.2) := y_dec d_54_ok m_54_ok
set_option maxHeartbeats 2000000 in
set_option maxRecDepth 100000 in
theorem b_mill (hd : 318 ≤ d) (tx : th[ax]? = some 9) (ta : th[am]? = some 10) (h : z_IN th ax am G sc sm) (x1 x2 : Int32) : x_Gd xs L J d m_54 (fun r G' => (∃ y : Int32, r = some (.int y)) ∧ z_IN th ax am G' sc sm) 0 (lv_args 0 [.ref ax, .int x1, .int x2]) [] G := by
  refine ((h_135 th xs L J).gd (G := G) (d := d) m_54_ok (by omega) (v := (y_v [(ax : Int), x1.toInt, x2.toInt])) (as := [.ref ax, .int x1, .int x2]) (y_v_Bd (List.forall_mem_cons.mpr ⟨(y_cellB h.1 tx), (List.forall_mem_cons.mpr ⟨(x_i32 x1), (List.forall_mem_cons.mpr ⟨(x_i32 x2), (fun _ h => absurd h List.not_mem_nil)⟩)⟩)⟩)) (fun _ h => absurd h List.not_mem_nil) ⟨⟨ax, rfl, (by simp only [xl_ev, xt_ev, y_v, List.getD_cons_succ, List.getD_cons_zero]; omega), tx⟩, ⟨x1, rfl, (by simp only [xl_ev, xt_ev, y_v, List.getD_cons_succ, List.getD_cons_zero]; omega)⟩, ⟨x2, rfl, (by simp only [xl_ev, xt_ev, y_v, List.getD_cons_succ, List.getD_cons_zero]; omega)⟩, trivial⟩ (fun q hq => absurd hq List.not_mem_nil) h.1 (fun z => by cases z)).mono (fun r G' h' => ?_)
  obtain ⟨v', -, -, hI', ef, p, hp, -, -, pa⟩ := h'
  obtain rfl : p = _ := List.mem_singleton.mp hp
  obtain ⟨y, rfl, -⟩ := y_pI pa
  exact ⟨⟨y, rfl⟩, h.eff tx ta hI' ef (by decide +kernel)⟩
set_option maxHeartbeats 2000000 in
set_option maxRecDepth 100000 in
theorem n_mill (hd : 318 ≤ d) (tx : th[ax]? = some 9) (ta : th[am]? = some 10) (h : z_IN th ax am G sc sm) (x1 x2 : Int32) : x_Gd xs L J d m_186 (fun r G' => (∃ y : Int32, r = some (.int y)) ∧ z_IN th ax am G' sc sm) 0 (lv_args 0 [.ref am, .int x1, .int x2]) [] G := by
  refine ((h_242 th xs L J).gd (G := G) (d := d) m_186_ok (by omega) (v := (y_v [(am : Int), x1.toInt, x2.toInt])) (as := [.ref am, .int x1, .int x2]) (y_v_Bd (List.forall_mem_cons.mpr ⟨(y_cellB h.1 ta), (List.forall_mem_cons.mpr ⟨(x_i32 x1), (List.forall_mem_cons.mpr ⟨(x_i32 x2), (fun _ h => absurd h List.not_mem_nil)⟩)⟩)⟩)) (fun _ h => absurd h List.not_mem_nil) ⟨⟨am, rfl, (by simp only [xl_ev, xt_ev, y_v, List.getD_cons_succ, List.getD_cons_zero]; omega), ta⟩, ⟨x1, rfl, (by simp only [xl_ev, xt_ev, y_v, List.getD_cons_succ, List.getD_cons_zero]; omega)⟩, ⟨x2, rfl, (by simp only [xl_ev, xt_ev, y_v, List.getD_cons_succ, List.getD_cons_zero]; omega)⟩, trivial⟩ (fun q hq => absurd hq List.not_mem_nil) h.1 (fun z => by cases z)).mono (fun r G' h' => ?_)
  obtain ⟨v', -, -, hI', ef, p, hp, -, -, pa⟩ := h'
  obtain rfl : p = _ := List.mem_singleton.mp hp
  obtain ⟨y, rfl, -⟩ := y_pI pa
  exact ⟨⟨y, rfl⟩, h.eff tx ta hI' ef (by decide +kernel)⟩
def m_187 : pM := (⟨"BreathingHillModel", "man", "(II)I"⟩, 1578, 3, some (FieldType.int), 17, 2, false, 10, 103, 1576, 1577)
set_option maxRecDepth 100000 in
theorem m_187_ok : pm_tab[187]? = some m_187 := rfl
theorem e_187 : ∀ q ∈ d_187, decode m_187.code q.1 = .ok (q.2.1, q.2.2) := y_dec d_187_ok m_187_ok
def m_56 : pM := (⟨"BreathingHill", "man", "(II)I"⟩, 731, 4, some (FieldType.int), 0, 2, false, 9, 91, 729, 730)
set_option maxRecDepth 100000 in
theorem m_56_ok : pm_tab[56]? = some m_56 := rfl
theorem e_56 : ∀ q ∈ d_56, decode m_56.code q.1 = .ok (q.2.1, q.2.2) := y_dec d_56_ok m_56_ok
set_option maxHeartbeats 2000000 in
set_option maxRecDepth 100000 in
theorem b_man (hd : 318 ≤ d) (tx : th[ax]? = some 9) (ta : th[am]? = some 10) (h : z_IN th ax am G sc sm) (x1 x2 : Int32) : x_Gd xs L J d m_56 (fun r G' => (∃ y : Int32, r = some (.int y)) ∧ z_IN th ax am G' sc sm) 0 (lv_args 0 [.ref ax, .int x1, .int x2]) [] G := by
  refine ((h_136 th xs L J).gd (G := G) (d := d) m_56_ok (by omega) (v := (y_v [(ax : Int), x1.toInt, x2.toInt])) (as := [.ref ax, .int x1, .int x2]) (y_v_Bd (List.forall_mem_cons.mpr ⟨(y_cellB h.1 tx), (List.forall_mem_cons.mpr ⟨(x_i32 x1), (List.forall_mem_cons.mpr ⟨(x_i32 x2), (fun _ h => absurd h List.not_mem_nil)⟩)⟩)⟩)) (fun _ h => absurd h List.not_mem_nil) ⟨⟨ax, rfl, (by simp only [xl_ev, xt_ev, y_v, List.getD_cons_succ, List.getD_cons_zero]; omega), tx⟩, ⟨x1, rfl, (by simp only [xl_ev, xt_ev, y_v, List.getD_cons_succ, List.getD_cons_zero]; omega)⟩, ⟨x2, rfl, (by simp only [xl_ev, xt_ev, y_v, List.getD_cons_succ, List.getD_cons_zero]; omega)⟩, trivial⟩ (fun q hq => absurd hq List.not_mem_nil) h.1 (fun z => by cases z)).mono (fun r G' h' => ?_)
  obtain ⟨v', -, -, hI', ef, p, hp, -, -, pa⟩ := h'
  obtain rfl : p = _ := List.mem_singleton.mp hp
  obtain ⟨y, rfl, -⟩ := y_pI pa
  exact ⟨⟨y, rfl⟩, h.eff tx ta hI' ef (by decide +kernel)⟩
set_option maxHeartbeats 2000000 in
set_option maxRecDepth 100000 in
theorem n_man (hd : 318 ≤ d) (tx : th[ax]? = some 9) (ta : th[am]? = some 10) (h : z_IN th ax am G sc sm) (x1 x2 : Int32) : x_Gd xs L J d m_187 (fun r G' => (∃ y : Int32, r = some (.int y)) ∧ z_IN th ax am G' sc sm) 0 (lv_args 0 [.ref am, .int x1, .int x2]) [] G := by
  refine ((h_243 th xs L J).gd (G := G) (d := d) m_187_ok (by omega) (v := (y_v [(am : Int), x1.toInt, x2.toInt])) (as := [.ref am, .int x1, .int x2]) (y_v_Bd (List.forall_mem_cons.mpr ⟨(y_cellB h.1 ta), (List.forall_mem_cons.mpr ⟨(x_i32 x1), (List.forall_mem_cons.mpr ⟨(x_i32 x2), (fun _ h => absurd h List.not_mem_nil)⟩)⟩)⟩)) (fun _ h => absurd h List.not_mem_nil) ⟨⟨am, rfl, (by simp only [xl_ev, xt_ev, y_v, List.getD_cons_succ, List.getD_cons_zero]; omega), ta⟩, ⟨x1, rfl, (by simp only [xl_ev, xt_ev, y_v, List.getD_cons_succ, List.getD_cons_zero]; omega)⟩, ⟨x2, rfl, (by simp only [xl_ev, xt_ev, y_v, List.getD_cons_succ, List.getD_cons_zero]; omega)⟩, trivial⟩ (fun q hq => absurd hq List.not_mem_nil) h.1 (fun z => by cases z)).mono (fun r G' h' => ?_)
  obtain ⟨v', -, -, hI', ef, p, hp, -, -, pa⟩ := h'
  obtain rfl : p = _ := List.mem_singleton.mp hp
  obtain ⟨y, rfl, -⟩ := y_pI pa
  exact ⟨⟨y, rfl⟩, h.eff tx ta hI' ef (by decide +kernel)⟩
def m_189 : pM := (⟨"BreathingHillModel", "passage", "(II)I"⟩, 1586, 5, some (FieldType.int), 17, 2, false, 10, 103, 1584, 1585)
set_option maxRecDepth 100000 in
theorem m_189_ok : pm_tab[189]? = some m_189 := rfl
theorem e_189 : ∀ q ∈ d_189, decode m_189.code q.1 = .ok (q.2.1, q.2.2) := y_dec d_189_ok m_189_ok
def m_58 : pM := (⟨"BreathingHill", "passage", "(II)I"⟩, 739, 4, some (FieldType.int), 0, 2, false, 9, 91, 737, 738)
set_option maxRecDepth 100000 in
theorem m_58_ok : pm_tab[58]? = some m_58 := rfl
theorem e_58 : ∀ q ∈ d_58, decode m_58.code q.1 = .ok (q.2.1, q.2.2) := y_dec d_58_ok m_58_ok
set_option maxHeartbeats 2000000 in
set_option maxRecDepth 100000 in
theorem b_passage (hd : 318 ≤ d) (tx : th[ax]? = some 9) (ta : th[am]? = some 10) (h : z_IN th ax am G sc sm) (x1 x2 : Int32) : x_Gd xs L J d m_58 (fun r G' => (∃ y : Int32, r = some (.int y)) ∧ z_IN th ax am G' sc sm) 0 (lv_args 0 [.ref ax, .int x1, .int x2]) [] G := by
  refine ((h_137 th xs L J).gd (G := G) (d := d) m_58_ok (by omega) (v := (y_v [(ax : Int), x1.toInt, x2.toInt])) (as := [.ref ax, .int x1, .int x2]) (y_v_Bd (List.forall_mem_cons.mpr ⟨(y_cellB h.1 tx), (List.forall_mem_cons.mpr ⟨(x_i32 x1), (List.forall_mem_cons.mpr ⟨(x_i32 x2), (fun _ h => absurd h List.not_mem_nil)⟩)⟩)⟩)) (fun _ h => absurd h List.not_mem_nil) ⟨⟨ax, rfl, (by simp only [xl_ev, xt_ev, y_v, List.getD_cons_succ, List.getD_cons_zero]; omega), tx⟩, ⟨x1, rfl, (by simp only [xl_ev, xt_ev, y_v, List.getD_cons_succ, List.getD_cons_zero]; omega)⟩, ⟨x2, rfl, (by simp only [xl_ev, xt_ev, y_v, List.getD_cons_succ, List.getD_cons_zero]; omega)⟩, trivial⟩ (fun q hq => absurd hq List.not_mem_nil) h.1 (fun z => by cases z)).mono (fun r G' h' => ?_)
  obtain ⟨v', -, -, hI', ef, p, hp, -, -, pa⟩ := h'
  obtain rfl : p = _ := List.mem_singleton.mp hp
  obtain ⟨y, rfl, -⟩ := y_pI pa
  exact ⟨⟨y, rfl⟩, h.eff tx ta hI' ef (by decide +kernel)⟩
set_option maxHeartbeats 2000000 in
set_option maxRecDepth 100000 in
theorem n_passage (hd : 318 ≤ d) (tx : th[ax]? = some 9) (ta : th[am]? = some 10) (h : z_IN th ax am G sc sm) (x1 x2 : Int32) : x_Gd xs L J d m_189 (fun r G' => (∃ y : Int32, r = some (.int y)) ∧ z_IN th ax am G' sc sm) 0 (lv_args 0 [.ref am, .int x1, .int x2]) [] G := by
  refine ((h_244 th xs L J).gd (G := G) (d := d) m_189_ok (by omega) (v := (y_v [(am : Int), x1.toInt, x2.toInt])) (as := [.ref am, .int x1, .int x2]) (y_v_Bd (List.forall_mem_cons.mpr ⟨(y_cellB h.1 ta), (List.forall_mem_cons.mpr ⟨(x_i32 x1), (List.forall_mem_cons.mpr ⟨(x_i32 x2), (fun _ h => absurd h List.not_mem_nil)⟩)⟩)⟩)) (fun _ h => absurd h List.not_mem_nil) ⟨⟨am, rfl, (by simp only [xl_ev, xt_ev, y_v, List.getD_cons_succ, List.getD_cons_zero]; omega), ta⟩, ⟨x1, rfl, (by simp only [xl_ev, xt_ev, y_v, List.getD_cons_succ, List.getD_cons_zero]; omega)⟩, ⟨x2, rfl, (by simp only [xl_ev, xt_ev, y_v, List.getD_cons_succ, List.getD_cons_zero]; omega)⟩, trivial⟩ (fun q hq => absurd hq List.not_mem_nil) h.1 (fun z => by cases z)).mono (fun r G' h' => ?_)
  obtain ⟨v', -, -, hI', ef, p, hp, -, -, pa⟩ := h'
  obtain rfl : p = _ := List.mem_singleton.mp hp
  obtain ⟨y, rfl, -⟩ := y_pI pa
  exact ⟨⟨y, rfl⟩, h.eff tx ta hI' ef (by decide +kernel)⟩
def m_196 : pM := (⟨"BreathingHillModel", "now", "(I)I"⟩, 1614, 2, some (FieldType.int), 17, 1, false, 10, 103, 1612, 1613)
set_option maxRecDepth 100000 in
theorem m_196_ok : pm_tab[196]? = some m_196 := rfl
theorem e_196 : ∀ q ∈ d_196, decode m_196.code q.1 = .ok (q.2.1, q.2.2) := y_dec d_196_ok m_196_ok
def m_61 : pM := (⟨"BreathingHill", "now", "(I)I"⟩, 751, 2, some (FieldType.int), 0, 1, false, 9, 91, 749, 750)
set_option maxRecDepth 100000 in
theorem m_61_ok : pm_tab[61]? = some m_61 := rfl
theorem e_61 : ∀ q ∈ d_61, decode m_61.code q.1 = .ok (q.2.1, q.2.2) := y_dec d_61_ok m_61_ok
set_option maxHeartbeats 2000000 in
set_option maxRecDepth 100000 in
theorem b_now (hd : 318 ≤ d) (tx : th[ax]? = some 9) (ta : th[am]? = some 10) (h : z_IN th ax am G sc sm) (x1 : Int32) : x_Gd xs L J d m_61 (fun r G' => (∃ y : Int32, r = some (.int y)) ∧ z_IN th ax am G' sc sm) 0 (lv_args 0 [.ref ax, .int x1]) [] G := by
  refine ((h_138 th xs L J).gd (G := G) (d := d) m_61_ok (by omega) (v := (y_v [(ax : Int), x1.toInt])) (as := [.ref ax, .int x1]) (y_v_Bd (List.forall_mem_cons.mpr ⟨(y_cellB h.1 tx), (List.forall_mem_cons.mpr ⟨(x_i32 x1), (fun _ h => absurd h List.not_mem_nil)⟩)⟩)) (fun _ h => absurd h List.not_mem_nil) ⟨⟨ax, rfl, (by simp only [xl_ev, xt_ev, y_v, List.getD_cons_succ, List.getD_cons_zero]; omega), tx⟩, ⟨x1, rfl, (by simp only [xl_ev, xt_ev, y_v, List.getD_cons_succ, List.getD_cons_zero]; omega)⟩, trivial⟩ (fun q hq => absurd hq List.not_mem_nil) h.1 (fun z => by cases z)).mono (fun r G' h' => ?_)
  obtain ⟨v', -, -, hI', ef, p, hp, -, -, pa⟩ := h'
  obtain rfl : p = _ := List.mem_singleton.mp hp
  obtain ⟨y, rfl, -⟩ := y_pI pa
  exact ⟨⟨y, rfl⟩, h.eff tx ta hI' ef (by decide +kernel)⟩
set_option maxHeartbeats 2000000 in
set_option maxRecDepth 100000 in
theorem n_now (hd : 318 ≤ d) (tx : th[ax]? = some 9) (ta : th[am]? = some 10) (h : z_IN th ax am G sc sm) (x1 : Int32) : x_Gd xs L J d m_196 (fun r G' => (∃ y : Int32, r = some (.int y)) ∧ z_IN th ax am G' sc sm) 0 (lv_args 0 [.ref am, .int x1]) [] G := by
  refine ((h_250 th xs L J).gd (G := G) (d := d) m_196_ok (by omega) (v := (y_v [(am : Int), x1.toInt])) (as := [.ref am, .int x1]) (y_v_Bd (List.forall_mem_cons.mpr ⟨(y_cellB h.1 ta), (List.forall_mem_cons.mpr ⟨(x_i32 x1), (fun _ h => absurd h List.not_mem_nil)⟩)⟩)) (fun _ h => absurd h List.not_mem_nil) ⟨⟨am, rfl, (by simp only [xl_ev, xt_ev, y_v, List.getD_cons_succ, List.getD_cons_zero]; omega), ta⟩, ⟨x1, rfl, (by simp only [xl_ev, xt_ev, y_v, List.getD_cons_succ, List.getD_cons_zero]; omega)⟩, trivial⟩ (fun q hq => absurd hq List.not_mem_nil) h.1 (fun z => by cases z)).mono (fun r G' h' => ?_)
  obtain ⟨v', -, -, hI', ef, p, hp, -, -, pa⟩ := h'
  obtain rfl : p = _ := List.mem_singleton.mp hp
  obtain ⟨y, rfl, -⟩ := y_pI pa
  exact ⟨⟨y, rfl⟩, h.eff tx ta hI' ef (by decide +kernel)⟩
def m_190 : pM := (⟨"BreathingHillModel", "air", "(II)I"⟩, 1590, 3, some (FieldType.int), 17, 2, false, 10, 103, 1588, 1589)
set_option maxRecDepth 100000 in
theorem m_190_ok : pm_tab[190]? = some m_190 := rfl
theorem e_190 : ∀ q ∈ d_190, decode m_190.code q.1 = .ok (q.2.1, q.2.2) := y_dec d_190_ok m_190_ok
def m_67 : pM := (⟨"BreathingHill", "air", "(II)I"⟩, 774, 3, some (FieldType.int), 0, 2, false, 9, 91, 772, 773)
set_option maxRecDepth 100000 in
theorem m_67_ok : pm_tab[67]? = some m_67 := rfl
theorem e_67 : ∀ q ∈ d_67, decode m_67.code q.1 = .ok (q.2.1, q.2.2) := y_dec d_67_ok m_67_ok
set_option maxHeartbeats 2000000 in
set_option maxRecDepth 100000 in
theorem b_air (hd : 318 ≤ d) (tx : th[ax]? = some 9) (ta : th[am]? = some 10) (h : z_IN th ax am G sc sm) (x1 x2 : Int32) : x_Gd xs L J d m_67 (fun r G' => (∃ y : Int32, r = some (.int y)) ∧ z_IN th ax am G' sc sm) 0 (lv_args 0 [.ref ax, .int x1, .int x2]) [] G := by
  refine ((h_139 th xs L J).gd (G := G) (d := d) m_67_ok (by omega) (v := (y_v [(ax : Int), x1.toInt, x2.toInt])) (as := [.ref ax, .int x1, .int x2]) (y_v_Bd (List.forall_mem_cons.mpr ⟨(y_cellB h.1 tx), (List.forall_mem_cons.mpr ⟨(x_i32 x1), (List.forall_mem_cons.mpr ⟨(x_i32 x2), (fun _ h => absurd h List.not_mem_nil)⟩)⟩)⟩)) (fun _ h => absurd h List.not_mem_nil) ⟨⟨ax, rfl, (by simp only [xl_ev, xt_ev, y_v, List.getD_cons_succ, List.getD_cons_zero]; omega), tx⟩, ⟨x1, rfl, (by simp only [xl_ev, xt_ev, y_v, List.getD_cons_succ, List.getD_cons_zero]; omega)⟩, ⟨x2, rfl, (by simp only [xl_ev, xt_ev, y_v, List.getD_cons_succ, List.getD_cons_zero]; omega)⟩, trivial⟩ (fun q hq => absurd hq List.not_mem_nil) h.1 (fun z => by cases z)).mono (fun r G' h' => ?_)
  obtain ⟨v', -, -, hI', ef, p, hp, -, -, pa⟩ := h'
  obtain rfl : p = _ := List.mem_singleton.mp hp
  obtain ⟨y, rfl, -⟩ := y_pI pa
  exact ⟨⟨y, rfl⟩, h.eff tx ta hI' ef (by decide +kernel)⟩
set_option maxHeartbeats 2000000 in
set_option maxRecDepth 100000 in
theorem n_air (hd : 318 ≤ d) (tx : th[ax]? = some 9) (ta : th[am]? = some 10) (h : z_IN th ax am G sc sm) (x1 x2 : Int32) : x_Gd xs L J d m_190 (fun r G' => (∃ y : Int32, r = some (.int y)) ∧ z_IN th ax am G' sc sm) 0 (lv_args 0 [.ref am, .int x1, .int x2]) [] G := by
  refine ((h_248 th xs L J).gd (G := G) (d := d) m_190_ok (by omega) (v := (y_v [(am : Int), x1.toInt, x2.toInt])) (as := [.ref am, .int x1, .int x2]) (y_v_Bd (List.forall_mem_cons.mpr ⟨(y_cellB h.1 ta), (List.forall_mem_cons.mpr ⟨(x_i32 x1), (List.forall_mem_cons.mpr ⟨(x_i32 x2), (fun _ h => absurd h List.not_mem_nil)⟩)⟩)⟩)) (fun _ h => absurd h List.not_mem_nil) ⟨⟨am, rfl, (by simp only [xl_ev, xt_ev, y_v, List.getD_cons_succ, List.getD_cons_zero]; omega), ta⟩, ⟨x1, rfl, (by simp only [xl_ev, xt_ev, y_v, List.getD_cons_succ, List.getD_cons_zero]; omega)⟩, ⟨x2, rfl, (by simp only [xl_ev, xt_ev, y_v, List.getD_cons_succ, List.getD_cons_zero]; omega)⟩, trivial⟩ (fun q hq => absurd hq List.not_mem_nil) h.1 (fun z => by cases z)).mono (fun r G' h' => ?_)
  obtain ⟨v', -, -, hI', ef, p, hp, -, -, pa⟩ := h'
  obtain rfl : p = _ := List.mem_singleton.mp hp
  obtain ⟨y, rfl, -⟩ := y_pI pa
  exact ⟨⟨y, rfl⟩, h.eff tx ta hI' ef (by decide +kernel)⟩
def m_193 : pM := (⟨"BreathingHillModel", "force", "(II)I"⟩, 1602, 3, some (FieldType.int), 17, 2, false, 10, 103, 1600, 1601)
set_option maxRecDepth 100000 in
theorem m_193_ok : pm_tab[193]? = some m_193 := rfl
theorem e_193 : ∀ q ∈ d_193, decode m_193.code q.1 = .ok (q.2.1, q.2.2) := y_dec d_193_ok m_193_ok
def m_69 : pM := (⟨"BreathingHill", "force", "(II)I"⟩, 782, 3, some (FieldType.int), 0, 2, false, 9, 91, 780, 781)
set_option maxRecDepth 100000 in
theorem m_69_ok : pm_tab[69]? = some m_69 := rfl
theorem e_69 : ∀ q ∈ d_69, decode m_69.code q.1 = .ok (q.2.1, q.2.2) := y_dec d_69_ok m_69_ok
set_option maxHeartbeats 2000000 in
set_option maxRecDepth 100000 in
theorem b_force (hd : 318 ≤ d) (tx : th[ax]? = some 9) (ta : th[am]? = some 10) (h : z_IN th ax am G sc sm) (x1 x2 : Int32) : x_Gd xs L J d m_69 (fun r G' => (∃ y : Int32, r = some (.int y)) ∧ z_IN th ax am G' sc sm) 0 (lv_args 0 [.ref ax, .int x1, .int x2]) [] G := by
  refine ((h_140 th xs L J).gd (G := G) (d := d) m_69_ok (by omega) (v := (y_v [(ax : Int), x1.toInt, x2.toInt])) (as := [.ref ax, .int x1, .int x2]) (y_v_Bd (List.forall_mem_cons.mpr ⟨(y_cellB h.1 tx), (List.forall_mem_cons.mpr ⟨(x_i32 x1), (List.forall_mem_cons.mpr ⟨(x_i32 x2), (fun _ h => absurd h List.not_mem_nil)⟩)⟩)⟩)) (fun _ h => absurd h List.not_mem_nil) ⟨⟨ax, rfl, (by simp only [xl_ev, xt_ev, y_v, List.getD_cons_succ, List.getD_cons_zero]; omega), tx⟩, ⟨x1, rfl, (by simp only [xl_ev, xt_ev, y_v, List.getD_cons_succ, List.getD_cons_zero]; omega)⟩, ⟨x2, rfl, (by simp only [xl_ev, xt_ev, y_v, List.getD_cons_succ, List.getD_cons_zero]; omega)⟩, trivial⟩ (fun q hq => absurd hq List.not_mem_nil) h.1 (fun z => by cases z)).mono (fun r G' h' => ?_)
  obtain ⟨v', -, -, hI', ef, p, hp, -, -, pa⟩ := h'
  obtain rfl : p = _ := List.mem_singleton.mp hp
  obtain ⟨y, rfl, -⟩ := y_pI pa
  exact ⟨⟨y, rfl⟩, h.eff tx ta hI' ef (by decide +kernel)⟩
set_option maxHeartbeats 2000000 in
set_option maxRecDepth 100000 in
theorem n_force (hd : 318 ≤ d) (tx : th[ax]? = some 9) (ta : th[am]? = some 10) (h : z_IN th ax am G sc sm) (x1 x2 : Int32) : x_Gd xs L J d m_193 (fun r G' => (∃ y : Int32, r = some (.int y)) ∧ z_IN th ax am G' sc sm) 0 (lv_args 0 [.ref am, .int x1, .int x2]) [] G := by
  refine ((h_249 th xs L J).gd (G := G) (d := d) m_193_ok (by omega) (v := (y_v [(am : Int), x1.toInt, x2.toInt])) (as := [.ref am, .int x1, .int x2]) (y_v_Bd (List.forall_mem_cons.mpr ⟨(y_cellB h.1 ta), (List.forall_mem_cons.mpr ⟨(x_i32 x1), (List.forall_mem_cons.mpr ⟨(x_i32 x2), (fun _ h => absurd h List.not_mem_nil)⟩)⟩)⟩)) (fun _ h => absurd h List.not_mem_nil) ⟨⟨am, rfl, (by simp only [xl_ev, xt_ev, y_v, List.getD_cons_succ, List.getD_cons_zero]; omega), ta⟩, ⟨x1, rfl, (by simp only [xl_ev, xt_ev, y_v, List.getD_cons_succ, List.getD_cons_zero]; omega)⟩, ⟨x2, rfl, (by simp only [xl_ev, xt_ev, y_v, List.getD_cons_succ, List.getD_cons_zero]; omega)⟩, trivial⟩ (fun q hq => absurd hq List.not_mem_nil) h.1 (fun z => by cases z)).mono (fun r G' h' => ?_)
  obtain ⟨v', -, -, hI', ef, p, hp, -, -, pa⟩ := h'
  obtain rfl : p = _ := List.mem_singleton.mp hp
  obtain ⟨y, rfl, -⟩ := y_pI pa
  exact ⟨⟨y, rfl⟩, h.eff tx ta hI' ef (by decide +kernel)⟩
def m_198 : pM := (⟨"BreathingHillModel", "tie", "(II)I"⟩, 1622, 4, some (FieldType.int), 17, 2, false, 10, 103, 1620, 1621)
set_option maxRecDepth 100000 in
theorem m_198_ok : pm_tab[198]? = some m_198 := rfl
theorem e_198 : ∀ q ∈ d_198, decode m_198.code q.1 = .ok (q.2.1, q.2.2) := y_dec d_198_ok m_198_ok
def m_73 : pM := (⟨"BreathingHill", "tie", "(II)I"⟩, 800, 3, some (FieldType.int), 0, 2, false, 9, 91, 798, 799)
set_option maxRecDepth 100000 in
theorem m_73_ok : pm_tab[73]? = some m_73 := rfl
theorem e_73 : ∀ q ∈ d_73, decode m_73.code q.1 = .ok (q.2.1, q.2.2) := y_dec d_73_ok m_73_ok
set_option maxHeartbeats 2000000 in
set_option maxRecDepth 100000 in
theorem b_tie (hd : 318 ≤ d) (tx : th[ax]? = some 9) (ta : th[am]? = some 10) (h : z_IN th ax am G sc sm) (x1 x2 : Int32) : x_Gd xs L J d m_73 (fun r G' => (∃ y : Int32, r = some (.int y)) ∧ z_IN th ax am G' sc sm) 0 (lv_args 0 [.ref ax, .int x1, .int x2]) [] G := by
  refine ((h_145 th xs L J).gd (G := G) (d := d) m_73_ok (by omega) (v := (y_v [(ax : Int), x1.toInt, x2.toInt])) (as := [.ref ax, .int x1, .int x2]) (y_v_Bd (List.forall_mem_cons.mpr ⟨(y_cellB h.1 tx), (List.forall_mem_cons.mpr ⟨(x_i32 x1), (List.forall_mem_cons.mpr ⟨(x_i32 x2), (fun _ h => absurd h List.not_mem_nil)⟩)⟩)⟩)) (fun _ h => absurd h List.not_mem_nil) ⟨⟨ax, rfl, (by simp only [xl_ev, xt_ev, y_v, List.getD_cons_succ, List.getD_cons_zero]; omega), tx⟩, ⟨x1, rfl, (by simp only [xl_ev, xt_ev, y_v, List.getD_cons_succ, List.getD_cons_zero]; omega)⟩, ⟨x2, rfl, (by simp only [xl_ev, xt_ev, y_v, List.getD_cons_succ, List.getD_cons_zero]; omega)⟩, trivial⟩ (fun q hq => absurd hq List.not_mem_nil) h.1 (fun z => by cases z)).mono (fun r G' h' => ?_)
  obtain ⟨v', -, -, hI', ef, p, hp, -, -, pa⟩ := h'
  obtain rfl : p = _ := List.mem_singleton.mp hp
  obtain ⟨y, rfl, -⟩ := y_pI pa
  exact ⟨⟨y, rfl⟩, h.eff tx ta hI' ef (by decide +kernel)⟩
set_option maxHeartbeats 2000000 in
set_option maxRecDepth 100000 in
theorem n_tie (hd : 318 ≤ d) (tx : th[ax]? = some 9) (ta : th[am]? = some 10) (h : z_IN th ax am G sc sm) (x1 x2 : Int32) : x_Gd xs L J d m_198 (fun r G' => (∃ y : Int32, r = some (.int y)) ∧ z_IN th ax am G' sc sm) 0 (lv_args 0 [.ref am, .int x1, .int x2]) [] G := by
  refine ((h_262 th xs L J).gd (G := G) (d := d) m_198_ok (by omega) (v := (y_v [(am : Int), x1.toInt, x2.toInt])) (as := [.ref am, .int x1, .int x2]) (y_v_Bd (List.forall_mem_cons.mpr ⟨(y_cellB h.1 ta), (List.forall_mem_cons.mpr ⟨(x_i32 x1), (List.forall_mem_cons.mpr ⟨(x_i32 x2), (fun _ h => absurd h List.not_mem_nil)⟩)⟩)⟩)) (fun _ h => absurd h List.not_mem_nil) ⟨⟨am, rfl, (by simp only [xl_ev, xt_ev, y_v, List.getD_cons_succ, List.getD_cons_zero]; omega), ta⟩, ⟨x1, rfl, (by simp only [xl_ev, xt_ev, y_v, List.getD_cons_succ, List.getD_cons_zero]; omega)⟩, ⟨x2, rfl, (by simp only [xl_ev, xt_ev, y_v, List.getD_cons_succ, List.getD_cons_zero]; omega)⟩, trivial⟩ (fun q hq => absurd hq List.not_mem_nil) h.1 (fun z => by cases z)).mono (fun r G' h' => ?_)
  obtain ⟨v', -, -, hI', ef, p, hp, -, -, pa⟩ := h'
  obtain rfl : p = _ := List.mem_singleton.mp hp
  obtain ⟨y, rfl, -⟩ := y_pI pa
  exact ⟨⟨y, rfl⟩, h.eff tx ta hI' ef (by decide +kernel)⟩
def m_79 : pM := (⟨"BreathingHill", "walk", "(II)I"⟩, 824, 3, some (FieldType.int), 0, 2, false, 9, 91, 822, 823)
set_option maxRecDepth 100000 in
theorem m_79_ok : pm_tab[79]? = some m_79 := rfl
theorem e_79 : ∀ q ∈ d_79, decode m_79.code q.1 = .ok (q.2.1, q.2.2) := y_dec d_79_ok m_79_ok
set_option maxHeartbeats 2000000 in
set_option maxRecDepth 100000 in
theorem b_walk (hd : 318 ≤ d) (tx : th[ax]? = some 9) (ta : th[am]? = some 10) (h : z_IN th ax am G sc sm) (x1 x2 : Int32) : x_Gd xs L J d m_79 (fun r G' => (∃ y : Int32, r = some (.int y)) ∧ z_IN th ax am G' sc sm) 0 (lv_args 0 [.ref ax, .int x1, .int x2]) [] G := by
  refine ((h_146 th xs L J).gd (G := G) (d := d) m_79_ok (by omega) (v := (y_v [(ax : Int), x1.toInt, x2.toInt])) (as := [.ref ax, .int x1, .int x2]) (y_v_Bd (List.forall_mem_cons.mpr ⟨(y_cellB h.1 tx), (List.forall_mem_cons.mpr ⟨(x_i32 x1), (List.forall_mem_cons.mpr ⟨(x_i32 x2), (fun _ h => absurd h List.not_mem_nil)⟩)⟩)⟩)) (fun _ h => absurd h List.not_mem_nil) ⟨⟨ax, rfl, (by simp only [xl_ev, xt_ev, y_v, List.getD_cons_succ, List.getD_cons_zero]; omega), tx⟩, ⟨x1, rfl, (by simp only [xl_ev, xt_ev, y_v, List.getD_cons_succ, List.getD_cons_zero]; omega)⟩, ⟨x2, rfl, (by simp only [xl_ev, xt_ev, y_v, List.getD_cons_succ, List.getD_cons_zero]; omega)⟩, trivial⟩ (fun q hq => absurd hq List.not_mem_nil) h.1 (fun z => by cases z)).mono (fun r G' h' => ?_)
  obtain ⟨v', -, -, hI', ef, p, hp, -, -, pa⟩ := h'
  obtain rfl : p = _ := List.mem_singleton.mp hp
  obtain ⟨y, rfl, -⟩ := y_pI pa
  exact ⟨⟨y, rfl⟩, h.eff tx ta hI' ef (by decide +kernel)⟩
set_option maxHeartbeats 2000000 in
set_option maxRecDepth 100000 in
theorem n_walk (hd : 318 ≤ d) (tx : th[ax]? = some 9) (ta : th[am]? = some 10) (h : z_IN th ax am G sc sm) (x1 x2 : Int32) : x_Gd xs L J d m_202 (fun r G' => (∃ y : Int32, r = some (.int y)) ∧ z_IN th ax am G' sc sm) 0 (lv_args 0 [.ref am, .int x1, .int x2]) [] G := by
  refine ((h_297 th xs L J).gd (G := G) (d := d) m_202_ok (by omega) (v := (y_v [(am : Int), x1.toInt, x2.toInt])) (as := [.ref am, .int x1, .int x2]) (y_v_Bd (List.forall_mem_cons.mpr ⟨(y_cellB h.1 ta), (List.forall_mem_cons.mpr ⟨(x_i32 x1), (List.forall_mem_cons.mpr ⟨(x_i32 x2), (fun _ h => absurd h List.not_mem_nil)⟩)⟩)⟩)) (fun _ h => absurd h List.not_mem_nil) ⟨⟨am, rfl, (by simp only [xl_ev, xt_ev, y_v, List.getD_cons_succ, List.getD_cons_zero]; omega), ta⟩, ⟨x1, rfl, (by simp only [xl_ev, xt_ev, y_v, List.getD_cons_succ, List.getD_cons_zero]; omega)⟩, ⟨x2, rfl, (by simp only [xl_ev, xt_ev, y_v, List.getD_cons_succ, List.getD_cons_zero]; omega)⟩, trivial⟩ (fun q hq => absurd hq List.not_mem_nil) h.1 (fun _ => h.2.1.2.1)).mono (fun r G' h' => ?_)
  obtain ⟨v', -, -, hI', ef, p, hp, -, -, pa⟩ := h'
  obtain rfl : p = _ := List.mem_singleton.mp hp
  obtain ⟨y, rfl, -⟩ := y_pI pa
  exact ⟨⟨y, rfl⟩, h.eff tx ta hI' ef (by decide +kernel)⟩
def m_212 : pM := (⟨"BreathingHillModel", "cough", "()I"⟩, 1677, 1, some (FieldType.int), 17, 0, false, 10, 103, 1675, 1676)
set_option maxRecDepth 100000 in
theorem m_212_ok : pm_tab[212]? = some m_212 := rfl
theorem e_212 : ∀ q ∈ d_212, decode m_212.code q.1 = .ok (q.2.1, q.2.2) := y_dec d_212_ok m_212_ok
def m_93 : pM := (⟨"BreathingHill", "cough", "()I"⟩, 900, 1, some (FieldType.int), 0, 0, false, 9, 91, 898, 899)
set_option maxRecDepth 100000 in
theorem m_93_ok : pm_tab[93]? = some m_93 := rfl
theorem e_93 : ∀ q ∈ d_93, decode m_93.code q.1 = .ok (q.2.1, q.2.2) := y_dec d_93_ok m_93_ok
set_option maxHeartbeats 2000000 in
set_option maxRecDepth 100000 in
theorem b_cough (hd : 318 ≤ d) (tx : th[ax]? = some 9) (ta : th[am]? = some 10) (h : z_IN th ax am G sc sm)  : x_Gd xs L J d m_93 (fun r G' => (∃ y : Int32, r = some (.int y)) ∧ z_IN th ax am G' sc sm) 0 (lv_args 0 [.ref ax]) [] G := by
  refine ((h_147 th xs L J).gd (G := G) (d := d) m_93_ok (by omega) (v := (y_v [(ax : Int)])) (as := [.ref ax]) (y_v_Bd (List.forall_mem_cons.mpr ⟨(y_cellB h.1 tx), (fun _ h => absurd h List.not_mem_nil)⟩)) (fun _ h => absurd h List.not_mem_nil) ⟨⟨ax, rfl, (by simp only [xl_ev, xt_ev, y_v, List.getD_cons_succ, List.getD_cons_zero]; omega), tx⟩, trivial⟩ (fun q hq => absurd hq List.not_mem_nil) h.1 (fun z => by cases z)).mono (fun r G' h' => ?_)
  obtain ⟨v', -, -, hI', ef, p, hp, -, -, pa⟩ := h'
  obtain rfl : p = _ := List.mem_singleton.mp hp
  obtain ⟨y, rfl, -⟩ := y_pI pa
  exact ⟨⟨y, rfl⟩, h.eff tx ta hI' ef (by decide +kernel)⟩
set_option maxHeartbeats 2000000 in
set_option maxRecDepth 100000 in
theorem n_cough (hd : 318 ≤ d) (tx : th[ax]? = some 9) (ta : th[am]? = some 10) (h : z_IN th ax am G sc sm)  : x_Gd xs L J d m_212 (fun r G' => (∃ y : Int32, r = some (.int y)) ∧ z_IN th ax am G' sc sm) 0 (lv_args 0 [.ref am]) [] G := by
  refine ((h_263 th xs L J).gd (G := G) (d := d) m_212_ok (by omega) (v := (y_v [(am : Int)])) (as := [.ref am]) (y_v_Bd (List.forall_mem_cons.mpr ⟨(y_cellB h.1 ta), (fun _ h => absurd h List.not_mem_nil)⟩)) (fun _ h => absurd h List.not_mem_nil) ⟨⟨am, rfl, (by simp only [xl_ev, xt_ev, y_v, List.getD_cons_succ, List.getD_cons_zero]; omega), ta⟩, trivial⟩ (fun q hq => absurd hq List.not_mem_nil) h.1 (fun z => by cases z)).mono (fun r G' h' => ?_)
  obtain ⟨v', -, -, hI', ef, p, hp, -, -, pa⟩ := h'
  obtain rfl : p = _ := List.mem_singleton.mp hp
  obtain ⟨y, rfl, -⟩ := y_pI pa
  exact ⟨⟨y, rfl⟩, h.eff tx ta hI' ef (by decide +kernel)⟩
def m_214 : pM := (⟨"BreathingHillModel", "hours", "(I)I"⟩, 1685, 2, some (FieldType.int), 17, 1, false, 10, 103, 1683, 1684)
set_option maxRecDepth 100000 in
theorem m_214_ok : pm_tab[214]? = some m_214 := rfl
theorem e_214 : ∀ q ∈ d_214, decode m_214.code q.1 = .ok (q.2.1, q.2.2) := y_dec d_214_ok m_214_ok
def m_95 : pM := (⟨"BreathingHill", "hours", "(I)I"⟩, 910, 2, some (FieldType.int), 0, 1, false, 9, 91, 908, 909)
set_option maxRecDepth 100000 in
theorem m_95_ok : pm_tab[95]? = some m_95 := rfl
theorem e_95 : ∀ q ∈ d_95, decode m_95.code q.1 = .ok (q.2.1, q.2.2) := y_dec d_95_ok m_95_ok
set_option maxHeartbeats 2000000 in
set_option maxRecDepth 100000 in
theorem b_hours (hd : 318 ≤ d) (tx : th[ax]? = some 9) (ta : th[am]? = some 10) (h : z_IN th ax am G sc sm) (x1 : Int32) : x_Gd xs L J d m_95 (fun r G' => (∃ y : Int32, r = some (.int y)) ∧ z_IN th ax am G' sc sm) 0 (lv_args 0 [.ref ax, .int x1]) [] G := by
  refine ((h_148 th xs L J).gd (G := G) (d := d) m_95_ok (by omega) (v := (y_v [(ax : Int), x1.toInt])) (as := [.ref ax, .int x1]) (y_v_Bd (List.forall_mem_cons.mpr ⟨(y_cellB h.1 tx), (List.forall_mem_cons.mpr ⟨(x_i32 x1), (fun _ h => absurd h List.not_mem_nil)⟩)⟩)) (fun _ h => absurd h List.not_mem_nil) ⟨⟨ax, rfl, (by simp only [xl_ev, xt_ev, y_v, List.getD_cons_succ, List.getD_cons_zero]; omega), tx⟩, ⟨x1, rfl, (by simp only [xl_ev, xt_ev, y_v, List.getD_cons_succ, List.getD_cons_zero]; omega)⟩, trivial⟩ (fun q hq => absurd hq List.not_mem_nil) h.1 (fun z => by cases z)).mono (fun r G' h' => ?_)
  obtain ⟨v', -, -, hI', ef, p, hp, -, -, pa⟩ := h'
  obtain rfl : p = _ := List.mem_singleton.mp hp
  obtain ⟨y, rfl, -⟩ := y_pI pa
  exact ⟨⟨y, rfl⟩, h.eff tx ta hI' ef (by decide +kernel)⟩
set_option maxHeartbeats 2000000 in
set_option maxRecDepth 100000 in
theorem n_hours (hd : 318 ≤ d) (tx : th[ax]? = some 9) (ta : th[am]? = some 10) (h : z_IN th ax am G sc sm) (x1 : Int32) : x_Gd xs L J d m_214 (fun r G' => (∃ y : Int32, r = some (.int y)) ∧ z_IN th ax am G' sc sm) 0 (lv_args 0 [.ref am, .int x1]) [] G := by
  refine ((h_264 th xs L J).gd (G := G) (d := d) m_214_ok (by omega) (v := (y_v [(am : Int), x1.toInt])) (as := [.ref am, .int x1]) (y_v_Bd (List.forall_mem_cons.mpr ⟨(y_cellB h.1 ta), (List.forall_mem_cons.mpr ⟨(x_i32 x1), (fun _ h => absurd h List.not_mem_nil)⟩)⟩)) (fun _ h => absurd h List.not_mem_nil) ⟨⟨am, rfl, (by simp only [xl_ev, xt_ev, y_v, List.getD_cons_succ, List.getD_cons_zero]; omega), ta⟩, ⟨x1, rfl, (by simp only [xl_ev, xt_ev, y_v, List.getD_cons_succ, List.getD_cons_zero]; omega)⟩, trivial⟩ (fun q hq => absurd hq List.not_mem_nil) h.1 (fun _ => h.2.1.2.1)).mono (fun r G' h' => ?_)
  obtain ⟨v', -, -, hI', ef, p, hp, -, -, pa⟩ := h'
  obtain rfl : p = _ := List.mem_singleton.mp hp
  obtain ⟨y, rfl, -⟩ := y_pI pa
  exact ⟨⟨y, rfl⟩, h.eff tx ta hI' ef (by decide +kernel)⟩
def m_216 : pM := (⟨"BreathingHillModel", "undo", "()I"⟩, 1693, 2, some (FieldType.int), 17, 0, false, 10, 103, 1691, 1692)
set_option maxRecDepth 100000 in
theorem m_216_ok : pm_tab[216]? = some m_216 := rfl
theorem e_216 : ∀ q ∈ d_216, decode m_216.code q.1 = .ok (q.2.1, q.2.2) := y_dec d_216_ok m_216_ok
def m_103 : pM := (⟨"BreathingHill", "undo", "()I"⟩, 945, 1, some (FieldType.int), 0, 0, false, 9, 91, 943, 944)
set_option maxRecDepth 100000 in
theorem m_103_ok : pm_tab[103]? = some m_103 := rfl
theorem e_103 : ∀ q ∈ d_103, decode m_103.code q.1 = .ok (q.2.1, q.2.2) := y_dec d_103_ok m_103_ok
set_option maxHeartbeats 2000000 in
set_option maxRecDepth 100000 in
theorem b_undo (hd : 318 ≤ d) (tx : th[ax]? = some 9) (ta : th[am]? = some 10) (h : z_IN th ax am G sc sm)  : x_Gd xs L J d m_103 (fun r G' => (∃ y : Int32, r = some (.int y)) ∧ z_IN th ax am G' sc sm) 0 (lv_args 0 [.ref ax]) [] G := by
  refine ((h_150 th xs L J).gd (G := G) (d := d) m_103_ok (by omega) (v := (y_v [(ax : Int)])) (as := [.ref ax]) (y_v_Bd (List.forall_mem_cons.mpr ⟨(y_cellB h.1 tx), (fun _ h => absurd h List.not_mem_nil)⟩)) (fun _ h => absurd h List.not_mem_nil) ⟨⟨ax, rfl, (by simp only [xl_ev, xt_ev, y_v, List.getD_cons_succ, List.getD_cons_zero]; omega), tx⟩, trivial⟩ (fun q hq => absurd hq List.not_mem_nil) h.1 (fun z => by cases z)).mono (fun r G' h' => ?_)
  obtain ⟨v', -, -, hI', ef, p, hp, -, -, pa⟩ := h'
  obtain rfl : p = _ := List.mem_singleton.mp hp
  obtain ⟨y, rfl, -⟩ := y_pI pa
  exact ⟨⟨y, rfl⟩, h.eff tx ta hI' ef (by decide +kernel)⟩
set_option maxHeartbeats 2000000 in
set_option maxRecDepth 100000 in
theorem n_undo (hd : 318 ≤ d) (tx : th[ax]? = some 9) (ta : th[am]? = some 10) (h : z_IN th ax am G sc sm)  : x_Gd xs L J d m_216 (fun r G' => (∃ y : Int32, r = some (.int y)) ∧ z_IN th ax am G' sc sm) 0 (lv_args 0 [.ref am]) [] G := by
  obtain ⟨um, hum, rum⟩ := y_fint (i := 28) h.1 ta rfl
  refine ((h_265 th xs L J).gd (G := G) (d := d) m_216_ok (by omega) (v := (y_v [(am : Int), um.toInt])) (as := [.ref am]) (y_v_Bd (List.forall_mem_cons.mpr ⟨(y_cellB h.1 ta), (List.forall_mem_cons.mpr ⟨(x_i32 um), (fun _ h => absurd h List.not_mem_nil)⟩)⟩)) (List.forall_mem_cons.mpr ⟨(by simp only [xl_ev, xt_ev, y_v, List.getD_cons_succ, List.getD_cons_zero]; omega), (List.forall_mem_cons.mpr ⟨(by simp only [xl_ev, xt_ev, y_v, List.getD_cons_succ, List.getD_cons_zero]; omega), (fun _ h => absurd h List.not_mem_nil)⟩)⟩) ⟨⟨am, rfl, (by simp only [xl_ev, xt_ev, y_v, List.getD_cons_succ, List.getD_cons_zero]; omega), ta⟩, trivial⟩ (List.forall_mem_cons.mpr ⟨⟨am, (by simp only [xl_ev, xt_ev, y_v, List.getD_cons_succ, List.getD_cons_zero]; omega), ta, _, hum, um, rfl, (by simp only [xl_ev, xt_ev, y_v, List.getD_cons_succ, List.getD_cons_zero]; omega)⟩, (fun _ h => absurd h List.not_mem_nil)⟩) h.1 (fun z => by cases z)).mono (fun r G' h' => ?_)
  obtain ⟨v', -, -, hI', ef, p, hp, -, -, pa⟩ := h'
  obtain rfl : p = _ := List.mem_singleton.mp hp
  obtain ⟨y, rfl, -⟩ := y_pI pa
  exact ⟨⟨y, rfl⟩, h.eff tx ta hI' ef (by decide +kernel)⟩
def m_217 : pM := (⟨"BreathingHillModel", "letter", "(IIII)I"⟩, 1697, 5, some (FieldType.int), 17, 4, false, 10, 103, 1695, 1696)
set_option maxRecDepth 100000 in
theorem m_217_ok : pm_tab[217]? = some m_217 := rfl
theorem e_217 : ∀ q ∈ d_217, decode m_217.code q.1 = .ok (q.2.1, q.2.2) := y_dec d_217_ok m_217_ok
def m_104 : pM := (⟨"BreathingHill", "letter", "(IIII)I"⟩, 949, 5, some (FieldType.int), 0, 4, false, 9, 91, 947, 948)
set_option maxRecDepth 100000 in
theorem m_104_ok : pm_tab[104]? = some m_104 := rfl
theorem e_104 : ∀ q ∈ d_104, decode m_104.code q.1 = .ok (q.2.1, q.2.2) := y_dec d_104_ok m_104_ok
set_option maxHeartbeats 2000000 in
set_option maxRecDepth 100000 in
theorem b_letter (hd : 318 ≤ d) (tx : th[ax]? = some 9) (ta : th[am]? = some 10) (h : z_IN th ax am G sc sm) (x1 x2 x3 x4 : Int32) : x_Gd xs L J d m_104 (fun r G' => (∃ y : Int32, r = some (.int y)) ∧ z_IN th ax am G' sc sm) 0 (lv_args 0 [.ref ax, .int x1, .int x2, .int x3, .int x4]) [] G := by
  refine ((h_153 th xs L J).gd (G := G) (d := d) m_104_ok (by omega) (v := (y_v [(ax : Int), x1.toInt, x2.toInt, x3.toInt, x4.toInt])) (as := [.ref ax, .int x1, .int x2, .int x3, .int x4]) (y_v_Bd (List.forall_mem_cons.mpr ⟨(y_cellB h.1 tx), (List.forall_mem_cons.mpr ⟨(x_i32 x1), (List.forall_mem_cons.mpr ⟨(x_i32 x2), (List.forall_mem_cons.mpr ⟨(x_i32 x3), (List.forall_mem_cons.mpr ⟨(x_i32 x4), (fun _ h => absurd h List.not_mem_nil)⟩)⟩)⟩)⟩)⟩)) (fun _ h => absurd h List.not_mem_nil) ⟨⟨ax, rfl, (by simp only [xl_ev, xt_ev, y_v, List.getD_cons_succ, List.getD_cons_zero]; omega), tx⟩, ⟨x1, rfl, (by simp only [xl_ev, xt_ev, y_v, List.getD_cons_succ, List.getD_cons_zero]; omega)⟩, ⟨x2, rfl, (by simp only [xl_ev, xt_ev, y_v, List.getD_cons_succ, List.getD_cons_zero]; omega)⟩, ⟨x3, rfl, (by simp only [xl_ev, xt_ev, y_v, List.getD_cons_succ, List.getD_cons_zero]; omega)⟩, ⟨x4, rfl, (by simp only [xl_ev, xt_ev, y_v, List.getD_cons_succ, List.getD_cons_zero]; omega)⟩, trivial⟩ (fun q hq => absurd hq List.not_mem_nil) h.1 (fun z => by cases z)).mono (fun r G' h' => ?_)
  obtain ⟨v', -, -, hI', ef, p, hp, -, -, pa⟩ := h'
  obtain rfl : p = _ := List.mem_singleton.mp hp
  obtain ⟨y, rfl, -⟩ := y_pI pa
  exact ⟨⟨y, rfl⟩, h.eff tx ta hI' ef (by decide +kernel)⟩
set_option maxHeartbeats 2000000 in
set_option maxRecDepth 100000 in
theorem n_letter (hd : 318 ≤ d) (tx : th[ax]? = some 9) (ta : th[am]? = some 10) (h : z_IN th ax am G sc sm) (x1 x2 x3 x4 : Int32) : x_Gd xs L J d m_217 (fun r G' => (∃ y : Int32, r = some (.int y)) ∧ z_IN th ax am G' sc sm) 0 (lv_args 0 [.ref am, .int x1, .int x2, .int x3, .int x4]) [] G := by
  refine ((h_269 th xs L J).gd (G := G) (d := d) m_217_ok (by omega) (v := (y_v [(am : Int), x1.toInt, x2.toInt, x3.toInt, x4.toInt])) (as := [.ref am, .int x1, .int x2, .int x3, .int x4]) (y_v_Bd (List.forall_mem_cons.mpr ⟨(y_cellB h.1 ta), (List.forall_mem_cons.mpr ⟨(x_i32 x1), (List.forall_mem_cons.mpr ⟨(x_i32 x2), (List.forall_mem_cons.mpr ⟨(x_i32 x3), (List.forall_mem_cons.mpr ⟨(x_i32 x4), (fun _ h => absurd h List.not_mem_nil)⟩)⟩)⟩)⟩)⟩)) (fun _ h => absurd h List.not_mem_nil) ⟨⟨am, rfl, (by simp only [xl_ev, xt_ev, y_v, List.getD_cons_succ, List.getD_cons_zero]; omega), ta⟩, ⟨x1, rfl, (by simp only [xl_ev, xt_ev, y_v, List.getD_cons_succ, List.getD_cons_zero]; omega)⟩, ⟨x2, rfl, (by simp only [xl_ev, xt_ev, y_v, List.getD_cons_succ, List.getD_cons_zero]; omega)⟩, ⟨x3, rfl, (by simp only [xl_ev, xt_ev, y_v, List.getD_cons_succ, List.getD_cons_zero]; omega)⟩, ⟨x4, rfl, (by simp only [xl_ev, xt_ev, y_v, List.getD_cons_succ, List.getD_cons_zero]; omega)⟩, trivial⟩ (fun q hq => absurd hq List.not_mem_nil) h.1 (fun z => by cases z)).mono (fun r G' h' => ?_)
  obtain ⟨v', -, -, hI', ef, p, hp, -, -, pa⟩ := h'
  obtain rfl : p = _ := List.mem_singleton.mp hp
  obtain ⟨y, rfl, -⟩ := y_pI pa
  exact ⟨⟨y, rfl⟩, h.eff tx ta hI' ef (by decide +kernel)⟩
def m_219 : pM := (⟨"BreathingHillModel", "heaviest", "(IIII)I"⟩, 1705, 7, some (FieldType.int), 17, 4, false, 10, 103, 1703, 1704)
set_option maxRecDepth 100000 in
theorem m_219_ok : pm_tab[219]? = some m_219 := rfl
theorem e_219 : ∀ q ∈ d_219, decode m_219.code q.1 = .ok (q.2.1, q.2.2) := y_dec d_219_ok m_219_ok
def m_107 : pM := (⟨"BreathingHill", "heaviest", "(IIII)I"⟩, 963, 7, some (FieldType.int), 0, 4, false, 9, 91, 961, 962)
set_option maxRecDepth 100000 in
theorem m_107_ok : pm_tab[107]? = some m_107 := rfl
theorem e_107 : ∀ q ∈ d_107, decode m_107.code q.1 = .ok (q.2.1, q.2.2) := y_dec d_107_ok m_107_ok
set_option maxHeartbeats 2000000 in
set_option maxRecDepth 100000 in
theorem b_heaviest (hd : 318 ≤ d) (tx : th[ax]? = some 9) (ta : th[am]? = some 10) (h : z_IN th ax am G sc sm) (x1 x2 x3 x4 : Int32) : x_Gd xs L J d m_107 (fun r G' => (∃ y : Int32, r = some (.int y)) ∧ z_IN th ax am G' sc sm) 0 (lv_args 0 [.ref ax, .int x1, .int x2, .int x3, .int x4]) [] G := by
  refine ((h_154 th xs L J).gd (G := G) (d := d) m_107_ok (by omega) (v := (y_v [(ax : Int), x1.toInt, x2.toInt, x3.toInt, x4.toInt])) (as := [.ref ax, .int x1, .int x2, .int x3, .int x4]) (y_v_Bd (List.forall_mem_cons.mpr ⟨(y_cellB h.1 tx), (List.forall_mem_cons.mpr ⟨(x_i32 x1), (List.forall_mem_cons.mpr ⟨(x_i32 x2), (List.forall_mem_cons.mpr ⟨(x_i32 x3), (List.forall_mem_cons.mpr ⟨(x_i32 x4), (fun _ h => absurd h List.not_mem_nil)⟩)⟩)⟩)⟩)⟩)) (fun _ h => absurd h List.not_mem_nil) ⟨⟨ax, rfl, (by simp only [xl_ev, xt_ev, y_v, List.getD_cons_succ, List.getD_cons_zero]; omega), tx⟩, ⟨x1, rfl, (by simp only [xl_ev, xt_ev, y_v, List.getD_cons_succ, List.getD_cons_zero]; omega)⟩, ⟨x2, rfl, (by simp only [xl_ev, xt_ev, y_v, List.getD_cons_succ, List.getD_cons_zero]; omega)⟩, ⟨x3, rfl, (by simp only [xl_ev, xt_ev, y_v, List.getD_cons_succ, List.getD_cons_zero]; omega)⟩, ⟨x4, rfl, (by simp only [xl_ev, xt_ev, y_v, List.getD_cons_succ, List.getD_cons_zero]; omega)⟩, trivial⟩ (fun q hq => absurd hq List.not_mem_nil) h.1 (fun z => by cases z)).mono (fun r G' h' => ?_)
  obtain ⟨v', -, -, hI', ef, p, hp, -, -, pa⟩ := h'
  obtain rfl : p = _ := List.mem_singleton.mp hp
  obtain ⟨y, rfl, -⟩ := y_pI pa
  exact ⟨⟨y, rfl⟩, h.eff tx ta hI' ef (by decide +kernel)⟩
set_option maxHeartbeats 2000000 in
set_option maxRecDepth 100000 in
theorem n_heaviest (hd : 318 ≤ d) (tx : th[ax]? = some 9) (ta : th[am]? = some 10) (h : z_IN th ax am G sc sm) (x1 x2 x3 x4 : Int32) : x_Gd xs L J d m_219 (fun r G' => (∃ y : Int32, r = some (.int y)) ∧ z_IN th ax am G' sc sm) 0 (lv_args 0 [.ref am, .int x1, .int x2, .int x3, .int x4]) [] G := by
  refine ((h_270 th xs L J).gd (G := G) (d := d) m_219_ok (by omega) (v := (y_v [(am : Int), x1.toInt, x2.toInt, x3.toInt, x4.toInt])) (as := [.ref am, .int x1, .int x2, .int x3, .int x4]) (y_v_Bd (List.forall_mem_cons.mpr ⟨(y_cellB h.1 ta), (List.forall_mem_cons.mpr ⟨(x_i32 x1), (List.forall_mem_cons.mpr ⟨(x_i32 x2), (List.forall_mem_cons.mpr ⟨(x_i32 x3), (List.forall_mem_cons.mpr ⟨(x_i32 x4), (fun _ h => absurd h List.not_mem_nil)⟩)⟩)⟩)⟩)⟩)) (fun _ h => absurd h List.not_mem_nil) ⟨⟨am, rfl, (by simp only [xl_ev, xt_ev, y_v, List.getD_cons_succ, List.getD_cons_zero]; omega), ta⟩, ⟨x1, rfl, (by simp only [xl_ev, xt_ev, y_v, List.getD_cons_succ, List.getD_cons_zero]; omega)⟩, ⟨x2, rfl, (by simp only [xl_ev, xt_ev, y_v, List.getD_cons_succ, List.getD_cons_zero]; omega)⟩, ⟨x3, rfl, (by simp only [xl_ev, xt_ev, y_v, List.getD_cons_succ, List.getD_cons_zero]; omega)⟩, ⟨x4, rfl, (by simp only [xl_ev, xt_ev, y_v, List.getD_cons_succ, List.getD_cons_zero]; omega)⟩, trivial⟩ (fun q hq => absurd hq List.not_mem_nil) h.1 (fun z => by cases z)).mono (fun r G' h' => ?_)
  obtain ⟨v', -, -, hI', ef, p, hp, -, -, pa⟩ := h'
  obtain rfl : p = _ := List.mem_singleton.mp hp
  obtain ⟨y, rfl, -⟩ := y_pI pa
  exact ⟨⟨y, rfl⟩, h.eff tx ta hI' ef (by decide +kernel)⟩
def m_220 : pM := (⟨"BreathingHillModel", "best", "(III)I"⟩, 1709, 8, some (FieldType.int), 17, 3, false, 10, 103, 1707, 1708)
set_option maxRecDepth 100000 in
theorem m_220_ok : pm_tab[220]? = some m_220 := rfl
theorem e_220 : ∀ q ∈ d_220, decode m_220.code q.1 = .ok (q.2.1, q.2.2) := y_dec d_220_ok m_220_ok
def m_108 : pM := (⟨"BreathingHill", "best", "(III)I"⟩, 967, 9, some (FieldType.int), 0, 3, false, 9, 91, 965, 966)
set_option maxRecDepth 100000 in
theorem m_108_ok : pm_tab[108]? = some m_108 := rfl
theorem e_108 : ∀ q ∈ d_108, decode m_108.code q.1 = .ok (q.2.1, q.2.2) := y_dec d_108_ok m_108_ok
set_option maxHeartbeats 2000000 in
set_option maxRecDepth 100000 in
theorem b_best (hd : 318 ≤ d) (tx : th[ax]? = some 9) (ta : th[am]? = some 10) (h : z_IN th ax am G sc sm) (x1 x2 x3 : Int32) : x_Gd xs L J d m_108 (fun r G' => (∃ y : Int32, r = some (.int y)) ∧ z_IN th ax am G' sc sm) 0 (lv_args 0 [.ref ax, .int x1, .int x2, .int x3]) [] G := by
  refine ((h_155 th xs L J).gd (G := G) (d := d) m_108_ok (by omega) (v := (y_v [(ax : Int), x1.toInt, x2.toInt, x3.toInt])) (as := [.ref ax, .int x1, .int x2, .int x3]) (y_v_Bd (List.forall_mem_cons.mpr ⟨(y_cellB h.1 tx), (List.forall_mem_cons.mpr ⟨(x_i32 x1), (List.forall_mem_cons.mpr ⟨(x_i32 x2), (List.forall_mem_cons.mpr ⟨(x_i32 x3), (fun _ h => absurd h List.not_mem_nil)⟩)⟩)⟩)⟩)) (fun _ h => absurd h List.not_mem_nil) ⟨⟨ax, rfl, (by simp only [xl_ev, xt_ev, y_v, List.getD_cons_succ, List.getD_cons_zero]; omega), tx⟩, ⟨x1, rfl, (by simp only [xl_ev, xt_ev, y_v, List.getD_cons_succ, List.getD_cons_zero]; omega)⟩, ⟨x2, rfl, (by simp only [xl_ev, xt_ev, y_v, List.getD_cons_succ, List.getD_cons_zero]; omega)⟩, ⟨x3, rfl, (by simp only [xl_ev, xt_ev, y_v, List.getD_cons_succ, List.getD_cons_zero]; omega)⟩, trivial⟩ (fun q hq => absurd hq List.not_mem_nil) h.1 (fun z => by cases z)).mono (fun r G' h' => ?_)
  obtain ⟨v', -, -, hI', ef, p, hp, -, -, pa⟩ := h'
  obtain rfl : p = _ := List.mem_singleton.mp hp
  obtain ⟨y, rfl, -⟩ := y_pI pa
  exact ⟨⟨y, rfl⟩, h.eff tx ta hI' ef (by decide +kernel)⟩
set_option maxHeartbeats 2000000 in
set_option maxRecDepth 100000 in
theorem n_best (hd : 318 ≤ d) (tx : th[ax]? = some 9) (ta : th[am]? = some 10) (h : z_IN th ax am G sc sm) (x1 x2 x3 : Int32) : x_Gd xs L J d m_220 (fun r G' => (∃ y : Int32, r = some (.int y)) ∧ z_IN th ax am G' sc sm) 0 (lv_args 0 [.ref am, .int x1, .int x2, .int x3]) [] G := by
  refine ((h_271 th xs L J).gd (G := G) (d := d) m_220_ok (by omega) (v := (y_v [(am : Int), x1.toInt, x2.toInt, x3.toInt])) (as := [.ref am, .int x1, .int x2, .int x3]) (y_v_Bd (List.forall_mem_cons.mpr ⟨(y_cellB h.1 ta), (List.forall_mem_cons.mpr ⟨(x_i32 x1), (List.forall_mem_cons.mpr ⟨(x_i32 x2), (List.forall_mem_cons.mpr ⟨(x_i32 x3), (fun _ h => absurd h List.not_mem_nil)⟩)⟩)⟩)⟩)) (fun _ h => absurd h List.not_mem_nil) ⟨⟨am, rfl, (by simp only [xl_ev, xt_ev, y_v, List.getD_cons_succ, List.getD_cons_zero]; omega), ta⟩, ⟨x1, rfl, (by simp only [xl_ev, xt_ev, y_v, List.getD_cons_succ, List.getD_cons_zero]; omega)⟩, ⟨x2, rfl, (by simp only [xl_ev, xt_ev, y_v, List.getD_cons_succ, List.getD_cons_zero]; omega)⟩, ⟨x3, rfl, (by simp only [xl_ev, xt_ev, y_v, List.getD_cons_succ, List.getD_cons_zero]; omega)⟩, trivial⟩ (fun q hq => absurd hq List.not_mem_nil) h.1 (fun z => by cases z)).mono (fun r G' h' => ?_)
  obtain ⟨v', -, -, hI', ef, p, hp, -, -, pa⟩ := h'
  obtain rfl : p = _ := List.mem_singleton.mp hp
  obtain ⟨y, rfl, -⟩ := y_pI pa
  exact ⟨⟨y, rfl⟩, h.eff tx ta hI' ef (by decide +kernel)⟩
def m_221 : pM := (⟨"BreathingHillModel", "soonest", "(II)I"⟩, 1713, 3, some (FieldType.int), 17, 2, false, 10, 103, 1711, 1712)
set_option maxRecDepth 100000 in
theorem m_221_ok : pm_tab[221]? = some m_221 := rfl
theorem e_221 : ∀ q ∈ d_221, decode m_221.code q.1 = .ok (q.2.1, q.2.2) := y_dec d_221_ok m_221_ok
def m_109 : pM := (⟨"BreathingHill", "soonest", "(II)I"⟩, 971, 3, some (FieldType.int), 0, 2, false, 9, 91, 969, 970)
set_option maxRecDepth 100000 in
theorem m_109_ok : pm_tab[109]? = some m_109 := rfl
theorem e_109 : ∀ q ∈ d_109, decode m_109.code q.1 = .ok (q.2.1, q.2.2) := y_dec d_109_ok m_109_ok
set_option maxHeartbeats 2000000 in
set_option maxRecDepth 100000 in
theorem b_soonest (hd : 318 ≤ d) (tx : th[ax]? = some 9) (ta : th[am]? = some 10) (h : z_IN th ax am G sc sm) (x1 x2 : Int32) : x_Gd xs L J d m_109 (fun r G' => (∃ y : Int32, r = some (.int y)) ∧ z_IN th ax am G' sc sm) 0 (lv_args 0 [.ref ax, .int x1, .int x2]) [] G := by
  refine ((h_156 th xs L J).gd (G := G) (d := d) m_109_ok (by omega) (v := (y_v [(ax : Int), x1.toInt, x2.toInt])) (as := [.ref ax, .int x1, .int x2]) (y_v_Bd (List.forall_mem_cons.mpr ⟨(y_cellB h.1 tx), (List.forall_mem_cons.mpr ⟨(x_i32 x1), (List.forall_mem_cons.mpr ⟨(x_i32 x2), (fun _ h => absurd h List.not_mem_nil)⟩)⟩)⟩)) (fun _ h => absurd h List.not_mem_nil) ⟨⟨ax, rfl, (by simp only [xl_ev, xt_ev, y_v, List.getD_cons_succ, List.getD_cons_zero]; omega), tx⟩, ⟨x1, rfl, (by simp only [xl_ev, xt_ev, y_v, List.getD_cons_succ, List.getD_cons_zero]; omega)⟩, ⟨x2, rfl, (by simp only [xl_ev, xt_ev, y_v, List.getD_cons_succ, List.getD_cons_zero]; omega)⟩, trivial⟩ (fun q hq => absurd hq List.not_mem_nil) h.1 (fun z => by cases z)).mono (fun r G' h' => ?_)
  obtain ⟨v', -, -, hI', ef, p, hp, -, -, pa⟩ := h'
  obtain rfl : p = _ := List.mem_singleton.mp hp
  obtain ⟨y, rfl, -⟩ := y_pI pa
  exact ⟨⟨y, rfl⟩, h.eff tx ta hI' ef (by decide +kernel)⟩
set_option maxHeartbeats 2000000 in
set_option maxRecDepth 100000 in
theorem n_soonest (hd : 318 ≤ d) (tx : th[ax]? = some 9) (ta : th[am]? = some 10) (h : z_IN th ax am G sc sm) (x1 x2 : Int32) : x_Gd xs L J d m_221 (fun r G' => (∃ y : Int32, r = some (.int y)) ∧ z_IN th ax am G' sc sm) 0 (lv_args 0 [.ref am, .int x1, .int x2]) [] G := by
  refine ((h_272 th xs L J).gd (G := G) (d := d) m_221_ok (by omega) (v := (y_v [(am : Int), x1.toInt, x2.toInt])) (as := [.ref am, .int x1, .int x2]) (y_v_Bd (List.forall_mem_cons.mpr ⟨(y_cellB h.1 ta), (List.forall_mem_cons.mpr ⟨(x_i32 x1), (List.forall_mem_cons.mpr ⟨(x_i32 x2), (fun _ h => absurd h List.not_mem_nil)⟩)⟩)⟩)) (fun _ h => absurd h List.not_mem_nil) ⟨⟨am, rfl, (by simp only [xl_ev, xt_ev, y_v, List.getD_cons_succ, List.getD_cons_zero]; omega), ta⟩, ⟨x1, rfl, (by simp only [xl_ev, xt_ev, y_v, List.getD_cons_succ, List.getD_cons_zero]; omega)⟩, ⟨x2, rfl, (by simp only [xl_ev, xt_ev, y_v, List.getD_cons_succ, List.getD_cons_zero]; omega)⟩, trivial⟩ (fun q hq => absurd hq List.not_mem_nil) h.1 (fun z => by cases z)).mono (fun r G' h' => ?_)
  obtain ⟨v', -, -, hI', ef, p, hp, -, -, pa⟩ := h'
  obtain rfl : p = _ := List.mem_singleton.mp hp
  obtain ⟨y, rfl, -⟩ := y_pI pa
  exact ⟨⟨y, rfl⟩, h.eff tx ta hI' ef (by decide +kernel)⟩
def m_222 : pM := (⟨"BreathingHillModel", "reach", "(II)I"⟩, 1717, 5, some (FieldType.int), 17, 2, false, 10, 103, 1715, 1716)
set_option maxRecDepth 100000 in
theorem m_222_ok : pm_tab[222]? = some m_222 := rfl
theorem e_222 : ∀ q ∈ d_222, decode m_222.code q.1 = .ok (q.2.1, q.2.2) := y_dec d_222_ok m_222_ok
def m_110 : pM := (⟨"BreathingHill", "reach", "(II)I"⟩, 976, 8, some (FieldType.int), 0, 2, false, 9, 91, 974, 975)
set_option maxRecDepth 100000 in
theorem m_110_ok : pm_tab[110]? = some m_110 := rfl
theorem e_110 : ∀ q ∈ d_110, decode m_110.code q.1 = .ok (q.2.1, q.2.2) := y_dec d_110_ok m_110_ok
set_option maxHeartbeats 2000000 in
set_option maxRecDepth 100000 in
theorem b_reach (hd : 318 ≤ d) (tx : th[ax]? = some 9) (ta : th[am]? = some 10) (h : z_IN th ax am G sc sm) (x1 x2 : Int32) : x_Gd xs L J d m_110 (fun r G' => (∃ y : Int32, r = some (.int y)) ∧ z_IN th ax am G' sc sm) 0 (lv_args 0 [.ref ax, .int x1, .int x2]) [] G := by
  refine ((h_157 th xs L J).gd (G := G) (d := d) m_110_ok (by omega) (v := (y_v [(ax : Int), x1.toInt, x2.toInt])) (as := [.ref ax, .int x1, .int x2]) (y_v_Bd (List.forall_mem_cons.mpr ⟨(y_cellB h.1 tx), (List.forall_mem_cons.mpr ⟨(x_i32 x1), (List.forall_mem_cons.mpr ⟨(x_i32 x2), (fun _ h => absurd h List.not_mem_nil)⟩)⟩)⟩)) (fun _ h => absurd h List.not_mem_nil) ⟨⟨ax, rfl, (by simp only [xl_ev, xt_ev, y_v, List.getD_cons_succ, List.getD_cons_zero]; omega), tx⟩, ⟨x1, rfl, (by simp only [xl_ev, xt_ev, y_v, List.getD_cons_succ, List.getD_cons_zero]; omega)⟩, ⟨x2, rfl, (by simp only [xl_ev, xt_ev, y_v, List.getD_cons_succ, List.getD_cons_zero]; omega)⟩, trivial⟩ (fun q hq => absurd hq List.not_mem_nil) h.1 (fun z => by cases z)).mono (fun r G' h' => ?_)
  obtain ⟨v', -, -, hI', ef, p, hp, -, -, pa⟩ := h'
  obtain rfl : p = _ := List.mem_singleton.mp hp
  obtain ⟨y, rfl, -⟩ := y_pI pa
  exact ⟨⟨y, rfl⟩, h.eff tx ta hI' ef (by decide +kernel)⟩
set_option maxHeartbeats 2000000 in
set_option maxRecDepth 100000 in
theorem n_reach (hd : 318 ≤ d) (tx : th[ax]? = some 9) (ta : th[am]? = some 10) (h : z_IN th ax am G sc sm) (x1 x2 : Int32) : x_Gd xs L J d m_222 (fun r G' => (∃ y : Int32, r = some (.int y)) ∧ z_IN th ax am G' sc sm) 0 (lv_args 0 [.ref am, .int x1, .int x2]) [] G := by
  refine ((h_273 th xs L J).gd (G := G) (d := d) m_222_ok (by omega) (v := (y_v [(am : Int), x1.toInt, x2.toInt])) (as := [.ref am, .int x1, .int x2]) (y_v_Bd (List.forall_mem_cons.mpr ⟨(y_cellB h.1 ta), (List.forall_mem_cons.mpr ⟨(x_i32 x1), (List.forall_mem_cons.mpr ⟨(x_i32 x2), (fun _ h => absurd h List.not_mem_nil)⟩)⟩)⟩)) (fun _ h => absurd h List.not_mem_nil) ⟨⟨am, rfl, (by simp only [xl_ev, xt_ev, y_v, List.getD_cons_succ, List.getD_cons_zero]; omega), ta⟩, ⟨x1, rfl, (by simp only [xl_ev, xt_ev, y_v, List.getD_cons_succ, List.getD_cons_zero]; omega)⟩, ⟨x2, rfl, (by simp only [xl_ev, xt_ev, y_v, List.getD_cons_succ, List.getD_cons_zero]; omega)⟩, trivial⟩ (fun q hq => absurd hq List.not_mem_nil) h.1 (fun z => by cases z)).mono (fun r G' h' => ?_)
  obtain ⟨v', -, -, hI', ef, p, hp, -, -, pa⟩ := h'
  obtain rfl : p = _ := List.mem_singleton.mp hp
  obtain ⟨y, rfl, -⟩ := y_pI pa
  exact ⟨⟨y, rfl⟩, h.eff tx ta hI' ef (by decide +kernel)⟩
def m_223 : pM := (⟨"BreathingHillModel", "dry", "(III)I"⟩, 1721, 6, some (FieldType.int), 17, 3, false, 10, 103, 1719, 1720)
set_option maxRecDepth 100000 in
theorem m_223_ok : pm_tab[223]? = some m_223 := rfl
theorem e_223 : ∀ q ∈ d_223, decode m_223.code q.1 = .ok (q.2.1, q.2.2) := y_dec d_223_ok m_223_ok
def m_111 : pM := (⟨"BreathingHill", "dry", "(III)I"⟩, 981, 6, some (FieldType.int), 0, 3, false, 9, 91, 979, 980)
set_option maxRecDepth 100000 in
theorem m_111_ok : pm_tab[111]? = some m_111 := rfl
theorem e_111 : ∀ q ∈ d_111, decode m_111.code q.1 = .ok (q.2.1, q.2.2) := y_dec d_111_ok m_111_ok
set_option maxHeartbeats 2000000 in
set_option maxRecDepth 100000 in
theorem b_dry (hd : 318 ≤ d) (tx : th[ax]? = some 9) (ta : th[am]? = some 10) (h : z_IN th ax am G sc sm) (x1 x2 x3 : Int32) : x_Gd xs L J d m_111 (fun r G' => (∃ y : Int32, r = some (.int y)) ∧ z_IN th ax am G' sc sm) 0 (lv_args 0 [.ref ax, .int x1, .int x2, .int x3]) [] G := by
  refine ((h_158 th xs L J).gd (G := G) (d := d) m_111_ok (by omega) (v := (y_v [(ax : Int), x1.toInt, x2.toInt, x3.toInt])) (as := [.ref ax, .int x1, .int x2, .int x3]) (y_v_Bd (List.forall_mem_cons.mpr ⟨(y_cellB h.1 tx), (List.forall_mem_cons.mpr ⟨(x_i32 x1), (List.forall_mem_cons.mpr ⟨(x_i32 x2), (List.forall_mem_cons.mpr ⟨(x_i32 x3), (fun _ h => absurd h List.not_mem_nil)⟩)⟩)⟩)⟩)) (fun _ h => absurd h List.not_mem_nil) ⟨⟨ax, rfl, (by simp only [xl_ev, xt_ev, y_v, List.getD_cons_succ, List.getD_cons_zero]; omega), tx⟩, ⟨x1, rfl, (by simp only [xl_ev, xt_ev, y_v, List.getD_cons_succ, List.getD_cons_zero]; omega)⟩, ⟨x2, rfl, (by simp only [xl_ev, xt_ev, y_v, List.getD_cons_succ, List.getD_cons_zero]; omega)⟩, ⟨x3, rfl, (by simp only [xl_ev, xt_ev, y_v, List.getD_cons_succ, List.getD_cons_zero]; omega)⟩, trivial⟩ (fun q hq => absurd hq List.not_mem_nil) h.1 (fun z => by cases z)).mono (fun r G' h' => ?_)
  obtain ⟨v', -, -, hI', ef, p, hp, -, -, pa⟩ := h'
  obtain rfl : p = _ := List.mem_singleton.mp hp
  obtain ⟨y, rfl, -⟩ := y_pI pa
  exact ⟨⟨y, rfl⟩, h.eff tx ta hI' ef (by decide +kernel)⟩
set_option maxHeartbeats 2000000 in
set_option maxRecDepth 100000 in
theorem n_dry (hd : 318 ≤ d) (tx : th[ax]? = some 9) (ta : th[am]? = some 10) (h : z_IN th ax am G sc sm) (x1 x2 x3 : Int32) : x_Gd xs L J d m_223 (fun r G' => (∃ y : Int32, r = some (.int y)) ∧ z_IN th ax am G' sc sm) 0 (lv_args 0 [.ref am, .int x1, .int x2, .int x3]) [] G := by
  refine ((h_274 th xs L J).gd (G := G) (d := d) m_223_ok (by omega) (v := (y_v [(am : Int), x1.toInt, x2.toInt, x3.toInt])) (as := [.ref am, .int x1, .int x2, .int x3]) (y_v_Bd (List.forall_mem_cons.mpr ⟨(y_cellB h.1 ta), (List.forall_mem_cons.mpr ⟨(x_i32 x1), (List.forall_mem_cons.mpr ⟨(x_i32 x2), (List.forall_mem_cons.mpr ⟨(x_i32 x3), (fun _ h => absurd h List.not_mem_nil)⟩)⟩)⟩)⟩)) (fun _ h => absurd h List.not_mem_nil) ⟨⟨am, rfl, (by simp only [xl_ev, xt_ev, y_v, List.getD_cons_succ, List.getD_cons_zero]; omega), ta⟩, ⟨x1, rfl, (by simp only [xl_ev, xt_ev, y_v, List.getD_cons_succ, List.getD_cons_zero]; omega)⟩, ⟨x2, rfl, (by simp only [xl_ev, xt_ev, y_v, List.getD_cons_succ, List.getD_cons_zero]; omega)⟩, ⟨x3, rfl, (by simp only [xl_ev, xt_ev, y_v, List.getD_cons_succ, List.getD_cons_zero]; omega)⟩, trivial⟩ (fun q hq => absurd hq List.not_mem_nil) h.1 (fun z => by cases z)).mono (fun r G' h' => ?_)
  obtain ⟨v', -, -, hI', ef, p, hp, -, -, pa⟩ := h'
  obtain rfl : p = _ := List.mem_singleton.mp hp
  obtain ⟨y, rfl, -⟩ := y_pI pa
  exact ⟨⟨y, rfl⟩, h.eff tx ta hI' ef (by decide +kernel)⟩
def m_227 : pM := (⟨"BreathingHillModel", "ties", "(II)I"⟩, 1737, 6, some (FieldType.int), 17, 2, false, 10, 103, 1735, 1736)
set_option maxRecDepth 100000 in
theorem m_227_ok : pm_tab[227]? = some m_227 := rfl
theorem e_227 : ∀ q ∈ d_227, decode m_227.code q.1 = .ok (q.2.1, q.2.2) := y_dec d_227_ok m_227_ok
def m_115 : pM := (⟨"BreathingHill", "ties", "(II)I"⟩, 998, 6, some (FieldType.int), 0, 2, false, 9, 91, 996, 997)
set_option maxRecDepth 100000 in
theorem m_115_ok : pm_tab[115]? = some m_115 := rfl
theorem e_115 : ∀ q ∈ d_115, decode m_115.code q.1 = .ok (q.2.1, q.2.2) := y_dec d_115_ok m_115_ok
set_option maxHeartbeats 2000000 in
set_option maxRecDepth 100000 in
theorem b_ties (hd : 318 ≤ d) (tx : th[ax]? = some 9) (ta : th[am]? = some 10) (h : z_IN th ax am G sc sm) (x1 x2 : Int32) : x_Gd xs L J d m_115 (fun r G' => (∃ y : Int32, r = some (.int y)) ∧ z_IN th ax am G' sc sm) 0 (lv_args 0 [.ref ax, .int x1, .int x2]) [] G := by
  refine ((h_161 th xs L J).gd (G := G) (d := d) m_115_ok (by omega) (v := (y_v [(ax : Int), x1.toInt, x2.toInt])) (as := [.ref ax, .int x1, .int x2]) (y_v_Bd (List.forall_mem_cons.mpr ⟨(y_cellB h.1 tx), (List.forall_mem_cons.mpr ⟨(x_i32 x1), (List.forall_mem_cons.mpr ⟨(x_i32 x2), (fun _ h => absurd h List.not_mem_nil)⟩)⟩)⟩)) (fun _ h => absurd h List.not_mem_nil) ⟨⟨ax, rfl, (by simp only [xl_ev, xt_ev, y_v, List.getD_cons_succ, List.getD_cons_zero]; omega), tx⟩, ⟨x1, rfl, (by simp only [xl_ev, xt_ev, y_v, List.getD_cons_succ, List.getD_cons_zero]; omega)⟩, ⟨x2, rfl, (by simp only [xl_ev, xt_ev, y_v, List.getD_cons_succ, List.getD_cons_zero]; omega)⟩, trivial⟩ (fun q hq => absurd hq List.not_mem_nil) h.1 (fun z => by cases z)).mono (fun r G' h' => ?_)
  obtain ⟨v', -, -, hI', ef, p, hp, -, -, pa⟩ := h'
  obtain rfl : p = _ := List.mem_singleton.mp hp
  obtain ⟨y, rfl, -⟩ := y_pI pa
  exact ⟨⟨y, rfl⟩, h.eff tx ta hI' ef (by decide +kernel)⟩
set_option maxHeartbeats 2000000 in
set_option maxRecDepth 100000 in
theorem n_ties (hd : 318 ≤ d) (tx : th[ax]? = some 9) (ta : th[am]? = some 10) (h : z_IN th ax am G sc sm) (x1 x2 : Int32) : x_Gd xs L J d m_227 (fun r G' => (∃ y : Int32, r = some (.int y)) ∧ z_IN th ax am G' sc sm) 0 (lv_args 0 [.ref am, .int x1, .int x2]) [] G := by
  refine ((h_276 th xs L J).gd (G := G) (d := d) m_227_ok (by omega) (v := (y_v [(am : Int), x1.toInt, x2.toInt])) (as := [.ref am, .int x1, .int x2]) (y_v_Bd (List.forall_mem_cons.mpr ⟨(y_cellB h.1 ta), (List.forall_mem_cons.mpr ⟨(x_i32 x1), (List.forall_mem_cons.mpr ⟨(x_i32 x2), (fun _ h => absurd h List.not_mem_nil)⟩)⟩)⟩)) (fun _ h => absurd h List.not_mem_nil) ⟨⟨am, rfl, (by simp only [xl_ev, xt_ev, y_v, List.getD_cons_succ, List.getD_cons_zero]; omega), ta⟩, ⟨x1, rfl, (by simp only [xl_ev, xt_ev, y_v, List.getD_cons_succ, List.getD_cons_zero]; omega)⟩, ⟨x2, rfl, (by simp only [xl_ev, xt_ev, y_v, List.getD_cons_succ, List.getD_cons_zero]; omega)⟩, trivial⟩ (fun q hq => absurd hq List.not_mem_nil) h.1 (fun _ => h.2.1.2.1)).mono (fun r G' h' => ?_)
  obtain ⟨v', -, -, hI', ef, p, hp, -, -, pa⟩ := h'
  obtain rfl : p = _ := List.mem_singleton.mp hp
  obtain ⟨y, rfl, -⟩ := y_pI pa
  exact ⟨⟨y, rfl⟩, h.eff tx ta hI' ef (by decide +kernel)⟩
def m_229 : pM := (⟨"BreathingHillModel", "turn", "(I)I"⟩, 1745, 4, some (FieldType.int), 17, 1, false, 10, 103, 1743, 1744)
set_option maxRecDepth 100000 in
theorem m_229_ok : pm_tab[229]? = some m_229 := rfl
theorem e_229 : ∀ q ∈ d_229, decode m_229.code q.1 = .ok (q.2.1, q.2.2) := y_dec d_229_ok m_229_ok
def m_118 : pM := (⟨"BreathingHill", "turn", "(I)I"⟩, 1011, 4, some (FieldType.int), 0, 1, false, 9, 91, 1009, 1010)
set_option maxRecDepth 100000 in
theorem m_118_ok : pm_tab[118]? = some m_118 := rfl
theorem e_118 : ∀ q ∈ d_118, decode m_118.code q.1 = .ok (q.2.1, q.2.2) := y_dec d_118_ok m_118_ok
set_option maxHeartbeats 2000000 in
set_option maxRecDepth 100000 in
theorem b_turn (hd : 318 ≤ d) (tx : th[ax]? = some 9) (ta : th[am]? = some 10) (h : z_IN th ax am G sc sm) (x1 : Int32) : x_Gd xs L J d m_118 (fun r G' => (∃ y : Int32, r = some (.int y)) ∧ z_IN th ax am G' sc sm) 0 (lv_args 0 [.ref ax, .int x1]) [] G := by
  refine ((h_162 th xs L J).gd (G := G) (d := d) m_118_ok (by omega) (v := (y_v [(ax : Int), x1.toInt])) (as := [.ref ax, .int x1]) (y_v_Bd (List.forall_mem_cons.mpr ⟨(y_cellB h.1 tx), (List.forall_mem_cons.mpr ⟨(x_i32 x1), (fun _ h => absurd h List.not_mem_nil)⟩)⟩)) (fun _ h => absurd h List.not_mem_nil) ⟨⟨ax, rfl, (by simp only [xl_ev, xt_ev, y_v, List.getD_cons_succ, List.getD_cons_zero]; omega), tx⟩, ⟨x1, rfl, (by simp only [xl_ev, xt_ev, y_v, List.getD_cons_succ, List.getD_cons_zero]; omega)⟩, trivial⟩ (fun q hq => absurd hq List.not_mem_nil) h.1 (fun z => by cases z)).mono (fun r G' h' => ?_)
  obtain ⟨v', -, -, hI', ef, p, hp, -, -, pa⟩ := h'
  obtain rfl : p = _ := List.mem_singleton.mp hp
  obtain ⟨y, rfl, -⟩ := y_pI pa
  exact ⟨⟨y, rfl⟩, h.eff tx ta hI' ef (by decide +kernel)⟩
set_option maxHeartbeats 2000000 in
set_option maxRecDepth 100000 in
theorem n_turn (hd : 318 ≤ d) (tx : th[ax]? = some 9) (ta : th[am]? = some 10) (h : z_IN th ax am G sc sm) (x1 : Int32) : x_Gd xs L J d m_229 (fun r G' => (∃ y : Int32, r = some (.int y)) ∧ z_IN th ax am G' sc sm) 0 (lv_args 0 [.ref am, .int x1]) [] G := by
  refine ((h_277 th xs L J).gd (G := G) (d := d) m_229_ok (by omega) (v := (y_v [(am : Int), x1.toInt])) (as := [.ref am, .int x1]) (y_v_Bd (List.forall_mem_cons.mpr ⟨(y_cellB h.1 ta), (List.forall_mem_cons.mpr ⟨(x_i32 x1), (fun _ h => absurd h List.not_mem_nil)⟩)⟩)) (fun _ h => absurd h List.not_mem_nil) ⟨⟨am, rfl, (by simp only [xl_ev, xt_ev, y_v, List.getD_cons_succ, List.getD_cons_zero]; omega), ta⟩, ⟨x1, rfl, (by simp only [xl_ev, xt_ev, y_v, List.getD_cons_succ, List.getD_cons_zero]; omega)⟩, trivial⟩ (fun q hq => absurd hq List.not_mem_nil) h.1 (fun z => by cases z)).mono (fun r G' h' => ?_)
  obtain ⟨v', -, -, hI', ef, p, hp, -, -, pa⟩ := h'
  obtain rfl : p = _ := List.mem_singleton.mp hp
  obtain ⟨y, rfl, -⟩ := y_pI pa
  exact ⟨⟨y, rfl⟩, h.eff tx ta hI' ef (by decide +kernel)⟩
def m_230 : pM := (⟨"BreathingHillModel", "guard", "(I)I"⟩, 1749, 7, some (FieldType.int), 17, 1, false, 10, 103, 1747, 1748)
set_option maxRecDepth 100000 in
theorem m_230_ok : pm_tab[230]? = some m_230 := rfl
theorem e_230 : ∀ q ∈ d_230, decode m_230.code q.1 = .ok (q.2.1, q.2.2) := y_dec d_230_ok m_230_ok
def m_119 : pM := (⟨"BreathingHill", "guard", "(I)I"⟩, 1015, 7, some (FieldType.int), 0, 1, false, 9, 91, 1013, 1014)
set_option maxRecDepth 100000 in
theorem m_119_ok : pm_tab[119]? = some m_119 := rfl
theorem e_119 : ∀ q ∈ d_119, decode m_119.code q.1 = .ok (q.2.1, q.2.2) := y_dec d_119_ok m_119_ok
set_option maxHeartbeats 2000000 in
set_option maxRecDepth 100000 in
theorem b_guard (hd : 318 ≤ d) (tx : th[ax]? = some 9) (ta : th[am]? = some 10) (h : z_IN th ax am G sc sm) (x1 : Int32) : x_Gd xs L J d m_119 (fun r G' => (∃ y : Int32, r = some (.int y)) ∧ z_IN th ax am G' sc sm) 0 (lv_args 0 [.ref ax, .int x1]) [] G := by
  refine ((h_163 th xs L J).gd (G := G) (d := d) m_119_ok (by omega) (v := (y_v [(ax : Int), x1.toInt])) (as := [.ref ax, .int x1]) (y_v_Bd (List.forall_mem_cons.mpr ⟨(y_cellB h.1 tx), (List.forall_mem_cons.mpr ⟨(x_i32 x1), (fun _ h => absurd h List.not_mem_nil)⟩)⟩)) (fun _ h => absurd h List.not_mem_nil) ⟨⟨ax, rfl, (by simp only [xl_ev, xt_ev, y_v, List.getD_cons_succ, List.getD_cons_zero]; omega), tx⟩, ⟨x1, rfl, (by simp only [xl_ev, xt_ev, y_v, List.getD_cons_succ, List.getD_cons_zero]; omega)⟩, trivial⟩ (fun q hq => absurd hq List.not_mem_nil) h.1 (fun z => by cases z)).mono (fun r G' h' => ?_)
  obtain ⟨v', -, -, hI', ef, p, hp, -, -, pa⟩ := h'
  obtain rfl : p = _ := List.mem_singleton.mp hp
  obtain ⟨y, rfl, -⟩ := y_pI pa
  exact ⟨⟨y, rfl⟩, h.eff tx ta hI' ef (by decide +kernel)⟩
set_option maxHeartbeats 2000000 in
set_option maxRecDepth 100000 in
theorem n_guard (hd : 318 ≤ d) (tx : th[ax]? = some 9) (ta : th[am]? = some 10) (h : z_IN th ax am G sc sm) (x1 : Int32) : x_Gd xs L J d m_230 (fun r G' => (∃ y : Int32, r = some (.int y)) ∧ z_IN th ax am G' sc sm) 0 (lv_args 0 [.ref am, .int x1]) [] G := by
  refine ((h_278 th xs L J).gd (G := G) (d := d) m_230_ok (by omega) (v := (y_v [(am : Int), x1.toInt])) (as := [.ref am, .int x1]) (y_v_Bd (List.forall_mem_cons.mpr ⟨(y_cellB h.1 ta), (List.forall_mem_cons.mpr ⟨(x_i32 x1), (fun _ h => absurd h List.not_mem_nil)⟩)⟩)) (fun _ h => absurd h List.not_mem_nil) ⟨⟨am, rfl, (by simp only [xl_ev, xt_ev, y_v, List.getD_cons_succ, List.getD_cons_zero]; omega), ta⟩, ⟨x1, rfl, (by simp only [xl_ev, xt_ev, y_v, List.getD_cons_succ, List.getD_cons_zero]; omega)⟩, trivial⟩ (fun q hq => absurd hq List.not_mem_nil) h.1 (fun z => by cases z)).mono (fun r G' h' => ?_)
  obtain ⟨v', -, -, hI', ef, p, hp, -, -, pa⟩ := h'
  obtain rfl : p = _ := List.mem_singleton.mp hp
  obtain ⟨y, rfl, -⟩ := y_pI pa
  exact ⟨⟨y, rfl⟩, h.eff tx ta hI' ef (by decide +kernel)⟩
def m_231 : pM := (⟨"BreathingHillModel", "prices", "()I"⟩, 1753, 5, some (FieldType.int), 17, 0, false, 10, 103, 1751, 1752)
set_option maxRecDepth 100000 in
theorem m_231_ok : pm_tab[231]? = some m_231 := rfl
theorem e_231 : ∀ q ∈ d_231, decode m_231.code q.1 = .ok (q.2.1, q.2.2) := y_dec d_231_ok m_231_ok
def m_121 : pM := (⟨"BreathingHill", "prices", "()I"⟩, 1024, 3, some (FieldType.int), 0, 0, false, 9, 91, 1022, 1023)
set_option maxRecDepth 100000 in
theorem m_121_ok : pm_tab[121]? = some m_121 := rfl
theorem e_121 : ∀ q ∈ d_121, decode m_121.code q.1 = .ok (q.2.1, q.2.2) := y_dec d_121_ok m_121_ok
set_option maxHeartbeats 2000000 in
set_option maxRecDepth 100000 in
theorem b_prices (hd : 318 ≤ d) (tx : th[ax]? = some 9) (ta : th[am]? = some 10) (h : z_IN th ax am G sc sm)  : x_Gd xs L J d m_121 (fun r G' => (∃ y : Int32, r = some (.int y)) ∧ z_IN th ax am G' sc sm) 0 (lv_args 0 [.ref ax]) [] G := by
  refine ((h_164 th xs L J).gd (G := G) (d := d) m_121_ok (by omega) (v := (y_v [(ax : Int)])) (as := [.ref ax]) (y_v_Bd (List.forall_mem_cons.mpr ⟨(y_cellB h.1 tx), (fun _ h => absurd h List.not_mem_nil)⟩)) (fun _ h => absurd h List.not_mem_nil) ⟨⟨ax, rfl, (by simp only [xl_ev, xt_ev, y_v, List.getD_cons_succ, List.getD_cons_zero]; omega), tx⟩, trivial⟩ (fun q hq => absurd hq List.not_mem_nil) h.1 (fun z => by cases z)).mono (fun r G' h' => ?_)
  obtain ⟨v', -, -, hI', ef, p, hp, -, -, pa⟩ := h'
  obtain rfl : p = _ := List.mem_singleton.mp hp
  obtain ⟨y, rfl, -⟩ := y_pI pa
  exact ⟨⟨y, rfl⟩, h.eff tx ta hI' ef (by decide +kernel)⟩
set_option maxHeartbeats 2000000 in
set_option maxRecDepth 100000 in
theorem n_prices (hd : 318 ≤ d) (tx : th[ax]? = some 9) (ta : th[am]? = some 10) (h : z_IN th ax am G sc sm)  : x_Gd xs L J d m_231 (fun r G' => (∃ y : Int32, r = some (.int y)) ∧ z_IN th ax am G' sc sm) 0 (lv_args 0 [.ref am]) [] G := by
  refine ((h_279 th xs L J).gd (G := G) (d := d) m_231_ok (by omega) (v := (y_v [(am : Int)])) (as := [.ref am]) (y_v_Bd (List.forall_mem_cons.mpr ⟨(y_cellB h.1 ta), (fun _ h => absurd h List.not_mem_nil)⟩)) (fun _ h => absurd h List.not_mem_nil) ⟨⟨am, rfl, (by simp only [xl_ev, xt_ev, y_v, List.getD_cons_succ, List.getD_cons_zero]; omega), ta⟩, trivial⟩ (fun q hq => absurd hq List.not_mem_nil) h.1 (fun _ => h.2.1.2.1)).mono (fun r G' h' => ?_)
  obtain ⟨v', -, -, hI', ef, p, hp, -, -, pa⟩ := h'
  obtain rfl : p = _ := List.mem_singleton.mp hp
  obtain ⟨y, rfl, -⟩ := y_pI pa
  exact ⟨⟨y, rfl⟩, h.eff tx ta hI' ef (by decide +kernel)⟩
def m_235 : pM := (⟨"BreathingHillModel", "price", "(I)I"⟩, 1768, 2, some (FieldType.int), 17, 1, false, 10, 103, 1766, 1767)
set_option maxRecDepth 100000 in
theorem m_235_ok : pm_tab[235]? = some m_235 := rfl
theorem e_235 : ∀ q ∈ d_235, decode m_235.code q.1 = .ok (q.2.1, q.2.2) := y_dec d_235_ok m_235_ok
def m_123 : pM := (⟨"BreathingHill", "price", "(I)I"⟩, 1034, 2, some (FieldType.int), 0, 1, false, 9, 91, 1032, 1033)
set_option maxRecDepth 100000 in
theorem m_123_ok : pm_tab[123]? = some m_123 := rfl
theorem e_123 : ∀ q ∈ d_123, decode m_123.code q.1 = .ok (q.2.1, q.2.2) := y_dec d_123_ok m_123_ok
set_option maxHeartbeats 2000000 in
set_option maxRecDepth 100000 in
theorem b_price (hd : 318 ≤ d) (tx : th[ax]? = some 9) (ta : th[am]? = some 10) (h : z_IN th ax am G sc sm) (x1 : Int32) : x_Gd xs L J d m_123 (fun r G' => (∃ y : Int32, r = some (.int y)) ∧ z_IN th ax am G' sc sm) 0 (lv_args 0 [.ref ax, .int x1]) [] G := by
  refine ((h_165 th xs L J).gd (G := G) (d := d) m_123_ok (by omega) (v := (y_v [(ax : Int), x1.toInt])) (as := [.ref ax, .int x1]) (y_v_Bd (List.forall_mem_cons.mpr ⟨(y_cellB h.1 tx), (List.forall_mem_cons.mpr ⟨(x_i32 x1), (fun _ h => absurd h List.not_mem_nil)⟩)⟩)) (fun _ h => absurd h List.not_mem_nil) ⟨⟨ax, rfl, (by simp only [xl_ev, xt_ev, y_v, List.getD_cons_succ, List.getD_cons_zero]; omega), tx⟩, ⟨x1, rfl, (by simp only [xl_ev, xt_ev, y_v, List.getD_cons_succ, List.getD_cons_zero]; omega)⟩, trivial⟩ (fun q hq => absurd hq List.not_mem_nil) h.1 (fun z => by cases z)).mono (fun r G' h' => ?_)
  obtain ⟨v', -, -, hI', ef, p, hp, -, -, pa⟩ := h'
  obtain rfl : p = _ := List.mem_singleton.mp hp
  obtain ⟨y, rfl, -⟩ := y_pI pa
  exact ⟨⟨y, rfl⟩, h.eff tx ta hI' ef (by decide +kernel)⟩
set_option maxHeartbeats 2000000 in
set_option maxRecDepth 100000 in
theorem n_price (hd : 318 ≤ d) (tx : th[ax]? = some 9) (ta : th[am]? = some 10) (h : z_IN th ax am G sc sm) (x1 : Int32) : x_Gd xs L J d m_235 (fun r G' => (∃ y : Int32, r = some (.int y)) ∧ z_IN th ax am G' sc sm) 0 (lv_args 0 [.ref am, .int x1]) [] G := by
  refine ((h_280 th xs L J).gd (G := G) (d := d) m_235_ok (by omega) (v := (y_v [(am : Int), x1.toInt])) (as := [.ref am, .int x1]) (y_v_Bd (List.forall_mem_cons.mpr ⟨(y_cellB h.1 ta), (List.forall_mem_cons.mpr ⟨(x_i32 x1), (fun _ h => absurd h List.not_mem_nil)⟩)⟩)) (fun _ h => absurd h List.not_mem_nil) ⟨⟨am, rfl, (by simp only [xl_ev, xt_ev, y_v, List.getD_cons_succ, List.getD_cons_zero]; omega), ta⟩, ⟨x1, rfl, (by simp only [xl_ev, xt_ev, y_v, List.getD_cons_succ, List.getD_cons_zero]; omega)⟩, trivial⟩ (fun q hq => absurd hq List.not_mem_nil) h.1 (fun z => by cases z)).mono (fun r G' h' => ?_)
  obtain ⟨v', -, -, hI', ef, p, hp, -, -, pa⟩ := h'
  obtain rfl : p = _ := List.mem_singleton.mp hp
  obtain ⟨y, rfl, -⟩ := y_pI pa
  exact ⟨⟨y, rfl⟩, h.eff tx ta hI' ef (by decide +kernel)⟩
def m_236 : pM := (⟨"BreathingHillModel", "later", "(II)I"⟩, 1772, 4, some (FieldType.int), 17, 2, false, 10, 103, 1770, 1771)
set_option maxRecDepth 100000 in
theorem m_236_ok : pm_tab[236]? = some m_236 := rfl
theorem e_236 : ∀ q ∈ d_236, decode m_236.code q.1 = .ok (q.2.1, q.2.2) := y_dec d_236_ok m_236_ok
def m_124 : pM := (⟨"BreathingHill", "later", "(II)I"⟩, 1038, 4, some (FieldType.int), 0, 2, false, 9, 91, 1036, 1037)
set_option maxRecDepth 100000 in
theorem m_124_ok : pm_tab[124]? = some m_124 := rfl
theorem e_124 : ∀ q ∈ d_124, decode m_124.code q.1 = .ok (q.2.1, q.2.2) := y_dec d_124_ok m_124_ok
set_option maxHeartbeats 2000000 in
set_option maxRecDepth 100000 in
theorem b_later (hd : 318 ≤ d) (tx : th[ax]? = some 9) (ta : th[am]? = some 10) (h : z_IN th ax am G sc sm) (x1 x2 : Int32) : x_Gd xs L J d m_124 (fun r G' => (∃ y : Int32, r = some (.int y)) ∧ z_IN th ax am G' sc sm) 0 (lv_args 0 [.ref ax, .int x1, .int x2]) [] G := by
  refine ((h_166 th xs L J).gd (G := G) (d := d) m_124_ok (by omega) (v := (y_v [(ax : Int), x1.toInt, x2.toInt])) (as := [.ref ax, .int x1, .int x2]) (y_v_Bd (List.forall_mem_cons.mpr ⟨(y_cellB h.1 tx), (List.forall_mem_cons.mpr ⟨(x_i32 x1), (List.forall_mem_cons.mpr ⟨(x_i32 x2), (fun _ h => absurd h List.not_mem_nil)⟩)⟩)⟩)) (fun _ h => absurd h List.not_mem_nil) ⟨⟨ax, rfl, (by simp only [xl_ev, xt_ev, y_v, List.getD_cons_succ, List.getD_cons_zero]; omega), tx⟩, ⟨x1, rfl, (by simp only [xl_ev, xt_ev, y_v, List.getD_cons_succ, List.getD_cons_zero]; omega)⟩, ⟨x2, rfl, (by simp only [xl_ev, xt_ev, y_v, List.getD_cons_succ, List.getD_cons_zero]; omega)⟩, trivial⟩ (fun q hq => absurd hq List.not_mem_nil) h.1 (fun z => by cases z)).mono (fun r G' h' => ?_)
  obtain ⟨v', -, -, hI', ef, p, hp, -, -, pa⟩ := h'
  obtain rfl : p = _ := List.mem_singleton.mp hp
  obtain ⟨y, rfl, -⟩ := y_pI pa
  exact ⟨⟨y, rfl⟩, h.eff tx ta hI' ef (by decide +kernel)⟩
set_option maxHeartbeats 2000000 in
set_option maxRecDepth 100000 in
theorem n_later (hd : 318 ≤ d) (tx : th[ax]? = some 9) (ta : th[am]? = some 10) (h : z_IN th ax am G sc sm) (x1 x2 : Int32) : x_Gd xs L J d m_236 (fun r G' => (∃ y : Int32, r = some (.int y)) ∧ z_IN th ax am G' sc sm) 0 (lv_args 0 [.ref am, .int x1, .int x2]) [] G := by
  refine ((h_281 th xs L J).gd (G := G) (d := d) m_236_ok (by omega) (v := (y_v [(am : Int), x1.toInt, x2.toInt])) (as := [.ref am, .int x1, .int x2]) (y_v_Bd (List.forall_mem_cons.mpr ⟨(y_cellB h.1 ta), (List.forall_mem_cons.mpr ⟨(x_i32 x1), (List.forall_mem_cons.mpr ⟨(x_i32 x2), (fun _ h => absurd h List.not_mem_nil)⟩)⟩)⟩)) (fun _ h => absurd h List.not_mem_nil) ⟨⟨am, rfl, (by simp only [xl_ev, xt_ev, y_v, List.getD_cons_succ, List.getD_cons_zero]; omega), ta⟩, ⟨x1, rfl, (by simp only [xl_ev, xt_ev, y_v, List.getD_cons_succ, List.getD_cons_zero]; omega)⟩, ⟨x2, rfl, (by simp only [xl_ev, xt_ev, y_v, List.getD_cons_succ, List.getD_cons_zero]; omega)⟩, trivial⟩ (fun q hq => absurd hq List.not_mem_nil) h.1 (fun _ => h.2.1.2.1)).mono (fun r G' h' => ?_)
  obtain ⟨v', -, -, hI', ef, p, hp, -, -, pa⟩ := h'
  obtain rfl : p = _ := List.mem_singleton.mp hp
  obtain ⟨y, rfl, -⟩ := y_pI pa
  exact ⟨⟨y, rfl⟩, h.eff tx ta hI' ef (by decide +kernel)⟩
def m_237 : pM := (⟨"BreathingHillModel", "meet", "(II)I"⟩, 1776, 5, some (FieldType.int), 17, 2, false, 10, 103, 1774, 1775)
set_option maxRecDepth 100000 in
theorem m_237_ok : pm_tab[237]? = some m_237 := rfl
theorem e_237 : ∀ q ∈ d_237, decode m_237.code q.1 = .ok (q.2.1, q.2.2) := y_dec d_237_ok m_237_ok
def m_125 : pM := (⟨"BreathingHill", "meet", "(II)I"⟩, 1042, 4, some (FieldType.int), 0, 2, false, 9, 91, 1040, 1041)
set_option maxRecDepth 100000 in
theorem m_125_ok : pm_tab[125]? = some m_125 := rfl
theorem e_125 : ∀ q ∈ d_125, decode m_125.code q.1 = .ok (q.2.1, q.2.2) := y_dec d_125_ok m_125_ok
set_option maxHeartbeats 2000000 in
set_option maxRecDepth 100000 in
theorem b_meet (hd : 318 ≤ d) (tx : th[ax]? = some 9) (ta : th[am]? = some 10) (h : z_IN th ax am G sc sm) (x1 x2 : Int32) : x_Gd xs L J d m_125 (fun r G' => (∃ y : Int32, r = some (.int y)) ∧ z_IN th ax am G' sc sm) 0 (lv_args 0 [.ref ax, .int x1, .int x2]) [] G := by
  refine ((h_167 th xs L J).gd (G := G) (d := d) m_125_ok (by omega) (v := (y_v [(ax : Int), x1.toInt, x2.toInt])) (as := [.ref ax, .int x1, .int x2]) (y_v_Bd (List.forall_mem_cons.mpr ⟨(y_cellB h.1 tx), (List.forall_mem_cons.mpr ⟨(x_i32 x1), (List.forall_mem_cons.mpr ⟨(x_i32 x2), (fun _ h => absurd h List.not_mem_nil)⟩)⟩)⟩)) (fun _ h => absurd h List.not_mem_nil) ⟨⟨ax, rfl, (by simp only [xl_ev, xt_ev, y_v, List.getD_cons_succ, List.getD_cons_zero]; omega), tx⟩, ⟨x1, rfl, (by simp only [xl_ev, xt_ev, y_v, List.getD_cons_succ, List.getD_cons_zero]; omega)⟩, ⟨x2, rfl, (by simp only [xl_ev, xt_ev, y_v, List.getD_cons_succ, List.getD_cons_zero]; omega)⟩, trivial⟩ (fun q hq => absurd hq List.not_mem_nil) h.1 (fun z => by cases z)).mono (fun r G' h' => ?_)
  obtain ⟨v', -, -, hI', ef, p, hp, -, -, pa⟩ := h'
  obtain rfl : p = _ := List.mem_singleton.mp hp
  obtain ⟨y, rfl, -⟩ := y_pI pa
  exact ⟨⟨y, rfl⟩, h.eff tx ta hI' ef (by decide +kernel)⟩
set_option maxHeartbeats 2000000 in
set_option maxRecDepth 100000 in
theorem n_meet (hd : 318 ≤ d) (tx : th[ax]? = some 9) (ta : th[am]? = some 10) (h : z_IN th ax am G sc sm) (x1 x2 : Int32) : x_Gd xs L J d m_237 (fun r G' => (∃ y : Int32, r = some (.int y)) ∧ z_IN th ax am G' sc sm) 0 (lv_args 0 [.ref am, .int x1, .int x2]) [] G := by
  refine ((h_282 th xs L J).gd (G := G) (d := d) m_237_ok (by omega) (v := (y_v [(am : Int), x1.toInt, x2.toInt])) (as := [.ref am, .int x1, .int x2]) (y_v_Bd (List.forall_mem_cons.mpr ⟨(y_cellB h.1 ta), (List.forall_mem_cons.mpr ⟨(x_i32 x1), (List.forall_mem_cons.mpr ⟨(x_i32 x2), (fun _ h => absurd h List.not_mem_nil)⟩)⟩)⟩)) (fun _ h => absurd h List.not_mem_nil) ⟨⟨am, rfl, (by simp only [xl_ev, xt_ev, y_v, List.getD_cons_succ, List.getD_cons_zero]; omega), ta⟩, ⟨x1, rfl, (by simp only [xl_ev, xt_ev, y_v, List.getD_cons_succ, List.getD_cons_zero]; omega)⟩, ⟨x2, rfl, (by simp only [xl_ev, xt_ev, y_v, List.getD_cons_succ, List.getD_cons_zero]; omega)⟩, trivial⟩ (fun q hq => absurd hq List.not_mem_nil) h.1 (fun _ => h.2.1.2.1)).mono (fun r G' h' => ?_)
  obtain ⟨v', -, -, hI', ef, p, hp, -, -, pa⟩ := h'
  obtain rfl : p = _ := List.mem_singleton.mp hp
  obtain ⟨y, rfl, -⟩ := y_pI pa
  exact ⟨⟨y, rfl⟩, h.eff tx ta hI' ef (by decide +kernel)⟩
def m_238 : pM := (⟨"BreathingHillModel", "drawn", "(II)I"⟩, 1780, 3, some (FieldType.int), 17, 2, false, 10, 103, 1778, 1779)
set_option maxRecDepth 100000 in
theorem m_238_ok : pm_tab[238]? = some m_238 := rfl
theorem e_238 : ∀ q ∈ d_238, decode m_238.code q.1 = .ok (q.2.1, q.2.2) := y_dec d_238_ok m_238_ok
def m_98 : pM := (⟨"BreathingHill", "drawn", "(II)I"⟩, 922, 3, some (FieldType.int), 0, 2, false, 9, 91, 920, 921)
set_option maxRecDepth 100000 in
theorem m_98_ok : pm_tab[98]? = some m_98 := rfl
theorem e_98 : ∀ q ∈ d_98, decode m_98.code q.1 = .ok (q.2.1, q.2.2) := y_dec d_98_ok m_98_ok
set_option maxHeartbeats 2000000 in
set_option maxRecDepth 100000 in
theorem b_drawn (hd : 318 ≤ d) (tx : th[ax]? = some 9) (ta : th[am]? = some 10) (h : z_IN th ax am G sc sm) (x1 x2 : Int32) : x_Gd xs L J d m_98 (fun r G' => (∃ y : Int32, r = some (.int y)) ∧ z_IN th ax am G' sc sm) 0 (lv_args 0 [.ref ax, .int x1, .int x2]) [] G := by
  refine ((h_149 th xs L J).gd (G := G) (d := d) m_98_ok (by omega) (v := (y_v [(ax : Int), x1.toInt, x2.toInt])) (as := [.ref ax, .int x1, .int x2]) (y_v_Bd (List.forall_mem_cons.mpr ⟨(y_cellB h.1 tx), (List.forall_mem_cons.mpr ⟨(x_i32 x1), (List.forall_mem_cons.mpr ⟨(x_i32 x2), (fun _ h => absurd h List.not_mem_nil)⟩)⟩)⟩)) (fun _ h => absurd h List.not_mem_nil) ⟨⟨ax, rfl, (by simp only [xl_ev, xt_ev, y_v, List.getD_cons_succ, List.getD_cons_zero]; omega), tx⟩, ⟨x1, rfl, (by simp only [xl_ev, xt_ev, y_v, List.getD_cons_succ, List.getD_cons_zero]; omega)⟩, ⟨x2, rfl, (by simp only [xl_ev, xt_ev, y_v, List.getD_cons_succ, List.getD_cons_zero]; omega)⟩, trivial⟩ (fun q hq => absurd hq List.not_mem_nil) h.1 (fun z => by cases z)).mono (fun r G' h' => ?_)
  obtain ⟨v', -, -, hI', ef, p, hp, -, -, pa⟩ := h'
  obtain rfl : p = _ := List.mem_singleton.mp hp
  obtain ⟨y, rfl, -⟩ := y_pI pa
  exact ⟨⟨y, rfl⟩, h.eff tx ta hI' ef (by decide +kernel)⟩
set_option maxHeartbeats 2000000 in
set_option maxRecDepth 100000 in
theorem n_drawn (hd : 318 ≤ d) (tx : th[ax]? = some 9) (ta : th[am]? = some 10) (h : z_IN th ax am G sc sm) (x1 x2 : Int32) : x_Gd xs L J d m_238 (fun r G' => (∃ y : Int32, r = some (.int y)) ∧ z_IN th ax am G' sc sm) 0 (lv_args 0 [.ref am, .int x1, .int x2]) [] G := by
  refine ((h_285 th xs L J).gd (G := G) (d := d) m_238_ok (by omega) (v := (y_v [(am : Int), x1.toInt, x2.toInt])) (as := [.ref am, .int x1, .int x2]) (y_v_Bd (List.forall_mem_cons.mpr ⟨(y_cellB h.1 ta), (List.forall_mem_cons.mpr ⟨(x_i32 x1), (List.forall_mem_cons.mpr ⟨(x_i32 x2), (fun _ h => absurd h List.not_mem_nil)⟩)⟩)⟩)) (fun _ h => absurd h List.not_mem_nil) ⟨⟨am, rfl, (by simp only [xl_ev, xt_ev, y_v, List.getD_cons_succ, List.getD_cons_zero]; omega), ta⟩, ⟨x1, rfl, (by simp only [xl_ev, xt_ev, y_v, List.getD_cons_succ, List.getD_cons_zero]; omega)⟩, ⟨x2, rfl, (by simp only [xl_ev, xt_ev, y_v, List.getD_cons_succ, List.getD_cons_zero]; omega)⟩, trivial⟩ (fun q hq => absurd hq List.not_mem_nil) h.1 (fun _ => h.2.1.2.1)).mono (fun r G' h' => ?_)
  obtain ⟨v', -, -, hI', ef, p, hp, -, -, pa⟩ := h'
  obtain rfl : p = _ := List.mem_singleton.mp hp
  obtain ⟨y, rfl, -⟩ := y_pI pa
  exact ⟨⟨y, rfl⟩, h.eff tx ta hI' ef (by decide +kernel)⟩
def m_241 : pM := (⟨"BreathingHillModel", "odds", "(III)I"⟩, 1793, 6, some (FieldType.int), 17, 3, false, 10, 103, 1791, 1792)
set_option maxRecDepth 100000 in
theorem m_241_ok : pm_tab[241]? = some m_241 := rfl
theorem e_241 : ∀ q ∈ d_241, decode m_241.code q.1 = .ok (q.2.1, q.2.2) := y_dec d_241_ok m_241_ok
def m_127 : pM := (⟨"BreathingHill", "odds", "(III)I"⟩, 1050, 6, some (FieldType.int), 0, 3, false, 9, 91, 1048, 1049)
set_option maxRecDepth 100000 in
theorem m_127_ok : pm_tab[127]? = some m_127 := rfl
theorem e_127 : ∀ q ∈ d_127, decode m_127.code q.1 = .ok (q.2.1, q.2.2) := y_dec d_127_ok m_127_ok
set_option maxHeartbeats 2000000 in
set_option maxRecDepth 100000 in
theorem b_odds (hd : 318 ≤ d) (tx : th[ax]? = some 9) (ta : th[am]? = some 10) (h : z_IN th ax am G sc sm) (x1 x2 x3 : Int32) : x_Gd xs L J d m_127 (fun r G' => (∃ y : Int32, r = some (.int y)) ∧ z_IN th ax am G' sc sm) 0 (lv_args 0 [.ref ax, .int x1, .int x2, .int x3]) [] G := by
  refine ((h_168 th xs L J).gd (G := G) (d := d) m_127_ok (by omega) (v := (y_v [(ax : Int), x1.toInt, x2.toInt, x3.toInt])) (as := [.ref ax, .int x1, .int x2, .int x3]) (y_v_Bd (List.forall_mem_cons.mpr ⟨(y_cellB h.1 tx), (List.forall_mem_cons.mpr ⟨(x_i32 x1), (List.forall_mem_cons.mpr ⟨(x_i32 x2), (List.forall_mem_cons.mpr ⟨(x_i32 x3), (fun _ h => absurd h List.not_mem_nil)⟩)⟩)⟩)⟩)) (fun _ h => absurd h List.not_mem_nil) ⟨⟨ax, rfl, (by simp only [xl_ev, xt_ev, y_v, List.getD_cons_succ, List.getD_cons_zero]; omega), tx⟩, ⟨x1, rfl, (by simp only [xl_ev, xt_ev, y_v, List.getD_cons_succ, List.getD_cons_zero]; omega)⟩, ⟨x2, rfl, (by simp only [xl_ev, xt_ev, y_v, List.getD_cons_succ, List.getD_cons_zero]; omega)⟩, ⟨x3, rfl, (by simp only [xl_ev, xt_ev, y_v, List.getD_cons_succ, List.getD_cons_zero]; omega)⟩, trivial⟩ (fun q hq => absurd hq List.not_mem_nil) h.1 (fun z => by cases z)).mono (fun r G' h' => ?_)
  obtain ⟨v', -, -, hI', ef, p, hp, -, -, pa⟩ := h'
  obtain rfl : p = _ := List.mem_singleton.mp hp
  obtain ⟨y, rfl, -⟩ := y_pI pa
  exact ⟨⟨y, rfl⟩, h.eff tx ta hI' ef (by decide +kernel)⟩
set_option maxHeartbeats 2000000 in
set_option maxRecDepth 100000 in
theorem n_odds (hd : 318 ≤ d) (tx : th[ax]? = some 9) (ta : th[am]? = some 10) (h : z_IN th ax am G sc sm) (x1 x2 x3 : Int32) : x_Gd xs L J d m_241 (fun r G' => (∃ y : Int32, r = some (.int y)) ∧ z_IN th ax am G' sc sm) 0 (lv_args 0 [.ref am, .int x1, .int x2, .int x3]) [] G := by
  refine ((h_287 th xs L J).gd (G := G) (d := d) m_241_ok (by omega) (v := (y_v [(am : Int), x1.toInt, x2.toInt, x3.toInt])) (as := [.ref am, .int x1, .int x2, .int x3]) (y_v_Bd (List.forall_mem_cons.mpr ⟨(y_cellB h.1 ta), (List.forall_mem_cons.mpr ⟨(x_i32 x1), (List.forall_mem_cons.mpr ⟨(x_i32 x2), (List.forall_mem_cons.mpr ⟨(x_i32 x3), (fun _ h => absurd h List.not_mem_nil)⟩)⟩)⟩)⟩)) (fun _ h => absurd h List.not_mem_nil) ⟨⟨am, rfl, (by simp only [xl_ev, xt_ev, y_v, List.getD_cons_succ, List.getD_cons_zero]; omega), ta⟩, ⟨x1, rfl, (by simp only [xl_ev, xt_ev, y_v, List.getD_cons_succ, List.getD_cons_zero]; omega)⟩, ⟨x2, rfl, (by simp only [xl_ev, xt_ev, y_v, List.getD_cons_succ, List.getD_cons_zero]; omega)⟩, ⟨x3, rfl, (by simp only [xl_ev, xt_ev, y_v, List.getD_cons_succ, List.getD_cons_zero]; omega)⟩, trivial⟩ (fun q hq => absurd hq List.not_mem_nil) h.1 (fun _ => h.2.1.2.1)).mono (fun r G' h' => ?_)
  obtain ⟨v', -, -, hI', ef, p, hp, -, -, pa⟩ := h'
  obtain rfl : p = _ := List.mem_singleton.mp hp
  obtain ⟨y, rfl, -⟩ := y_pI pa
  exact ⟨⟨y, rfl⟩, h.eff tx ta hI' ef (by decide +kernel)⟩
def m_246 : pM := (⟨"BreathingHillModel", "logged", "(I)I"⟩, 1813, 2, some (FieldType.int), 17, 1, false, 10, 103, 1811, 1812)
set_option maxRecDepth 100000 in
theorem m_246_ok : pm_tab[246]? = some m_246 := rfl
theorem e_246 : ∀ q ∈ d_246, decode m_246.code q.1 = .ok (q.2.1, q.2.2) := y_dec d_246_ok m_246_ok
def m_135 : pM := (⟨"BreathingHill", "logged", "(I)I"⟩, 1108, 2, some (FieldType.int), 0, 1, false, 9, 91, 1106, 1107)
set_option maxRecDepth 100000 in
theorem m_135_ok : pm_tab[135]? = some m_135 := rfl
theorem e_135 : ∀ q ∈ d_135, decode m_135.code q.1 = .ok (q.2.1, q.2.2) := y_dec d_135_ok m_135_ok
set_option maxHeartbeats 2000000 in
set_option maxRecDepth 100000 in
theorem b_logged (hd : 318 ≤ d) (tx : th[ax]? = some 9) (ta : th[am]? = some 10) (h : z_IN th ax am G sc sm) (x1 : Int32) : x_Gd xs L J d m_135 (fun r G' => (∃ y : Int32, r = some (.int y)) ∧ z_IN th ax am G' sc sm) 0 (lv_args 0 [.ref ax, .int x1]) [] G := by
  refine ((h_170 th xs L J).gd (G := G) (d := d) m_135_ok (by omega) (v := (y_v [(ax : Int), x1.toInt])) (as := [.ref ax, .int x1]) (y_v_Bd (List.forall_mem_cons.mpr ⟨(y_cellB h.1 tx), (List.forall_mem_cons.mpr ⟨(x_i32 x1), (fun _ h => absurd h List.not_mem_nil)⟩)⟩)) (fun _ h => absurd h List.not_mem_nil) ⟨⟨ax, rfl, (by simp only [xl_ev, xt_ev, y_v, List.getD_cons_succ, List.getD_cons_zero]; omega), tx⟩, ⟨x1, rfl, (by simp only [xl_ev, xt_ev, y_v, List.getD_cons_succ, List.getD_cons_zero]; omega)⟩, trivial⟩ (fun q hq => absurd hq List.not_mem_nil) h.1 (fun z => by cases z)).mono (fun r G' h' => ?_)
  obtain ⟨v', -, -, hI', ef, p, hp, -, -, pa⟩ := h'
  obtain rfl : p = _ := List.mem_singleton.mp hp
  obtain ⟨y, rfl, -⟩ := y_pI pa
  exact ⟨⟨y, rfl⟩, h.eff tx ta hI' ef (by decide +kernel)⟩
set_option maxHeartbeats 2000000 in
set_option maxRecDepth 100000 in
theorem n_logged (hd : 318 ≤ d) (tx : th[ax]? = some 9) (ta : th[am]? = some 10) (h : z_IN th ax am G sc sm) (x1 : Int32) : x_Gd xs L J d m_246 (fun r G' => (∃ y : Int32, r = some (.int y)) ∧ z_IN th ax am G' sc sm) 0 (lv_args 0 [.ref am, .int x1]) [] G := by
  refine ((h_288 th xs L J).gd (G := G) (d := d) m_246_ok (by omega) (v := (y_v [(am : Int), x1.toInt])) (as := [.ref am, .int x1]) (y_v_Bd (List.forall_mem_cons.mpr ⟨(y_cellB h.1 ta), (List.forall_mem_cons.mpr ⟨(x_i32 x1), (fun _ h => absurd h List.not_mem_nil)⟩)⟩)) (fun _ h => absurd h List.not_mem_nil) ⟨⟨am, rfl, (by simp only [xl_ev, xt_ev, y_v, List.getD_cons_succ, List.getD_cons_zero]; omega), ta⟩, ⟨x1, rfl, (by simp only [xl_ev, xt_ev, y_v, List.getD_cons_succ, List.getD_cons_zero]; omega)⟩, trivial⟩ (fun q hq => absurd hq List.not_mem_nil) h.1 (fun z => by cases z)).mono (fun r G' h' => ?_)
  obtain ⟨v', -, -, hI', ef, p, hp, -, -, pa⟩ := h'
  obtain rfl : p = _ := List.mem_singleton.mp hp
  obtain ⟨y, rfl, -⟩ := y_pI pa
  exact ⟨⟨y, rfl⟩, h.eff tx ta hI' ef (by decide +kernel)⟩
def m_254 : pM := (⟨"BreathingHillModel", "said", "(I)I"⟩, 1845, 4, some (FieldType.int), 17, 1, false, 10, 103, 1843, 1844)
set_option maxRecDepth 100000 in
theorem m_254_ok : pm_tab[254]? = some m_254 := rfl
theorem e_254 : ∀ q ∈ d_254, decode m_254.code q.1 = .ok (q.2.1, q.2.2) := y_dec d_254_ok m_254_ok
def m_146 : pM := (⟨"BreathingHill", "said", "(I)I"⟩, 1188, 5, some (FieldType.int), 0, 1, false, 9, 91, 1186, 1187)
set_option maxRecDepth 100000 in
theorem m_146_ok : pm_tab[146]? = some m_146 := rfl
theorem e_146 : ∀ q ∈ d_146, decode m_146.code q.1 = .ok (q.2.1, q.2.2) := y_dec d_146_ok m_146_ok
set_option maxHeartbeats 2000000 in
set_option maxRecDepth 100000 in
theorem b_said (hd : 318 ≤ d) (tx : th[ax]? = some 9) (ta : th[am]? = some 10) (h : z_IN th ax am G sc sm) (x1 : Int32) : x_Gd xs L J d m_146 (fun r G' => (∃ y : Int32, r = some (.int y)) ∧ z_IN th ax am G' sc sm) 0 (lv_args 0 [.ref ax, .int x1]) [] G := by
  refine ((h_172 th xs L J).gd (G := G) (d := d) m_146_ok (by omega) (v := (y_v [(ax : Int), x1.toInt])) (as := [.ref ax, .int x1]) (y_v_Bd (List.forall_mem_cons.mpr ⟨(y_cellB h.1 tx), (List.forall_mem_cons.mpr ⟨(x_i32 x1), (fun _ h => absurd h List.not_mem_nil)⟩)⟩)) (fun _ h => absurd h List.not_mem_nil) ⟨⟨ax, rfl, (by simp only [xl_ev, xt_ev, y_v, List.getD_cons_succ, List.getD_cons_zero]; omega), tx⟩, ⟨x1, rfl, (by simp only [xl_ev, xt_ev, y_v, List.getD_cons_succ, List.getD_cons_zero]; omega)⟩, trivial⟩ (fun q hq => absurd hq List.not_mem_nil) h.1 (fun z => by cases z)).mono (fun r G' h' => ?_)
  obtain ⟨v', -, -, hI', ef, p, hp, -, -, pa⟩ := h'
  obtain rfl : p = _ := List.mem_singleton.mp hp
  obtain ⟨y, rfl, -⟩ := y_pI pa
  exact ⟨⟨y, rfl⟩, h.eff tx ta hI' ef (by decide +kernel)⟩
set_option maxHeartbeats 2000000 in
set_option maxRecDepth 100000 in
theorem n_said (hd : 318 ≤ d) (tx : th[ax]? = some 9) (ta : th[am]? = some 10) (h : z_IN th ax am G sc sm) (x1 : Int32) : x_Gd xs L J d m_254 (fun r G' => (∃ y : Int32, r = some (.int y)) ∧ z_IN th ax am G' sc sm) 0 (lv_args 0 [.ref am, .int x1]) [] G := by
  refine ((h_303 th xs L J).gd (G := G) (d := d) m_254_ok (by omega) (v := (y_v [(am : Int), x1.toInt])) (as := [.ref am, .int x1]) (y_v_Bd (List.forall_mem_cons.mpr ⟨(y_cellB h.1 ta), (List.forall_mem_cons.mpr ⟨(x_i32 x1), (fun _ h => absurd h List.not_mem_nil)⟩)⟩)) (fun _ h => absurd h List.not_mem_nil) ⟨⟨am, rfl, (by simp only [xl_ev, xt_ev, y_v, List.getD_cons_succ, List.getD_cons_zero]; omega), ta⟩, ⟨x1, rfl, (by simp only [xl_ev, xt_ev, y_v, List.getD_cons_succ, List.getD_cons_zero]; omega)⟩, trivial⟩ (fun q hq => absurd hq List.not_mem_nil) h.1 (fun _ => h.2.1.2.1)).mono (fun r G' h' => ?_)
  obtain ⟨v', -, -, hI', ef, p, hp, -, -, pa⟩ := h'
  obtain rfl : p = _ := List.mem_singleton.mp hp
  obtain ⟨y, rfl, -⟩ := y_pI pa
  exact ⟨⟨y, rfl⟩, h.eff tx ta hI' ef (by decide +kernel)⟩
def m_153 : pM := (⟨"BreathingHill", "image", "(I)Z"⟩, 1213, 2, some (FieldType.boolean), 0, 1, false, 9, 91, 1211, 1212)
set_option maxRecDepth 100000 in
theorem m_153_ok : pm_tab[153]? = some m_153 := rfl
theorem e_153 : ∀ q ∈ d_153, decode m_153.code q.1 = .ok (q.2.1, q.2.2) := y_dec d_153_ok m_153_ok
set_option maxHeartbeats 2000000 in
set_option maxRecDepth 100000 in
theorem b_image (hd : 318 ≤ d) (tx : th[ax]? = some 9) (ta : th[am]? = some 10) (h : z_IN th ax am G sc sm) (x1 : Int32) : x_Gd xs L J d m_153 (fun r G' => (∃ y : Int32, r = some (.int y)) ∧ z_IN th ax am G' sc sm) 0 (lv_args 0 [.ref ax, .int x1]) [] G := by
  refine ((h_173 th xs L J).gd (G := G) (d := d) m_153_ok (by omega) (v := (y_v [(ax : Int), x1.toInt])) (as := [.ref ax, .int x1]) (y_v_Bd (List.forall_mem_cons.mpr ⟨(y_cellB h.1 tx), (List.forall_mem_cons.mpr ⟨(x_i32 x1), (fun _ h => absurd h List.not_mem_nil)⟩)⟩)) (fun _ h => absurd h List.not_mem_nil) ⟨⟨ax, rfl, (by simp only [xl_ev, xt_ev, y_v, List.getD_cons_succ, List.getD_cons_zero]; omega), tx⟩, ⟨x1, rfl, (by simp only [xl_ev, xt_ev, y_v, List.getD_cons_succ, List.getD_cons_zero]; omega)⟩, trivial⟩ (fun q hq => absurd hq List.not_mem_nil) h.1 (fun z => by cases z)).mono (fun r G' h' => ?_)
  obtain ⟨v', -, -, hI', ef, p, hp, -, -, pa⟩ := h'
  obtain rfl : p = _ := List.mem_singleton.mp hp
  obtain ⟨y, rfl, -⟩ := y_pI pa
  exact ⟨⟨y, rfl⟩, h.eff tx ta hI' ef (by decide +kernel)⟩
def m_154 : pM := (⟨"BreathingHill", "restore", "(I)Z"⟩, 1217, 2, some (FieldType.boolean), 0, 1, false, 9, 91, 1215, 1216)
set_option maxRecDepth 100000 in
theorem m_154_ok : pm_tab[154]? = some m_154 := rfl
theorem e_154 : ∀ q ∈ d_154, decode m_154.code q.1 = .ok (q.2.1, q.2.2) := y_dec d_154_ok m_154_ok
set_option maxHeartbeats 2000000 in
set_option maxRecDepth 100000 in
theorem b_restore (hd : 318 ≤ d) (tx : th[ax]? = some 9) (ta : th[am]? = some 10) (h : z_IN th ax am G sc sm) (x1 : Int32) : x_Gd xs L J d m_154 (fun r G' => (∃ y : Int32, r = some (.int y)) ∧ z_IN th ax am G' sc sm) 0 (lv_args 0 [.ref ax, .int x1]) [] G := by
  refine ((h_174 th xs L J).gd (G := G) (d := d) m_154_ok (by omega) (v := (y_v [(ax : Int), x1.toInt])) (as := [.ref ax, .int x1]) (y_v_Bd (List.forall_mem_cons.mpr ⟨(y_cellB h.1 tx), (List.forall_mem_cons.mpr ⟨(x_i32 x1), (fun _ h => absurd h List.not_mem_nil)⟩)⟩)) (fun _ h => absurd h List.not_mem_nil) ⟨⟨ax, rfl, (by simp only [xl_ev, xt_ev, y_v, List.getD_cons_succ, List.getD_cons_zero]; omega), tx⟩, ⟨x1, rfl, (by simp only [xl_ev, xt_ev, y_v, List.getD_cons_succ, List.getD_cons_zero]; omega)⟩, trivial⟩ (fun q hq => absurd hq List.not_mem_nil) h.1 (fun z => by cases z)).mono (fun r G' h' => ?_)
  obtain ⟨v', -, -, hI', ef, p, hp, -, -, pa⟩ := h'
  obtain rfl : p = _ := List.mem_singleton.mp hp
  obtain ⟨y, rfl, -⟩ := y_pI pa
  exact ⟨⟨y, rfl⟩, h.eff tx ta hI' ef (by decide +kernel)⟩
def m_259 : pM := (⟨"BreathingHillModel", "count", "(I)I"⟩, 1865, 2, some (FieldType.int), 17, 1, false, 10, 103, 1863, 1864)
set_option maxRecDepth 100000 in
theorem m_259_ok : pm_tab[259]? = some m_259 := rfl
theorem e_259 : ∀ q ∈ d_259, decode m_259.code q.1 = .ok (q.2.1, q.2.2) := y_dec d_259_ok m_259_ok
def m_72 : pM := (⟨"BreathingHill", "count", "(I)I"⟩, 795, 2, some (FieldType.int), 0, 1, false, 9, 91, 793, 794)
set_option maxRecDepth 100000 in
theorem m_72_ok : pm_tab[72]? = some m_72 := rfl
theorem e_72 : ∀ q ∈ d_72, decode m_72.code q.1 = .ok (q.2.1, q.2.2) := y_dec d_72_ok m_72_ok
set_option maxHeartbeats 2000000 in
set_option maxRecDepth 100000 in
theorem b_count (hd : 318 ≤ d) (tx : th[ax]? = some 9) (ta : th[am]? = some 10) (h : z_IN th ax am G sc sm) (x1 : Int32) : x_Gd xs L J d m_72 (fun r G' => (∃ y : Int32, r = some (.int y)) ∧ z_IN th ax am G' sc sm) 0 (lv_args 0 [.ref ax, .int x1]) [] G := by
  refine ((h_141 th xs L J).gd (G := G) (d := d) m_72_ok (by omega) (v := (y_v [(ax : Int), x1.toInt])) (as := [.ref ax, .int x1]) (y_v_Bd (List.forall_mem_cons.mpr ⟨(y_cellB h.1 tx), (List.forall_mem_cons.mpr ⟨(x_i32 x1), (fun _ h => absurd h List.not_mem_nil)⟩)⟩)) (fun _ h => absurd h List.not_mem_nil) ⟨⟨ax, rfl, (by simp only [xl_ev, xt_ev, y_v, List.getD_cons_succ, List.getD_cons_zero]; omega), tx⟩, ⟨x1, rfl, (by simp only [xl_ev, xt_ev, y_v, List.getD_cons_succ, List.getD_cons_zero]; omega)⟩, trivial⟩ (fun q hq => absurd hq List.not_mem_nil) h.1 (fun z => by cases z)).mono (fun r G' h' => ?_)
  obtain ⟨v', -, -, hI', ef, p, hp, -, -, pa⟩ := h'
  obtain rfl : p = _ := List.mem_singleton.mp hp
  obtain ⟨y, rfl, -⟩ := y_pI pa
  exact ⟨⟨y, rfl⟩, h.eff tx ta hI' ef (by decide +kernel)⟩
set_option maxHeartbeats 2000000 in
set_option maxRecDepth 100000 in
theorem n_count (hd : 318 ≤ d) (tx : th[ax]? = some 9) (ta : th[am]? = some 10) (h : z_IN th ax am G sc sm) (x1 : Int32) : x_Gd xs L J d m_259 (fun r G' => (∃ y : Int32, r = some (.int y)) ∧ z_IN th ax am G' sc sm) 0 (lv_args 0 [.ref am, .int x1]) [] G := by
  refine ((h_291 th xs L J).gd (G := G) (d := d) m_259_ok (by omega) (v := (y_v [(am : Int), x1.toInt])) (as := [.ref am, .int x1]) (y_v_Bd (List.forall_mem_cons.mpr ⟨(y_cellB h.1 ta), (List.forall_mem_cons.mpr ⟨(x_i32 x1), (fun _ h => absurd h List.not_mem_nil)⟩)⟩)) (fun _ h => absurd h List.not_mem_nil) ⟨⟨am, rfl, (by simp only [xl_ev, xt_ev, y_v, List.getD_cons_succ, List.getD_cons_zero]; omega), ta⟩, ⟨x1, rfl, (by simp only [xl_ev, xt_ev, y_v, List.getD_cons_succ, List.getD_cons_zero]; omega)⟩, trivial⟩ (fun q hq => absurd hq List.not_mem_nil) h.1 (fun z => by cases z)).mono (fun r G' h' => ?_)
  obtain ⟨v', -, -, hI', ef, p, hp, -, -, pa⟩ := h'
  obtain rfl : p = _ := List.mem_singleton.mp hp
  obtain ⟨y, rfl, -⟩ := y_pI pa
  exact ⟨⟨y, rfl⟩, h.eff tx ta hI' ef (by decide +kernel)⟩
end ZI2
