/-- the pointers that never change -/
def z_LC (G : List pE) : Prop := x_sl G 0 0 = some (.ref 1) ∧ x_sl G 0 1 = some (.ref 3) ∧ x_sl G 0 3 = some (.ref 32) ∧ x_sl G 1 0 = some (.ref 2) ∧ x_sl G 3 0 = some (.ref 4) ∧ x_sl G 3 1 = some (.ref 5) ∧ x_sl G 32 0 = some (.ref 33) ∧ x_sl G 32 1 = some (.ref 39) ∧ x_sl G 32 2 = some (.ref 40) ∧ x_sl G 32 3 = some (.ref 41) ∧ x_sl G 33 0 = some (.ref 34) ∧ x_sl G 33 1 = some (.ref 35) ∧ x_sl G 33 6 = some (.ref 36) ∧ x_sl G 33 7 = some (.ref 37) ∧ x_sl G 33 8 = some (.ref 38) ∧ x_sl G 349 1 = some (.ref 350) ∧ x_sl G 349 7 = some (.ref 352) ∧ x_sl G 349 9 = some (.ref 354) ∧ x_sl G 349 10 = some (.ref 355) ∧ (∀ i, i < 8 → x_sl G 39 i = some (.ref (42 + i))) ∧ (∀ i, i < 4 → x_sl G 40 i = some (.ref (50 + i))) ∧ (∀ i, i < 4 → x_sl G 41 i = some (.ref (54 + i))) ∧ (∀ i, i < 25 → x_sl G 355 i = some (.long (t_W i)))
def z_LA (G : List pE) : Prop := z_LC G ∧ ∀ i, i < 940 → x_sl G 2 i = x_sl G 350 i
/-- the class has read a row of numbers which the model has not yet -/
def z_LI (n x1 x2 x3 x4 x5 : Int32) (G : List pE) : Prop := z_LC G ∧ ∀ i, i < 940 → x_sl G 2 i = if n.toInt ≤ 920 then f_w20 (x_sl G 350) n.toInt.toNat x1 x2 x3 x4 x5 i else x_sl G 350 i
/-- the model's pointers -/
def z_MP (G : List pE) : Prop := x_sl G 349 6 = some (.ref 351) ∧ x_sl G 349 42 = some (.ref 362) ∧ x_sl G 349 44 = some (.ref 364) ∧ x_sl G 0 10 = some (.ref 71)
def z_FGo (G : List pE) : Prop := ∀ q, q < 2 → x_sl G 71 q = x_sl G 364 q
/-- the kinds of the last FAULT -/
def z_FK (G : List pE) : Prop := x_sl G 0 17 = x_sl G 349 15
def z_FG (G : List pE) : Prop := z_FGo G ∧ z_FK G
def z_RI (wi : Nat → Nat → Nat → Option Value) (G : List pE) : Prop := ∀ q, q < 2 → ∀ x : Int32, x_sl G 364 q = some (.int x) → x ≠ 0 → RW (wi q) (z_nrowk q G)
def z_JM (w : Nat → Nat → Option Value) (wi : Nat → Nat → Nat → Option Value) (G : List pE) : Prop := z_MP G ∧ RW w (z_nrow G) ∧ z_FG G ∧ z_RI wi G
def z_JN (wi : Nat → Nat → Nat → Option Value) (G : List pE) : Prop := z_MP G ∧ z_FGo G ∧ z_RI wi G
def z_JW (w : Nat → Nat → Option Value) (wi : Nat → Nat → Nat → Option Value) (G : List pE) : Prop := ZX w wi G ∧ z_JM w wi G
/-- the LANDs of both sides agree -/
def z_LJ (G : List pE) : Prop := z_LA G ∧ ∃ w wi, z_JW w wi G
def z_LIJ (n x1 x2 x3 x4 x5 : Int32) (G : List pE) : Prop := z_LI n x1 x2 x3 x4 x5 G ∧ ∃ w wi, z_JW w wi G
/-- the class has made an image, the model not yet -/
def z_LM (x : Int32) (G : List pE) : Prop := z_LA G ∧ ∃ w wi, ZX w (fun q => if 0 ≤ x.toInt ∧ x.toInt ≤ 1 ∧ q = x.toInt.toNat then w else wi q) G ∧ z_MP G ∧ RW w (z_nrow G) ∧ (∀ q, q < 2 → x_sl G 71 q = if 0 ≤ x.toInt ∧ x.toInt ≤ 1 ∧ q = x.toInt.toNat then some (.int 1) else x_sl G 364 q) ∧ z_RI wi G ∧ z_FK G
/-- .. has gone back to one -/
def z_LR (x : Int32) (G : List pE) : Prop := z_LA G ∧ ∃ w wi wc, ZX wc wi G ∧ z_JM w wi G ∧ (((0 ≤ x.toInt ∧ x.toInt ≤ 1 ∧ ∃ v : Int32, x_sl G 364 x.toInt.toNat = some (.int v) ∧ v ≠ 0) ∧ wc = wi x.toInt.toNat) ∨ (¬ (0 ≤ x.toInt ∧ x.toInt ≤ 1 ∧ ∃ v : Int32, x_sl G 364 x.toInt.toNat = some (.int v) ∧ v ≠ 0) ∧ wc = w))
/-- the model's land answers y and tells the LAND w -/
def z_AN (y q : Int32) (w : Nat → Nat → Option Value) (G : List pE) : Prop := ∀ (xs : Nat → Int32) (L J d : Nat), 318 ≤ d → x_Gd xs L J d m_161 (fun r G' => r = some (.int y) ∧ RW w (z_nrow G') ∧ x_sl G' 349 15 = some (.int q)) 0 (lv_args 0 [.ref 349]) [] G
def z_LY (y : Int32) (G : List pE) : Prop := z_LA G ∧ ∃ wi wc q, ZX wc wi G ∧ z_JN wi G ∧ x_sl G 0 17 = some (.int q) ∧ z_AN y q wc G
/-- the class has a new kind of FAULT, which the model will say as well -/
def z_LQ (F : Int32 → List pE → Prop) (G : List pE) : Prop := z_LA G ∧ ∃ w wi q, ZX w wi G ∧ z_JN wi G ∧ RW w (z_nrow G) ∧ x_sl G 0 17 = some (.int q) ∧ F q G
def z_KK (P : List pE → Prop) (th : List Nat) (ax am : Nat) (G : List pE) : Prop := th = th0 ∧ ax = 0 ∧ am = 349 ∧ P G
/-- what both keep; the two tapes' sizes; P -/
def z_INp (P : Prop) (th : List Nat) (ax am : Nat) (G : List pE) (sc sm : Int32) : Prop := xI x_tb th G ∧ z_IV th am G ∧ ∃ tp : Nat, x_sl G ax 0 = some (.ref tp) ∧ th[tp]? = some 7 ∧ x_sl G tp 1 = some (.int sc) ∧ x_sl G am 2 = some (.int sm) ∧ P
def z_IN (th : List Nat) (ax am : Nat) (G : List pE) (sc sm : Int32) : Prop := z_INp (z_KK z_LJ th ax am G) th ax am G sc sm
def z_IH (th : List Nat) (ax am : Nat) (G : List pE) (sc sm x1 x2 x3 x4 x5 : Int32) : Prop := z_INp (z_KK (z_LIJ sm x1 x2 x3 x4 x5) th ax am G) th ax am G sc sm
def z_fb : List (Nat × Nat × Nat) := [(0, 0, 3), (1, 0, 1), (1, 6, 8), (2, 0, 1), (7, 0, 0), (9, 0, 1), (9, 3, 3), (10, 1, 1), (10, 7, 7), (10, 9, 10), (11, 0, 7), (12, 0, 3), (13, 0, 3), (40, 0, 24)]
def okLp (E : List (Nat × Nat × Nat)) : Bool := E.all (fun q => z_fb.all (fun f => !(q.1 == f.1) || decide (q.2.2 < f.2.1) || decide (f.2.2 < q.2.1)))
def okA (E : List (Nat × Nat × Nat)) : Bool := okLp E && E.all (fun q => !(q.1 == 28) && !(q.1 == 35))
def z_fm : List (Nat × Nat × Nat) := [(36, 0, 24), (47, 0, 647), (49, 0, 1), (10, 6, 6), (10, 42, 42), (10, 44, 44), (9, 10, 10), (32, 0, 1), (39, 0, 15), (48, 0, 31), (9, 17, 17), (10, 15, 15)]
def z_fi : List (Nat × Nat × Nat) := [(36, 0, 24), (47, 0, 647), (49, 0, 1), (10, 6, 6), (10, 42, 42), (10, 44, 44), (9, 10, 10), (39, 0, 15), (48, 0, 31), (9, 17, 17), (10, 15, 15)]
def z_f9 : List (Nat × Nat × Nat) := [(47, 0, 647), (49, 0, 1), (10, 6, 6), (10, 42, 42), (10, 44, 44), (9, 10, 10), (32, 0, 1), (48, 0, 31)]
def okS (E : List (Nat × Nat × Nat)) : Bool := okA E && y_outs E z_fm
def okK (E : List (Nat × Nat × Nat)) : Bool := okS E && y_outs E z_fz
def okE0 (E : List (Nat × Nat × Nat)) : Bool := x_dis E && ((y_out E 10 9 && y_out E 10 6 && y_out E 36 3 && y_out E 36 5) && ((List.range 16).all (fun i => y_out E 39 i) && ((y_out E 10 42 && y_out E 10 43 && y_out E 10 44) && E.all (fun q => !(q.1 == 47) && !(q.1 == 48) && !(q.1 == 49)))))
def okE1 (E : List (Nat × Nat × Nat)) : Bool := okE0 E && (y_out E 9 0 && (y_out E 7 1 && y_out E 10 2))
def okE (E : List (Nat × Nat × Nat)) : Bool := okE1 E && okK E
section ZI2
variable {th : List Nat} {xs : Nat → Int32} {L J d ax am : Nat} {G G' : List pE} {sc sm : Int32} {E : List (Nat × Nat × Nat)}
theorem okE0_ok (ta : th[am]? = some 10) (h : z_IV th am G) (hI : xI x_tb th G') (he : x_eff th E G G') (hok : okE0 E = true) : z_IV th am G' := by
  unfold okE0 at hok
  obtain ⟨h0, hok⟩ := Bool.and_eq_true_iff.mp hok
  obtain ⟨h1, hok⟩ := Bool.and_eq_true_iff.mp hok
  obtain ⟨h2, hok⟩ := Bool.and_eq_true_iff.mp hok
  obtain ⟨h3, h4⟩ := Bool.and_eq_true_iff.mp hok
  exact h.eff ta hI he h0 h1 (fun i hi => List.all_eq_true.mp h2 i (List.mem_range.mpr hi)) h3 h4
theorem th0_z : ∀ q ∈ ([(0, 9), (1, 7), (2, 28), (3, 2), (32, 0), (33, 1), (39, 11), (40, 12), (41, 13), (349, 10), (350, 35), (355, 40)] : List (Nat × Nat)), th0[q.1]? = some q.2 := by decide +kernel
theorem okLp_out {t lo hi i : Nat} (h : okLp E = true) (hf : (t, lo, hi) ∈ z_fb) (h1 : lo ≤ i) (h2 : i ≤ hi) : y_out E t i = true := by
  unfold y_out
  unfold okLp at h
  rw [List.all_eq_true] at h ⊢
  intro q hq
  have := List.all_eq_true.mp (h q hq) _ hf
  simp only [Bool.or_eq_true, Bool.not_eq_true', beq_eq_false_iff_ne, decide_eq_true_eq] at this
  simp only [Bool.not_eq_true', Bool.and_eq_false_iff, beq_eq_false_iff_ne, decide_eq_false_iff_not]
  by_cases e : q.1 = t
  · rcases this with (z | z) | z
    · exact absurd e z
    · exact Or.inr (by omega)
    · exact Or.inl (Or.inr (by omega))
  · exact Or.inl (Or.inl e)
theorem y_outT {t : Nat} (h : E.all (fun q => !(q.1 == t)) = true) (i : Nat) : y_out E t i = true := by
  unfold y_out
  rw [List.all_eq_true] at h ⊢
  intro q hq
  have := h q hq
  simp only [Bool.not_eq_true', beq_eq_false_iff_ne] at this
  simp only [Bool.not_eq_true', Bool.and_eq_false_iff, beq_eq_false_iff_ne]
  exact Or.inl (Or.inl this)
theorem z_LC.eff (h : z_LC G) (he : x_eff th0 E G G') (hok : okLp E = true) : z_LC G' := by
  obtain ⟨p0, p1, p2, p3, p4, p5, p6, p7, p8, p9, p10, p11, p12, p13, p14, p15, p16, p17, p18, a0, a1, a2, a3⟩ := h
  exact ⟨by rw [he.at (show th0[0]? = some 9 from th0_z _ (List.mem_of_getElem? (i := 0) rfl)) (okLp_out hok (List.mem_of_getElem? (i := 5) rfl) (by decide) (by decide))]; exact p0, by rw [he.at (show th0[0]? = some 9 from th0_z _ (List.mem_of_getElem? (i := 0) rfl)) (okLp_out hok (List.mem_of_getElem? (i := 5) rfl) (by decide) (by decide))]; exact p1, by rw [he.at (show th0[0]? = some 9 from th0_z _ (List.mem_of_getElem? (i := 0) rfl)) (okLp_out hok (List.mem_of_getElem? (i := 6) rfl) (by decide) (by decide))]; exact p2, by rw [he.at (show th0[1]? = some 7 from th0_z _ (List.mem_of_getElem? (i := 1) rfl)) (okLp_out hok (List.mem_of_getElem? (i := 4) rfl) (by decide) (by decide))]; exact p3, by rw [he.at (show th0[3]? = some 2 from th0_z _ (List.mem_of_getElem? (i := 3) rfl)) (okLp_out hok (List.mem_of_getElem? (i := 3) rfl) (by decide) (by decide))]; exact p4, by rw [he.at (show th0[3]? = some 2 from th0_z _ (List.mem_of_getElem? (i := 3) rfl)) (okLp_out hok (List.mem_of_getElem? (i := 3) rfl) (by decide) (by decide))]; exact p5, by rw [he.at (show th0[32]? = some 0 from th0_z _ (List.mem_of_getElem? (i := 4) rfl)) (okLp_out hok (List.mem_of_getElem? (i := 0) rfl) (by decide) (by decide))]; exact p6, by rw [he.at (show th0[32]? = some 0 from th0_z _ (List.mem_of_getElem? (i := 4) rfl)) (okLp_out hok (List.mem_of_getElem? (i := 0) rfl) (by decide) (by decide))]; exact p7, by rw [he.at (show th0[32]? = some 0 from th0_z _ (List.mem_of_getElem? (i := 4) rfl)) (okLp_out hok (List.mem_of_getElem? (i := 0) rfl) (by decide) (by decide))]; exact p8, by rw [he.at (show th0[32]? = some 0 from th0_z _ (List.mem_of_getElem? (i := 4) rfl)) (okLp_out hok (List.mem_of_getElem? (i := 0) rfl) (by decide) (by decide))]; exact p9, by rw [he.at (show th0[33]? = some 1 from th0_z _ (List.mem_of_getElem? (i := 5) rfl)) (okLp_out hok (List.mem_of_getElem? (i := 1) rfl) (by decide) (by decide))]; exact p10, by rw [he.at (show th0[33]? = some 1 from th0_z _ (List.mem_of_getElem? (i := 5) rfl)) (okLp_out hok (List.mem_of_getElem? (i := 1) rfl) (by decide) (by decide))]; exact p11, by rw [he.at (show th0[33]? = some 1 from th0_z _ (List.mem_of_getElem? (i := 5) rfl)) (okLp_out hok (List.mem_of_getElem? (i := 2) rfl) (by decide) (by decide))]; exact p12, by rw [he.at (show th0[33]? = some 1 from th0_z _ (List.mem_of_getElem? (i := 5) rfl)) (okLp_out hok (List.mem_of_getElem? (i := 2) rfl) (by decide) (by decide))]; exact p13, by rw [he.at (show th0[33]? = some 1 from th0_z _ (List.mem_of_getElem? (i := 5) rfl)) (okLp_out hok (List.mem_of_getElem? (i := 2) rfl) (by decide) (by decide))]; exact p14, by rw [he.at (show th0[349]? = some 10 from th0_z _ (List.mem_of_getElem? (i := 9) rfl)) (okLp_out hok (List.mem_of_getElem? (i := 7) rfl) (by decide) (by decide))]; exact p15, by rw [he.at (show th0[349]? = some 10 from th0_z _ (List.mem_of_getElem? (i := 9) rfl)) (okLp_out hok (List.mem_of_getElem? (i := 8) rfl) (by decide) (by decide))]; exact p16, by rw [he.at (show th0[349]? = some 10 from th0_z _ (List.mem_of_getElem? (i := 9) rfl)) (okLp_out hok (List.mem_of_getElem? (i := 9) rfl) (by decide) (by decide))]; exact p17, by rw [he.at (show th0[349]? = some 10 from th0_z _ (List.mem_of_getElem? (i := 9) rfl)) (okLp_out hok (List.mem_of_getElem? (i := 9) rfl) (by decide) (by decide))]; exact p18, fun i hi => by rw [he.at (show th0[39]? = some 11 from th0_z _ (List.mem_of_getElem? (i := 6) rfl)) (okLp_out hok (List.mem_of_getElem? (i := 10) rfl) (Nat.zero_le _) (by show i ≤ 7; omega))]; exact a0 i hi, fun i hi => by rw [he.at (show th0[40]? = some 12 from th0_z _ (List.mem_of_getElem? (i := 7) rfl)) (okLp_out hok (List.mem_of_getElem? (i := 11) rfl) (Nat.zero_le _) (by show i ≤ 3; omega))]; exact a1 i hi, fun i hi => by rw [he.at (show th0[41]? = some 13 from th0_z _ (List.mem_of_getElem? (i := 8) rfl)) (okLp_out hok (List.mem_of_getElem? (i := 12) rfl) (Nat.zero_le _) (by show i ≤ 3; omega))]; exact a2 i hi, fun i hi => by rw [he.at (show th0[355]? = some 40 from th0_z _ (List.mem_of_getElem? (i := 11) rfl)) (okLp_out hok (List.mem_of_getElem? (i := 13) rfl) (Nat.zero_le _) (by show i ≤ 24; omega))]; exact a3 i hi⟩
theorem z_LA.eff (h : z_LA G) (he : x_eff th0 E G G') (hok : okA E = true) : z_LA G' := by
  unfold okA at hok
  obtain ⟨h1, h2⟩ := Bool.and_eq_true_iff.mp hok
  refine ⟨h.1.eff he h1, fun i hi => ?_⟩
  have o1 : E.all (fun q => !(q.1 == 28)) = true := List.all_eq_true.mpr (fun q hq => (Bool.and_eq_true_iff.mp (List.all_eq_true.mp h2 q hq)).1)
  have o2 : E.all (fun q => !(q.1 == 35)) = true := List.all_eq_true.mpr (fun q hq => (Bool.and_eq_true_iff.mp (List.all_eq_true.mp h2 q hq)).2)
  rw [he.at (show th0[2]? = some 28 from th0_z _ (List.mem_of_getElem? (i := 2) rfl)) (y_outT o1 i), he.at (show th0[350]? = some 35 from th0_z _ (List.mem_of_getElem? (i := 10) rfl)) (y_outT o2 i)]
  exact h.2 i hi
theorem z_mt : th0[351]? = some 36 ∧ th0[362]? = some 47 ∧ th0[364]? = some 49 ∧ th0[71]? = some 32 ∧ th0[349]? = some 10 ∧ th0[0]? = some 9 := by decide +kernel
theorem z_mt2 : th0[354]? = some 39 ∧ th0[363]? = some 48 := by decide +kernel
theorem z_nrow_c (h1 : ∀ i, i < 25 → x_sl G' 351 i = x_sl G 351 i) (h2 : ∀ i, i < 16 → x_sl G' 354 i = x_sl G 354 i) : ∀ i, i < 25 ∨ (400 ≤ i ∧ i < 416) → z_nrow G' i = z_nrow G i := fun i hi => by
  unfold z_nrow
  rcases hi with hi | ⟨a, b⟩
  · rw [if_pos (by omega), if_pos (by omega)]
    exact h1 i hi
  · rw [if_neg (by omega), if_neg (by omega)]
    exact h2 _ (by omega)
theorem z_nrowk_c {q : Nat} (h1 : ∀ i, i < 25 → x_sl G' 362 (324 * q + i) = x_sl G 362 (324 * q + i)) (h2 : ∀ i, i < 16 → x_sl G' 363 (16 * q + i) = x_sl G 363 (16 * q + i)) : ∀ i, i < 25 ∨ (400 ≤ i ∧ i < 416) → z_nrowk q G' i = z_nrowk q G i := fun i hi => by
  unfold z_nrowk
  rcases hi with hi | ⟨a, b⟩
  · rw [if_pos (by omega), if_pos (by omega)]
    exact h1 i hi
  · rw [if_neg (by omega), if_neg (by omega)]
    exact h2 _ (by omega)
theorem y_outs_i (h : y_outs E z_fm = true) : y_outs E z_fi = true := y_outs_sub (by decide) h
theorem y_outs_9 (h : y_outs E z_fm = true) : y_outs E z_f9 = true := y_outs_sub (by decide) h
theorem z_JM.jn {w : Nat → Nat → Option Value} {wi : Nat → Nat → Nat → Option Value} (h : z_JM w wi G) : z_JN wi G := ⟨h.1, h.2.2.1.1, h.2.2.2⟩
theorem z_JC {w : Nat → Nat → Option Value} {wi : Nat → Nat → Nat → Option Value} (he : x_eff th0 E G G') (hok : y_outs E z_fi = true) (h : z_JM w wi G) : z_MP G' ∧ RW w (z_nrow G') ∧ z_RI wi G' ∧ z_FK G' := by
  obtain ⟨⟨a, b, c, d⟩, hr, hf, hi⟩ := h
  have e4 : ∀ q, q < 2 → x_sl G' 364 q = x_sl G 364 q := fun q hq => he.at z_mt.2.2.1 (y_outs_ok hok (List.mem_of_getElem? (i := 2) rfl) (Nat.zero_le _) (by show q ≤ 1; omega))
  refine ⟨⟨(he.at z_mt.2.2.2.2.1 (y_outs_ok hok (List.mem_of_getElem? (i := 3) rfl) (by decide) (by decide))).trans a, (he.at z_mt.2.2.2.2.1 (y_outs_ok hok (List.mem_of_getElem? (i := 4) rfl) (by decide) (by decide))).trans b, (he.at z_mt.2.2.2.2.1 (y_outs_ok hok (List.mem_of_getElem? (i := 5) rfl) (by decide) (by decide))).trans c, (he.at z_mt.2.2.2.2.2 (y_outs_ok hok (List.mem_of_getElem? (i := 6) rfl) (by decide) (by decide))).trans d⟩, hr.c (z_nrow_c (fun i hi => he.at z_mt.1 (y_outs_ok hok (List.mem_of_getElem? (i := 0) rfl) (Nat.zero_le _) (by show i ≤ 24; omega))) (fun i hi => he.at z_mt2.1 (y_outs_ok hok (List.mem_of_getElem? (i := 7) rfl) (Nat.zero_le _) (by show i ≤ 15; omega)))), fun q hq x hx h0 => ?_, ?_⟩
  · rw [e4 q hq] at hx
    exact (hi q hq x hx h0).c (z_nrowk_c (fun i hi => he.at z_mt.2.1 (y_outs_ok hok (List.mem_of_getElem? (i := 1) rfl) (Nat.zero_le _) (by show 324 * q + i ≤ 647; omega))) (fun i hi => he.at z_mt2.2 (y_outs_ok hok (List.mem_of_getElem? (i := 8) rfl) (Nat.zero_le _) (by show 16 * q + i ≤ 31; omega))))
  · exact ((he.at z_mt.2.2.2.2.2 (y_outs_ok hok (List.mem_of_getElem? (i := 9) rfl) (by decide) (by decide))).trans hf.2).trans (he.at z_mt.2.2.2.2.1 (y_outs_ok hok (List.mem_of_getElem? (i := 10) rfl) (by decide) (by decide))).symm
theorem z_JM.eff {w : Nat → Nat → Option Value} {wi : Nat → Nat → Nat → Option Value} (h : z_JM w wi G) (he : x_eff th0 E G G') (hok : y_outs E z_fm = true) : z_JM w wi G' := by
  obtain ⟨m1, m2, m3, m4⟩ := z_JC he (y_outs_i hok) h
  refine ⟨m1, m2, ⟨fun q hq => ?_, m4⟩, m3⟩
  rw [he.at z_mt.2.2.2.1 (y_outs_ok hok (List.mem_of_getElem? (i := 7) rfl) (Nat.zero_le _) (by show q ≤ 1; omega)), he.at z_mt.2.2.1 (y_outs_ok hok (List.mem_of_getElem? (i := 2) rfl) (Nat.zero_le _) (by show q ≤ 1; omega))]
  exact h.2.2.1.1 q hq
theorem z_JN.eff {wi : Nat → Nat → Nat → Option Value} (h : z_JN wi G) (he : x_eff th0 E G G') (hok : y_outs E z_f9 = true) : z_JN wi G' := by
  obtain ⟨⟨a, b, c, d⟩, hf, hi⟩ := h
  have e4 : ∀ q, q < 2 → x_sl G' 364 q = x_sl G 364 q := fun q hq => he.at z_mt.2.2.1 (y_outs_ok hok (List.mem_of_getElem? (i := 1) rfl) (Nat.zero_le _) (by show q ≤ 1; omega))
  refine ⟨⟨(he.at z_mt.2.2.2.2.1 (y_outs_ok hok (List.mem_of_getElem? (i := 2) rfl) (by decide) (by decide))).trans a, (he.at z_mt.2.2.2.2.1 (y_outs_ok hok (List.mem_of_getElem? (i := 3) rfl) (by decide) (by decide))).trans b, (he.at z_mt.2.2.2.2.1 (y_outs_ok hok (List.mem_of_getElem? (i := 4) rfl) (by decide) (by decide))).trans c, (he.at z_mt.2.2.2.2.2 (y_outs_ok hok (List.mem_of_getElem? (i := 5) rfl) (by decide) (by decide))).trans d⟩, fun q hq => ?_, fun q hq x hx h0 => ?_⟩
  · rw [he.at z_mt.2.2.2.1 (y_outs_ok hok (List.mem_of_getElem? (i := 6) rfl) (Nat.zero_le _) (by show q ≤ 1; omega)), e4 q hq]
    exact hf q hq
  · rw [e4 q hq] at hx
    exact (hi q hq x hx h0).c (z_nrowk_c (fun i hi => he.at z_mt.2.1 (y_outs_ok hok (List.mem_of_getElem? (i := 0) rfl) (Nat.zero_le _) (by show 324 * q + i ≤ 647; omega))) (fun i hi => he.at z_mt2.2 (y_outs_ok hok (List.mem_of_getElem? (i := 7) rfl) (Nat.zero_le _) (by show 16 * q + i ≤ 31; omega))))
theorem z_KK.eff (h : z_KK z_LJ th ax am G) (he : x_eff th E G G') (hok : okK E = true) : z_KK z_LJ th ax am G' := by
  obtain ⟨rfl, rfl, rfl, h, w, wi, hX, hM⟩ := h
  unfold okK okS at hok
  obtain ⟨h1, h3⟩ := Bool.and_eq_true_iff.mp hok
  obtain ⟨h1, h2⟩ := Bool.and_eq_true_iff.mp h1
  exact ⟨rfl, rfl, rfl, h.eff he h1, w, wi, hX.eff he h3, hM.eff he h2⟩
theorem z_KK.spec {w : Nat → Nat → Option Value} {wi : Nat → Nat → Nat → Option Value} (h : z_KK z_LJ th ax am G) (he : x_eff th E G G') (hok : okS E = true) (hJ : z_JW w wi G) (hX : ZX w wi G') : z_KK z_LJ th ax am G' := by
  obtain ⟨rfl, rfl, rfl, h, -⟩ := h
  unfold okS at hok
  obtain ⟨h1, h2⟩ := Bool.and_eq_true_iff.mp hok
  exact ⟨rfl, rfl, rfl, h.eff he h1, w, wi, hX, hJ.2.eff he h2⟩
theorem z_INp.eff {P P' : Prop} (tx : th[ax]? = some 9) (ta : th[am]? = some 10) (h : z_INp P th ax am G sc sm) (hI : xI x_tb th G') (he : x_eff th E G G') (hok : okE1 E = true) (hP : P') : z_INp P' th ax am G' sc sm := by
  unfold okE1 at hok
  obtain ⟨h0, hok⟩ := Bool.and_eq_true_iff.mp hok
  obtain ⟨h1, hok⟩ := Bool.and_eq_true_iff.mp hok
  obtain ⟨h2, h3⟩ := Bool.and_eq_true_iff.mp hok
  obtain ⟨-, hV, tp, k1, k2, k3, k4, -⟩ := h
  exact ⟨hI, okE0_ok ta hV hI he h0, tp, by rw [he.at tx h1]; exact k1, k2, by rw [he.at k2 h2]; exact k3, by rw [he.at ta h3]; exact k4, hP⟩
theorem z_IN.kk (h : z_IN th ax am G sc sm) : z_KK z_LJ th ax am G := by
  obtain ⟨-, -, tp, -, -, -, -, hk⟩ := h
  exact hk
theorem z_IN.eff (tx : th[ax]? = some 9) (ta : th[am]? = some 10) (h : z_IN th ax am G sc sm) (hI : xI x_tb th G') (he : x_eff th E G G') (hok : okE E = true) : z_IN th ax am G' sc sm := by
  unfold okE at hok
  obtain ⟨h0, h1⟩ := Bool.and_eq_true_iff.mp hok
  exact z_INp.eff tx ta h hI he h0 (h.kk.eff he h1)
set_option maxHeartbeats 2000000 in
set_option maxRecDepth 100000 in
theorem bz_fault (h : z_IN th ax am G sc sm) : x_Gd xs L J d m_53 (fun r G' => ∀ y : Int32, r = some (.int y) → x_sl G 0 17 = some (.int y)) 0 (lv_args 0 [.ref ax]) [] G := by
  obtain ⟨rfl, rfl, rfl, -⟩ := h.kk
  obtain ⟨v, hv⟩ := y_fiT4 (a := 0) (i := 17) h.1 z_ty.1 rfl
  refine y_aln (e_53 (0, .aload_n 0, 1) (List.mem_of_getElem? (i := 0) rfl)) rfl ?_
  refine y_getf h.1 z_ty.1 (e_53 (1, .getfield 90, 3) (List.mem_of_getElem? (i := 1) rfl)) u_0_90 ⟨rfl, rfl⟩ hv ?_
  exact y_ret (e_53 (4, .ireturn, 1) (List.mem_of_getElem? (i := 2) rfl)) ⟨rfl, y_ri⟩ (fun y e => by cases e; exact hv)
theorem nz_fault (h : z_IN th ax am G sc sm) : x_Gd xs L J d m_182 (fun r G' => ∀ y : Int32, r = some (.int y) → x_sl G 349 15 = some (.int y)) 0 (lv_args 0 [.ref am]) [] G := by
  obtain ⟨rfl, rfl, rfl, -⟩ := h.kk
  obtain ⟨v, hv⟩ := y_fiT4 (a := 349) (i := 15) h.1 z_mt.2.2.2.2.1 rfl
  refine y_aln (e_182 (0, .aload_n 0, 1) (List.mem_of_getElem? (i := 0) rfl)) rfl ?_
  refine y_st (e_182 (1, .iconst 0, 1) (List.mem_of_getElem? (i := 1) rfl)) ⟨rfl, rfl, rfl, rfl⟩ ?_
  refine y_putf (f := (0, -2147483648, 2147483647)) h.1 z_mt.2.2.2.2.1 (e_182 (2, .putfield 1, 3) (List.mem_of_getElem? (i := 2) rfl)) u_17_1 ⟨rfl, rfl, by decide, rfl, rfl⟩ ⟨_, rfl, (x_i32 _).1, (x_i32 _).2⟩ (fun G1 u1 => ?_)
  have hI1 := h.1.upd u1 z_mt.2.2.2.2.1 (y_okA rfl)
  refine y_aln (e_182 (5, .aload_n 0, 1) (List.mem_of_getElem? (i := 3) rfl)) rfl ?_
  refine y_getf hI1 z_mt.2.2.2.2.1 (e_182 (6, .getfield 158, 3) (List.mem_of_getElem? (i := 4) rfl)) u_17_158 ⟨rfl, rfl⟩ (by rw [u1.2.1, if_neg (fun z => absurd z.2 (by decide))]; exact hv) ?_
  exact y_ret (e_182 (9, .ireturn, 1) (List.mem_of_getElem? (i := 5) rfl)) ⟨rfl, y_ri⟩ (fun y e => by cases e; exact hv)
set_option maxHeartbeats 2000000 in
set_option maxRecDepth 100000 in
theorem b_fault (hd : 318 ≤ d) (tx : th[ax]? = some 9) (ta : th[am]? = some 10) (h : z_IN th ax am G sc sm)  : x_Gd xs L J d m_53 (fun r G' => (∃ y : Int32, r = some (.int y) ∧ x_sl G' 349 15 = some (.int y)) ∧ z_IN th ax am G' sc sm) 0 (lv_args 0 [.ref ax]) [] G := by
  refine (((h_134 th xs L J).gd (G := G) (d := d) m_53_ok (by omega) (v := (y_v [(ax : Int)])) (as := [.ref ax]) (y_v_Bd (List.forall_mem_cons.mpr ⟨(y_cellB h.1 tx), (fun _ h => absurd h List.not_mem_nil)⟩)) (fun _ h => absurd h List.not_mem_nil) ⟨⟨ax, rfl, (by simp only [xl_ev, xt_ev, y_v, List.getD_cons_succ, List.getD_cons_zero]; omega), tx⟩, trivial⟩ (fun q hq => absurd hq List.not_mem_nil) h.1 (fun z => by cases z)).and (bz_fault h)).mono (fun r G' h' => ?_)
  obtain ⟨⟨v', -, -, hI', ef, p, hp, -, -, pa⟩, hz⟩ := h'
  obtain rfl : p = _ := List.mem_singleton.mp hp
  obtain ⟨y, rfl, -⟩ := y_pI pa
  exact ⟨⟨y, rfl, by obtain ⟨rfl, rfl, rfl, -, w, wi, hJ⟩ := h.kk; rw [ef.at z_mt.2.2.2.2.1 rfl, ← hJ.2.2.2.1.2]; exact hz y rfl⟩, h.eff tx ta hI' ef (by decide +kernel)⟩
set_option maxHeartbeats 2000000 in
set_option maxRecDepth 100000 in
theorem n_fault (hd : 318 ≤ d) (tx : th[ax]? = some 9) (ta : th[am]? = some 10) (h : z_IN th ax am G sc sm)  : x_Gd xs L J d m_182 (fun r G' => (∃ y : Int32, r = some (.int y) ∧ x_sl G am 15 = some (.int y)) ∧ z_IN th ax am G' sc sm) 0 (lv_args 0 [.ref am]) [] G := by
  refine (((h_240 th xs L J).gd (G := G) (d := d) m_182_ok (by omega) (v := (y_v [(am : Int)])) (as := [.ref am]) (y_v_Bd (List.forall_mem_cons.mpr ⟨(y_cellB h.1 ta), (fun _ h => absurd h List.not_mem_nil)⟩)) (fun _ h => absurd h List.not_mem_nil) ⟨⟨am, rfl, (by simp only [xl_ev, xt_ev, y_v, List.getD_cons_succ, List.getD_cons_zero]; omega), ta⟩, trivial⟩ (fun q hq => absurd hq List.not_mem_nil) h.1 (fun z => by cases z)).and (nz_fault h)).mono (fun r G' h' => ?_)
  obtain ⟨⟨v', -, -, hI', ef, p, hp, -, -, pa⟩, hz⟩ := h'
  obtain rfl : p = _ := List.mem_singleton.mp hp
  obtain ⟨y, rfl, -⟩ := y_pI pa
  exact ⟨⟨y, rfl, by obtain ⟨rfl, rfl, rfl, -⟩ := h.kk; exact hz y rfl⟩, h.eff tx ta hI' ef (by decide +kernel)⟩
set_option maxHeartbeats 2000000 in
set_option maxRecDepth 100000 in
theorem n_thing (hd : 318 ≤ d) (tx : th[ax]? = some 9) (ta : th[am]? = some 10) (h : z_IN th ax am G sc sm) (x1 x2 : Int32) : x_Gd xs L J d m_183 (fun r G' => (∃ y : Int32, r = some (.int y)) ∧ z_IN th ax am G' sc sm) 0 (lv_args 0 [.ref am, .int x1, .int x2]) [] G := by
  refine ((h_241 th xs L J).gd (G := G) (d := d) m_183_ok (by omega) (v := (y_v [(am : Int), x1.toInt, x2.toInt])) (as := [.ref am, .int x1, .int x2]) (y_v_Bd (List.forall_mem_cons.mpr ⟨(y_cellB h.1 ta), (List.forall_mem_cons.mpr ⟨(x_i32 x1), (List.forall_mem_cons.mpr ⟨(x_i32 x2), (fun _ h => absurd h List.not_mem_nil)⟩)⟩)⟩)) (fun _ h => absurd h List.not_mem_nil) ⟨⟨am, rfl, (by simp only [xl_ev, xt_ev, y_v, List.getD_cons_succ, List.getD_cons_zero]; omega), ta⟩, ⟨x1, rfl, (by simp only [xl_ev, xt_ev, y_v, List.getD_cons_succ, List.getD_cons_zero]; omega)⟩, ⟨x2, rfl, (by simp only [xl_ev, xt_ev, y_v, List.getD_cons_succ, List.getD_cons_zero]; omega)⟩, trivial⟩ (fun q hq => absurd hq List.not_mem_nil) h.1 (fun _ => h.2.1.2.1)).mono (fun r G' h' => ?_)
  obtain ⟨v', -, -, hI', ef, p, hp, -, -, pa⟩ := h'
  obtain rfl : p = _ := List.mem_singleton.mp hp
  obtain ⟨y, rfl, -⟩ := y_pI pa
  exact ⟨⟨y, rfl⟩, h.eff tx ta hI' ef (by decide +kernel)⟩
set_option maxHeartbeats 2000000 in
set_option maxRecDepth 100000 in
theorem b_mill (hd : 318 ≤ d) (tx : th[ax]? = some 9) (ta : th[am]? = some 10) (h : z_IN th ax am G sc sm) (x1 x2 : Int32) : x_Gd xs L J d m_54 (fun r G' => (∃ y : Int32, r = some (.int y)) ∧ z_IN th ax am G' sc sm) 0 (lv_args 0 [.ref ax, .int x1, .int x2]) [] G := by
  refine ((h_135 th xs L J).gd (G := G) (d := d) m_54_ok (by omega) (v := (y_v [(ax : Int), x1.toInt, x2.toInt])) (as := [.ref ax, .int x1, .int x2]) (y_v_Bd (List.forall_mem_cons.mpr ⟨(y_cellB h.1 tx), (List.forall_mem_cons.mpr ⟨(x_i32 x1), (List.forall_mem_cons.mpr ⟨(x_i32 x2), (fun _ h => absurd h List.not_mem_nil)⟩)⟩)⟩)) (fun _ h => absurd h List.not_mem_nil) ⟨⟨ax, rfl, (by simp only [xl_ev, xt_ev, y_v, List.getD_cons_succ, List.getD_cons_zero]; omega), tx⟩, ⟨x1, rfl, (by simp only [xl_ev, xt_ev, y_v, List.getD_cons_succ, List.getD_cons_zero]; omega)⟩, ⟨x2, rfl, (by simp only [xl_ev, xt_ev, y_v, List.getD_cons_succ, List.getD_cons_zero]; omega)⟩, trivial⟩ (fun q hq => absurd hq List.not_mem_nil) h.1 (fun z => by cases z)).mono (fun r G' h' => ?_)
  obtain ⟨v', -, -, hI', ef, p, hp, -, -, pa⟩ := h'
  obtain rfl : p = _ := List.mem_singleton.mp hp
  obtain ⟨y, rfl, -⟩ := y_pI pa
  exact ⟨⟨y, rfl⟩, h.eff tx ta hI' ef (by decide +kernel)⟩
set_option maxHeartbeats 2000000 in
set_option maxRecDepth 100000 in
theorem n_mill (hd : 318 ≤ d) (tx : th[ax]? = some 9) (ta : th[am]? = some 10) (h : z_IN th ax am G sc sm) (x1 x2 : Int32) : x_Gd xs L J d m_186 (fun r G' => (∃ y : Int32, r = some (.int y)) ∧ z_IN th ax am G' sc sm) 0 (lv_args 0 [.ref am, .int x1, .int x2]) [] G := by
  refine ((h_242 th xs L J).gd (G := G) (d := d) m_186_ok (by omega) (v := (y_v [(am : Int), x1.toInt, x2.toInt])) (as := [.ref am, .int x1, .int x2]) (y_v_Bd (List.forall_mem_cons.mpr ⟨(y_cellB h.1 ta), (List.forall_mem_cons.mpr ⟨(x_i32 x1), (List.forall_mem_cons.mpr ⟨(x_i32 x2), (fun _ h => absurd h List.not_mem_nil)⟩)⟩)⟩)) (fun _ h => absurd h List.not_mem_nil) ⟨⟨am, rfl, (by simp only [xl_ev, xt_ev, y_v, List.getD_cons_succ, List.getD_cons_zero]; omega), ta⟩, ⟨x1, rfl, (by simp only [xl_ev, xt_ev, y_v, List.getD_cons_succ, List.getD_cons_zero]; omega)⟩, ⟨x2, rfl, (by simp only [xl_ev, xt_ev, y_v, List.getD_cons_succ, List.getD_cons_zero]; omega)⟩, trivial⟩ (fun q hq => absurd hq List.not_mem_nil) h.1 (fun z => by cases z)).mono (fun r G' h' => ?_)
  obtain ⟨v', -, -, hI', ef, p, hp, -, -, pa⟩ := h'
  obtain rfl : p = _ := List.mem_singleton.mp hp
  obtain ⟨y, rfl, -⟩ := y_pI pa
  exact ⟨⟨y, rfl⟩, h.eff tx ta hI' ef (by decide +kernel)⟩
set_option maxHeartbeats 2000000 in
set_option maxRecDepth 100000 in
theorem b_man (hd : 318 ≤ d) (tx : th[ax]? = some 9) (ta : th[am]? = some 10) (h : z_IN th ax am G sc sm) (x1 x2 : Int32) : x_Gd xs L J d m_56 (fun r G' => (∃ y : Int32, r = some (.int y)) ∧ z_IN th ax am G' sc sm) 0 (lv_args 0 [.ref ax, .int x1, .int x2]) [] G := by
  refine ((h_136 th xs L J).gd (G := G) (d := d) m_56_ok (by omega) (v := (y_v [(ax : Int), x1.toInt, x2.toInt])) (as := [.ref ax, .int x1, .int x2]) (y_v_Bd (List.forall_mem_cons.mpr ⟨(y_cellB h.1 tx), (List.forall_mem_cons.mpr ⟨(x_i32 x1), (List.forall_mem_cons.mpr ⟨(x_i32 x2), (fun _ h => absurd h List.not_mem_nil)⟩)⟩)⟩)) (fun _ h => absurd h List.not_mem_nil) ⟨⟨ax, rfl, (by simp only [xl_ev, xt_ev, y_v, List.getD_cons_succ, List.getD_cons_zero]; omega), tx⟩, ⟨x1, rfl, (by simp only [xl_ev, xt_ev, y_v, List.getD_cons_succ, List.getD_cons_zero]; omega)⟩, ⟨x2, rfl, (by simp only [xl_ev, xt_ev, y_v, List.getD_cons_succ, List.getD_cons_zero]; omega)⟩, trivial⟩ (fun q hq => absurd hq List.not_mem_nil) h.1 (fun z => by cases z)).mono (fun r G' h' => ?_)
  obtain ⟨v', -, -, hI', ef, p, hp, -, -, pa⟩ := h'
  obtain rfl : p = _ := List.mem_singleton.mp hp
  obtain ⟨y, rfl, -⟩ := y_pI pa
  exact ⟨⟨y, rfl⟩, h.eff tx ta hI' ef (by decide +kernel)⟩
set_option maxHeartbeats 2000000 in
set_option maxRecDepth 100000 in
theorem n_man (hd : 318 ≤ d) (tx : th[ax]? = some 9) (ta : th[am]? = some 10) (h : z_IN th ax am G sc sm) (x1 x2 : Int32) : x_Gd xs L J d m_187 (fun r G' => (∃ y : Int32, r = some (.int y)) ∧ z_IN th ax am G' sc sm) 0 (lv_args 0 [.ref am, .int x1, .int x2]) [] G := by
  refine ((h_243 th xs L J).gd (G := G) (d := d) m_187_ok (by omega) (v := (y_v [(am : Int), x1.toInt, x2.toInt])) (as := [.ref am, .int x1, .int x2]) (y_v_Bd (List.forall_mem_cons.mpr ⟨(y_cellB h.1 ta), (List.forall_mem_cons.mpr ⟨(x_i32 x1), (List.forall_mem_cons.mpr ⟨(x_i32 x2), (fun _ h => absurd h List.not_mem_nil)⟩)⟩)⟩)) (fun _ h => absurd h List.not_mem_nil) ⟨⟨am, rfl, (by simp only [xl_ev, xt_ev, y_v, List.getD_cons_succ, List.getD_cons_zero]; omega), ta⟩, ⟨x1, rfl, (by simp only [xl_ev, xt_ev, y_v, List.getD_cons_succ, List.getD_cons_zero]; omega)⟩, ⟨x2, rfl, (by simp only [xl_ev, xt_ev, y_v, List.getD_cons_succ, List.getD_cons_zero]; omega)⟩, trivial⟩ (fun q hq => absurd hq List.not_mem_nil) h.1 (fun z => by cases z)).mono (fun r G' h' => ?_)
  obtain ⟨v', -, -, hI', ef, p, hp, -, -, pa⟩ := h'
  obtain rfl : p = _ := List.mem_singleton.mp hp
  obtain ⟨y, rfl, -⟩ := y_pI pa
  exact ⟨⟨y, rfl⟩, h.eff tx ta hI' ef (by decide +kernel)⟩
set_option maxHeartbeats 2000000 in
set_option maxRecDepth 100000 in
theorem b_passage (hd : 318 ≤ d) (tx : th[ax]? = some 9) (ta : th[am]? = some 10) (h : z_IN th ax am G sc sm) (x1 x2 : Int32) : x_Gd xs L J d m_58 (fun r G' => (∃ y : Int32, r = some (.int y)) ∧ z_IN th ax am G' sc sm) 0 (lv_args 0 [.ref ax, .int x1, .int x2]) [] G := by
  refine ((h_137 th xs L J).gd (G := G) (d := d) m_58_ok (by omega) (v := (y_v [(ax : Int), x1.toInt, x2.toInt])) (as := [.ref ax, .int x1, .int x2]) (y_v_Bd (List.forall_mem_cons.mpr ⟨(y_cellB h.1 tx), (List.forall_mem_cons.mpr ⟨(x_i32 x1), (List.forall_mem_cons.mpr ⟨(x_i32 x2), (fun _ h => absurd h List.not_mem_nil)⟩)⟩)⟩)) (fun _ h => absurd h List.not_mem_nil) ⟨⟨ax, rfl, (by simp only [xl_ev, xt_ev, y_v, List.getD_cons_succ, List.getD_cons_zero]; omega), tx⟩, ⟨x1, rfl, (by simp only [xl_ev, xt_ev, y_v, List.getD_cons_succ, List.getD_cons_zero]; omega)⟩, ⟨x2, rfl, (by simp only [xl_ev, xt_ev, y_v, List.getD_cons_succ, List.getD_cons_zero]; omega)⟩, trivial⟩ (fun q hq => absurd hq List.not_mem_nil) h.1 (fun z => by cases z)).mono (fun r G' h' => ?_)
  obtain ⟨v', -, -, hI', ef, p, hp, -, -, pa⟩ := h'
  obtain rfl : p = _ := List.mem_singleton.mp hp
  obtain ⟨y, rfl, -⟩ := y_pI pa
  exact ⟨⟨y, rfl⟩, h.eff tx ta hI' ef (by decide +kernel)⟩
set_option maxHeartbeats 2000000 in
set_option maxRecDepth 100000 in
theorem n_passage (hd : 318 ≤ d) (tx : th[ax]? = some 9) (ta : th[am]? = some 10) (h : z_IN th ax am G sc sm) (x1 x2 : Int32) : x_Gd xs L J d m_189 (fun r G' => (∃ y : Int32, r = some (.int y)) ∧ z_IN th ax am G' sc sm) 0 (lv_args 0 [.ref am, .int x1, .int x2]) [] G := by
  refine ((h_244 th xs L J).gd (G := G) (d := d) m_189_ok (by omega) (v := (y_v [(am : Int), x1.toInt, x2.toInt])) (as := [.ref am, .int x1, .int x2]) (y_v_Bd (List.forall_mem_cons.mpr ⟨(y_cellB h.1 ta), (List.forall_mem_cons.mpr ⟨(x_i32 x1), (List.forall_mem_cons.mpr ⟨(x_i32 x2), (fun _ h => absurd h List.not_mem_nil)⟩)⟩)⟩)) (fun _ h => absurd h List.not_mem_nil) ⟨⟨am, rfl, (by simp only [xl_ev, xt_ev, y_v, List.getD_cons_succ, List.getD_cons_zero]; omega), ta⟩, ⟨x1, rfl, (by simp only [xl_ev, xt_ev, y_v, List.getD_cons_succ, List.getD_cons_zero]; omega)⟩, ⟨x2, rfl, (by simp only [xl_ev, xt_ev, y_v, List.getD_cons_succ, List.getD_cons_zero]; omega)⟩, trivial⟩ (fun q hq => absurd hq List.not_mem_nil) h.1 (fun z => by cases z)).mono (fun r G' h' => ?_)
  obtain ⟨v', -, -, hI', ef, p, hp, -, -, pa⟩ := h'
  obtain rfl : p = _ := List.mem_singleton.mp hp
  obtain ⟨y, rfl, -⟩ := y_pI pa
  exact ⟨⟨y, rfl⟩, h.eff tx ta hI' ef (by decide +kernel)⟩
set_option maxHeartbeats 2000000 in
set_option maxRecDepth 100000 in
theorem b_now (hd : 318 ≤ d) (tx : th[ax]? = some 9) (ta : th[am]? = some 10) (h : z_IN th ax am G sc sm) (x1 : Int32) : x_Gd xs L J d m_61 (fun r G' => (∃ y : Int32, r = some (.int y)) ∧ z_IN th ax am G' sc sm) 0 (lv_args 0 [.ref ax, .int x1]) [] G := by
  refine ((h_138 th xs L J).gd (G := G) (d := d) m_61_ok (by omega) (v := (y_v [(ax : Int), x1.toInt])) (as := [.ref ax, .int x1]) (y_v_Bd (List.forall_mem_cons.mpr ⟨(y_cellB h.1 tx), (List.forall_mem_cons.mpr ⟨(x_i32 x1), (fun _ h => absurd h List.not_mem_nil)⟩)⟩)) (fun _ h => absurd h List.not_mem_nil) ⟨⟨ax, rfl, (by simp only [xl_ev, xt_ev, y_v, List.getD_cons_succ, List.getD_cons_zero]; omega), tx⟩, ⟨x1, rfl, (by simp only [xl_ev, xt_ev, y_v, List.getD_cons_succ, List.getD_cons_zero]; omega)⟩, trivial⟩ (fun q hq => absurd hq List.not_mem_nil) h.1 (fun z => by cases z)).mono (fun r G' h' => ?_)
  obtain ⟨v', -, -, hI', ef, p, hp, -, -, pa⟩ := h'
  obtain rfl : p = _ := List.mem_singleton.mp hp
  obtain ⟨y, rfl, -⟩ := y_pI pa
  exact ⟨⟨y, rfl⟩, h.eff tx ta hI' ef (by decide +kernel)⟩
set_option maxHeartbeats 2000000 in
set_option maxRecDepth 100000 in
theorem n_now (hd : 318 ≤ d) (tx : th[ax]? = some 9) (ta : th[am]? = some 10) (h : z_IN th ax am G sc sm) (x1 : Int32) : x_Gd xs L J d m_196 (fun r G' => (∃ y : Int32, r = some (.int y)) ∧ z_IN th ax am G' sc sm) 0 (lv_args 0 [.ref am, .int x1]) [] G := by
  refine ((h_250 th xs L J).gd (G := G) (d := d) m_196_ok (by omega) (v := (y_v [(am : Int), x1.toInt])) (as := [.ref am, .int x1]) (y_v_Bd (List.forall_mem_cons.mpr ⟨(y_cellB h.1 ta), (List.forall_mem_cons.mpr ⟨(x_i32 x1), (fun _ h => absurd h List.not_mem_nil)⟩)⟩)) (fun _ h => absurd h List.not_mem_nil) ⟨⟨am, rfl, (by simp only [xl_ev, xt_ev, y_v, List.getD_cons_succ, List.getD_cons_zero]; omega), ta⟩, ⟨x1, rfl, (by simp only [xl_ev, xt_ev, y_v, List.getD_cons_succ, List.getD_cons_zero]; omega)⟩, trivial⟩ (fun q hq => absurd hq List.not_mem_nil) h.1 (fun z => by cases z)).mono (fun r G' h' => ?_)
  obtain ⟨v', -, -, hI', ef, p, hp, -, -, pa⟩ := h'
  obtain rfl : p = _ := List.mem_singleton.mp hp
  obtain ⟨y, rfl, -⟩ := y_pI pa
  exact ⟨⟨y, rfl⟩, h.eff tx ta hI' ef (by decide +kernel)⟩
set_option maxHeartbeats 2000000 in
set_option maxRecDepth 100000 in
theorem b_air (hd : 318 ≤ d) (tx : th[ax]? = some 9) (ta : th[am]? = some 10) (h : z_IN th ax am G sc sm) (x1 x2 : Int32) : x_Gd xs L J d m_67 (fun r G' => (∃ y : Int32, r = some (.int y)) ∧ z_IN th ax am G' sc sm) 0 (lv_args 0 [.ref ax, .int x1, .int x2]) [] G := by
  refine ((h_139 th xs L J).gd (G := G) (d := d) m_67_ok (by omega) (v := (y_v [(ax : Int), x1.toInt, x2.toInt])) (as := [.ref ax, .int x1, .int x2]) (y_v_Bd (List.forall_mem_cons.mpr ⟨(y_cellB h.1 tx), (List.forall_mem_cons.mpr ⟨(x_i32 x1), (List.forall_mem_cons.mpr ⟨(x_i32 x2), (fun _ h => absurd h List.not_mem_nil)⟩)⟩)⟩)) (fun _ h => absurd h List.not_mem_nil) ⟨⟨ax, rfl, (by simp only [xl_ev, xt_ev, y_v, List.getD_cons_succ, List.getD_cons_zero]; omega), tx⟩, ⟨x1, rfl, (by simp only [xl_ev, xt_ev, y_v, List.getD_cons_succ, List.getD_cons_zero]; omega)⟩, ⟨x2, rfl, (by simp only [xl_ev, xt_ev, y_v, List.getD_cons_succ, List.getD_cons_zero]; omega)⟩, trivial⟩ (fun q hq => absurd hq List.not_mem_nil) h.1 (fun z => by cases z)).mono (fun r G' h' => ?_)
  obtain ⟨v', -, -, hI', ef, p, hp, -, -, pa⟩ := h'
  obtain rfl : p = _ := List.mem_singleton.mp hp
  obtain ⟨y, rfl, -⟩ := y_pI pa
  exact ⟨⟨y, rfl⟩, h.eff tx ta hI' ef (by decide +kernel)⟩
set_option maxHeartbeats 2000000 in
set_option maxRecDepth 100000 in
theorem n_air (hd : 318 ≤ d) (tx : th[ax]? = some 9) (ta : th[am]? = some 10) (h : z_IN th ax am G sc sm) (x1 x2 : Int32) : x_Gd xs L J d m_190 (fun r G' => (∃ y : Int32, r = some (.int y)) ∧ z_IN th ax am G' sc sm) 0 (lv_args 0 [.ref am, .int x1, .int x2]) [] G := by
  refine ((h_248 th xs L J).gd (G := G) (d := d) m_190_ok (by omega) (v := (y_v [(am : Int), x1.toInt, x2.toInt])) (as := [.ref am, .int x1, .int x2]) (y_v_Bd (List.forall_mem_cons.mpr ⟨(y_cellB h.1 ta), (List.forall_mem_cons.mpr ⟨(x_i32 x1), (List.forall_mem_cons.mpr ⟨(x_i32 x2), (fun _ h => absurd h List.not_mem_nil)⟩)⟩)⟩)) (fun _ h => absurd h List.not_mem_nil) ⟨⟨am, rfl, (by simp only [xl_ev, xt_ev, y_v, List.getD_cons_succ, List.getD_cons_zero]; omega), ta⟩, ⟨x1, rfl, (by simp only [xl_ev, xt_ev, y_v, List.getD_cons_succ, List.getD_cons_zero]; omega)⟩, ⟨x2, rfl, (by simp only [xl_ev, xt_ev, y_v, List.getD_cons_succ, List.getD_cons_zero]; omega)⟩, trivial⟩ (fun q hq => absurd hq List.not_mem_nil) h.1 (fun z => by cases z)).mono (fun r G' h' => ?_)
  obtain ⟨v', -, -, hI', ef, p, hp, -, -, pa⟩ := h'
  obtain rfl : p = _ := List.mem_singleton.mp hp
  obtain ⟨y, rfl, -⟩ := y_pI pa
  exact ⟨⟨y, rfl⟩, h.eff tx ta hI' ef (by decide +kernel)⟩
set_option maxHeartbeats 2000000 in
set_option maxRecDepth 100000 in
theorem b_force (hd : 318 ≤ d) (tx : th[ax]? = some 9) (ta : th[am]? = some 10) (h : z_IN th ax am G sc sm) (x1 x2 : Int32) : x_Gd xs L J d m_69 (fun r G' => (∃ y : Int32, r = some (.int y)) ∧ z_IN th ax am G' sc sm) 0 (lv_args 0 [.ref ax, .int x1, .int x2]) [] G := by
  refine ((h_140 th xs L J).gd (G := G) (d := d) m_69_ok (by omega) (v := (y_v [(ax : Int), x1.toInt, x2.toInt])) (as := [.ref ax, .int x1, .int x2]) (y_v_Bd (List.forall_mem_cons.mpr ⟨(y_cellB h.1 tx), (List.forall_mem_cons.mpr ⟨(x_i32 x1), (List.forall_mem_cons.mpr ⟨(x_i32 x2), (fun _ h => absurd h List.not_mem_nil)⟩)⟩)⟩)) (fun _ h => absurd h List.not_mem_nil) ⟨⟨ax, rfl, (by simp only [xl_ev, xt_ev, y_v, List.getD_cons_succ, List.getD_cons_zero]; omega), tx⟩, ⟨x1, rfl, (by simp only [xl_ev, xt_ev, y_v, List.getD_cons_succ, List.getD_cons_zero]; omega)⟩, ⟨x2, rfl, (by simp only [xl_ev, xt_ev, y_v, List.getD_cons_succ, List.getD_cons_zero]; omega)⟩, trivial⟩ (fun q hq => absurd hq List.not_mem_nil) h.1 (fun z => by cases z)).mono (fun r G' h' => ?_)
  obtain ⟨v', -, -, hI', ef, p, hp, -, -, pa⟩ := h'
  obtain rfl : p = _ := List.mem_singleton.mp hp
  obtain ⟨y, rfl, -⟩ := y_pI pa
  exact ⟨⟨y, rfl⟩, h.eff tx ta hI' ef (by decide +kernel)⟩
set_option maxHeartbeats 2000000 in
set_option maxRecDepth 100000 in
theorem n_force (hd : 318 ≤ d) (tx : th[ax]? = some 9) (ta : th[am]? = some 10) (h : z_IN th ax am G sc sm) (x1 x2 : Int32) : x_Gd xs L J d m_193 (fun r G' => (∃ y : Int32, r = some (.int y)) ∧ z_IN th ax am G' sc sm) 0 (lv_args 0 [.ref am, .int x1, .int x2]) [] G := by
  refine ((h_249 th xs L J).gd (G := G) (d := d) m_193_ok (by omega) (v := (y_v [(am : Int), x1.toInt, x2.toInt])) (as := [.ref am, .int x1, .int x2]) (y_v_Bd (List.forall_mem_cons.mpr ⟨(y_cellB h.1 ta), (List.forall_mem_cons.mpr ⟨(x_i32 x1), (List.forall_mem_cons.mpr ⟨(x_i32 x2), (fun _ h => absurd h List.not_mem_nil)⟩)⟩)⟩)) (fun _ h => absurd h List.not_mem_nil) ⟨⟨am, rfl, (by simp only [xl_ev, xt_ev, y_v, List.getD_cons_succ, List.getD_cons_zero]; omega), ta⟩, ⟨x1, rfl, (by simp only [xl_ev, xt_ev, y_v, List.getD_cons_succ, List.getD_cons_zero]; omega)⟩, ⟨x2, rfl, (by simp only [xl_ev, xt_ev, y_v, List.getD_cons_succ, List.getD_cons_zero]; omega)⟩, trivial⟩ (fun q hq => absurd hq List.not_mem_nil) h.1 (fun z => by cases z)).mono (fun r G' h' => ?_)
  obtain ⟨v', -, -, hI', ef, p, hp, -, -, pa⟩ := h'
  obtain rfl : p = _ := List.mem_singleton.mp hp
  obtain ⟨y, rfl, -⟩ := y_pI pa
  exact ⟨⟨y, rfl⟩, h.eff tx ta hI' ef (by decide +kernel)⟩
theorem bz_tie (hd : 318 ≤ d) (h : z_IN th ax am G sc sm) (x1 x2 : Int32) : x_Gd xs L J d m_73 (fun r G' => ∃ w wi, z_JW w wi G ∧ ZX w wi G') 0 (lv_args 0 [.ref ax, .int x1, .int x2]) [] G := by
  obtain ⟨rfl, rfl, rfl, -, w, wi, hJ⟩ := h.kk
  exact (zb_tie hd hJ.1 h.1 x1 x2).mono (fun r G' z => ⟨w, wi, hJ, z⟩)
set_option maxHeartbeats 2000000 in
set_option maxRecDepth 100000 in
theorem b_tie (hd : 318 ≤ d) (tx : th[ax]? = some 9) (ta : th[am]? = some 10) (h : z_IN th ax am G sc sm) (x1 x2 : Int32) : x_Gd xs L J d m_73 (fun r G' => (∃ y : Int32, r = some (.int y)) ∧ z_IN th ax am G' sc sm) 0 (lv_args 0 [.ref ax, .int x1, .int x2]) [] G := by
  refine (((h_145 th xs L J).gd (G := G) (d := d) m_73_ok (by omega) (v := (y_v [(ax : Int), x1.toInt, x2.toInt])) (as := [.ref ax, .int x1, .int x2]) (y_v_Bd (List.forall_mem_cons.mpr ⟨(y_cellB h.1 tx), (List.forall_mem_cons.mpr ⟨(x_i32 x1), (List.forall_mem_cons.mpr ⟨(x_i32 x2), (fun _ h => absurd h List.not_mem_nil)⟩)⟩)⟩)) (fun _ h => absurd h List.not_mem_nil) ⟨⟨ax, rfl, (by simp only [xl_ev, xt_ev, y_v, List.getD_cons_succ, List.getD_cons_zero]; omega), tx⟩, ⟨x1, rfl, (by simp only [xl_ev, xt_ev, y_v, List.getD_cons_succ, List.getD_cons_zero]; omega)⟩, ⟨x2, rfl, (by simp only [xl_ev, xt_ev, y_v, List.getD_cons_succ, List.getD_cons_zero]; omega)⟩, trivial⟩ (fun q hq => absurd hq List.not_mem_nil) h.1 (fun z => by cases z)).and (bz_tie hd h x1 x2)).mono (fun r G' h' => ?_)
  obtain ⟨⟨v', -, -, hI', ef, p, hp, -, -, pa⟩, w, wi, hJ, hX⟩ := h'
  obtain rfl : p = _ := List.mem_singleton.mp hp
  obtain ⟨y, rfl, -⟩ := y_pI pa
  exact ⟨⟨y, rfl⟩, z_INp.eff tx ta h hI' ef (by decide +kernel) (h.kk.spec ef (by decide +kernel) hJ hX)⟩
set_option maxHeartbeats 2000000 in
set_option maxRecDepth 100000 in
theorem n_tie (hd : 318 ≤ d) (tx : th[ax]? = some 9) (ta : th[am]? = some 10) (h : z_IN th ax am G sc sm) (x1 x2 : Int32) : x_Gd xs L J d m_198 (fun r G' => (∃ y : Int32, r = some (.int y)) ∧ z_IN th ax am G' sc sm) 0 (lv_args 0 [.ref am, .int x1, .int x2]) [] G := by
  refine ((h_262 th xs L J).gd (G := G) (d := d) m_198_ok (by omega) (v := (y_v [(am : Int), x1.toInt, x2.toInt])) (as := [.ref am, .int x1, .int x2]) (y_v_Bd (List.forall_mem_cons.mpr ⟨(y_cellB h.1 ta), (List.forall_mem_cons.mpr ⟨(x_i32 x1), (List.forall_mem_cons.mpr ⟨(x_i32 x2), (fun _ h => absurd h List.not_mem_nil)⟩)⟩)⟩)) (fun _ h => absurd h List.not_mem_nil) ⟨⟨am, rfl, (by simp only [xl_ev, xt_ev, y_v, List.getD_cons_succ, List.getD_cons_zero]; omega), ta⟩, ⟨x1, rfl, (by simp only [xl_ev, xt_ev, y_v, List.getD_cons_succ, List.getD_cons_zero]; omega)⟩, ⟨x2, rfl, (by simp only [xl_ev, xt_ev, y_v, List.getD_cons_succ, List.getD_cons_zero]; omega)⟩, trivial⟩ (fun q hq => absurd hq List.not_mem_nil) h.1 (fun z => by cases z)).mono (fun r G' h' => ?_)
  obtain ⟨v', -, -, hI', ef, p, hp, -, -, pa⟩ := h'
  obtain rfl : p = _ := List.mem_singleton.mp hp
  obtain ⟨y, rfl, -⟩ := y_pI pa
  exact ⟨⟨y, rfl⟩, h.eff tx ta hI' ef (by decide +kernel)⟩
theorem bz_walk (hd : 318 ≤ d) (h : z_IN th ax am G sc sm) (x1 x2 : Int32) : x_Gd xs L J d m_79 (fun r G' => ∃ w wi, z_JW w wi G ∧ ZX w wi G') 0 (lv_args 0 [.ref ax, .int x1, .int x2]) [] G := by
  obtain ⟨rfl, rfl, rfl, -, w, wi, hJ⟩ := h.kk
  exact (zb_walk hd hJ.1 h.1 x1 x2).mono (fun r G' z => ⟨w, wi, hJ, z⟩)
set_option maxHeartbeats 2000000 in
set_option maxRecDepth 100000 in
theorem b_walk (hd : 318 ≤ d) (tx : th[ax]? = some 9) (ta : th[am]? = some 10) (h : z_IN th ax am G sc sm) (x1 x2 : Int32) : x_Gd xs L J d m_79 (fun r G' => (∃ y : Int32, r = some (.int y)) ∧ z_IN th ax am G' sc sm) 0 (lv_args 0 [.ref ax, .int x1, .int x2]) [] G := by
  refine (((h_146 th xs L J).gd (G := G) (d := d) m_79_ok (by omega) (v := (y_v [(ax : Int), x1.toInt, x2.toInt])) (as := [.ref ax, .int x1, .int x2]) (y_v_Bd (List.forall_mem_cons.mpr ⟨(y_cellB h.1 tx), (List.forall_mem_cons.mpr ⟨(x_i32 x1), (List.forall_mem_cons.mpr ⟨(x_i32 x2), (fun _ h => absurd h List.not_mem_nil)⟩)⟩)⟩)) (fun _ h => absurd h List.not_mem_nil) ⟨⟨ax, rfl, (by simp only [xl_ev, xt_ev, y_v, List.getD_cons_succ, List.getD_cons_zero]; omega), tx⟩, ⟨x1, rfl, (by simp only [xl_ev, xt_ev, y_v, List.getD_cons_succ, List.getD_cons_zero]; omega)⟩, ⟨x2, rfl, (by simp only [xl_ev, xt_ev, y_v, List.getD_cons_succ, List.getD_cons_zero]; omega)⟩, trivial⟩ (fun q hq => absurd hq List.not_mem_nil) h.1 (fun z => by cases z)).and (bz_walk hd h x1 x2)).mono (fun r G' h' => ?_)
  obtain ⟨⟨v', -, -, hI', ef, p, hp, -, -, pa⟩, w, wi, hJ, hX⟩ := h'
  obtain rfl : p = _ := List.mem_singleton.mp hp
  obtain ⟨y, rfl, -⟩ := y_pI pa
  exact ⟨⟨y, rfl⟩, z_INp.eff tx ta h hI' ef (by decide +kernel) (h.kk.spec ef (by decide +kernel) hJ hX)⟩
set_option maxHeartbeats 2000000 in
set_option maxRecDepth 100000 in
theorem n_walk (hd : 318 ≤ d) (tx : th[ax]? = some 9) (ta : th[am]? = some 10) (h : z_IN th ax am G sc sm) (x1 x2 : Int32) : x_Gd xs L J d m_202 (fun r G' => (∃ y : Int32, r = some (.int y)) ∧ z_IN th ax am G' sc sm) 0 (lv_args 0 [.ref am, .int x1, .int x2]) [] G := by
  refine ((h_297 th xs L J).gd (G := G) (d := d) m_202_ok (by omega) (v := (y_v [(am : Int), x1.toInt, x2.toInt])) (as := [.ref am, .int x1, .int x2]) (y_v_Bd (List.forall_mem_cons.mpr ⟨(y_cellB h.1 ta), (List.forall_mem_cons.mpr ⟨(x_i32 x1), (List.forall_mem_cons.mpr ⟨(x_i32 x2), (fun _ h => absurd h List.not_mem_nil)⟩)⟩)⟩)) (fun _ h => absurd h List.not_mem_nil) ⟨⟨am, rfl, (by simp only [xl_ev, xt_ev, y_v, List.getD_cons_succ, List.getD_cons_zero]; omega), ta⟩, ⟨x1, rfl, (by simp only [xl_ev, xt_ev, y_v, List.getD_cons_succ, List.getD_cons_zero]; omega)⟩, ⟨x2, rfl, (by simp only [xl_ev, xt_ev, y_v, List.getD_cons_succ, List.getD_cons_zero]; omega)⟩, trivial⟩ (fun q hq => absurd hq List.not_mem_nil) h.1 (fun _ => h.2.1.2.1)).mono (fun r G' h' => ?_)
  obtain ⟨v', -, -, hI', ef, p, hp, -, -, pa⟩ := h'
  obtain rfl : p = _ := List.mem_singleton.mp hp
  obtain ⟨y, rfl, -⟩ := y_pI pa
  exact ⟨⟨y, rfl⟩, h.eff tx ta hI' ef (by decide +kernel)⟩
theorem bz_cough (hd : 318 ≤ d) (h : z_IN th ax am G sc sm)  : x_Gd xs L J d m_93 (fun r G' => ∃ w wi, z_JW w wi G ∧ ZX w wi G') 0 (lv_args 0 [.ref ax]) [] G := by
  obtain ⟨rfl, rfl, rfl, -, w, wi, hJ⟩ := h.kk
  exact (zb_cough hd hJ.1 h.1).mono (fun r G' z => ⟨w, wi, hJ, z⟩)
set_option maxHeartbeats 2000000 in
set_option maxRecDepth 100000 in
theorem b_cough (hd : 318 ≤ d) (tx : th[ax]? = some 9) (ta : th[am]? = some 10) (h : z_IN th ax am G sc sm)  : x_Gd xs L J d m_93 (fun r G' => (∃ y : Int32, r = some (.int y)) ∧ z_IN th ax am G' sc sm) 0 (lv_args 0 [.ref ax]) [] G := by
  refine (((h_147 th xs L J).gd (G := G) (d := d) m_93_ok (by omega) (v := (y_v [(ax : Int)])) (as := [.ref ax]) (y_v_Bd (List.forall_mem_cons.mpr ⟨(y_cellB h.1 tx), (fun _ h => absurd h List.not_mem_nil)⟩)) (fun _ h => absurd h List.not_mem_nil) ⟨⟨ax, rfl, (by simp only [xl_ev, xt_ev, y_v, List.getD_cons_succ, List.getD_cons_zero]; omega), tx⟩, trivial⟩ (fun q hq => absurd hq List.not_mem_nil) h.1 (fun z => by cases z)).and (bz_cough hd h)).mono (fun r G' h' => ?_)
  obtain ⟨⟨v', -, -, hI', ef, p, hp, -, -, pa⟩, w, wi, hJ, hX⟩ := h'
  obtain rfl : p = _ := List.mem_singleton.mp hp
  obtain ⟨y, rfl, -⟩ := y_pI pa
  exact ⟨⟨y, rfl⟩, z_INp.eff tx ta h hI' ef (by decide +kernel) (h.kk.spec ef (by decide +kernel) hJ hX)⟩
set_option maxHeartbeats 2000000 in
set_option maxRecDepth 100000 in
theorem n_cough (hd : 318 ≤ d) (tx : th[ax]? = some 9) (ta : th[am]? = some 10) (h : z_IN th ax am G sc sm)  : x_Gd xs L J d m_212 (fun r G' => (∃ y : Int32, r = some (.int y)) ∧ z_IN th ax am G' sc sm) 0 (lv_args 0 [.ref am]) [] G := by
  refine ((h_263 th xs L J).gd (G := G) (d := d) m_212_ok (by omega) (v := (y_v [(am : Int)])) (as := [.ref am]) (y_v_Bd (List.forall_mem_cons.mpr ⟨(y_cellB h.1 ta), (fun _ h => absurd h List.not_mem_nil)⟩)) (fun _ h => absurd h List.not_mem_nil) ⟨⟨am, rfl, (by simp only [xl_ev, xt_ev, y_v, List.getD_cons_succ, List.getD_cons_zero]; omega), ta⟩, trivial⟩ (fun q hq => absurd hq List.not_mem_nil) h.1 (fun z => by cases z)).mono (fun r G' h' => ?_)
  obtain ⟨v', -, -, hI', ef, p, hp, -, -, pa⟩ := h'
  obtain rfl : p = _ := List.mem_singleton.mp hp
  obtain ⟨y, rfl, -⟩ := y_pI pa
  exact ⟨⟨y, rfl⟩, h.eff tx ta hI' ef (by decide +kernel)⟩
theorem bz_hours (hd : 318 ≤ d) (h : z_IN th ax am G sc sm) (x1 : Int32) : x_Gd xs L J d m_95 (fun r G' => ∃ w wi, z_JW w wi G ∧ ZX w wi G') 0 (lv_args 0 [.ref ax, .int x1]) [] G := by
  obtain ⟨rfl, rfl, rfl, -, w, wi, hJ⟩ := h.kk
  exact (zb_hours hd hJ.1 h.1 x1).mono (fun r G' z => ⟨w, wi, hJ, z⟩)
set_option maxHeartbeats 2000000 in
set_option maxRecDepth 100000 in
theorem b_hours (hd : 318 ≤ d) (tx : th[ax]? = some 9) (ta : th[am]? = some 10) (h : z_IN th ax am G sc sm) (x1 : Int32) : x_Gd xs L J d m_95 (fun r G' => (∃ y : Int32, r = some (.int y)) ∧ z_IN th ax am G' sc sm) 0 (lv_args 0 [.ref ax, .int x1]) [] G := by
  refine (((h_148 th xs L J).gd (G := G) (d := d) m_95_ok (by omega) (v := (y_v [(ax : Int), x1.toInt])) (as := [.ref ax, .int x1]) (y_v_Bd (List.forall_mem_cons.mpr ⟨(y_cellB h.1 tx), (List.forall_mem_cons.mpr ⟨(x_i32 x1), (fun _ h => absurd h List.not_mem_nil)⟩)⟩)) (fun _ h => absurd h List.not_mem_nil) ⟨⟨ax, rfl, (by simp only [xl_ev, xt_ev, y_v, List.getD_cons_succ, List.getD_cons_zero]; omega), tx⟩, ⟨x1, rfl, (by simp only [xl_ev, xt_ev, y_v, List.getD_cons_succ, List.getD_cons_zero]; omega)⟩, trivial⟩ (fun q hq => absurd hq List.not_mem_nil) h.1 (fun z => by cases z)).and (bz_hours hd h x1)).mono (fun r G' h' => ?_)
  obtain ⟨⟨v', -, -, hI', ef, p, hp, -, -, pa⟩, w, wi, hJ, hX⟩ := h'
  obtain rfl : p = _ := List.mem_singleton.mp hp
  obtain ⟨y, rfl, -⟩ := y_pI pa
  exact ⟨⟨y, rfl⟩, z_INp.eff tx ta h hI' ef (by decide +kernel) (h.kk.spec ef (by decide +kernel) hJ hX)⟩
set_option maxHeartbeats 2000000 in
set_option maxRecDepth 100000 in
theorem n_hours (hd : 318 ≤ d) (tx : th[ax]? = some 9) (ta : th[am]? = some 10) (h : z_IN th ax am G sc sm) (x1 : Int32) : x_Gd xs L J d m_214 (fun r G' => (∃ y : Int32, r = some (.int y)) ∧ z_IN th ax am G' sc sm) 0 (lv_args 0 [.ref am, .int x1]) [] G := by
  refine ((h_264 th xs L J).gd (G := G) (d := d) m_214_ok (by omega) (v := (y_v [(am : Int), x1.toInt])) (as := [.ref am, .int x1]) (y_v_Bd (List.forall_mem_cons.mpr ⟨(y_cellB h.1 ta), (List.forall_mem_cons.mpr ⟨(x_i32 x1), (fun _ h => absurd h List.not_mem_nil)⟩)⟩)) (fun _ h => absurd h List.not_mem_nil) ⟨⟨am, rfl, (by simp only [xl_ev, xt_ev, y_v, List.getD_cons_succ, List.getD_cons_zero]; omega), ta⟩, ⟨x1, rfl, (by simp only [xl_ev, xt_ev, y_v, List.getD_cons_succ, List.getD_cons_zero]; omega)⟩, trivial⟩ (fun q hq => absurd hq List.not_mem_nil) h.1 (fun _ => h.2.1.2.1)).mono (fun r G' h' => ?_)
  obtain ⟨v', -, -, hI', ef, p, hp, -, -, pa⟩ := h'
  obtain rfl : p = _ := List.mem_singleton.mp hp
  obtain ⟨y, rfl, -⟩ := y_pI pa
  exact ⟨⟨y, rfl⟩, h.eff tx ta hI' ef (by decide +kernel)⟩
theorem bz_undo (hd : 318 ≤ d) (h : z_IN th ax am G sc sm)  : x_Gd xs L J d m_103 (fun r G' => ∃ w wi, z_JW w wi G ∧ ZX w wi G') 0 (lv_args 0 [.ref ax]) [] G := by
  obtain ⟨rfl, rfl, rfl, -, w, wi, hJ⟩ := h.kk
  exact (zb_undo hd hJ.1 h.1).mono (fun r G' z => ⟨w, wi, hJ, z⟩)
set_option maxHeartbeats 2000000 in
set_option maxRecDepth 100000 in
theorem b_undo (hd : 318 ≤ d) (tx : th[ax]? = some 9) (ta : th[am]? = some 10) (h : z_IN th ax am G sc sm)  : x_Gd xs L J d m_103 (fun r G' => (∃ y : Int32, r = some (.int y)) ∧ z_IN th ax am G' sc sm) 0 (lv_args 0 [.ref ax]) [] G := by
  refine (((h_150 th xs L J).gd (G := G) (d := d) m_103_ok (by omega) (v := (y_v [(ax : Int)])) (as := [.ref ax]) (y_v_Bd (List.forall_mem_cons.mpr ⟨(y_cellB h.1 tx), (fun _ h => absurd h List.not_mem_nil)⟩)) (fun _ h => absurd h List.not_mem_nil) ⟨⟨ax, rfl, (by simp only [xl_ev, xt_ev, y_v, List.getD_cons_succ, List.getD_cons_zero]; omega), tx⟩, trivial⟩ (fun q hq => absurd hq List.not_mem_nil) h.1 (fun z => by cases z)).and (bz_undo hd h)).mono (fun r G' h' => ?_)
  obtain ⟨⟨v', -, -, hI', ef, p, hp, -, -, pa⟩, w, wi, hJ, hX⟩ := h'
  obtain rfl : p = _ := List.mem_singleton.mp hp
  obtain ⟨y, rfl, -⟩ := y_pI pa
  exact ⟨⟨y, rfl⟩, z_INp.eff tx ta h hI' ef (by decide +kernel) (h.kk.spec ef (by decide +kernel) hJ hX)⟩
set_option maxHeartbeats 2000000 in
set_option maxRecDepth 100000 in
theorem n_undo (hd : 318 ≤ d) (tx : th[ax]? = some 9) (ta : th[am]? = some 10) (h : z_IN th ax am G sc sm)  : x_Gd xs L J d m_216 (fun r G' => (∃ y : Int32, r = some (.int y)) ∧ z_IN th ax am G' sc sm) 0 (lv_args 0 [.ref am]) [] G := by
  obtain ⟨um, hum, rum⟩ := y_fint (i := 28) h.1 ta rfl
  refine ((h_265 th xs L J).gd (G := G) (d := d) m_216_ok (by omega) (v := (y_v [(am : Int), um.toInt])) (as := [.ref am]) (y_v_Bd (List.forall_mem_cons.mpr ⟨(y_cellB h.1 ta), (List.forall_mem_cons.mpr ⟨(x_i32 um), (fun _ h => absurd h List.not_mem_nil)⟩)⟩)) (List.forall_mem_cons.mpr ⟨(by simp only [xl_ev, xt_ev, y_v, List.getD_cons_succ, List.getD_cons_zero]; omega), (List.forall_mem_cons.mpr ⟨(by simp only [xl_ev, xt_ev, y_v, List.getD_cons_succ, List.getD_cons_zero]; omega), (fun _ h => absurd h List.not_mem_nil)⟩)⟩) ⟨⟨am, rfl, (by simp only [xl_ev, xt_ev, y_v, List.getD_cons_succ, List.getD_cons_zero]; omega), ta⟩, trivial⟩ (List.forall_mem_cons.mpr ⟨⟨am, (by simp only [xl_ev, xt_ev, y_v, List.getD_cons_succ, List.getD_cons_zero]; omega), ta, _, hum, um, rfl, (by simp only [xl_ev, xt_ev, y_v, List.getD_cons_succ, List.getD_cons_zero]; omega)⟩, (fun _ h => absurd h List.not_mem_nil)⟩) h.1 (fun z => by cases z)).mono (fun r G' h' => ?_)
  obtain ⟨v', -, -, hI', ef, p, hp, -, -, pa⟩ := h'
  obtain rfl : p = _ := List.mem_singleton.mp hp
  obtain ⟨y, rfl, -⟩ := y_pI pa
  exact ⟨⟨y, rfl⟩, h.eff tx ta hI' ef (by decide +kernel)⟩
set_option maxHeartbeats 2000000 in
set_option maxRecDepth 100000 in
theorem b_letter (hd : 318 ≤ d) (tx : th[ax]? = some 9) (ta : th[am]? = some 10) (h : z_IN th ax am G sc sm) (x1 x2 x3 x4 : Int32) : x_Gd xs L J d m_104 (fun r G' => (∃ y : Int32, r = some (.int y)) ∧ z_IN th ax am G' sc sm) 0 (lv_args 0 [.ref ax, .int x1, .int x2, .int x3, .int x4]) [] G := by
  refine ((h_153 th xs L J).gd (G := G) (d := d) m_104_ok (by omega) (v := (y_v [(ax : Int), x1.toInt, x2.toInt, x3.toInt, x4.toInt])) (as := [.ref ax, .int x1, .int x2, .int x3, .int x4]) (y_v_Bd (List.forall_mem_cons.mpr ⟨(y_cellB h.1 tx), (List.forall_mem_cons.mpr ⟨(x_i32 x1), (List.forall_mem_cons.mpr ⟨(x_i32 x2), (List.forall_mem_cons.mpr ⟨(x_i32 x3), (List.forall_mem_cons.mpr ⟨(x_i32 x4), (fun _ h => absurd h List.not_mem_nil)⟩)⟩)⟩)⟩)⟩)) (fun _ h => absurd h List.not_mem_nil) ⟨⟨ax, rfl, (by simp only [xl_ev, xt_ev, y_v, List.getD_cons_succ, List.getD_cons_zero]; omega), tx⟩, ⟨x1, rfl, (by simp only [xl_ev, xt_ev, y_v, List.getD_cons_succ, List.getD_cons_zero]; omega)⟩, ⟨x2, rfl, (by simp only [xl_ev, xt_ev, y_v, List.getD_cons_succ, List.getD_cons_zero]; omega)⟩, ⟨x3, rfl, (by simp only [xl_ev, xt_ev, y_v, List.getD_cons_succ, List.getD_cons_zero]; omega)⟩, ⟨x4, rfl, (by simp only [xl_ev, xt_ev, y_v, List.getD_cons_succ, List.getD_cons_zero]; omega)⟩, trivial⟩ (fun q hq => absurd hq List.not_mem_nil) h.1 (fun z => by cases z)).mono (fun r G' h' => ?_)
  obtain ⟨v', -, -, hI', ef, p, hp, -, -, pa⟩ := h'
  obtain rfl : p = _ := List.mem_singleton.mp hp
  obtain ⟨y, rfl, -⟩ := y_pI pa
  exact ⟨⟨y, rfl⟩, h.eff tx ta hI' ef (by decide +kernel)⟩
set_option maxHeartbeats 2000000 in
set_option maxRecDepth 100000 in
theorem n_letter (hd : 318 ≤ d) (tx : th[ax]? = some 9) (ta : th[am]? = some 10) (h : z_IN th ax am G sc sm) (x1 x2 x3 x4 : Int32) : x_Gd xs L J d m_217 (fun r G' => (∃ y : Int32, r = some (.int y)) ∧ z_IN th ax am G' sc sm) 0 (lv_args 0 [.ref am, .int x1, .int x2, .int x3, .int x4]) [] G := by
  refine ((h_269 th xs L J).gd (G := G) (d := d) m_217_ok (by omega) (v := (y_v [(am : Int), x1.toInt, x2.toInt, x3.toInt, x4.toInt])) (as := [.ref am, .int x1, .int x2, .int x3, .int x4]) (y_v_Bd (List.forall_mem_cons.mpr ⟨(y_cellB h.1 ta), (List.forall_mem_cons.mpr ⟨(x_i32 x1), (List.forall_mem_cons.mpr ⟨(x_i32 x2), (List.forall_mem_cons.mpr ⟨(x_i32 x3), (List.forall_mem_cons.mpr ⟨(x_i32 x4), (fun _ h => absurd h List.not_mem_nil)⟩)⟩)⟩)⟩)⟩)) (fun _ h => absurd h List.not_mem_nil) ⟨⟨am, rfl, (by simp only [xl_ev, xt_ev, y_v, List.getD_cons_succ, List.getD_cons_zero]; omega), ta⟩, ⟨x1, rfl, (by simp only [xl_ev, xt_ev, y_v, List.getD_cons_succ, List.getD_cons_zero]; omega)⟩, ⟨x2, rfl, (by simp only [xl_ev, xt_ev, y_v, List.getD_cons_succ, List.getD_cons_zero]; omega)⟩, ⟨x3, rfl, (by simp only [xl_ev, xt_ev, y_v, List.getD_cons_succ, List.getD_cons_zero]; omega)⟩, ⟨x4, rfl, (by simp only [xl_ev, xt_ev, y_v, List.getD_cons_succ, List.getD_cons_zero]; omega)⟩, trivial⟩ (fun q hq => absurd hq List.not_mem_nil) h.1 (fun z => by cases z)).mono (fun r G' h' => ?_)
  obtain ⟨v', -, -, hI', ef, p, hp, -, -, pa⟩ := h'
  obtain rfl : p = _ := List.mem_singleton.mp hp
  obtain ⟨y, rfl, -⟩ := y_pI pa
  exact ⟨⟨y, rfl⟩, h.eff tx ta hI' ef (by decide +kernel)⟩
set_option maxHeartbeats 2000000 in
set_option maxRecDepth 100000 in
theorem b_heaviest (hd : 318 ≤ d) (tx : th[ax]? = some 9) (ta : th[am]? = some 10) (h : z_IN th ax am G sc sm) (x1 x2 x3 x4 : Int32) : x_Gd xs L J d m_107 (fun r G' => (∃ y : Int32, r = some (.int y)) ∧ z_IN th ax am G' sc sm) 0 (lv_args 0 [.ref ax, .int x1, .int x2, .int x3, .int x4]) [] G := by
  refine ((h_154 th xs L J).gd (G := G) (d := d) m_107_ok (by omega) (v := (y_v [(ax : Int), x1.toInt, x2.toInt, x3.toInt, x4.toInt])) (as := [.ref ax, .int x1, .int x2, .int x3, .int x4]) (y_v_Bd (List.forall_mem_cons.mpr ⟨(y_cellB h.1 tx), (List.forall_mem_cons.mpr ⟨(x_i32 x1), (List.forall_mem_cons.mpr ⟨(x_i32 x2), (List.forall_mem_cons.mpr ⟨(x_i32 x3), (List.forall_mem_cons.mpr ⟨(x_i32 x4), (fun _ h => absurd h List.not_mem_nil)⟩)⟩)⟩)⟩)⟩)) (fun _ h => absurd h List.not_mem_nil) ⟨⟨ax, rfl, (by simp only [xl_ev, xt_ev, y_v, List.getD_cons_succ, List.getD_cons_zero]; omega), tx⟩, ⟨x1, rfl, (by simp only [xl_ev, xt_ev, y_v, List.getD_cons_succ, List.getD_cons_zero]; omega)⟩, ⟨x2, rfl, (by simp only [xl_ev, xt_ev, y_v, List.getD_cons_succ, List.getD_cons_zero]; omega)⟩, ⟨x3, rfl, (by simp only [xl_ev, xt_ev, y_v, List.getD_cons_succ, List.getD_cons_zero]; omega)⟩, ⟨x4, rfl, (by simp only [xl_ev, xt_ev, y_v, List.getD_cons_succ, List.getD_cons_zero]; omega)⟩, trivial⟩ (fun q hq => absurd hq List.not_mem_nil) h.1 (fun z => by cases z)).mono (fun r G' h' => ?_)
  obtain ⟨v', -, -, hI', ef, p, hp, -, -, pa⟩ := h'
  obtain rfl : p = _ := List.mem_singleton.mp hp
  obtain ⟨y, rfl, -⟩ := y_pI pa
  exact ⟨⟨y, rfl⟩, h.eff tx ta hI' ef (by decide +kernel)⟩
set_option maxHeartbeats 2000000 in
set_option maxRecDepth 100000 in
theorem n_heaviest (hd : 318 ≤ d) (tx : th[ax]? = some 9) (ta : th[am]? = some 10) (h : z_IN th ax am G sc sm) (x1 x2 x3 x4 : Int32) : x_Gd xs L J d m_219 (fun r G' => (∃ y : Int32, r = some (.int y)) ∧ z_IN th ax am G' sc sm) 0 (lv_args 0 [.ref am, .int x1, .int x2, .int x3, .int x4]) [] G := by
  refine ((h_270 th xs L J).gd (G := G) (d := d) m_219_ok (by omega) (v := (y_v [(am : Int), x1.toInt, x2.toInt, x3.toInt, x4.toInt])) (as := [.ref am, .int x1, .int x2, .int x3, .int x4]) (y_v_Bd (List.forall_mem_cons.mpr ⟨(y_cellB h.1 ta), (List.forall_mem_cons.mpr ⟨(x_i32 x1), (List.forall_mem_cons.mpr ⟨(x_i32 x2), (List.forall_mem_cons.mpr ⟨(x_i32 x3), (List.forall_mem_cons.mpr ⟨(x_i32 x4), (fun _ h => absurd h List.not_mem_nil)⟩)⟩)⟩)⟩)⟩)) (fun _ h => absurd h List.not_mem_nil) ⟨⟨am, rfl, (by simp only [xl_ev, xt_ev, y_v, List.getD_cons_succ, List.getD_cons_zero]; omega), ta⟩, ⟨x1, rfl, (by simp only [xl_ev, xt_ev, y_v, List.getD_cons_succ, List.getD_cons_zero]; omega)⟩, ⟨x2, rfl, (by simp only [xl_ev, xt_ev, y_v, List.getD_cons_succ, List.getD_cons_zero]; omega)⟩, ⟨x3, rfl, (by simp only [xl_ev, xt_ev, y_v, List.getD_cons_succ, List.getD_cons_zero]; omega)⟩, ⟨x4, rfl, (by simp only [xl_ev, xt_ev, y_v, List.getD_cons_succ, List.getD_cons_zero]; omega)⟩, trivial⟩ (fun q hq => absurd hq List.not_mem_nil) h.1 (fun z => by cases z)).mono (fun r G' h' => ?_)
  obtain ⟨v', -, -, hI', ef, p, hp, -, -, pa⟩ := h'
  obtain rfl : p = _ := List.mem_singleton.mp hp
  obtain ⟨y, rfl, -⟩ := y_pI pa
  exact ⟨⟨y, rfl⟩, h.eff tx ta hI' ef (by decide +kernel)⟩
set_option maxHeartbeats 2000000 in
set_option maxRecDepth 100000 in
theorem b_best (hd : 318 ≤ d) (tx : th[ax]? = some 9) (ta : th[am]? = some 10) (h : z_IN th ax am G sc sm) (x1 x2 x3 : Int32) : x_Gd xs L J d m_108 (fun r G' => (∃ y : Int32, r = some (.int y)) ∧ z_IN th ax am G' sc sm) 0 (lv_args 0 [.ref ax, .int x1, .int x2, .int x3]) [] G := by
  refine ((h_155 th xs L J).gd (G := G) (d := d) m_108_ok (by omega) (v := (y_v [(ax : Int), x1.toInt, x2.toInt, x3.toInt])) (as := [.ref ax, .int x1, .int x2, .int x3]) (y_v_Bd (List.forall_mem_cons.mpr ⟨(y_cellB h.1 tx), (List.forall_mem_cons.mpr ⟨(x_i32 x1), (List.forall_mem_cons.mpr ⟨(x_i32 x2), (List.forall_mem_cons.mpr ⟨(x_i32 x3), (fun _ h => absurd h List.not_mem_nil)⟩)⟩)⟩)⟩)) (fun _ h => absurd h List.not_mem_nil) ⟨⟨ax, rfl, (by simp only [xl_ev, xt_ev, y_v, List.getD_cons_succ, List.getD_cons_zero]; omega), tx⟩, ⟨x1, rfl, (by simp only [xl_ev, xt_ev, y_v, List.getD_cons_succ, List.getD_cons_zero]; omega)⟩, ⟨x2, rfl, (by simp only [xl_ev, xt_ev, y_v, List.getD_cons_succ, List.getD_cons_zero]; omega)⟩, ⟨x3, rfl, (by simp only [xl_ev, xt_ev, y_v, List.getD_cons_succ, List.getD_cons_zero]; omega)⟩, trivial⟩ (fun q hq => absurd hq List.not_mem_nil) h.1 (fun z => by cases z)).mono (fun r G' h' => ?_)
  obtain ⟨v', -, -, hI', ef, p, hp, -, -, pa⟩ := h'
  obtain rfl : p = _ := List.mem_singleton.mp hp
  obtain ⟨y, rfl, -⟩ := y_pI pa
  exact ⟨⟨y, rfl⟩, h.eff tx ta hI' ef (by decide +kernel)⟩
set_option maxHeartbeats 2000000 in
set_option maxRecDepth 100000 in
theorem n_best (hd : 318 ≤ d) (tx : th[ax]? = some 9) (ta : th[am]? = some 10) (h : z_IN th ax am G sc sm) (x1 x2 x3 : Int32) : x_Gd xs L J d m_220 (fun r G' => (∃ y : Int32, r = some (.int y)) ∧ z_IN th ax am G' sc sm) 0 (lv_args 0 [.ref am, .int x1, .int x2, .int x3]) [] G := by
  refine ((h_271 th xs L J).gd (G := G) (d := d) m_220_ok (by omega) (v := (y_v [(am : Int), x1.toInt, x2.toInt, x3.toInt])) (as := [.ref am, .int x1, .int x2, .int x3]) (y_v_Bd (List.forall_mem_cons.mpr ⟨(y_cellB h.1 ta), (List.forall_mem_cons.mpr ⟨(x_i32 x1), (List.forall_mem_cons.mpr ⟨(x_i32 x2), (List.forall_mem_cons.mpr ⟨(x_i32 x3), (fun _ h => absurd h List.not_mem_nil)⟩)⟩)⟩)⟩)) (fun _ h => absurd h List.not_mem_nil) ⟨⟨am, rfl, (by simp only [xl_ev, xt_ev, y_v, List.getD_cons_succ, List.getD_cons_zero]; omega), ta⟩, ⟨x1, rfl, (by simp only [xl_ev, xt_ev, y_v, List.getD_cons_succ, List.getD_cons_zero]; omega)⟩, ⟨x2, rfl, (by simp only [xl_ev, xt_ev, y_v, List.getD_cons_succ, List.getD_cons_zero]; omega)⟩, ⟨x3, rfl, (by simp only [xl_ev, xt_ev, y_v, List.getD_cons_succ, List.getD_cons_zero]; omega)⟩, trivial⟩ (fun q hq => absurd hq List.not_mem_nil) h.1 (fun z => by cases z)).mono (fun r G' h' => ?_)
  obtain ⟨v', -, -, hI', ef, p, hp, -, -, pa⟩ := h'
  obtain rfl : p = _ := List.mem_singleton.mp hp
  obtain ⟨y, rfl, -⟩ := y_pI pa
  exact ⟨⟨y, rfl⟩, h.eff tx ta hI' ef (by decide +kernel)⟩
set_option maxHeartbeats 2000000 in
set_option maxRecDepth 100000 in
theorem b_soonest (hd : 318 ≤ d) (tx : th[ax]? = some 9) (ta : th[am]? = some 10) (h : z_IN th ax am G sc sm) (x1 x2 : Int32) : x_Gd xs L J d m_109 (fun r G' => (∃ y : Int32, r = some (.int y)) ∧ z_IN th ax am G' sc sm) 0 (lv_args 0 [.ref ax, .int x1, .int x2]) [] G := by
  refine ((h_156 th xs L J).gd (G := G) (d := d) m_109_ok (by omega) (v := (y_v [(ax : Int), x1.toInt, x2.toInt])) (as := [.ref ax, .int x1, .int x2]) (y_v_Bd (List.forall_mem_cons.mpr ⟨(y_cellB h.1 tx), (List.forall_mem_cons.mpr ⟨(x_i32 x1), (List.forall_mem_cons.mpr ⟨(x_i32 x2), (fun _ h => absurd h List.not_mem_nil)⟩)⟩)⟩)) (fun _ h => absurd h List.not_mem_nil) ⟨⟨ax, rfl, (by simp only [xl_ev, xt_ev, y_v, List.getD_cons_succ, List.getD_cons_zero]; omega), tx⟩, ⟨x1, rfl, (by simp only [xl_ev, xt_ev, y_v, List.getD_cons_succ, List.getD_cons_zero]; omega)⟩, ⟨x2, rfl, (by simp only [xl_ev, xt_ev, y_v, List.getD_cons_succ, List.getD_cons_zero]; omega)⟩, trivial⟩ (fun q hq => absurd hq List.not_mem_nil) h.1 (fun z => by cases z)).mono (fun r G' h' => ?_)
  obtain ⟨v', -, -, hI', ef, p, hp, -, -, pa⟩ := h'
  obtain rfl : p = _ := List.mem_singleton.mp hp
  obtain ⟨y, rfl, -⟩ := y_pI pa
  exact ⟨⟨y, rfl⟩, h.eff tx ta hI' ef (by decide +kernel)⟩
set_option maxHeartbeats 2000000 in
set_option maxRecDepth 100000 in
theorem n_soonest (hd : 318 ≤ d) (tx : th[ax]? = some 9) (ta : th[am]? = some 10) (h : z_IN th ax am G sc sm) (x1 x2 : Int32) : x_Gd xs L J d m_221 (fun r G' => (∃ y : Int32, r = some (.int y)) ∧ z_IN th ax am G' sc sm) 0 (lv_args 0 [.ref am, .int x1, .int x2]) [] G := by
  refine ((h_272 th xs L J).gd (G := G) (d := d) m_221_ok (by omega) (v := (y_v [(am : Int), x1.toInt, x2.toInt])) (as := [.ref am, .int x1, .int x2]) (y_v_Bd (List.forall_mem_cons.mpr ⟨(y_cellB h.1 ta), (List.forall_mem_cons.mpr ⟨(x_i32 x1), (List.forall_mem_cons.mpr ⟨(x_i32 x2), (fun _ h => absurd h List.not_mem_nil)⟩)⟩)⟩)) (fun _ h => absurd h List.not_mem_nil) ⟨⟨am, rfl, (by simp only [xl_ev, xt_ev, y_v, List.getD_cons_succ, List.getD_cons_zero]; omega), ta⟩, ⟨x1, rfl, (by simp only [xl_ev, xt_ev, y_v, List.getD_cons_succ, List.getD_cons_zero]; omega)⟩, ⟨x2, rfl, (by simp only [xl_ev, xt_ev, y_v, List.getD_cons_succ, List.getD_cons_zero]; omega)⟩, trivial⟩ (fun q hq => absurd hq List.not_mem_nil) h.1 (fun z => by cases z)).mono (fun r G' h' => ?_)
  obtain ⟨v', -, -, hI', ef, p, hp, -, -, pa⟩ := h'
  obtain rfl : p = _ := List.mem_singleton.mp hp
  obtain ⟨y, rfl, -⟩ := y_pI pa
  exact ⟨⟨y, rfl⟩, h.eff tx ta hI' ef (by decide +kernel)⟩
set_option maxHeartbeats 2000000 in
set_option maxRecDepth 100000 in
theorem b_reach (hd : 318 ≤ d) (tx : th[ax]? = some 9) (ta : th[am]? = some 10) (h : z_IN th ax am G sc sm) (x1 x2 : Int32) : x_Gd xs L J d m_110 (fun r G' => (∃ y : Int32, r = some (.int y)) ∧ z_IN th ax am G' sc sm) 0 (lv_args 0 [.ref ax, .int x1, .int x2]) [] G := by
  refine ((h_157 th xs L J).gd (G := G) (d := d) m_110_ok (by omega) (v := (y_v [(ax : Int), x1.toInt, x2.toInt])) (as := [.ref ax, .int x1, .int x2]) (y_v_Bd (List.forall_mem_cons.mpr ⟨(y_cellB h.1 tx), (List.forall_mem_cons.mpr ⟨(x_i32 x1), (List.forall_mem_cons.mpr ⟨(x_i32 x2), (fun _ h => absurd h List.not_mem_nil)⟩)⟩)⟩)) (fun _ h => absurd h List.not_mem_nil) ⟨⟨ax, rfl, (by simp only [xl_ev, xt_ev, y_v, List.getD_cons_succ, List.getD_cons_zero]; omega), tx⟩, ⟨x1, rfl, (by simp only [xl_ev, xt_ev, y_v, List.getD_cons_succ, List.getD_cons_zero]; omega)⟩, ⟨x2, rfl, (by simp only [xl_ev, xt_ev, y_v, List.getD_cons_succ, List.getD_cons_zero]; omega)⟩, trivial⟩ (fun q hq => absurd hq List.not_mem_nil) h.1 (fun z => by cases z)).mono (fun r G' h' => ?_)
  obtain ⟨v', -, -, hI', ef, p, hp, -, -, pa⟩ := h'
  obtain rfl : p = _ := List.mem_singleton.mp hp
  obtain ⟨y, rfl, -⟩ := y_pI pa
  exact ⟨⟨y, rfl⟩, h.eff tx ta hI' ef (by decide +kernel)⟩
set_option maxHeartbeats 2000000 in
set_option maxRecDepth 100000 in
theorem n_reach (hd : 318 ≤ d) (tx : th[ax]? = some 9) (ta : th[am]? = some 10) (h : z_IN th ax am G sc sm) (x1 x2 : Int32) : x_Gd xs L J d m_222 (fun r G' => (∃ y : Int32, r = some (.int y)) ∧ z_IN th ax am G' sc sm) 0 (lv_args 0 [.ref am, .int x1, .int x2]) [] G := by
  refine ((h_273 th xs L J).gd (G := G) (d := d) m_222_ok (by omega) (v := (y_v [(am : Int), x1.toInt, x2.toInt])) (as := [.ref am, .int x1, .int x2]) (y_v_Bd (List.forall_mem_cons.mpr ⟨(y_cellB h.1 ta), (List.forall_mem_cons.mpr ⟨(x_i32 x1), (List.forall_mem_cons.mpr ⟨(x_i32 x2), (fun _ h => absurd h List.not_mem_nil)⟩)⟩)⟩)) (fun _ h => absurd h List.not_mem_nil) ⟨⟨am, rfl, (by simp only [xl_ev, xt_ev, y_v, List.getD_cons_succ, List.getD_cons_zero]; omega), ta⟩, ⟨x1, rfl, (by simp only [xl_ev, xt_ev, y_v, List.getD_cons_succ, List.getD_cons_zero]; omega)⟩, ⟨x2, rfl, (by simp only [xl_ev, xt_ev, y_v, List.getD_cons_succ, List.getD_cons_zero]; omega)⟩, trivial⟩ (fun q hq => absurd hq List.not_mem_nil) h.1 (fun z => by cases z)).mono (fun r G' h' => ?_)
  obtain ⟨v', -, -, hI', ef, p, hp, -, -, pa⟩ := h'
  obtain rfl : p = _ := List.mem_singleton.mp hp
  obtain ⟨y, rfl, -⟩ := y_pI pa
  exact ⟨⟨y, rfl⟩, h.eff tx ta hI' ef (by decide +kernel)⟩
set_option maxHeartbeats 2000000 in
set_option maxRecDepth 100000 in
theorem b_dry (hd : 318 ≤ d) (tx : th[ax]? = some 9) (ta : th[am]? = some 10) (h : z_IN th ax am G sc sm) (x1 x2 x3 : Int32) : x_Gd xs L J d m_111 (fun r G' => (∃ y : Int32, r = some (.int y)) ∧ z_IN th ax am G' sc sm) 0 (lv_args 0 [.ref ax, .int x1, .int x2, .int x3]) [] G := by
  refine ((h_158 th xs L J).gd (G := G) (d := d) m_111_ok (by omega) (v := (y_v [(ax : Int), x1.toInt, x2.toInt, x3.toInt])) (as := [.ref ax, .int x1, .int x2, .int x3]) (y_v_Bd (List.forall_mem_cons.mpr ⟨(y_cellB h.1 tx), (List.forall_mem_cons.mpr ⟨(x_i32 x1), (List.forall_mem_cons.mpr ⟨(x_i32 x2), (List.forall_mem_cons.mpr ⟨(x_i32 x3), (fun _ h => absurd h List.not_mem_nil)⟩)⟩)⟩)⟩)) (fun _ h => absurd h List.not_mem_nil) ⟨⟨ax, rfl, (by simp only [xl_ev, xt_ev, y_v, List.getD_cons_succ, List.getD_cons_zero]; omega), tx⟩, ⟨x1, rfl, (by simp only [xl_ev, xt_ev, y_v, List.getD_cons_succ, List.getD_cons_zero]; omega)⟩, ⟨x2, rfl, (by simp only [xl_ev, xt_ev, y_v, List.getD_cons_succ, List.getD_cons_zero]; omega)⟩, ⟨x3, rfl, (by simp only [xl_ev, xt_ev, y_v, List.getD_cons_succ, List.getD_cons_zero]; omega)⟩, trivial⟩ (fun q hq => absurd hq List.not_mem_nil) h.1 (fun z => by cases z)).mono (fun r G' h' => ?_)
  obtain ⟨v', -, -, hI', ef, p, hp, -, -, pa⟩ := h'
  obtain rfl : p = _ := List.mem_singleton.mp hp
  obtain ⟨y, rfl, -⟩ := y_pI pa
  exact ⟨⟨y, rfl⟩, h.eff tx ta hI' ef (by decide +kernel)⟩
set_option maxHeartbeats 2000000 in
set_option maxRecDepth 100000 in
theorem n_dry (hd : 318 ≤ d) (tx : th[ax]? = some 9) (ta : th[am]? = some 10) (h : z_IN th ax am G sc sm) (x1 x2 x3 : Int32) : x_Gd xs L J d m_223 (fun r G' => (∃ y : Int32, r = some (.int y)) ∧ z_IN th ax am G' sc sm) 0 (lv_args 0 [.ref am, .int x1, .int x2, .int x3]) [] G := by
  refine ((h_274 th xs L J).gd (G := G) (d := d) m_223_ok (by omega) (v := (y_v [(am : Int), x1.toInt, x2.toInt, x3.toInt])) (as := [.ref am, .int x1, .int x2, .int x3]) (y_v_Bd (List.forall_mem_cons.mpr ⟨(y_cellB h.1 ta), (List.forall_mem_cons.mpr ⟨(x_i32 x1), (List.forall_mem_cons.mpr ⟨(x_i32 x2), (List.forall_mem_cons.mpr ⟨(x_i32 x3), (fun _ h => absurd h List.not_mem_nil)⟩)⟩)⟩)⟩)) (fun _ h => absurd h List.not_mem_nil) ⟨⟨am, rfl, (by simp only [xl_ev, xt_ev, y_v, List.getD_cons_succ, List.getD_cons_zero]; omega), ta⟩, ⟨x1, rfl, (by simp only [xl_ev, xt_ev, y_v, List.getD_cons_succ, List.getD_cons_zero]; omega)⟩, ⟨x2, rfl, (by simp only [xl_ev, xt_ev, y_v, List.getD_cons_succ, List.getD_cons_zero]; omega)⟩, ⟨x3, rfl, (by simp only [xl_ev, xt_ev, y_v, List.getD_cons_succ, List.getD_cons_zero]; omega)⟩, trivial⟩ (fun q hq => absurd hq List.not_mem_nil) h.1 (fun z => by cases z)).mono (fun r G' h' => ?_)
  obtain ⟨v', -, -, hI', ef, p, hp, -, -, pa⟩ := h'
  obtain rfl : p = _ := List.mem_singleton.mp hp
  obtain ⟨y, rfl, -⟩ := y_pI pa
  exact ⟨⟨y, rfl⟩, h.eff tx ta hI' ef (by decide +kernel)⟩
theorem bz_ties (hd : 318 ≤ d) (h : z_IN th ax am G sc sm) (x1 x2 : Int32) : x_Gd xs L J d m_115 (fun r G' => ∃ w wi, z_JW w wi G ∧ ZX w wi G') 0 (lv_args 0 [.ref ax, .int x1, .int x2]) [] G := by
  obtain ⟨rfl, rfl, rfl, -, w, wi, hJ⟩ := h.kk
  exact (zb_ties hd hJ.1 h.1 x1 x2).mono (fun r G' z => ⟨w, wi, hJ, z⟩)
set_option maxHeartbeats 2000000 in
set_option maxRecDepth 100000 in
theorem b_ties (hd : 318 ≤ d) (tx : th[ax]? = some 9) (ta : th[am]? = some 10) (h : z_IN th ax am G sc sm) (x1 x2 : Int32) : x_Gd xs L J d m_115 (fun r G' => (∃ y : Int32, r = some (.int y)) ∧ z_IN th ax am G' sc sm) 0 (lv_args 0 [.ref ax, .int x1, .int x2]) [] G := by
  refine (((h_161 th xs L J).gd (G := G) (d := d) m_115_ok (by omega) (v := (y_v [(ax : Int), x1.toInt, x2.toInt])) (as := [.ref ax, .int x1, .int x2]) (y_v_Bd (List.forall_mem_cons.mpr ⟨(y_cellB h.1 tx), (List.forall_mem_cons.mpr ⟨(x_i32 x1), (List.forall_mem_cons.mpr ⟨(x_i32 x2), (fun _ h => absurd h List.not_mem_nil)⟩)⟩)⟩)) (fun _ h => absurd h List.not_mem_nil) ⟨⟨ax, rfl, (by simp only [xl_ev, xt_ev, y_v, List.getD_cons_succ, List.getD_cons_zero]; omega), tx⟩, ⟨x1, rfl, (by simp only [xl_ev, xt_ev, y_v, List.getD_cons_succ, List.getD_cons_zero]; omega)⟩, ⟨x2, rfl, (by simp only [xl_ev, xt_ev, y_v, List.getD_cons_succ, List.getD_cons_zero]; omega)⟩, trivial⟩ (fun q hq => absurd hq List.not_mem_nil) h.1 (fun z => by cases z)).and (bz_ties hd h x1 x2)).mono (fun r G' h' => ?_)
  obtain ⟨⟨v', -, -, hI', ef, p, hp, -, -, pa⟩, w, wi, hJ, hX⟩ := h'
  obtain rfl : p = _ := List.mem_singleton.mp hp
  obtain ⟨y, rfl, -⟩ := y_pI pa
  exact ⟨⟨y, rfl⟩, z_INp.eff tx ta h hI' ef (by decide +kernel) (h.kk.spec ef (by decide +kernel) hJ hX)⟩
set_option maxHeartbeats 2000000 in
set_option maxRecDepth 100000 in
theorem n_ties (hd : 318 ≤ d) (tx : th[ax]? = some 9) (ta : th[am]? = some 10) (h : z_IN th ax am G sc sm) (x1 x2 : Int32) : x_Gd xs L J d m_227 (fun r G' => (∃ y : Int32, r = some (.int y)) ∧ z_IN th ax am G' sc sm) 0 (lv_args 0 [.ref am, .int x1, .int x2]) [] G := by
  refine ((h_276 th xs L J).gd (G := G) (d := d) m_227_ok (by omega) (v := (y_v [(am : Int), x1.toInt, x2.toInt])) (as := [.ref am, .int x1, .int x2]) (y_v_Bd (List.forall_mem_cons.mpr ⟨(y_cellB h.1 ta), (List.forall_mem_cons.mpr ⟨(x_i32 x1), (List.forall_mem_cons.mpr ⟨(x_i32 x2), (fun _ h => absurd h List.not_mem_nil)⟩)⟩)⟩)) (fun _ h => absurd h List.not_mem_nil) ⟨⟨am, rfl, (by simp only [xl_ev, xt_ev, y_v, List.getD_cons_succ, List.getD_cons_zero]; omega), ta⟩, ⟨x1, rfl, (by simp only [xl_ev, xt_ev, y_v, List.getD_cons_succ, List.getD_cons_zero]; omega)⟩, ⟨x2, rfl, (by simp only [xl_ev, xt_ev, y_v, List.getD_cons_succ, List.getD_cons_zero]; omega)⟩, trivial⟩ (fun q hq => absurd hq List.not_mem_nil) h.1 (fun _ => h.2.1.2.1)).mono (fun r G' h' => ?_)
  obtain ⟨v', -, -, hI', ef, p, hp, -, -, pa⟩ := h'
  obtain rfl : p = _ := List.mem_singleton.mp hp
  obtain ⟨y, rfl, -⟩ := y_pI pa
  exact ⟨⟨y, rfl⟩, h.eff tx ta hI' ef (by decide +kernel)⟩
set_option maxHeartbeats 2000000 in
set_option maxRecDepth 100000 in
theorem b_turn (hd : 318 ≤ d) (tx : th[ax]? = some 9) (ta : th[am]? = some 10) (h : z_IN th ax am G sc sm) (x1 : Int32) : x_Gd xs L J d m_118 (fun r G' => (∃ y : Int32, r = some (.int y)) ∧ z_IN th ax am G' sc sm) 0 (lv_args 0 [.ref ax, .int x1]) [] G := by
  refine ((h_162 th xs L J).gd (G := G) (d := d) m_118_ok (by omega) (v := (y_v [(ax : Int), x1.toInt])) (as := [.ref ax, .int x1]) (y_v_Bd (List.forall_mem_cons.mpr ⟨(y_cellB h.1 tx), (List.forall_mem_cons.mpr ⟨(x_i32 x1), (fun _ h => absurd h List.not_mem_nil)⟩)⟩)) (fun _ h => absurd h List.not_mem_nil) ⟨⟨ax, rfl, (by simp only [xl_ev, xt_ev, y_v, List.getD_cons_succ, List.getD_cons_zero]; omega), tx⟩, ⟨x1, rfl, (by simp only [xl_ev, xt_ev, y_v, List.getD_cons_succ, List.getD_cons_zero]; omega)⟩, trivial⟩ (fun q hq => absurd hq List.not_mem_nil) h.1 (fun z => by cases z)).mono (fun r G' h' => ?_)
  obtain ⟨v', -, -, hI', ef, p, hp, -, -, pa⟩ := h'
  obtain rfl : p = _ := List.mem_singleton.mp hp
  obtain ⟨y, rfl, -⟩ := y_pI pa
  exact ⟨⟨y, rfl⟩, h.eff tx ta hI' ef (by decide +kernel)⟩
set_option maxHeartbeats 2000000 in
set_option maxRecDepth 100000 in
theorem n_turn (hd : 318 ≤ d) (tx : th[ax]? = some 9) (ta : th[am]? = some 10) (h : z_IN th ax am G sc sm) (x1 : Int32) : x_Gd xs L J d m_229 (fun r G' => (∃ y : Int32, r = some (.int y)) ∧ z_IN th ax am G' sc sm) 0 (lv_args 0 [.ref am, .int x1]) [] G := by
  refine ((h_277 th xs L J).gd (G := G) (d := d) m_229_ok (by omega) (v := (y_v [(am : Int), x1.toInt])) (as := [.ref am, .int x1]) (y_v_Bd (List.forall_mem_cons.mpr ⟨(y_cellB h.1 ta), (List.forall_mem_cons.mpr ⟨(x_i32 x1), (fun _ h => absurd h List.not_mem_nil)⟩)⟩)) (fun _ h => absurd h List.not_mem_nil) ⟨⟨am, rfl, (by simp only [xl_ev, xt_ev, y_v, List.getD_cons_succ, List.getD_cons_zero]; omega), ta⟩, ⟨x1, rfl, (by simp only [xl_ev, xt_ev, y_v, List.getD_cons_succ, List.getD_cons_zero]; omega)⟩, trivial⟩ (fun q hq => absurd hq List.not_mem_nil) h.1 (fun z => by cases z)).mono (fun r G' h' => ?_)
  obtain ⟨v', -, -, hI', ef, p, hp, -, -, pa⟩ := h'
  obtain rfl : p = _ := List.mem_singleton.mp hp
  obtain ⟨y, rfl, -⟩ := y_pI pa
  exact ⟨⟨y, rfl⟩, h.eff tx ta hI' ef (by decide +kernel)⟩
set_option maxHeartbeats 2000000 in
set_option maxRecDepth 100000 in
theorem b_guard (hd : 318 ≤ d) (tx : th[ax]? = some 9) (ta : th[am]? = some 10) (h : z_IN th ax am G sc sm) (x1 : Int32) : x_Gd xs L J d m_119 (fun r G' => (∃ y : Int32, r = some (.int y)) ∧ z_IN th ax am G' sc sm) 0 (lv_args 0 [.ref ax, .int x1]) [] G := by
  refine ((h_163 th xs L J).gd (G := G) (d := d) m_119_ok (by omega) (v := (y_v [(ax : Int), x1.toInt])) (as := [.ref ax, .int x1]) (y_v_Bd (List.forall_mem_cons.mpr ⟨(y_cellB h.1 tx), (List.forall_mem_cons.mpr ⟨(x_i32 x1), (fun _ h => absurd h List.not_mem_nil)⟩)⟩)) (fun _ h => absurd h List.not_mem_nil) ⟨⟨ax, rfl, (by simp only [xl_ev, xt_ev, y_v, List.getD_cons_succ, List.getD_cons_zero]; omega), tx⟩, ⟨x1, rfl, (by simp only [xl_ev, xt_ev, y_v, List.getD_cons_succ, List.getD_cons_zero]; omega)⟩, trivial⟩ (fun q hq => absurd hq List.not_mem_nil) h.1 (fun z => by cases z)).mono (fun r G' h' => ?_)
  obtain ⟨v', -, -, hI', ef, p, hp, -, -, pa⟩ := h'
  obtain rfl : p = _ := List.mem_singleton.mp hp
  obtain ⟨y, rfl, -⟩ := y_pI pa
  exact ⟨⟨y, rfl⟩, h.eff tx ta hI' ef (by decide +kernel)⟩
set_option maxHeartbeats 2000000 in
set_option maxRecDepth 100000 in
theorem n_guard (hd : 318 ≤ d) (tx : th[ax]? = some 9) (ta : th[am]? = some 10) (h : z_IN th ax am G sc sm) (x1 : Int32) : x_Gd xs L J d m_230 (fun r G' => (∃ y : Int32, r = some (.int y)) ∧ z_IN th ax am G' sc sm) 0 (lv_args 0 [.ref am, .int x1]) [] G := by
  refine ((h_278 th xs L J).gd (G := G) (d := d) m_230_ok (by omega) (v := (y_v [(am : Int), x1.toInt])) (as := [.ref am, .int x1]) (y_v_Bd (List.forall_mem_cons.mpr ⟨(y_cellB h.1 ta), (List.forall_mem_cons.mpr ⟨(x_i32 x1), (fun _ h => absurd h List.not_mem_nil)⟩)⟩)) (fun _ h => absurd h List.not_mem_nil) ⟨⟨am, rfl, (by simp only [xl_ev, xt_ev, y_v, List.getD_cons_succ, List.getD_cons_zero]; omega), ta⟩, ⟨x1, rfl, (by simp only [xl_ev, xt_ev, y_v, List.getD_cons_succ, List.getD_cons_zero]; omega)⟩, trivial⟩ (fun q hq => absurd hq List.not_mem_nil) h.1 (fun z => by cases z)).mono (fun r G' h' => ?_)
  obtain ⟨v', -, -, hI', ef, p, hp, -, -, pa⟩ := h'
  obtain rfl : p = _ := List.mem_singleton.mp hp
  obtain ⟨y, rfl, -⟩ := y_pI pa
  exact ⟨⟨y, rfl⟩, h.eff tx ta hI' ef (by decide +kernel)⟩
theorem bz_prices (hd : 318 ≤ d) (h : z_IN th ax am G sc sm)  : x_Gd xs L J d m_121 (fun r G' => ∃ w wi, z_JW w wi G ∧ ZX w wi G') 0 (lv_args 0 [.ref ax]) [] G := by
  obtain ⟨rfl, rfl, rfl, -, w, wi, hJ⟩ := h.kk
  exact (zb_prices hd hJ.1 h.1).mono (fun r G' z => ⟨w, wi, hJ, z⟩)
set_option maxHeartbeats 2000000 in
set_option maxRecDepth 100000 in
theorem b_prices (hd : 318 ≤ d) (tx : th[ax]? = some 9) (ta : th[am]? = some 10) (h : z_IN th ax am G sc sm)  : x_Gd xs L J d m_121 (fun r G' => (∃ y : Int32, r = some (.int y)) ∧ z_IN th ax am G' sc sm) 0 (lv_args 0 [.ref ax]) [] G := by
  refine (((h_164 th xs L J).gd (G := G) (d := d) m_121_ok (by omega) (v := (y_v [(ax : Int)])) (as := [.ref ax]) (y_v_Bd (List.forall_mem_cons.mpr ⟨(y_cellB h.1 tx), (fun _ h => absurd h List.not_mem_nil)⟩)) (fun _ h => absurd h List.not_mem_nil) ⟨⟨ax, rfl, (by simp only [xl_ev, xt_ev, y_v, List.getD_cons_succ, List.getD_cons_zero]; omega), tx⟩, trivial⟩ (fun q hq => absurd hq List.not_mem_nil) h.1 (fun z => by cases z)).and (bz_prices hd h)).mono (fun r G' h' => ?_)
  obtain ⟨⟨v', -, -, hI', ef, p, hp, -, -, pa⟩, w, wi, hJ, hX⟩ := h'
  obtain rfl : p = _ := List.mem_singleton.mp hp
  obtain ⟨y, rfl, -⟩ := y_pI pa
  exact ⟨⟨y, rfl⟩, z_INp.eff tx ta h hI' ef (by decide +kernel) (h.kk.spec ef (by decide +kernel) hJ hX)⟩
set_option maxHeartbeats 2000000 in
set_option maxRecDepth 100000 in
theorem n_prices (hd : 318 ≤ d) (tx : th[ax]? = some 9) (ta : th[am]? = some 10) (h : z_IN th ax am G sc sm)  : x_Gd xs L J d m_231 (fun r G' => (∃ y : Int32, r = some (.int y)) ∧ z_IN th ax am G' sc sm) 0 (lv_args 0 [.ref am]) [] G := by
  refine ((h_279 th xs L J).gd (G := G) (d := d) m_231_ok (by omega) (v := (y_v [(am : Int)])) (as := [.ref am]) (y_v_Bd (List.forall_mem_cons.mpr ⟨(y_cellB h.1 ta), (fun _ h => absurd h List.not_mem_nil)⟩)) (fun _ h => absurd h List.not_mem_nil) ⟨⟨am, rfl, (by simp only [xl_ev, xt_ev, y_v, List.getD_cons_succ, List.getD_cons_zero]; omega), ta⟩, trivial⟩ (fun q hq => absurd hq List.not_mem_nil) h.1 (fun _ => h.2.1.2.1)).mono (fun r G' h' => ?_)
  obtain ⟨v', -, -, hI', ef, p, hp, -, -, pa⟩ := h'
  obtain rfl : p = _ := List.mem_singleton.mp hp
  obtain ⟨y, rfl, -⟩ := y_pI pa
  exact ⟨⟨y, rfl⟩, h.eff tx ta hI' ef (by decide +kernel)⟩
set_option maxHeartbeats 2000000 in
set_option maxRecDepth 100000 in
theorem b_price (hd : 318 ≤ d) (tx : th[ax]? = some 9) (ta : th[am]? = some 10) (h : z_IN th ax am G sc sm) (x1 : Int32) : x_Gd xs L J d m_123 (fun r G' => (∃ y : Int32, r = some (.int y)) ∧ z_IN th ax am G' sc sm) 0 (lv_args 0 [.ref ax, .int x1]) [] G := by
  refine ((h_165 th xs L J).gd (G := G) (d := d) m_123_ok (by omega) (v := (y_v [(ax : Int), x1.toInt])) (as := [.ref ax, .int x1]) (y_v_Bd (List.forall_mem_cons.mpr ⟨(y_cellB h.1 tx), (List.forall_mem_cons.mpr ⟨(x_i32 x1), (fun _ h => absurd h List.not_mem_nil)⟩)⟩)) (fun _ h => absurd h List.not_mem_nil) ⟨⟨ax, rfl, (by simp only [xl_ev, xt_ev, y_v, List.getD_cons_succ, List.getD_cons_zero]; omega), tx⟩, ⟨x1, rfl, (by simp only [xl_ev, xt_ev, y_v, List.getD_cons_succ, List.getD_cons_zero]; omega)⟩, trivial⟩ (fun q hq => absurd hq List.not_mem_nil) h.1 (fun z => by cases z)).mono (fun r G' h' => ?_)
  obtain ⟨v', -, -, hI', ef, p, hp, -, -, pa⟩ := h'
  obtain rfl : p = _ := List.mem_singleton.mp hp
  obtain ⟨y, rfl, -⟩ := y_pI pa
  exact ⟨⟨y, rfl⟩, h.eff tx ta hI' ef (by decide +kernel)⟩
set_option maxHeartbeats 2000000 in
set_option maxRecDepth 100000 in
theorem n_price (hd : 318 ≤ d) (tx : th[ax]? = some 9) (ta : th[am]? = some 10) (h : z_IN th ax am G sc sm) (x1 : Int32) : x_Gd xs L J d m_235 (fun r G' => (∃ y : Int32, r = some (.int y)) ∧ z_IN th ax am G' sc sm) 0 (lv_args 0 [.ref am, .int x1]) [] G := by
  refine ((h_280 th xs L J).gd (G := G) (d := d) m_235_ok (by omega) (v := (y_v [(am : Int), x1.toInt])) (as := [.ref am, .int x1]) (y_v_Bd (List.forall_mem_cons.mpr ⟨(y_cellB h.1 ta), (List.forall_mem_cons.mpr ⟨(x_i32 x1), (fun _ h => absurd h List.not_mem_nil)⟩)⟩)) (fun _ h => absurd h List.not_mem_nil) ⟨⟨am, rfl, (by simp only [xl_ev, xt_ev, y_v, List.getD_cons_succ, List.getD_cons_zero]; omega), ta⟩, ⟨x1, rfl, (by simp only [xl_ev, xt_ev, y_v, List.getD_cons_succ, List.getD_cons_zero]; omega)⟩, trivial⟩ (fun q hq => absurd hq List.not_mem_nil) h.1 (fun z => by cases z)).mono (fun r G' h' => ?_)
  obtain ⟨v', -, -, hI', ef, p, hp, -, -, pa⟩ := h'
  obtain rfl : p = _ := List.mem_singleton.mp hp
  obtain ⟨y, rfl, -⟩ := y_pI pa
  exact ⟨⟨y, rfl⟩, h.eff tx ta hI' ef (by decide +kernel)⟩
theorem bz_later (hd : 318 ≤ d) (h : z_IN th ax am G sc sm) (x1 x2 : Int32) : x_Gd xs L J d m_124 (fun r G' => ∃ w wi, z_JW w wi G ∧ ZX w wi G') 0 (lv_args 0 [.ref ax, .int x1, .int x2]) [] G := by
  obtain ⟨rfl, rfl, rfl, -, w, wi, hJ⟩ := h.kk
  exact (zb_later hd hJ.1 h.1 x1 x2).mono (fun r G' z => ⟨w, wi, hJ, z⟩)
set_option maxHeartbeats 2000000 in
set_option maxRecDepth 100000 in
theorem b_later (hd : 318 ≤ d) (tx : th[ax]? = some 9) (ta : th[am]? = some 10) (h : z_IN th ax am G sc sm) (x1 x2 : Int32) : x_Gd xs L J d m_124 (fun r G' => (∃ y : Int32, r = some (.int y)) ∧ z_IN th ax am G' sc sm) 0 (lv_args 0 [.ref ax, .int x1, .int x2]) [] G := by
  refine (((h_166 th xs L J).gd (G := G) (d := d) m_124_ok (by omega) (v := (y_v [(ax : Int), x1.toInt, x2.toInt])) (as := [.ref ax, .int x1, .int x2]) (y_v_Bd (List.forall_mem_cons.mpr ⟨(y_cellB h.1 tx), (List.forall_mem_cons.mpr ⟨(x_i32 x1), (List.forall_mem_cons.mpr ⟨(x_i32 x2), (fun _ h => absurd h List.not_mem_nil)⟩)⟩)⟩)) (fun _ h => absurd h List.not_mem_nil) ⟨⟨ax, rfl, (by simp only [xl_ev, xt_ev, y_v, List.getD_cons_succ, List.getD_cons_zero]; omega), tx⟩, ⟨x1, rfl, (by simp only [xl_ev, xt_ev, y_v, List.getD_cons_succ, List.getD_cons_zero]; omega)⟩, ⟨x2, rfl, (by simp only [xl_ev, xt_ev, y_v, List.getD_cons_succ, List.getD_cons_zero]; omega)⟩, trivial⟩ (fun q hq => absurd hq List.not_mem_nil) h.1 (fun z => by cases z)).and (bz_later hd h x1 x2)).mono (fun r G' h' => ?_)
  obtain ⟨⟨v', -, -, hI', ef, p, hp, -, -, pa⟩, w, wi, hJ, hX⟩ := h'
  obtain rfl : p = _ := List.mem_singleton.mp hp
  obtain ⟨y, rfl, -⟩ := y_pI pa
  exact ⟨⟨y, rfl⟩, z_INp.eff tx ta h hI' ef (by decide +kernel) (h.kk.spec ef (by decide +kernel) hJ hX)⟩
set_option maxHeartbeats 2000000 in
set_option maxRecDepth 100000 in
theorem n_later (hd : 318 ≤ d) (tx : th[ax]? = some 9) (ta : th[am]? = some 10) (h : z_IN th ax am G sc sm) (x1 x2 : Int32) : x_Gd xs L J d m_236 (fun r G' => (∃ y : Int32, r = some (.int y)) ∧ z_IN th ax am G' sc sm) 0 (lv_args 0 [.ref am, .int x1, .int x2]) [] G := by
  refine ((h_281 th xs L J).gd (G := G) (d := d) m_236_ok (by omega) (v := (y_v [(am : Int), x1.toInt, x2.toInt])) (as := [.ref am, .int x1, .int x2]) (y_v_Bd (List.forall_mem_cons.mpr ⟨(y_cellB h.1 ta), (List.forall_mem_cons.mpr ⟨(x_i32 x1), (List.forall_mem_cons.mpr ⟨(x_i32 x2), (fun _ h => absurd h List.not_mem_nil)⟩)⟩)⟩)) (fun _ h => absurd h List.not_mem_nil) ⟨⟨am, rfl, (by simp only [xl_ev, xt_ev, y_v, List.getD_cons_succ, List.getD_cons_zero]; omega), ta⟩, ⟨x1, rfl, (by simp only [xl_ev, xt_ev, y_v, List.getD_cons_succ, List.getD_cons_zero]; omega)⟩, ⟨x2, rfl, (by simp only [xl_ev, xt_ev, y_v, List.getD_cons_succ, List.getD_cons_zero]; omega)⟩, trivial⟩ (fun q hq => absurd hq List.not_mem_nil) h.1 (fun _ => h.2.1.2.1)).mono (fun r G' h' => ?_)
  obtain ⟨v', -, -, hI', ef, p, hp, -, -, pa⟩ := h'
  obtain rfl : p = _ := List.mem_singleton.mp hp
  obtain ⟨y, rfl, -⟩ := y_pI pa
  exact ⟨⟨y, rfl⟩, h.eff tx ta hI' ef (by decide +kernel)⟩
theorem bz_meet (hd : 318 ≤ d) (h : z_IN th ax am G sc sm) (x1 x2 : Int32) : x_Gd xs L J d m_125 (fun r G' => ∃ w wi, z_JW w wi G ∧ ZX w wi G') 0 (lv_args 0 [.ref ax, .int x1, .int x2]) [] G := by
  obtain ⟨rfl, rfl, rfl, -, w, wi, hJ⟩ := h.kk
  exact (zb_meet hd hJ.1 h.1 x1 x2).mono (fun r G' z => ⟨w, wi, hJ, z⟩)
set_option maxHeartbeats 2000000 in
set_option maxRecDepth 100000 in
theorem b_meet (hd : 318 ≤ d) (tx : th[ax]? = some 9) (ta : th[am]? = some 10) (h : z_IN th ax am G sc sm) (x1 x2 : Int32) : x_Gd xs L J d m_125 (fun r G' => (∃ y : Int32, r = some (.int y)) ∧ z_IN th ax am G' sc sm) 0 (lv_args 0 [.ref ax, .int x1, .int x2]) [] G := by
  refine (((h_167 th xs L J).gd (G := G) (d := d) m_125_ok (by omega) (v := (y_v [(ax : Int), x1.toInt, x2.toInt])) (as := [.ref ax, .int x1, .int x2]) (y_v_Bd (List.forall_mem_cons.mpr ⟨(y_cellB h.1 tx), (List.forall_mem_cons.mpr ⟨(x_i32 x1), (List.forall_mem_cons.mpr ⟨(x_i32 x2), (fun _ h => absurd h List.not_mem_nil)⟩)⟩)⟩)) (fun _ h => absurd h List.not_mem_nil) ⟨⟨ax, rfl, (by simp only [xl_ev, xt_ev, y_v, List.getD_cons_succ, List.getD_cons_zero]; omega), tx⟩, ⟨x1, rfl, (by simp only [xl_ev, xt_ev, y_v, List.getD_cons_succ, List.getD_cons_zero]; omega)⟩, ⟨x2, rfl, (by simp only [xl_ev, xt_ev, y_v, List.getD_cons_succ, List.getD_cons_zero]; omega)⟩, trivial⟩ (fun q hq => absurd hq List.not_mem_nil) h.1 (fun z => by cases z)).and (bz_meet hd h x1 x2)).mono (fun r G' h' => ?_)
  obtain ⟨⟨v', -, -, hI', ef, p, hp, -, -, pa⟩, w, wi, hJ, hX⟩ := h'
  obtain rfl : p = _ := List.mem_singleton.mp hp
  obtain ⟨y, rfl, -⟩ := y_pI pa
  exact ⟨⟨y, rfl⟩, z_INp.eff tx ta h hI' ef (by decide +kernel) (h.kk.spec ef (by decide +kernel) hJ hX)⟩
set_option maxHeartbeats 2000000 in
set_option maxRecDepth 100000 in
theorem n_meet (hd : 318 ≤ d) (tx : th[ax]? = some 9) (ta : th[am]? = some 10) (h : z_IN th ax am G sc sm) (x1 x2 : Int32) : x_Gd xs L J d m_237 (fun r G' => (∃ y : Int32, r = some (.int y)) ∧ z_IN th ax am G' sc sm) 0 (lv_args 0 [.ref am, .int x1, .int x2]) [] G := by
  refine ((h_282 th xs L J).gd (G := G) (d := d) m_237_ok (by omega) (v := (y_v [(am : Int), x1.toInt, x2.toInt])) (as := [.ref am, .int x1, .int x2]) (y_v_Bd (List.forall_mem_cons.mpr ⟨(y_cellB h.1 ta), (List.forall_mem_cons.mpr ⟨(x_i32 x1), (List.forall_mem_cons.mpr ⟨(x_i32 x2), (fun _ h => absurd h List.not_mem_nil)⟩)⟩)⟩)) (fun _ h => absurd h List.not_mem_nil) ⟨⟨am, rfl, (by simp only [xl_ev, xt_ev, y_v, List.getD_cons_succ, List.getD_cons_zero]; omega), ta⟩, ⟨x1, rfl, (by simp only [xl_ev, xt_ev, y_v, List.getD_cons_succ, List.getD_cons_zero]; omega)⟩, ⟨x2, rfl, (by simp only [xl_ev, xt_ev, y_v, List.getD_cons_succ, List.getD_cons_zero]; omega)⟩, trivial⟩ (fun q hq => absurd hq List.not_mem_nil) h.1 (fun _ => h.2.1.2.1)).mono (fun r G' h' => ?_)
  obtain ⟨v', -, -, hI', ef, p, hp, -, -, pa⟩ := h'
  obtain rfl : p = _ := List.mem_singleton.mp hp
  obtain ⟨y, rfl, -⟩ := y_pI pa
  exact ⟨⟨y, rfl⟩, h.eff tx ta hI' ef (by decide +kernel)⟩
theorem bz_drawn (hd : 318 ≤ d) (h : z_IN th ax am G sc sm) (x1 x2 : Int32) : x_Gd xs L J d m_98 (fun r G' => ∃ w wi, z_JW w wi G ∧ ZX w wi G') 0 (lv_args 0 [.ref ax, .int x1, .int x2]) [] G := by
  obtain ⟨rfl, rfl, rfl, -, w, wi, hJ⟩ := h.kk
  exact (zb_drawn hd hJ.1 h.1 x1 x2).mono (fun r G' z => ⟨w, wi, hJ, z⟩)
set_option maxHeartbeats 2000000 in
set_option maxRecDepth 100000 in
theorem b_drawn (hd : 318 ≤ d) (tx : th[ax]? = some 9) (ta : th[am]? = some 10) (h : z_IN th ax am G sc sm) (x1 x2 : Int32) : x_Gd xs L J d m_98 (fun r G' => (∃ y : Int32, r = some (.int y)) ∧ z_IN th ax am G' sc sm) 0 (lv_args 0 [.ref ax, .int x1, .int x2]) [] G := by
  refine (((h_149 th xs L J).gd (G := G) (d := d) m_98_ok (by omega) (v := (y_v [(ax : Int), x1.toInt, x2.toInt])) (as := [.ref ax, .int x1, .int x2]) (y_v_Bd (List.forall_mem_cons.mpr ⟨(y_cellB h.1 tx), (List.forall_mem_cons.mpr ⟨(x_i32 x1), (List.forall_mem_cons.mpr ⟨(x_i32 x2), (fun _ h => absurd h List.not_mem_nil)⟩)⟩)⟩)) (fun _ h => absurd h List.not_mem_nil) ⟨⟨ax, rfl, (by simp only [xl_ev, xt_ev, y_v, List.getD_cons_succ, List.getD_cons_zero]; omega), tx⟩, ⟨x1, rfl, (by simp only [xl_ev, xt_ev, y_v, List.getD_cons_succ, List.getD_cons_zero]; omega)⟩, ⟨x2, rfl, (by simp only [xl_ev, xt_ev, y_v, List.getD_cons_succ, List.getD_cons_zero]; omega)⟩, trivial⟩ (fun q hq => absurd hq List.not_mem_nil) h.1 (fun z => by cases z)).and (bz_drawn hd h x1 x2)).mono (fun r G' h' => ?_)
  obtain ⟨⟨v', -, -, hI', ef, p, hp, -, -, pa⟩, w, wi, hJ, hX⟩ := h'
  obtain rfl : p = _ := List.mem_singleton.mp hp
  obtain ⟨y, rfl, -⟩ := y_pI pa
  exact ⟨⟨y, rfl⟩, z_INp.eff tx ta h hI' ef (by decide +kernel) (h.kk.spec ef (by decide +kernel) hJ hX)⟩
set_option maxHeartbeats 2000000 in
set_option maxRecDepth 100000 in
theorem n_drawn (hd : 318 ≤ d) (tx : th[ax]? = some 9) (ta : th[am]? = some 10) (h : z_IN th ax am G sc sm) (x1 x2 : Int32) : x_Gd xs L J d m_238 (fun r G' => (∃ y : Int32, r = some (.int y)) ∧ z_IN th ax am G' sc sm) 0 (lv_args 0 [.ref am, .int x1, .int x2]) [] G := by
  refine ((h_285 th xs L J).gd (G := G) (d := d) m_238_ok (by omega) (v := (y_v [(am : Int), x1.toInt, x2.toInt])) (as := [.ref am, .int x1, .int x2]) (y_v_Bd (List.forall_mem_cons.mpr ⟨(y_cellB h.1 ta), (List.forall_mem_cons.mpr ⟨(x_i32 x1), (List.forall_mem_cons.mpr ⟨(x_i32 x2), (fun _ h => absurd h List.not_mem_nil)⟩)⟩)⟩)) (fun _ h => absurd h List.not_mem_nil) ⟨⟨am, rfl, (by simp only [xl_ev, xt_ev, y_v, List.getD_cons_succ, List.getD_cons_zero]; omega), ta⟩, ⟨x1, rfl, (by simp only [xl_ev, xt_ev, y_v, List.getD_cons_succ, List.getD_cons_zero]; omega)⟩, ⟨x2, rfl, (by simp only [xl_ev, xt_ev, y_v, List.getD_cons_succ, List.getD_cons_zero]; omega)⟩, trivial⟩ (fun q hq => absurd hq List.not_mem_nil) h.1 (fun _ => h.2.1.2.1)).mono (fun r G' h' => ?_)
  obtain ⟨v', -, -, hI', ef, p, hp, -, -, pa⟩ := h'
  obtain rfl : p = _ := List.mem_singleton.mp hp
  obtain ⟨y, rfl, -⟩ := y_pI pa
  exact ⟨⟨y, rfl⟩, h.eff tx ta hI' ef (by decide +kernel)⟩
theorem bz_odds (hd : 318 ≤ d) (h : z_IN th ax am G sc sm) (x1 x2 x3 : Int32) : x_Gd xs L J d m_127 (fun r G' => ∃ w wi, z_JW w wi G ∧ ZX w wi G') 0 (lv_args 0 [.ref ax, .int x1, .int x2, .int x3]) [] G := by
  obtain ⟨rfl, rfl, rfl, -, w, wi, hJ⟩ := h.kk
  exact (zb_odds hd hJ.1 h.1 x1 x2 x3).mono (fun r G' z => ⟨w, wi, hJ, z⟩)
set_option maxHeartbeats 2000000 in
set_option maxRecDepth 100000 in
theorem b_odds (hd : 318 ≤ d) (tx : th[ax]? = some 9) (ta : th[am]? = some 10) (h : z_IN th ax am G sc sm) (x1 x2 x3 : Int32) : x_Gd xs L J d m_127 (fun r G' => (∃ y : Int32, r = some (.int y)) ∧ z_IN th ax am G' sc sm) 0 (lv_args 0 [.ref ax, .int x1, .int x2, .int x3]) [] G := by
  refine (((h_168 th xs L J).gd (G := G) (d := d) m_127_ok (by omega) (v := (y_v [(ax : Int), x1.toInt, x2.toInt, x3.toInt])) (as := [.ref ax, .int x1, .int x2, .int x3]) (y_v_Bd (List.forall_mem_cons.mpr ⟨(y_cellB h.1 tx), (List.forall_mem_cons.mpr ⟨(x_i32 x1), (List.forall_mem_cons.mpr ⟨(x_i32 x2), (List.forall_mem_cons.mpr ⟨(x_i32 x3), (fun _ h => absurd h List.not_mem_nil)⟩)⟩)⟩)⟩)) (fun _ h => absurd h List.not_mem_nil) ⟨⟨ax, rfl, (by simp only [xl_ev, xt_ev, y_v, List.getD_cons_succ, List.getD_cons_zero]; omega), tx⟩, ⟨x1, rfl, (by simp only [xl_ev, xt_ev, y_v, List.getD_cons_succ, List.getD_cons_zero]; omega)⟩, ⟨x2, rfl, (by simp only [xl_ev, xt_ev, y_v, List.getD_cons_succ, List.getD_cons_zero]; omega)⟩, ⟨x3, rfl, (by simp only [xl_ev, xt_ev, y_v, List.getD_cons_succ, List.getD_cons_zero]; omega)⟩, trivial⟩ (fun q hq => absurd hq List.not_mem_nil) h.1 (fun z => by cases z)).and (bz_odds hd h x1 x2 x3)).mono (fun r G' h' => ?_)
  obtain ⟨⟨v', -, -, hI', ef, p, hp, -, -, pa⟩, w, wi, hJ, hX⟩ := h'
  obtain rfl : p = _ := List.mem_singleton.mp hp
  obtain ⟨y, rfl, -⟩ := y_pI pa
  exact ⟨⟨y, rfl⟩, z_INp.eff tx ta h hI' ef (by decide +kernel) (h.kk.spec ef (by decide +kernel) hJ hX)⟩
set_option maxHeartbeats 2000000 in
set_option maxRecDepth 100000 in
theorem n_odds (hd : 318 ≤ d) (tx : th[ax]? = some 9) (ta : th[am]? = some 10) (h : z_IN th ax am G sc sm) (x1 x2 x3 : Int32) : x_Gd xs L J d m_241 (fun r G' => (∃ y : Int32, r = some (.int y)) ∧ z_IN th ax am G' sc sm) 0 (lv_args 0 [.ref am, .int x1, .int x2, .int x3]) [] G := by
  refine ((h_287 th xs L J).gd (G := G) (d := d) m_241_ok (by omega) (v := (y_v [(am : Int), x1.toInt, x2.toInt, x3.toInt])) (as := [.ref am, .int x1, .int x2, .int x3]) (y_v_Bd (List.forall_mem_cons.mpr ⟨(y_cellB h.1 ta), (List.forall_mem_cons.mpr ⟨(x_i32 x1), (List.forall_mem_cons.mpr ⟨(x_i32 x2), (List.forall_mem_cons.mpr ⟨(x_i32 x3), (fun _ h => absurd h List.not_mem_nil)⟩)⟩)⟩)⟩)) (fun _ h => absurd h List.not_mem_nil) ⟨⟨am, rfl, (by simp only [xl_ev, xt_ev, y_v, List.getD_cons_succ, List.getD_cons_zero]; omega), ta⟩, ⟨x1, rfl, (by simp only [xl_ev, xt_ev, y_v, List.getD_cons_succ, List.getD_cons_zero]; omega)⟩, ⟨x2, rfl, (by simp only [xl_ev, xt_ev, y_v, List.getD_cons_succ, List.getD_cons_zero]; omega)⟩, ⟨x3, rfl, (by simp only [xl_ev, xt_ev, y_v, List.getD_cons_succ, List.getD_cons_zero]; omega)⟩, trivial⟩ (fun q hq => absurd hq List.not_mem_nil) h.1 (fun _ => h.2.1.2.1)).mono (fun r G' h' => ?_)
  obtain ⟨v', -, -, hI', ef, p, hp, -, -, pa⟩ := h'
  obtain rfl : p = _ := List.mem_singleton.mp hp
  obtain ⟨y, rfl, -⟩ := y_pI pa
  exact ⟨⟨y, rfl⟩, h.eff tx ta hI' ef (by decide +kernel)⟩
set_option maxHeartbeats 2000000 in
set_option maxRecDepth 100000 in
theorem b_logged (hd : 318 ≤ d) (tx : th[ax]? = some 9) (ta : th[am]? = some 10) (h : z_IN th ax am G sc sm) (x1 : Int32) : x_Gd xs L J d m_135 (fun r G' => (∃ y : Int32, r = some (.int y)) ∧ z_IN th ax am G' sc sm) 0 (lv_args 0 [.ref ax, .int x1]) [] G := by
  refine ((h_170 th xs L J).gd (G := G) (d := d) m_135_ok (by omega) (v := (y_v [(ax : Int), x1.toInt])) (as := [.ref ax, .int x1]) (y_v_Bd (List.forall_mem_cons.mpr ⟨(y_cellB h.1 tx), (List.forall_mem_cons.mpr ⟨(x_i32 x1), (fun _ h => absurd h List.not_mem_nil)⟩)⟩)) (fun _ h => absurd h List.not_mem_nil) ⟨⟨ax, rfl, (by simp only [xl_ev, xt_ev, y_v, List.getD_cons_succ, List.getD_cons_zero]; omega), tx⟩, ⟨x1, rfl, (by simp only [xl_ev, xt_ev, y_v, List.getD_cons_succ, List.getD_cons_zero]; omega)⟩, trivial⟩ (fun q hq => absurd hq List.not_mem_nil) h.1 (fun z => by cases z)).mono (fun r G' h' => ?_)
  obtain ⟨v', -, -, hI', ef, p, hp, -, -, pa⟩ := h'
  obtain rfl : p = _ := List.mem_singleton.mp hp
  obtain ⟨y, rfl, -⟩ := y_pI pa
  exact ⟨⟨y, rfl⟩, h.eff tx ta hI' ef (by decide +kernel)⟩
set_option maxHeartbeats 2000000 in
set_option maxRecDepth 100000 in
theorem n_logged (hd : 318 ≤ d) (tx : th[ax]? = some 9) (ta : th[am]? = some 10) (h : z_IN th ax am G sc sm) (x1 : Int32) : x_Gd xs L J d m_246 (fun r G' => (∃ y : Int32, r = some (.int y)) ∧ z_IN th ax am G' sc sm) 0 (lv_args 0 [.ref am, .int x1]) [] G := by
  refine ((h_288 th xs L J).gd (G := G) (d := d) m_246_ok (by omega) (v := (y_v [(am : Int), x1.toInt])) (as := [.ref am, .int x1]) (y_v_Bd (List.forall_mem_cons.mpr ⟨(y_cellB h.1 ta), (List.forall_mem_cons.mpr ⟨(x_i32 x1), (fun _ h => absurd h List.not_mem_nil)⟩)⟩)) (fun _ h => absurd h List.not_mem_nil) ⟨⟨am, rfl, (by simp only [xl_ev, xt_ev, y_v, List.getD_cons_succ, List.getD_cons_zero]; omega), ta⟩, ⟨x1, rfl, (by simp only [xl_ev, xt_ev, y_v, List.getD_cons_succ, List.getD_cons_zero]; omega)⟩, trivial⟩ (fun q hq => absurd hq List.not_mem_nil) h.1 (fun z => by cases z)).mono (fun r G' h' => ?_)
  obtain ⟨v', -, -, hI', ef, p, hp, -, -, pa⟩ := h'
  obtain rfl : p = _ := List.mem_singleton.mp hp
  obtain ⟨y, rfl, -⟩ := y_pI pa
  exact ⟨⟨y, rfl⟩, h.eff tx ta hI' ef (by decide +kernel)⟩
set_option maxHeartbeats 2000000 in
set_option maxRecDepth 100000 in
theorem b_said (hd : 318 ≤ d) (tx : th[ax]? = some 9) (ta : th[am]? = some 10) (h : z_IN th ax am G sc sm) (x1 : Int32) : x_Gd xs L J d m_146 (fun r G' => (∃ y : Int32, r = some (.int y)) ∧ z_IN th ax am G' sc sm) 0 (lv_args 0 [.ref ax, .int x1]) [] G := by
  refine ((h_172 th xs L J).gd (G := G) (d := d) m_146_ok (by omega) (v := (y_v [(ax : Int), x1.toInt])) (as := [.ref ax, .int x1]) (y_v_Bd (List.forall_mem_cons.mpr ⟨(y_cellB h.1 tx), (List.forall_mem_cons.mpr ⟨(x_i32 x1), (fun _ h => absurd h List.not_mem_nil)⟩)⟩)) (fun _ h => absurd h List.not_mem_nil) ⟨⟨ax, rfl, (by simp only [xl_ev, xt_ev, y_v, List.getD_cons_succ, List.getD_cons_zero]; omega), tx⟩, ⟨x1, rfl, (by simp only [xl_ev, xt_ev, y_v, List.getD_cons_succ, List.getD_cons_zero]; omega)⟩, trivial⟩ (fun q hq => absurd hq List.not_mem_nil) h.1 (fun z => by cases z)).mono (fun r G' h' => ?_)
  obtain ⟨v', -, -, hI', ef, p, hp, -, -, pa⟩ := h'
  obtain rfl : p = _ := List.mem_singleton.mp hp
  obtain ⟨y, rfl, -⟩ := y_pI pa
  exact ⟨⟨y, rfl⟩, h.eff tx ta hI' ef (by decide +kernel)⟩
set_option maxHeartbeats 2000000 in
set_option maxRecDepth 100000 in
theorem n_said (hd : 318 ≤ d) (tx : th[ax]? = some 9) (ta : th[am]? = some 10) (h : z_IN th ax am G sc sm) (x1 : Int32) : x_Gd xs L J d m_254 (fun r G' => (∃ y : Int32, r = some (.int y)) ∧ z_IN th ax am G' sc sm) 0 (lv_args 0 [.ref am, .int x1]) [] G := by
  refine ((h_303 th xs L J).gd (G := G) (d := d) m_254_ok (by omega) (v := (y_v [(am : Int), x1.toInt])) (as := [.ref am, .int x1]) (y_v_Bd (List.forall_mem_cons.mpr ⟨(y_cellB h.1 ta), (List.forall_mem_cons.mpr ⟨(x_i32 x1), (fun _ h => absurd h List.not_mem_nil)⟩)⟩)) (fun _ h => absurd h List.not_mem_nil) ⟨⟨am, rfl, (by simp only [xl_ev, xt_ev, y_v, List.getD_cons_succ, List.getD_cons_zero]; omega), ta⟩, ⟨x1, rfl, (by simp only [xl_ev, xt_ev, y_v, List.getD_cons_succ, List.getD_cons_zero]; omega)⟩, trivial⟩ (fun q hq => absurd hq List.not_mem_nil) h.1 (fun _ => h.2.1.2.1)).mono (fun r G' h' => ?_)
  obtain ⟨v', -, -, hI', ef, p, hp, -, -, pa⟩ := h'
  obtain rfl : p = _ := List.mem_singleton.mp hp
  obtain ⟨y, rfl, -⟩ := y_pI pa
  exact ⟨⟨y, rfl⟩, h.eff tx ta hI' ef (by decide +kernel)⟩
def sg_bi0_ns : List xN := []
def sg_bi0_os : List xN := [(37, [(0, (19, ([(0, 1)], 0))), (1, (0, ([(1, 1)], 0)))], [], [([(1, 1)], 0), ([(1, -1)], 1)], 2, [([], 0), ([], 0), ([], 0), ([], 0), ([], 0)])]
def sg_bi0_g : xG := ([], [(0, (19, ([(0, 1)], 0))), (1, (0, ([(1, 1)], 0)))], [], [], 2)
def sg_bi0_ps : List xP := [(some (0, ([], 0)), [([(1, -1)], -1)], []), (some (0, ([], 0)), [([(1, 1)], -2)], [])]
set_option maxRecDepth 100000 in
set_option maxHeartbeats 4000000 in
theorem sg_bi0_ok : x_seg x_tb [c_44, c_93] m_153 d_153 [(0, 4, 7), (1, 2, 5), (4, 0, 3), (5, 0, 3), (6, 4, 5), (8, 0, 9), (14, 0, 1), (15, 0, 3), (16, 0, 3), (17, 0, 3), (18, 0, 3), (24, 0, 39), (25, 0, 39), (26, 0, 39)] 2 sg_bi0_ps sg_bi0_ns sg_bi0_os 29 false 0 sg_bi0_g = true := by decide +kernel
set_option maxRecDepth 100000 in
theorem sg_bi0_go {th : List Nat} {xs : Nat → Int32} {L J d : Nat} {K : Option Value → List pE → Prop} (hd : 94 ≤ d) {v : Nat → Int} {lv : pL} {ws : List Value} {G0 G : List pE} (hS : x_S x_tb th v sg_bi0_g lv ws G) (hE : x_eff th [(0, 4, 7), (1, 2, 5), (4, 0, 3), (5, 0, 3), (6, 4, 5), (8, 0, 9), (14, 0, 1), (15, 0, 3), (16, 0, 3), (17, 0, 3), (18, 0, 3), (24, 0, 39), (25, 0, 39), (26, 0, 39)] G0 G) (hK : ∀ r G', x_Post x_tb th [(0, 4, 7), (1, 2, 5), (4, 0, 3), (5, 0, 3), (6, 4, 5), (8, 0, 9), (14, 0, 1), (15, 0, 3), (16, 0, 3), (17, 0, 3), (18, 0, 3), (24, 0, 39), (25, 0, 39), (26, 0, 39)] sg_bi0_ps 2 v G0 r G' → K r G') (hO : ∀ n ∈ sg_bi0_os, ∀ (vn : Nat → Int) (lv : pL) (G1 : List pE), x_ag 2 v vn → x_S x_tb th vn (n.2.2.2.1, n.2.1, [], n.2.2.1, n.2.2.2.2.1) lv [] G1 → x_eff th [(0, 4, 7), (1, 2, 5), (4, 0, 3), (5, 0, 3), (6, 4, 5), (8, 0, 9), (14, 0, 1), (15, 0, 3), (16, 0, 3), (17, 0, 3), (18, 0, 3), (24, 0, 39), (25, 0, 39), (26, 0, 39)] G0 G1 → x_Gd xs L J (d + 1) m_153 K n.1 lv [] G1) : x_Gd xs L J (d + 1) m_153 K 0 lv ws G :=
  x_seg_ok (dm := 94) x_tb_wf ⟨rfl, rfl, rfl⟩ e_153 (List.forall_mem_cons.mpr ⟨(h_44 th xs L J).mono (by omega), List.forall_mem_cons.mpr ⟨(h_93 th xs L J).mono (by omega), fun _ h => absurd h List.not_mem_nil⟩⟩) hd sg_bi0_ok hS hE (fun z => by cases z) hK hO
set_option maxHeartbeats 2000000 in
set_option maxRecDepth 100000 in
theorem zf_image (hd : 318 ≤ d) (hI : xI x_tb th0 G) (h10 : x_sl G 0 10 = some (.ref 71)) (x1 : Int32) : x_Gd xs L J d m_153 (fun r G' => ∀ q, q < 2 → x_sl G' 71 q = if 0 ≤ x1.toInt ∧ x1.toInt ≤ 1 ∧ q = x1.toInt.toNat then some (.int 1) else x_sl G 71 q) 0 (lv_args 0 [.ref 0, .int x1]) [] G := by
  obtain ⟨d, rfl⟩ : ∃ k, d = k + 1 := ⟨d - 1, by omega⟩
  refine sg_bi0_go (th := th0) (d := d) (by omega) (v := (y_v [((0 : Nat) : Int), x1.toInt])) (G0 := G) (G := G) ⟨y_v_Bd (List.forall_mem_cons.mpr ⟨(y_cellB hI z_ty.1), (List.forall_mem_cons.mpr ⟨(x_i32 x1), (fun _ h => absurd h List.not_mem_nil)⟩)⟩), (fun _ h => absurd h List.not_mem_nil), (List.forall_mem_cons.mpr ⟨⟨_, rfl, 0, rfl, (by simp only [xl_ev, xt_ev, y_v, List.getD_cons_succ, List.getD_cons_zero]; omega), z_ty.1⟩, (List.forall_mem_cons.mpr ⟨⟨_, rfl, x1, rfl, (by simp only [xl_ev, xt_ev, y_v, List.getD_cons_succ, List.getD_cons_zero]; omega)⟩, (fun _ h => absurd h List.not_mem_nil)⟩)⟩), trivial, (fun _ h => absurd h List.not_mem_nil), hI⟩ x_eff.rf (fun r G' hp => ?_) (fun n hn vn lv1 G1 hag hS1 hE1 => ?_)
  · obtain ⟨v', hag, -, hI', ef, p, hp, qc, -, pa⟩ := hp
    have z1 : v' 1 = x1.toInt := hag 1 (by decide)
    have hx : ¬ (0 ≤ x1.toInt ∧ x1.toInt ≤ 1) := by
      simp only [sg_bi0_ps, List.mem_cons, List.not_mem_nil, or_false] at hp
      rcases hp with rfl | rfl
      · have c0 := qc _ (List.mem_of_getElem? (i := 0) rfl)
        simp only [xl_ev, xt_ev] at c0
        omega
      · have c0 := qc _ (List.mem_of_getElem? (i := 0) rfl)
        simp only [xl_ev, xt_ev] at c0
        omega
    intro q hq
    rw [if_neg (fun z => hx ⟨z.1, z.2.1⟩), ef.at z_mt.2.2.2.1 (y_outT5 (by decide +kernel) q)]
  obtain rfl : n = _ := List.mem_singleton.mp hn
  have z0 : vn 0 = ((0 : Nat) : Int) := hag 0 (by decide)
  have z1 : vn 1 = x1.toInt := hag 1 (by decide)
  have g0 := hS1.loCe (i := 0) (t := 9) (l := ([(0, 1)], 0)) (a := 0) (List.mem_of_getElem? (i := 0) rfl) (by simp only [xl_ev, xt_ev]; omega)
  have g1 := hS1.lo0e (i := 1) (l := ([(1, 1)], 0)) (x := x1) (List.mem_of_getElem? (i := 1) rfl) (by simp only [xl_ev, xt_ev]; omega)
  have q0 := hS1.2.1 ([(1, 1)], 0) (List.mem_of_getElem? (i := 0) rfl)
  have q1 := hS1.2.1 ([(1, -1)], 1) (List.mem_of_getElem? (i := 1) rfl)
  simp only [xl_ev, xt_ev] at q0 q1
  replace q0 : 0 ≤ x1.toInt := by omega
  replace q1 : x1.toInt ≤ 1 := by omega
  have hI1 := hS1.2.2.2.2.2
  refine y_aln (e_153 (37, .aload_n 0, 1) (List.mem_of_getElem? (i := 21) rfl)) g0 ?_
  refine y_getf hI1 z_ty.1 (e_153 (38, .getfield 58, 3) (List.mem_of_getElem? (i := 22) rfl)) u_0_58 ⟨rfl, rfl⟩ ((hE1.at z_ty.1 (by decide +kernel)).trans h10) ?_
  refine y_iln (e_153 (41, .iload_n 1, 1) (List.mem_of_getElem? (i := 23) rfl)) g1 ?_
  refine y_st (e_153 (42, .iconst 1, 1) (List.mem_of_getElem? (i := 24) rfl)) ⟨rfl, rfl, rfl, rfl⟩ ?_
  refine y_zast hI1 z_mt.2.2.2.1 (e_153 (43, .bastore, 1) (List.mem_of_getElem? (i := 25) rfl)) ⟨rfl, rfl⟩ ⟨q0, by show x1.toInt < 2; omega⟩ (fun G2 hu => ?_)
  refine y_st (e_153 (44, .iconst 1, 1) (List.mem_of_getElem? (i := 26) rfl)) ⟨rfl, rfl, rfl, rfl⟩ ?_
  refine y_ret (e_153 (45, .ireturn, 1) (List.mem_of_getElem? (i := 27) rfl)) ⟨rfl, y_rb (Or.inr rfl)⟩ (fun q hq => ?_)
  rw [hu.2.1 71 q]
  by_cases hqq : q = x1.toInt.toNat
  · rw [if_pos (show (71 : Nat) = 71 ∧ q = x1.toInt.toNat from ⟨rfl, hqq⟩), if_pos (show 0 ≤ x1.toInt ∧ x1.toInt ≤ 1 ∧ q = x1.toInt.toNat from ⟨q0, q1, hqq⟩)]
  · rw [if_neg (show ¬ ((71 : Nat) = 71 ∧ q = x1.toInt.toNat) from fun z => hqq z.2), if_neg (show ¬ (0 ≤ x1.toInt ∧ x1.toInt ≤ 1 ∧ q = x1.toInt.toNat) from fun z => hqq z.2.2), hE1.at z_mt.2.2.2.1 (y_outT5 (by decide +kernel) q)]
theorem bz_image (hd : 318 ≤ d) (h : z_IN th ax am G sc sm) (x1 : Int32) : x_Gd xs L J d m_153 (fun r G' => ∃ w wi, z_JW w wi G ∧ ZX w (fun q => if 0 ≤ x1.toInt ∧ x1.toInt ≤ 1 ∧ q = x1.toInt.toNat then w else wi q) G' ∧ ∀ q, q < 2 → x_sl G' 71 q = if 0 ≤ x1.toInt ∧ x1.toInt ≤ 1 ∧ q = x1.toInt.toNat then some (.int 1) else x_sl G 71 q) 0 (lv_args 0 [.ref ax, .int x1]) [] G := by
  obtain ⟨rfl, rfl, rfl, -, w, wi, hJ⟩ := h.kk
  exact ((zb_image hd hJ.1 h.1 x1).and (zf_image hd h.1 hJ.2.1.2.2.2 x1)).mono (fun r G' z => ⟨w, wi, hJ, z.1, z.2⟩)
theorem z_KK.img {w : Nat → Nat → Option Value} {wi : Nat → Nat → Nat → Option Value} {x : Int32} (h : z_KK z_LJ th ax am G) (he : x_eff th E G G') (hok : (okA E && y_outs E z_fi) = true) (hJ : z_JW w wi G) (hX : ZX w (fun q => if 0 ≤ x.toInt ∧ x.toInt ≤ 1 ∧ q = x.toInt.toNat then w else wi q) G') (hf : ∀ q, q < 2 → x_sl G' 71 q = if 0 ≤ x.toInt ∧ x.toInt ≤ 1 ∧ q = x.toInt.toNat then some (.int 1) else x_sl G 71 q) : z_KK (z_LM x) th ax am G' := by
  obtain ⟨rfl, rfl, rfl, h, -⟩ := h
  obtain ⟨h1, h2⟩ := Bool.and_eq_true_iff.mp hok
  obtain ⟨m1, m2, m3, m4⟩ := z_JC he h2 hJ.2
  have e4 : ∀ q, q < 2 → x_sl G' 364 q = x_sl G 364 q := fun q hq => he.at z_mt.2.2.1 (y_outs_ok h2 (List.mem_of_getElem? (i := 2) rfl) (Nat.zero_le _) (by show q ≤ 1; omega))
  refine ⟨rfl, rfl, rfl, h.eff he h1, w, wi, hX, m1, m2, fun q hq => ?_, m3, m4⟩
  rw [hf q hq, hJ.2.2.2.1.1 q hq, e4 q hq]
set_option maxHeartbeats 2000000 in
set_option maxRecDepth 100000 in
theorem b_image (hd : 318 ≤ d) (tx : th[ax]? = some 9) (ta : th[am]? = some 10) (h : z_IN th ax am G sc sm) (x1 : Int32) : x_Gd xs L J d m_153 (fun r G' => (∃ y : Int32, r = some (.int y)) ∧ z_INp (z_KK (z_LM x1) th ax am G') th ax am G' sc sm) 0 (lv_args 0 [.ref ax, .int x1]) [] G := by
  refine (((h_173 th xs L J).gd (G := G) (d := d) m_153_ok (by omega) (v := (y_v [(ax : Int), x1.toInt])) (as := [.ref ax, .int x1]) (y_v_Bd (List.forall_mem_cons.mpr ⟨(y_cellB h.1 tx), (List.forall_mem_cons.mpr ⟨(x_i32 x1), (fun _ h => absurd h List.not_mem_nil)⟩)⟩)) (fun _ h => absurd h List.not_mem_nil) ⟨⟨ax, rfl, (by simp only [xl_ev, xt_ev, y_v, List.getD_cons_succ, List.getD_cons_zero]; omega), tx⟩, ⟨x1, rfl, (by simp only [xl_ev, xt_ev, y_v, List.getD_cons_succ, List.getD_cons_zero]; omega)⟩, trivial⟩ (fun q hq => absurd hq List.not_mem_nil) h.1 (fun z => by cases z)).and (bz_image hd h x1)).mono (fun r G' h' => ?_)
  obtain ⟨⟨v', -, -, hI', ef, p, hp, -, -, pa⟩, w, wi, hJ, hX, hf⟩ := h'
  obtain rfl : p = _ := List.mem_singleton.mp hp
  obtain ⟨y, rfl, -⟩ := y_pI pa
  exact ⟨⟨y, rfl⟩, z_INp.eff tx ta h hI' ef (by decide +kernel) (h.kk.img ef (by decide +kernel) hJ hX hf)⟩
theorem bz_restore (hd : 318 ≤ d) (h : z_IN th ax am G sc sm) (x1 : Int32) : x_Gd xs L J d m_154 (fun r G' => ∃ w wi, z_JW w wi G ∧ ((0 ≤ x1.toInt ∧ x1.toInt ≤ 1 ∧ z_fl G x1.toInt.toNat ∧ ZX (wi x1.toInt.toNat) wi G') ∨ (¬ (0 ≤ x1.toInt ∧ x1.toInt ≤ 1 ∧ z_fl G x1.toInt.toNat) ∧ ZX w wi G'))) 0 (lv_args 0 [.ref ax, .int x1]) [] G := by
  obtain ⟨rfl, rfl, rfl, -, w, wi, hJ⟩ := h.kk
  exact (zb_restore hd hJ.1 h.1 x1).mono (fun r G' z => ⟨w, wi, hJ, z⟩)
theorem z_KK.rst {w : Nat → Nat → Option Value} {wi : Nat → Nat → Nat → Option Value} {x : Int32} (h : z_KK z_LJ th ax am G) (he : x_eff th E G G') (hok : okS E = true) (hJ : z_JW w wi G) (hX : (0 ≤ x.toInt ∧ x.toInt ≤ 1 ∧ z_fl G x.toInt.toNat ∧ ZX (wi x.toInt.toNat) wi G') ∨ (¬ (0 ≤ x.toInt ∧ x.toInt ≤ 1 ∧ z_fl G x.toInt.toNat) ∧ ZX w wi G')) : z_KK (z_LR x) th ax am G' := by
  obtain ⟨rfl, rfl, rfl, h, -⟩ := h
  unfold okS at hok
  obtain ⟨h1, h2⟩ := Bool.and_eq_true_iff.mp hok
  have e4 : ∀ q, q < 2 → x_sl G' 364 q = x_sl G 364 q := fun q hq => he.at z_mt.2.2.1 (y_outs_ok h2 (List.mem_of_getElem? (i := 2) rfl) (Nat.zero_le _) (by show q ≤ 1; omega))
  have fl : 0 ≤ x.toInt → x.toInt ≤ 1 → (z_fl G x.toInt.toNat ↔ ∃ v : Int32, x_sl G' 364 x.toInt.toNat = some (.int v) ∧ v ≠ 0) := fun a b => by
    rw [e4 _ (by omega), ← hJ.2.2.2.1.1 _ (by omega)]
    constructor
    · rintro ⟨ab, e, v, e1, e2⟩
      rw [hJ.2.1.2.2.2] at e
      cases e
      exact ⟨v, e1, e2⟩
    · rintro ⟨v, e1, e2⟩
      exact ⟨71, hJ.2.1.2.2.2, v, e1, e2⟩
  rcases hX with ⟨a, b, c, hX⟩ | ⟨a, hX⟩
  · exact ⟨rfl, rfl, rfl, h.eff he h1, w, wi, _, hX, hJ.2.eff he h2, Or.inl ⟨⟨a, b, (fl a b).mp c⟩, rfl⟩⟩
  · exact ⟨rfl, rfl, rfl, h.eff he h1, w, wi, _, hX, hJ.2.eff he h2, Or.inr ⟨fun z => a ⟨z.1, z.2.1, (fl z.1 z.2.1).mpr z.2.2⟩, rfl⟩⟩
set_option maxHeartbeats 2000000 in
set_option maxRecDepth 100000 in
theorem b_restore (hd : 318 ≤ d) (tx : th[ax]? = some 9) (ta : th[am]? = some 10) (h : z_IN th ax am G sc sm) (x1 : Int32) : x_Gd xs L J d m_154 (fun r G' => (∃ y : Int32, r = some (.int y)) ∧ z_INp (z_KK (z_LR x1) th ax am G') th ax am G' sc sm) 0 (lv_args 0 [.ref ax, .int x1]) [] G := by
  refine (((h_174 th xs L J).gd (G := G) (d := d) m_154_ok (by omega) (v := (y_v [(ax : Int), x1.toInt])) (as := [.ref ax, .int x1]) (y_v_Bd (List.forall_mem_cons.mpr ⟨(y_cellB h.1 tx), (List.forall_mem_cons.mpr ⟨(x_i32 x1), (fun _ h => absurd h List.not_mem_nil)⟩)⟩)) (fun _ h => absurd h List.not_mem_nil) ⟨⟨ax, rfl, (by simp only [xl_ev, xt_ev, y_v, List.getD_cons_succ, List.getD_cons_zero]; omega), tx⟩, ⟨x1, rfl, (by simp only [xl_ev, xt_ev, y_v, List.getD_cons_succ, List.getD_cons_zero]; omega)⟩, trivial⟩ (fun q hq => absurd hq List.not_mem_nil) h.1 (fun z => by cases z)).and (bz_restore hd h x1)).mono (fun r G' h' => ?_)
  obtain ⟨⟨v', -, -, hI', ef, p, hp, -, -, pa⟩, w, wi, hJ, hX⟩ := h'
  obtain rfl : p = _ := List.mem_singleton.mp hp
  obtain ⟨y, rfl, -⟩ := y_pI pa
  exact ⟨⟨y, rfl⟩, z_INp.eff tx ta h hI' ef (by decide +kernel) (h.kk.rst ef (by decide +kernel) hJ hX)⟩
set_option maxHeartbeats 2000000 in
set_option maxRecDepth 100000 in
theorem b_count (hd : 318 ≤ d) (tx : th[ax]? = some 9) (ta : th[am]? = some 10) (h : z_IN th ax am G sc sm) (x1 : Int32) : x_Gd xs L J d m_72 (fun r G' => (∃ y : Int32, r = some (.int y)) ∧ z_IN th ax am G' sc sm) 0 (lv_args 0 [.ref ax, .int x1]) [] G := by
  refine ((h_141 th xs L J).gd (G := G) (d := d) m_72_ok (by omega) (v := (y_v [(ax : Int), x1.toInt])) (as := [.ref ax, .int x1]) (y_v_Bd (List.forall_mem_cons.mpr ⟨(y_cellB h.1 tx), (List.forall_mem_cons.mpr ⟨(x_i32 x1), (fun _ h => absurd h List.not_mem_nil)⟩)⟩)) (fun _ h => absurd h List.not_mem_nil) ⟨⟨ax, rfl, (by simp only [xl_ev, xt_ev, y_v, List.getD_cons_succ, List.getD_cons_zero]; omega), tx⟩, ⟨x1, rfl, (by simp only [xl_ev, xt_ev, y_v, List.getD_cons_succ, List.getD_cons_zero]; omega)⟩, trivial⟩ (fun q hq => absurd hq List.not_mem_nil) h.1 (fun z => by cases z)).mono (fun r G' h' => ?_)
  obtain ⟨v', -, -, hI', ef, p, hp, -, -, pa⟩ := h'
  obtain rfl : p = _ := List.mem_singleton.mp hp
  obtain ⟨y, rfl, -⟩ := y_pI pa
  exact ⟨⟨y, rfl⟩, h.eff tx ta hI' ef (by decide +kernel)⟩
set_option maxHeartbeats 2000000 in
set_option maxRecDepth 100000 in
theorem n_count (hd : 318 ≤ d) (tx : th[ax]? = some 9) (ta : th[am]? = some 10) (h : z_IN th ax am G sc sm) (x1 : Int32) : x_Gd xs L J d m_259 (fun r G' => (∃ y : Int32, r = some (.int y)) ∧ z_IN th ax am G' sc sm) 0 (lv_args 0 [.ref am, .int x1]) [] G := by
  refine ((h_291 th xs L J).gd (G := G) (d := d) m_259_ok (by omega) (v := (y_v [(am : Int), x1.toInt])) (as := [.ref am, .int x1]) (y_v_Bd (List.forall_mem_cons.mpr ⟨(y_cellB h.1 ta), (List.forall_mem_cons.mpr ⟨(x_i32 x1), (fun _ h => absurd h List.not_mem_nil)⟩)⟩)) (fun _ h => absurd h List.not_mem_nil) ⟨⟨am, rfl, (by simp only [xl_ev, xt_ev, y_v, List.getD_cons_succ, List.getD_cons_zero]; omega), ta⟩, ⟨x1, rfl, (by simp only [xl_ev, xt_ev, y_v, List.getD_cons_succ, List.getD_cons_zero]; omega)⟩, trivial⟩ (fun q hq => absurd hq List.not_mem_nil) h.1 (fun z => by cases z)).mono (fun r G' h' => ?_)
  obtain ⟨v', -, -, hI', ef, p, hp, -, -, pa⟩ := h'
  obtain rfl : p = _ := List.mem_singleton.mp hp
  obtain ⟨y, rfl, -⟩ := y_pI pa
  exact ⟨⟨y, rfl⟩, h.eff tx ta hI' ef (by decide +kernel)⟩
end ZI2
