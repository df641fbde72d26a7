def m_180 : pM := (⟨"BreathingHillModel", "sign", "(I)Z"⟩, 1550, 2, some (FieldType.boolean), 17, 1, false, 10, 103, 1549, 48)
set_option maxRecDepth 100000 in
theorem m_180_ok : pm_tab[180]? = some m_180 := rfl
theorem e_180 : ∀ q ∈ d_180, decode m_180.code q.1 = .ok (q.2.1, q.2.2) := y_dec d_180_ok m_180_ok
def E_lineC : List (Nat × Nat × Nat) := [(10, 4, 4), (10, 11, 18), (10, 20, 20), (37, 0, 80), (39, 16, 31)]
/-- what is read, ahead of the end of a LAND -/
def z_Pl (th : List Nat) (a nb hb : Nat) (G : List pE) : Prop := ∃ nm w h3 h4 h5, ∃ wt : Nat → Int32, z_H th G a nb hb nm w h3 h4 h5 ∧ z_D8 nm h3 h5 ∧ ∀ t : Nat, t < 8 → x_sl G hb (41 + t) = some (.int (wt t)) ∧ 0 ≤ 8 * (wt t).toInt - h3.toInt + t
theorem z_Pl.eff {th : List Nat} {a nb hb : Nat} {G G' : List pE} {E : List (Nat × Nat × Nat)} (h : z_Pl th a nb hb G) (hI : xI x_tb th G') (he : x_eff th E G G') (h1 : (y_out E 10 9 && y_out E 10 7 && y_out E 37 3 && y_out E 37 5) = true) (h2 : ∀ i, i < 8 → y_out E 39 (16 + i) = true) (h3 : ∀ i, i < 4 → y_out E 39 (28 + i) = true) (h4 : ∀ i, i < 8 → y_out E 37 (41 + i) = true) : z_Pl th a nb hb G' := by
  obtain ⟨nm, w, n3, n4, n5, wt, hH, hD, hw⟩ := h
  obtain ⟨nm', w', n4', k1, k2⟩ := hH.eff2 hI he h1
  refine ⟨nm', w', n3, n4', n5, wt, k1, fun i j hi hj => ?_, fun t ht => ⟨?_, (hw t ht).2⟩⟩
  · have r3 := hH.r3
    have r5 := hH.r5
    rw [k2 _ (by omega) (h2 i (by omega)), k2 _ (by omega) (h3 j (by omega))]
    exact hD i j hi hj
  · rw [he.at hH.2.2.2.2.2.2.2.1 (h4 t ht)]
    exact (hw t ht).1
theorem y_pf0 {th : List Nat} {v : Nat → Int} {G : List pE} {t i a : Nat} {cl l : xL} (h : x_fact th v G (t, cl, i, ((0 : Nat), l))) (he : xl_ev cl v = (a : Int)) : ∃ x : Int32, x_sl G a i = some (.int x) ∧ x.toInt = xl_ev l v := by
  obtain ⟨a', h1, h2, w, h3, x, hw, h4⟩ := h
  have h1 : (a' : Int) = xl_ev cl v := h1
  obtain rfl : a' = a := by omega
  have hw : w = .int x := hw
  subst hw
  exact ⟨x, h3, h4⟩
section ZLn
variable {th : List Nat} {xs : Nat → Int32} {L J d a nb hb : Nat} {G : List pE}
set_option maxHeartbeats 2000000 in
set_option maxRecDepth 100000 in
theorem g_lineC (hd : 305 ≤ d) {p : Int32} (hP : z_Pl th a nb hb G) (hp : x_sl G a 4 = some (.int p)) : x_Gd xs L J (d + 4) m_167 (fun r G' => x_eff th E_lineC G G' ∧ xI x_tb th G' ∧ (r = some (.int 0) ∨ (r = some (.int 1) ∧ z_Pl th a nb hb G' ∧ ∃ p' tk : Int32, x_sl G' a 4 = some (.int p') ∧ x_sl G' a 11 = some (.int tk) ∧ (tk.toInt = 3 → p.toInt + 1 ≤ p'.toInt)))) 0 (lv_args 0 [.ref a]) [] G := by
  obtain ⟨nm, w, h3, h4, h5, wt, hH, hD, hw⟩ := hP
  obtain ⟨hI, ta, n1, n2, n3, n4, n5, n6, n7, n8, n9⟩ := id hH
  have r3 := hH.r3
  have rp := y_fie (i := 4) (t := 10) hI ta rfl hp
  have w0 := (hw 0 (by decide)).2
  have b0 := y_fie (i := 41) (t := 37) hI n6 rfl (hw 0 (by decide)).1
  have w1 := (hw 1 (by decide)).2
  have b1 := y_fie (i := 42) (t := 37) hI n6 rfl (hw 1 (by decide)).1
  have w2 := (hw 2 (by decide)).2
  have b2 := y_fie (i := 43) (t := 37) hI n6 rfl (hw 2 (by decide)).1
  have w3 := (hw 3 (by decide)).2
  have b3 := y_fie (i := 44) (t := 37) hI n6 rfl (hw 3 (by decide)).1
  have w4 := (hw 4 (by decide)).2
  have b4 := y_fie (i := 45) (t := 37) hI n6 rfl (hw 4 (by decide)).1
  have w5 := (hw 5 (by decide)).2
  have b5 := y_fie (i := 46) (t := 37) hI n6 rfl (hw 5 (by decide)).1
  have w6 := (hw 6 (by decide)).2
  have b6 := y_fie (i := 47) (t := 37) hI n6 rfl (hw 6 (by decide)).1
  have w7 := (hw 7 (by decide)).2
  have b7 := y_fie (i := 48) (t := 37) hI n6 rfl (hw 7 (by decide)).1
  refine ((g_line (d := d) (xs := xs) (L := L) (J := J) hd hH hD).and ((h_296 th xs L J).gd (G := G) (d := d + 4) m_167_ok (by omega) (v := (y_v [(a : Int), p.toInt, (hb : Int), h3.toInt, (wt 0).toInt, (wt 1).toInt, (wt 2).toInt, (wt 3).toInt, (wt 4).toInt, (wt 5).toInt, (wt 6).toInt, (wt 7).toInt])) (as := [.ref a]) (y_v_Bd (List.forall_mem_cons.mpr ⟨(y_cellB hI ta), (List.forall_mem_cons.mpr ⟨(x_i32 p), (List.forall_mem_cons.mpr ⟨(y_cellB hI n6), (List.forall_mem_cons.mpr ⟨(x_i32 h3), (List.forall_mem_cons.mpr ⟨(x_i32 (wt 0)), (List.forall_mem_cons.mpr ⟨(x_i32 (wt 1)), (List.forall_mem_cons.mpr ⟨(x_i32 (wt 2)), (List.forall_mem_cons.mpr ⟨(x_i32 (wt 3)), (List.forall_mem_cons.mpr ⟨(x_i32 (wt 4)), (List.forall_mem_cons.mpr ⟨(x_i32 (wt 5)), (List.forall_mem_cons.mpr ⟨(x_i32 (wt 6)), (List.forall_mem_cons.mpr ⟨(x_i32 (wt 7)), (fun _ h => absurd h List.not_mem_nil)⟩)⟩)⟩)⟩)⟩)⟩)⟩)⟩)⟩)⟩)⟩)⟩)) (List.forall_mem_cons.mpr ⟨(by simp only [xl_ev, xt_ev, y_v, List.getD_cons_succ, List.getD_cons_zero]; omega), (List.forall_mem_cons.mpr ⟨(by simp only [xl_ev, xt_ev, y_v, List.getD_cons_succ, List.getD_cons_zero]; omega), (List.forall_mem_cons.mpr ⟨(by simp only [xl_ev, xt_ev, y_v, List.getD_cons_succ, List.getD_cons_zero]; omega), (List.forall_mem_cons.mpr ⟨(by simp only [xl_ev, xt_ev, y_v, List.getD_cons_succ, List.getD_cons_zero]; omega), (List.forall_mem_cons.mpr ⟨(by simp only [xl_ev, xt_ev, y_v, List.getD_cons_succ, List.getD_cons_zero]; omega), (List.forall_mem_cons.mpr ⟨(by simp only [xl_ev, xt_ev, y_v, List.getD_cons_succ, List.getD_cons_zero]; omega), (List.forall_mem_cons.mpr ⟨(by simp only [xl_ev, xt_ev, y_v, List.getD_cons_succ, List.getD_cons_zero]; omega), (List.forall_mem_cons.mpr ⟨(by simp only [xl_ev, xt_ev, y_v, List.getD_cons_succ, List.getD_cons_zero]; omega), (List.forall_mem_cons.mpr ⟨(by simp only [xl_ev, xt_ev, y_v, List.getD_cons_succ, List.getD_cons_zero]; omega), (List.forall_mem_cons.mpr ⟨(by simp only [xl_ev, xt_ev, y_v, List.getD_cons_succ, List.getD_cons_zero]; omega), (List.forall_mem_cons.mpr ⟨(by simp only [xl_ev, xt_ev, y_v, List.getD_cons_succ, List.getD_cons_zero]; omega), (List.forall_mem_cons.mpr ⟨(by simp only [xl_ev, xt_ev, y_v, List.getD_cons_succ, List.getD_cons_zero]; omega), (List.forall_mem_cons.mpr ⟨(by simp only [xl_ev, xt_ev, y_v, List.getD_cons_succ, List.getD_cons_zero]; omega), (List.forall_mem_cons.mpr ⟨(by simp only [xl_ev, xt_ev, y_v, List.getD_cons_succ, List.getD_cons_zero]; omega), (List.forall_mem_cons.mpr ⟨(by simp only [xl_ev, xt_ev, y_v, List.getD_cons_succ, List.getD_cons_zero]; omega), (List.forall_mem_cons.mpr ⟨(by simp only [xl_ev, xt_ev, y_v, List.getD_cons_succ, List.getD_cons_zero]; omega), (List.forall_mem_cons.mpr ⟨(by simp only [xl_ev, xt_ev, y_v, List.getD_cons_succ, List.getD_cons_zero]; omega), (List.forall_mem_cons.mpr ⟨(by simp only [xl_ev, xt_ev, y_v, List.getD_cons_succ, List.getD_cons_zero]; omega), (List.forall_mem_cons.mpr ⟨(by simp only [xl_ev, xt_ev, y_v, List.getD_cons_succ, List.getD_cons_zero]; omega), (List.forall_mem_cons.mpr ⟨(by simp only [xl_ev, xt_ev, y_v, List.getD_cons_succ, List.getD_cons_zero]; omega), (List.forall_mem_cons.mpr ⟨(by simp only [xl_ev, xt_ev, y_v, List.getD_cons_succ, List.getD_cons_zero]; omega), (List.forall_mem_cons.mpr ⟨(by simp only [xl_ev, xt_ev, y_v, List.getD_cons_succ, List.getD_cons_zero]; omega), (List.forall_mem_cons.mpr ⟨(by simp only [xl_ev, xt_ev, y_v, List.getD_cons_succ, List.getD_cons_zero]; omega), (List.forall_mem_cons.mpr ⟨(by simp only [xl_ev, xt_ev, y_v, List.getD_cons_succ, List.getD_cons_zero]; omega), (List.forall_mem_cons.mpr ⟨(by simp only [xl_ev, xt_ev, y_v, List.getD_cons_succ, List.getD_cons_zero]; omega), (List.forall_mem_cons.mpr ⟨(by simp only [xl_ev, xt_ev, y_v, List.getD_cons_succ, List.getD_cons_zero]; omega), (List.forall_mem_cons.mpr ⟨(by simp only [xl_ev, xt_ev, y_v, List.getD_cons_succ, List.getD_cons_zero]; omega), (List.forall_mem_cons.mpr ⟨(by simp only [xl_ev, xt_ev, y_v, List.getD_cons_succ, List.getD_cons_zero]; omega), (fun _ h => absurd h List.not_mem_nil)⟩)⟩)⟩)⟩)⟩)⟩)⟩)⟩)⟩)⟩)⟩)⟩)⟩)⟩)⟩)⟩)⟩)⟩)⟩)⟩)⟩)⟩)⟩)⟩)⟩)⟩)⟩)⟩) ⟨⟨a, rfl, (by simp only [xl_ev, xt_ev, y_v, List.getD_cons_succ, List.getD_cons_zero]; omega), ta⟩, trivial⟩ (List.forall_mem_cons.mpr ⟨⟨a, (by simp only [xl_ev, xt_ev, y_v, List.getD_cons_succ, List.getD_cons_zero]; omega), ta, _, hp, p, rfl, (by simp only [xl_ev, xt_ev, y_v, List.getD_cons_succ, List.getD_cons_zero]; omega)⟩, (List.forall_mem_cons.mpr ⟨⟨a, (by simp only [xl_ev, xt_ev, y_v, List.getD_cons_succ, List.getD_cons_zero]; omega), ta, _, n5, hb, rfl, (by simp only [xl_ev, xt_ev, y_v, List.getD_cons_succ, List.getD_cons_zero]; omega), n6⟩, (List.forall_mem_cons.mpr ⟨⟨hb, (by simp only [xl_ev, xt_ev, y_v, List.getD_cons_succ, List.getD_cons_zero]; omega), n6, _, n7, h3, rfl, (by simp only [xl_ev, xt_ev, y_v, List.getD_cons_succ, List.getD_cons_zero]; omega)⟩, (List.forall_mem_cons.mpr ⟨⟨hb, (by simp only [xl_ev, xt_ev, y_v, List.getD_cons_succ, List.getD_cons_zero]; omega), n6, _, (hw 0 (by decide)).1, (wt 0), rfl, (by simp only [xl_ev, xt_ev, y_v, List.getD_cons_succ, List.getD_cons_zero]; omega)⟩, (List.forall_mem_cons.mpr ⟨⟨hb, (by simp only [xl_ev, xt_ev, y_v, List.getD_cons_succ, List.getD_cons_zero]; omega), n6, _, (hw 1 (by decide)).1, (wt 1), rfl, (by simp only [xl_ev, xt_ev, y_v, List.getD_cons_succ, List.getD_cons_zero]; omega)⟩, (List.forall_mem_cons.mpr ⟨⟨hb, (by simp only [xl_ev, xt_ev, y_v, List.getD_cons_succ, List.getD_cons_zero]; omega), n6, _, (hw 2 (by decide)).1, (wt 2), rfl, (by simp only [xl_ev, xt_ev, y_v, List.getD_cons_succ, List.getD_cons_zero]; omega)⟩, (List.forall_mem_cons.mpr ⟨⟨hb, (by simp only [xl_ev, xt_ev, y_v, List.getD_cons_succ, List.getD_cons_zero]; omega), n6, _, (hw 3 (by decide)).1, (wt 3), rfl, (by simp only [xl_ev, xt_ev, y_v, List.getD_cons_succ, List.getD_cons_zero]; omega)⟩, (List.forall_mem_cons.mpr ⟨⟨hb, (by simp only [xl_ev, xt_ev, y_v, List.getD_cons_succ, List.getD_cons_zero]; omega), n6, _, (hw 4 (by decide)).1, (wt 4), rfl, (by simp only [xl_ev, xt_ev, y_v, List.getD_cons_succ, List.getD_cons_zero]; omega)⟩, (List.forall_mem_cons.mpr ⟨⟨hb, (by simp only [xl_ev, xt_ev, y_v, List.getD_cons_succ, List.getD_cons_zero]; omega), n6, _, (hw 5 (by decide)).1, (wt 5), rfl, (by simp only [xl_ev, xt_ev, y_v, List.getD_cons_succ, List.getD_cons_zero]; omega)⟩, (List.forall_mem_cons.mpr ⟨⟨hb, (by simp only [xl_ev, xt_ev, y_v, List.getD_cons_succ, List.getD_cons_zero]; omega), n6, _, (hw 6 (by decide)).1, (wt 6), rfl, (by simp only [xl_ev, xt_ev, y_v, List.getD_cons_succ, List.getD_cons_zero]; omega)⟩, (List.forall_mem_cons.mpr ⟨⟨hb, (by simp only [xl_ev, xt_ev, y_v, List.getD_cons_succ, List.getD_cons_zero]; omega), n6, _, (hw 7 (by decide)).1, (wt 7), rfl, (by simp only [xl_ev, xt_ev, y_v, List.getD_cons_succ, List.getD_cons_zero]; omega)⟩, (fun _ h => absurd h List.not_mem_nil)⟩)⟩)⟩)⟩)⟩)⟩)⟩)⟩)⟩)⟩)⟩) hI (fun z => by cases z))).mono (fun r G' h => ?_)
  obtain ⟨⟨⟨y, rfl, hy⟩, nm', w', h3', h4', h5', hH', hD'⟩, v', hag, -, hI', ef, q, hq, qc, qf, qa⟩ := h
  refine ⟨ef, hI', ?_⟩
  have z0 : v' 0 = (a : Int) := hag 0 (by decide)
  have z1 : v' 1 = p.toInt := hag 1 (by decide)
  have z2 : v' 2 = (hb : Int) := hag 2 (by decide)
  simp only [c_296, List.mem_cons, List.not_mem_nil, or_false] at hq
  rcases hq with rfl | rfl | rfl | rfl
  · obtain ⟨y1, hy1, hy2⟩ := y_p1 qa
    obtain rfl : y1 = 1 := y_i1 hy2
    cases hy1
    obtain ⟨tk, f11, e11⟩ := y_pf0 (a := a) (qf _ (List.mem_of_getElem? (i := 0) rfl)) (by simp only [xl_ev, xt_ev]; omega)
    obtain ⟨p2, f4, e4⟩ := y_pf0 (a := a) (qf _ (List.mem_of_getElem? (i := 1) rfl)) (by simp only [xl_ev, xt_ev]; omega)
    obtain ⟨x3, f3, e3⟩ := y_pf0 (a := hb) (qf _ (List.mem_of_getElem? (i := 2) rfl)) (by simp only [xl_ev, xt_ev]; omega)
    obtain rfl : x3 = h3' := by
      have := hH'.2.2.2.2.2.2.2.2.1
      rw [f3] at this
      exact Value.int.inj (Option.some.inj this)
    obtain ⟨y10, k0, l0⟩ := y_pf0 (a := hb) (qf _ (List.mem_of_getElem? (i := 3) rfl)) (by simp only [xl_ev, xt_ev]; omega)
    obtain ⟨y11, k1, l1⟩ := y_pf0 (a := hb) (qf _ (List.mem_of_getElem? (i := 4) rfl)) (by simp only [xl_ev, xt_ev]; omega)
    obtain ⟨y12, k2, l2⟩ := y_pf0 (a := hb) (qf _ (List.mem_of_getElem? (i := 5) rfl)) (by simp only [xl_ev, xt_ev]; omega)
    obtain ⟨y13, k3, l3⟩ := y_pf0 (a := hb) (qf _ (List.mem_of_getElem? (i := 6) rfl)) (by simp only [xl_ev, xt_ev]; omega)
    obtain ⟨y14, k4, l4⟩ := y_pf0 (a := hb) (qf _ (List.mem_of_getElem? (i := 7) rfl)) (by simp only [xl_ev, xt_ev]; omega)
    obtain ⟨y15, k5, l5⟩ := y_pf0 (a := hb) (qf _ (List.mem_of_getElem? (i := 8) rfl)) (by simp only [xl_ev, xt_ev]; omega)
    obtain ⟨y16, k6, l6⟩ := y_pf0 (a := hb) (qf _ (List.mem_of_getElem? (i := 9) rfl)) (by simp only [xl_ev, xt_ev]; omega)
    obtain ⟨y17, k7, l7⟩ := y_pf0 (a := hb) (qf _ (List.mem_of_getElem? (i := 10) rfl)) (by simp only [xl_ev, xt_ev]; omega)
    have j0 := qc _ (List.mem_of_getElem? (i := 7) rfl)
    have j1 := qc _ (List.mem_of_getElem? (i := 8) rfl)
    have j2 := qc _ (List.mem_of_getElem? (i := 9) rfl)
    have j3 := qc _ (List.mem_of_getElem? (i := 10) rfl)
    have j4 := qc _ (List.mem_of_getElem? (i := 11) rfl)
    have j5 := qc _ (List.mem_of_getElem? (i := 12) rfl)
    have j6 := qc _ (List.mem_of_getElem? (i := 13) rfl)
    have j7 := qc _ (List.mem_of_getElem? (i := 14) rfl)
    have jt1 := qc _ (List.mem_of_getElem? (i := 0) rfl)
    have jt2 := qc _ (List.mem_of_getElem? (i := 1) rfl)
    have jp := qc _ (List.mem_of_getElem? (i := 2) rfl)
    simp only [xl_ev, xt_ev] at e11 e4 e3 l0 l1 l2 l3 l4 l5 l6 l7 j0 j1 j2 j3 j4 j5 j6 j7 jt1 jt2 jp
    refine Or.inr ⟨rfl, ⟨nm', w', x3, h4', h5', fun t => [y10, y11, y12, y13, y14, y15, y16, y17].getD t 0, hH', hD', fun t ht => match t, ht with
      | 0, _ => ⟨k0, by show 0 ≤ 8 * y10.toInt - x3.toInt + (0 : Int); omega⟩
      | 1, _ => ⟨k1, by show 0 ≤ 8 * y11.toInt - x3.toInt + (1 : Int); omega⟩
      | 2, _ => ⟨k2, by show 0 ≤ 8 * y12.toInt - x3.toInt + (2 : Int); omega⟩
      | 3, _ => ⟨k3, by show 0 ≤ 8 * y13.toInt - x3.toInt + (3 : Int); omega⟩
      | 4, _ => ⟨k4, by show 0 ≤ 8 * y14.toInt - x3.toInt + (4 : Int); omega⟩
      | 5, _ => ⟨k5, by show 0 ≤ 8 * y15.toInt - x3.toInt + (5 : Int); omega⟩
      | 6, _ => ⟨k6, by show 0 ≤ 8 * y16.toInt - x3.toInt + (6 : Int); omega⟩
      | 7, _ => ⟨k7, by show 0 ≤ 8 * y17.toInt - x3.toInt + (7 : Int); omega⟩
      | t + 8, h => absurd h (by omega)⟩, p2, tk, f4, f11, fun z => by omega⟩
  · obtain ⟨y1, hy1, hy2⟩ := y_p1 qa
    obtain rfl : y1 = 1 := y_i1 hy2
    cases hy1
    obtain ⟨tk, f11, e11⟩ := y_pf0 (a := a) (qf _ (List.mem_of_getElem? (i := 0) rfl)) (by simp only [xl_ev, xt_ev]; omega)
    obtain ⟨p2, f4, e4⟩ := y_pf0 (a := a) (qf _ (List.mem_of_getElem? (i := 1) rfl)) (by simp only [xl_ev, xt_ev]; omega)
    obtain ⟨x3, f3, e3⟩ := y_pf0 (a := hb) (qf _ (List.mem_of_getElem? (i := 2) rfl)) (by simp only [xl_ev, xt_ev]; omega)
    obtain rfl : x3 = h3' := by
      have := hH'.2.2.2.2.2.2.2.2.1
      rw [f3] at this
      exact Value.int.inj (Option.some.inj this)
    obtain ⟨y10, k0, l0⟩ := y_pf0 (a := hb) (qf _ (List.mem_of_getElem? (i := 3) rfl)) (by simp only [xl_ev, xt_ev]; omega)
    obtain ⟨y11, k1, l1⟩ := y_pf0 (a := hb) (qf _ (List.mem_of_getElem? (i := 4) rfl)) (by simp only [xl_ev, xt_ev]; omega)
    obtain ⟨y12, k2, l2⟩ := y_pf0 (a := hb) (qf _ (List.mem_of_getElem? (i := 5) rfl)) (by simp only [xl_ev, xt_ev]; omega)
    obtain ⟨y13, k3, l3⟩ := y_pf0 (a := hb) (qf _ (List.mem_of_getElem? (i := 6) rfl)) (by simp only [xl_ev, xt_ev]; omega)
    obtain ⟨y14, k4, l4⟩ := y_pf0 (a := hb) (qf _ (List.mem_of_getElem? (i := 7) rfl)) (by simp only [xl_ev, xt_ev]; omega)
    obtain ⟨y15, k5, l5⟩ := y_pf0 (a := hb) (qf _ (List.mem_of_getElem? (i := 8) rfl)) (by simp only [xl_ev, xt_ev]; omega)
    obtain ⟨y16, k6, l6⟩ := y_pf0 (a := hb) (qf _ (List.mem_of_getElem? (i := 9) rfl)) (by simp only [xl_ev, xt_ev]; omega)
    obtain ⟨y17, k7, l7⟩ := y_pf0 (a := hb) (qf _ (List.mem_of_getElem? (i := 10) rfl)) (by simp only [xl_ev, xt_ev]; omega)
    have j0 := qc _ (List.mem_of_getElem? (i := 7) rfl)
    have j1 := qc _ (List.mem_of_getElem? (i := 8) rfl)
    have j2 := qc _ (List.mem_of_getElem? (i := 9) rfl)
    have j3 := qc _ (List.mem_of_getElem? (i := 10) rfl)
    have j4 := qc _ (List.mem_of_getElem? (i := 11) rfl)
    have j5 := qc _ (List.mem_of_getElem? (i := 12) rfl)
    have j6 := qc _ (List.mem_of_getElem? (i := 13) rfl)
    have j7 := qc _ (List.mem_of_getElem? (i := 14) rfl)
    have jt1 := qc _ (List.mem_of_getElem? (i := 0) rfl)
    have jt2 := qc _ (List.mem_of_getElem? (i := 1) rfl)
    have jp := qc _ (List.mem_of_getElem? (i := 2) rfl)
    simp only [xl_ev, xt_ev] at e11 e4 e3 l0 l1 l2 l3 l4 l5 l6 l7 j0 j1 j2 j3 j4 j5 j6 j7 jt1 jt2 jp
    refine Or.inr ⟨rfl, ⟨nm', w', x3, h4', h5', fun t => [y10, y11, y12, y13, y14, y15, y16, y17].getD t 0, hH', hD', fun t ht => match t, ht with
      | 0, _ => ⟨k0, by show 0 ≤ 8 * y10.toInt - x3.toInt + (0 : Int); omega⟩
      | 1, _ => ⟨k1, by show 0 ≤ 8 * y11.toInt - x3.toInt + (1 : Int); omega⟩
      | 2, _ => ⟨k2, by show 0 ≤ 8 * y12.toInt - x3.toInt + (2 : Int); omega⟩
      | 3, _ => ⟨k3, by show 0 ≤ 8 * y13.toInt - x3.toInt + (3 : Int); omega⟩
      | 4, _ => ⟨k4, by show 0 ≤ 8 * y14.toInt - x3.toInt + (4 : Int); omega⟩
      | 5, _ => ⟨k5, by show 0 ≤ 8 * y15.toInt - x3.toInt + (5 : Int); omega⟩
      | 6, _ => ⟨k6, by show 0 ≤ 8 * y16.toInt - x3.toInt + (6 : Int); omega⟩
      | 7, _ => ⟨k7, by show 0 ≤ 8 * y17.toInt - x3.toInt + (7 : Int); omega⟩
      | t + 8, h => absurd h (by omega)⟩, p2, tk, f4, f11, fun z => by omega⟩
  · obtain ⟨y1, hy1, hy2⟩ := y_p1 qa
    obtain rfl : y1 = 1 := y_i1 hy2
    cases hy1
    obtain ⟨tk, f11, e11⟩ := y_pf0 (a := a) (qf _ (List.mem_of_getElem? (i := 0) rfl)) (by simp only [xl_ev, xt_ev]; omega)
    obtain ⟨p2, f4, e4⟩ := y_pf0 (a := a) (qf _ (List.mem_of_getElem? (i := 1) rfl)) (by simp only [xl_ev, xt_ev]; omega)
    obtain ⟨x3, f3, e3⟩ := y_pf0 (a := hb) (qf _ (List.mem_of_getElem? (i := 2) rfl)) (by simp only [xl_ev, xt_ev]; omega)
    obtain rfl : x3 = h3' := by
      have := hH'.2.2.2.2.2.2.2.2.1
      rw [f3] at this
      exact Value.int.inj (Option.some.inj this)
    obtain ⟨y10, k0, l0⟩ := y_pf0 (a := hb) (qf _ (List.mem_of_getElem? (i := 3) rfl)) (by simp only [xl_ev, xt_ev]; omega)
    obtain ⟨y11, k1, l1⟩ := y_pf0 (a := hb) (qf _ (List.mem_of_getElem? (i := 4) rfl)) (by simp only [xl_ev, xt_ev]; omega)
    obtain ⟨y12, k2, l2⟩ := y_pf0 (a := hb) (qf _ (List.mem_of_getElem? (i := 5) rfl)) (by simp only [xl_ev, xt_ev]; omega)
    obtain ⟨y13, k3, l3⟩ := y_pf0 (a := hb) (qf _ (List.mem_of_getElem? (i := 6) rfl)) (by simp only [xl_ev, xt_ev]; omega)
    obtain ⟨y14, k4, l4⟩ := y_pf0 (a := hb) (qf _ (List.mem_of_getElem? (i := 7) rfl)) (by simp only [xl_ev, xt_ev]; omega)
    obtain ⟨y15, k5, l5⟩ := y_pf0 (a := hb) (qf _ (List.mem_of_getElem? (i := 8) rfl)) (by simp only [xl_ev, xt_ev]; omega)
    obtain ⟨y16, k6, l6⟩ := y_pf0 (a := hb) (qf _ (List.mem_of_getElem? (i := 9) rfl)) (by simp only [xl_ev, xt_ev]; omega)
    obtain ⟨y17, k7, l7⟩ := y_pf0 (a := hb) (qf _ (List.mem_of_getElem? (i := 10) rfl)) (by simp only [xl_ev, xt_ev]; omega)
    have j0 := qc _ (List.mem_of_getElem? (i := 7) rfl)
    have j1 := qc _ (List.mem_of_getElem? (i := 8) rfl)
    have j2 := qc _ (List.mem_of_getElem? (i := 9) rfl)
    have j3 := qc _ (List.mem_of_getElem? (i := 10) rfl)
    have j4 := qc _ (List.mem_of_getElem? (i := 11) rfl)
    have j5 := qc _ (List.mem_of_getElem? (i := 12) rfl)
    have j6 := qc _ (List.mem_of_getElem? (i := 13) rfl)
    have j7 := qc _ (List.mem_of_getElem? (i := 14) rfl)
    have jt1 := qc _ (List.mem_of_getElem? (i := 0) rfl)
    have jt2 := qc _ (List.mem_of_getElem? (i := 1) rfl)
    have jp := qc _ (List.mem_of_getElem? (i := 2) rfl)
    simp only [xl_ev, xt_ev] at e11 e4 e3 l0 l1 l2 l3 l4 l5 l6 l7 j0 j1 j2 j3 j4 j5 j6 j7 jt1 jt2 jp
    refine Or.inr ⟨rfl, ⟨nm', w', x3, h4', h5', fun t => [y10, y11, y12, y13, y14, y15, y16, y17].getD t 0, hH', hD', fun t ht => match t, ht with
      | 0, _ => ⟨k0, by show 0 ≤ 8 * y10.toInt - x3.toInt + (0 : Int); omega⟩
      | 1, _ => ⟨k1, by show 0 ≤ 8 * y11.toInt - x3.toInt + (1 : Int); omega⟩
      | 2, _ => ⟨k2, by show 0 ≤ 8 * y12.toInt - x3.toInt + (2 : Int); omega⟩
      | 3, _ => ⟨k3, by show 0 ≤ 8 * y13.toInt - x3.toInt + (3 : Int); omega⟩
      | 4, _ => ⟨k4, by show 0 ≤ 8 * y14.toInt - x3.toInt + (4 : Int); omega⟩
      | 5, _ => ⟨k5, by show 0 ≤ 8 * y15.toInt - x3.toInt + (5 : Int); omega⟩
      | 6, _ => ⟨k6, by show 0 ≤ 8 * y16.toInt - x3.toInt + (6 : Int); omega⟩
      | 7, _ => ⟨k7, by show 0 ≤ 8 * y17.toInt - x3.toInt + (7 : Int); omega⟩
      | t + 8, h => absurd h (by omega)⟩, p2, tk, f4, f11, fun z => by omega⟩
  · obtain ⟨y1, hy1, hy2⟩ := y_p1 qa
    obtain rfl : y1 = 0 := y_i0 hy2
    cases hy1
    exact Or.inl rfl
def E_sign : List (Nat × Nat × Nat) := [(10, 4, 4), (10, 11, 17)]
set_option maxHeartbeats 2000000 in
set_option maxRecDepth 100000 in
theorem g_sign (hd : 193 ≤ d) {p tk x : Int32} (hI : xI x_tb th G) (ta : th[a]? = some 10) (ht : x_sl G a 11 = some (.int tk)) (hp : x_sl G a 4 = some (.int p)) : x_Gd xs L J d m_180 (fun r G' => x_eff th E_sign G G' ∧ xI x_tb th G' ∧ (r = some (.int 0) ∨ (r = some (.int 1) ∧ tk.toInt = 3 ∧ ∃ p' : Int32, x_sl G' a 4 = some (.int p') ∧ p.toInt ≤ p'.toInt))) 0 (lv_args 0 [.ref a, .int x]) [] G := by
  have rp := y_fie (i := 4) (t := 10) hI ta rfl hp
  have rt := y_fie (i := 11) (t := 10) hI ta rfl ht
  refine ((h_192 th xs L J).gd (G := G) (d := d) m_180_ok hd (v := (y_v [(a : Int), x.toInt, tk.toInt, p.toInt])) (as := [.ref a, .int x]) (y_v_Bd (List.forall_mem_cons.mpr ⟨(y_cellB hI ta), (List.forall_mem_cons.mpr ⟨(x_i32 x), (List.forall_mem_cons.mpr ⟨(x_i32 tk), (List.forall_mem_cons.mpr ⟨(x_i32 p), (fun _ h => absurd h List.not_mem_nil)⟩)⟩)⟩)⟩)) (List.forall_mem_cons.mpr ⟨(by simp only [xl_ev, xt_ev, y_v, List.getD_cons_succ, List.getD_cons_zero]; omega), (List.forall_mem_cons.mpr ⟨(by simp only [xl_ev, xt_ev, y_v, List.getD_cons_succ, List.getD_cons_zero]; omega), (List.forall_mem_cons.mpr ⟨(by simp only [xl_ev, xt_ev, y_v, List.getD_cons_succ, List.getD_cons_zero]; omega), (List.forall_mem_cons.mpr ⟨(by simp only [xl_ev, xt_ev, y_v, List.getD_cons_succ, List.getD_cons_zero]; omega), (fun _ h => absurd h List.not_mem_nil)⟩)⟩)⟩)⟩) ⟨⟨a, rfl, (by simp only [xl_ev, xt_ev, y_v, List.getD_cons_succ, List.getD_cons_zero]; omega), ta⟩, ⟨x, rfl, (by simp only [xl_ev, xt_ev, y_v, List.getD_cons_succ, List.getD_cons_zero]; omega)⟩, trivial⟩ (List.forall_mem_cons.mpr ⟨⟨a, (by simp only [xl_ev, xt_ev, y_v, List.getD_cons_succ, List.getD_cons_zero]; omega), ta, _, ht, tk, rfl, (by simp only [xl_ev, xt_ev, y_v, List.getD_cons_succ, List.getD_cons_zero]; omega)⟩, (List.forall_mem_cons.mpr ⟨⟨a, (by simp only [xl_ev, xt_ev, y_v, List.getD_cons_succ, List.getD_cons_zero]; omega), ta, _, hp, p, rfl, (by simp only [xl_ev, xt_ev, y_v, List.getD_cons_succ, List.getD_cons_zero]; omega)⟩, (fun _ h => absurd h List.not_mem_nil)⟩)⟩) hI (fun z => by cases z)).mono (fun r G' h => ?_)
  obtain ⟨v', hag, -, hI', ef, q, hq, qc, qf, qa⟩ := h
  refine ⟨ef, hI', ?_⟩
  have z0 : v' 0 = (a : Int) := hag 0 (by decide)
  have z2 : v' 2 = tk.toInt := hag 2 (by decide)
  have z3 : v' 3 = p.toInt := hag 3 (by decide)
  simp only [c_192, List.mem_cons, List.not_mem_nil, or_false] at hq
  rcases hq with rfl | rfl | rfl | rfl
  · obtain ⟨y1, rfl, hy2⟩ := y_p1 qa
    obtain rfl : y1 = 1 := y_i1 hy2
    obtain ⟨p2, f4, e4⟩ := y_pf0 (a := a) (qf _ (List.mem_of_getElem? (i := 1) rfl)) (by simp only [xl_ev, xt_ev]; omega)
    have j0 := qc _ (List.mem_of_getElem? (i := 0) rfl)
    have j1 := qc _ (List.mem_of_getElem? (i := 1) rfl)
    have j4 := qc _ (List.mem_of_getElem? (i := 4) rfl)
    simp only [xl_ev, xt_ev] at e4 j0 j1 j4
    exact Or.inr ⟨rfl, by omega, p2, f4, by omega⟩
  · obtain ⟨y1, rfl, hy2⟩ := y_p1 qa
    obtain rfl : y1 = 1 := y_i1 hy2
    obtain ⟨p2, f4, e4⟩ := y_pf0 (a := a) (qf _ (List.mem_of_getElem? (i := 1) rfl)) (by simp only [xl_ev, xt_ev]; omega)
    have j0 := qc _ (List.mem_of_getElem? (i := 0) rfl)
    have j1 := qc _ (List.mem_of_getElem? (i := 1) rfl)
    have j4 := qc _ (List.mem_of_getElem? (i := 4) rfl)
    simp only [xl_ev, xt_ev] at e4 j0 j1 j4
    exact Or.inr ⟨rfl, by omega, p2, f4, by omega⟩
  · obtain ⟨y1, rfl, hy2⟩ := y_p1 qa
    obtain rfl : y1 = 1 := y_i1 hy2
    obtain ⟨p2, f4, e4⟩ := y_pf0 (a := a) (qf _ (List.mem_of_getElem? (i := 1) rfl)) (by simp only [xl_ev, xt_ev]; omega)
    have j0 := qc _ (List.mem_of_getElem? (i := 0) rfl)
    have j1 := qc _ (List.mem_of_getElem? (i := 1) rfl)
    have j4 := qc _ (List.mem_of_getElem? (i := 4) rfl)
    simp only [xl_ev, xt_ev] at e4 j0 j1 j4
    exact Or.inr ⟨rfl, by omega, p2, f4, by omega⟩
  · obtain ⟨y1, rfl, hy2⟩ := y_p1 qa
    obtain rfl : y1 = 0 := y_i0 hy2
    exact Or.inl rfl
end ZLn
