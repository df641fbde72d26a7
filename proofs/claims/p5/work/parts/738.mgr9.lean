def m_162 : pM := (⟨"BreathingHillModel", "taken", "(I)V"⟩, 1482, 2, none, 17, 1, false, 10, 103, 1481, 34)
set_option maxRecDepth 100000 in
theorem m_162_ok : pm_tab[162]? = some m_162 := rfl
theorem e_162 : ∀ q ∈ d_162, decode m_162.code q.1 = .ok (q.2.1, q.2.2) := y_dec d_162_ok m_162_ok
theorem u_17_7 : pm_ftab.find? (fun r => r.1 == 17 && r.2.1 == 7) = some (17, 7, 10, 2, 0, 1340) := by decide +kernel
theorem u_17_1 : pm_ftab.find? (fun r => r.1 == 17 && r.2.1 == 1) = some (17, 1, 10, 0, 0, 1338) := by decide +kernel
theorem t_17_217 : pm_ctab.find? (fun r => r.1 == 17 && r.2.1 == 217) = some (17, 217, 1, 162, 1479) := by decide +kernel
section MG9
variable {th : List Nat} {xs : Nat → Int32} {L J d am mb hb nb rb : Nat} {K : Option Value → List pE → Prop} {f : Nat → Int32} {G : List pE} {n lim : Int32} {lv : pL} {hf : Nat → Int32} {nf : Nat → Int64} {on : Int32} {p0 tok0 at0 sp0 num0 : Int32} {wd0 : Int64} {p1 tok1 at1 sp1 num1 : Int32} {wd1 : Int64} {p2 tok2 at2 sp2 num2 : Int32} {wd2 : Int64} {p3 tok3 at3 sp3 num3 : Int32} {wd3 : Int64} {p4 tok4 at4 sp4 num4 : Int32} {wd4 : Int64} {p5 tok5 at5 sp5 num5 : Int32} {wd5 : Int64} {p6 tok6 at6 sp6 num6 : Int32} {wd6 : Int64} {p7 tok7 at7 sp7 num7 : Int32} {wd7 : Int64} {n' lim' p' : Int32} {G1 : List pE}
theorem MSo.T (h : MSo th am mb hb nb rb f n lim p0 tok0 at0 sp0 num0 wd0 hf nf on G) : TM th am mb f G n lim p0 tok0 at0 sp0 num0 wd0 G := h.1
theorem MSo.ne (h : MSo th am mb hb nb rb f n lim p0 tok0 at0 sp0 num0 wd0 hf nf on G) : hb ≠ am ∧ nb ≠ am ∧ rb ≠ am ∧ hb ≠ mb ∧ nb ≠ mb ∧ hb ≠ nb ∧ hb ≠ rb ∧ nb ≠ rb ∧ am ≠ mb := by
  obtain ⟨T, b1, b2, b3, -⟩ := h
  have ta := T.t
  have tb := T.tb
  exact ⟨(fun z => by rw [z, ta] at b1; cases b1), (fun z => by rw [z, ta] at b2; cases b2), (fun z => by rw [z, ta] at b3; cases b3), (fun z => by rw [z, tb] at b1; cases b1), (fun z => by rw [z, tb] at b2; cases b2), (fun z => by rw [z, b2] at b1; cases b1), (fun z => by rw [z, b3] at b1; cases b1), (fun z => by rw [z, b3] at b2; cases b2), (fun z => by rw [z, tb] at ta; cases ta)⟩
theorem MSo.u {i : Nat} {v : Value} (h : MSo th am mb hb nb rb f n lim p0 tok0 at0 sp0 num0 wd0 hf nf on G) (u : x_upd G G1 am i v) (hi : i ≠ 1 ∧ i ≠ 7 ∧ i ≠ 9 ∧ i ≠ 10 ∧ i ≠ 11 ∧ i ≠ 12 ∧ i ≠ 13 ∧ i ≠ 14 ∧ i ≠ 17 ∧ i ≠ 20) (hI : xI x_tb th G1) (e3 : x_sl G1 am 3 = some (.int n')) (e4 : x_sl G1 am 4 = some (.int p')) (e5 : x_sl G1 am 5 = some (.int lim')) : MSo th am mb hb nb rb f n' lim' p' tok0 at0 sp0 num0 wd0 hf nf on G1 := by
  obtain ⟨n1, n2, n3, -, -, -, -, -, n9⟩ := h.ne
  obtain ⟨T, b1, b2, b3, c1, c2, c3, c4, d1, d2, d3⟩ := h
  exact ⟨⟨hI, T.t, T.tb, fun j hj => by rw [u.2.1, if_neg (fun z => n9 z.1.symm)]; exact T.by j hj, fun _ _ _ => rfl, by rw [u.2.1, if_neg (fun z => by omega)]; exact T.s1, e3, e4, e5, by rw [u.2.1, if_neg (fun z => by omega)]; exact T.s11, by rw [u.2.1, if_neg (fun z => by omega)]; exact T.s12, by rw [u.2.1, if_neg (fun z => by omega)]; exact T.s13, by rw [u.2.1, if_neg (fun z => by omega)]; exact T.s14, by rw [u.2.1, if_neg (fun z => by omega)]; exact T.s17⟩, b1, b2, b3, by rw [u.2.1, if_neg (fun z => by omega)]; exact c1, by rw [u.2.1, if_neg (fun z => by omega)]; exact c2, by rw [u.2.1, if_neg (fun z => by omega)]; exact c3, by rw [u.2.1, if_neg (fun z => by omega)]; exact c4, fun j hj => by rw [u.2.1, if_neg (fun z => n1 z.1)]; exact d1 j hj, fun j hj => by rw [u.2.1, if_neg (fun z => n2 z.1)]; exact d2 j hj, fun j hj => by rw [u.2.1, if_neg (fun z => n3 z.1)]; exact d3 j hj⟩
/-- the kind of FAULT is set back -/
theorem MSo.f15 (h : MSo th am mb hb nb rb f n lim p0 tok0 at0 sp0 num0 wd0 hf nf on G) (u : x_upd G G1 am 15 (.int (Int32.ofInt 0))) (hI : xI x_tb th G1) : MS th am mb hb nb rb f n lim p0 tok0 at0 sp0 num0 wd0 hf nf on G1 := by
  obtain ⟨T, b1, b2, b3, c1, c2, c3, c4, d1, d2, d3⟩ := h.u u (by decide) hI (by rw [u.2.1, if_neg (fun z => absurd z.2 (by decide))]; exact h.T.s3) (by rw [u.2.1, if_neg (fun z => absurd z.2 (by decide))]; exact h.T.s4) (by rw [u.2.1, if_neg (fun z => absurd z.2 (by decide))]; exact h.T.s5)
  exact ⟨T, b1, b2, b3, c1, c2, c3, c4, d1, d2, d3, by rw [u.2.1, if_pos ⟨rfl, rfl⟩]⟩
theorem MS.u {i : Nat} {v : Value} (h : MS th am mb hb nb rb f n lim p0 tok0 at0 sp0 num0 wd0 hf nf on G) (u : x_upd G G1 am i v) (hi : i ≠ 1 ∧ i ≠ 15 ∧ i ≠ 7 ∧ i ≠ 9 ∧ i ≠ 10 ∧ i ≠ 11 ∧ i ≠ 12 ∧ i ≠ 13 ∧ i ≠ 14 ∧ i ≠ 17 ∧ i ≠ 20) (hI : xI x_tb th G1) (e3 : x_sl G1 am 3 = some (.int n')) (e4 : x_sl G1 am 4 = some (.int p')) (e5 : x_sl G1 am 5 = some (.int lim')) : MS th am mb hb nb rb f n' lim' p' tok0 at0 sp0 num0 wd0 hf nf on G1 := by
  obtain ⟨n1, n2, n3, -, -, -, -, -, n9⟩ := h.ne
  obtain ⟨T, b1, b2, b3, c1, c2, c3, c4, d1, d2, d3⟩ := h
  exact ⟨⟨hI, T.t, T.tb, fun j hj => by rw [u.2.1, if_neg (fun z => n9 z.1.symm)]; exact T.by j hj, fun _ _ _ => rfl, by rw [u.2.1, if_neg (fun z => by omega)]; exact T.s1, e3, e4, e5, by rw [u.2.1, if_neg (fun z => by omega)]; exact T.s11, by rw [u.2.1, if_neg (fun z => by omega)]; exact T.s12, by rw [u.2.1, if_neg (fun z => by omega)]; exact T.s13, by rw [u.2.1, if_neg (fun z => by omega)]; exact T.s14, by rw [u.2.1, if_neg (fun z => by omega)]; exact T.s17⟩, b1, b2, b3, by rw [u.2.1, if_neg (fun z => by omega)]; exact c1, by rw [u.2.1, if_neg (fun z => by omega)]; exact c2, by rw [u.2.1, if_neg (fun z => by omega)]; exact c3, by rw [u.2.1, if_neg (fun z => by omega)]; exact c4, fun j hj => by rw [u.2.1, if_neg (fun z => n1 z.1)]; exact d1 j hj, fun j hj => by rw [u.2.1, if_neg (fun z => n2 z.1)]; exact d2 j hj, fun j hj => by rw [u.2.1, if_neg (fun z => n3 z.1)]; exact d3.1 j hj, by rw [u.2.1, if_neg (fun z => by omega)]; exact d3.2⟩
set_option maxHeartbeats 2000000 in
set_option maxRecDepth 100000 in
theorem k_taken {sz v : Int32} (h : MSo th am mb hb nb rb f n lim p0 tok0 at0 sp0 num0 wd0 hf nf on G) (hs : x_sl G am 2 = some (.int sz)) (hr : 0 ≤ sz.toInt ∧ sz.toInt ≤ 940) : x_Gd xs L J d m_162 (fun r G' => r = none ∧ MSo th am mb hb nb rb f sz v (Int32.ofInt 0) tok0 at0 sp0 num0 wd0 hf nf on G' ∧ SF th G G') 0 (lv_args 0 [.ref am, .int v]) [] G := by
  have g0 : pm_get (lv_args 0 [.ref am, .int v]) 0 = some (.ref am) := rfl
  have g1 : pm_get (lv_args 0 [.ref am, .int v]) 1 = some (.int v) := rfl
  generalize lv_args 0 [.ref am, .int v] = lv at g0 g1 ⊢
  refine y_aln (e_162 (0, .aload_n 0, 1) (List.mem_of_getElem? (i := 0) rfl)) g0 ?_
  refine y_aln (e_162 (1, .aload_n 0, 1) (List.mem_of_getElem? (i := 1) rfl)) g0 ?_
  refine y_getf h.T.I h.T.t (e_162 (2, .getfield 7, 3) (List.mem_of_getElem? (i := 2) rfl)) u_17_7 ⟨rfl, rfl⟩ hs ?_
  refine y_putf (f := (0, 0, 940)) h.T.I h.T.t (e_162 (5, .putfield 18, 3) (List.mem_of_getElem? (i := 3) rfl)) u_17_18 ⟨rfl, rfl, by decide, rfl, rfl⟩ ⟨_, rfl, hr.1, hr.2⟩ (fun G1 u1 => ?_)
  have w1 := h.u u1 (by decide) (h.T.I.upd u1 h.T.t (y_okI rfl hr.1 hr.2)) (by rw [u1.2.1, if_pos ⟨rfl, rfl⟩]) (by rw [u1.2.1, if_neg (fun z => absurd z.2 (by decide))]; exact h.T.s4) (by rw [u1.2.1, if_neg (fun z => absurd z.2 (by decide))]; exact h.T.s5)
  refine y_aln (e_162 (8, .aload_n 0, 1) (List.mem_of_getElem? (i := 4) rfl)) g0 ?_
  refine y_st (e_162 (9, .iconst 0, 1) (List.mem_of_getElem? (i := 5) rfl)) ⟨rfl, rfl, rfl, rfl⟩ ?_
  refine y_putf (f := (0, 0, 940)) w1.T.I w1.T.t (e_162 (10, .putfield 7, 3) (List.mem_of_getElem? (i := 6) rfl)) u_17_7 ⟨rfl, rfl, by decide, rfl, rfl⟩ ⟨_, rfl, by decide, by decide⟩ (fun G2 u2 => ?_)
  have w2 := w1.u u2 (by decide) (w1.T.I.upd u2 w1.T.t (y_okI rfl (by decide) (by decide))) (by rw [u2.2.1, if_neg (fun z => absurd z.2 (by decide))]; exact w1.T.s3) (by rw [u2.2.1, if_neg (fun z => absurd z.2 (by decide))]; exact w1.T.s4) (by rw [u2.2.1, if_neg (fun z => absurd z.2 (by decide))]; exact w1.T.s5)
  refine y_aln (e_162 (13, .aload_n 0, 1) (List.mem_of_getElem? (i := 7) rfl)) g0 ?_
  refine y_st (e_162 (14, .iconst 0, 1) (List.mem_of_getElem? (i := 8) rfl)) ⟨rfl, rfl, rfl, rfl⟩ ?_
  refine y_putf (f := (0, 0, 940)) w2.T.I w2.T.t (e_162 (15, .putfield 21, 3) (List.mem_of_getElem? (i := 9) rfl)) u_17_21 ⟨rfl, rfl, by decide, rfl, rfl⟩ ⟨_, rfl, by decide, by decide⟩ (fun G3 u3 => ?_)
  have w3 := w2.u u3 (by decide) (w2.T.I.upd u3 w2.T.t (y_okI rfl (by decide) (by decide))) (by rw [u3.2.1, if_neg (fun z => absurd z.2 (by decide))]; exact w2.T.s3) (by rw [u3.2.1, if_pos ⟨rfl, rfl⟩]) (by rw [u3.2.1, if_neg (fun z => absurd z.2 (by decide))]; exact w2.T.s5)
  refine y_aln (e_162 (18, .aload_n 0, 1) (List.mem_of_getElem? (i := 10) rfl)) g0 ?_
  refine y_iln (e_162 (19, .iload_n 1, 1) (List.mem_of_getElem? (i := 11) rfl)) g1 ?_
  refine y_putf (f := (0, -2147483648, 2147483647)) w3.T.I w3.T.t (e_162 (20, .putfield 24, 3) (List.mem_of_getElem? (i := 12) rfl)) u_17_24 ⟨rfl, rfl, by decide, rfl, rfl⟩ ⟨_, rfl, (x_i32 _).1, (x_i32 _).2⟩ (fun G4 u4 => ?_)
  have w4 := w3.u u4 (by decide) (w3.T.I.upd u4 w3.T.t (y_okA rfl)) (by rw [u4.2.1, if_neg (fun z => absurd z.2 (by decide))]; exact w3.T.s3) (by rw [u4.2.1, if_neg (fun z => absurd z.2 (by decide))]; exact w3.T.s4) (by rw [u4.2.1, if_pos ⟨rfl, rfl⟩])
  exact y_ret (e_162 (23, .return_, 1) (List.mem_of_getElem? (i := 13) rfl)) ⟨rfl, rfl⟩ ⟨rfl, w4, (((SF.u u1 h.T.t (by decide)).tr (SF.u u2 h.T.t (by decide))).tr (SF.u u3 h.T.t (by decide))).tr (SF.u u4 h.T.t (by decide))⟩
end MG9
