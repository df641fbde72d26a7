section MG10
variable {th : List Nat} {xs : Nat → Int32} {L J d am mb hb nb rb : Nat} {K : Option Value → List pE → Prop} {f : Nat → Int32} {G : List pE} {n lim : Int32} {lv : pL} {hf : Nat → Int32} {nf : Nat → Int64} {on : Int32} {p0 tok0 at0 sp0 num0 : Int32} {wd0 : Int64} {p1 tok1 at1 sp1 num1 : Int32} {wd1 : Int64} {p2 tok2 at2 sp2 num2 : Int32} {wd2 : Int64} {p3 tok3 at3 sp3 num3 : Int32} {wd3 : Int64} {p4 tok4 at4 sp4 num4 : Int32} {wd4 : Int64} {p5 tok5 at5 sp5 num5 : Int32} {wd5 : Int64} {p6 tok6 at6 sp6 num6 : Int32} {wd6 : Int64} {p7 tok7 at7 sp7 num7 : Int32} {wd7 : Int64} {n' lim' p' : Int32} {G1 : List pE}
theorem MS.cl (h : MS th am mb hb nb rb f n lim p0 tok0 at0 sp0 num0 wd0 hf nf on G) (hI : xI x_tb th G1) (hO : ∀ k i, k ≠ hb → x_sl G1 k i = x_sl G k i) (hc : ∀ i, i < 81 → x_sl G1 hb i = some (.int (z_cl i))) : MS th am mb hb nb rb f n lim p0 tok0 at0 sp0 num0 wd0 z_cl nf on G1 := by
  obtain ⟨n1, n2, n3, n4, n5, n6, n7, n8, n9⟩ := h.ne
  obtain ⟨T, b1, b2, b3, c1, c2, c3, c4, d1, d2, d3⟩ := h
  have e : ∀ i, x_sl G1 am i = x_sl G am i := fun i => hO am i (fun z => n1 z.symm)
  exact ⟨⟨hI, T.t, T.tb, fun j hj => by rw [hO mb j (fun z => n4 z.symm)]; exact T.by j hj, fun _ _ _ => rfl, by rw [e]; exact T.s1, by rw [e]; exact T.s3, by rw [e]; exact T.s4, by rw [e]; exact T.s5, by rw [e]; exact T.s11, by rw [e]; exact T.s12, by rw [e]; exact T.s13, by rw [e]; exact T.s14, by rw [e]; exact T.s17⟩, b1, b2, b3, by rw [e]; exact c1, by rw [e]; exact c2, by rw [e]; exact c3, by rw [e]; exact c4, hc, fun j hj => by rw [hO nb j (fun z => n6 z.symm)]; exact d2 j hj, fun j hj => by rw [hO rb j (fun z => n7 z.symm)]; exact d3.1 j hj, by rw [e]; exact d3.2⟩
theorem MS.pl (h : MS th am mb hb nb rb f n lim p0 tok0 at0 sp0 num0 wd0 z_cl nf on G) : z_Pl th am nb hb G := by
  obtain ⟨T, b1, b2, b3, c1, c2, c3, c4, d1, d2, d3⟩ := h
  exact ⟨nf, wd0, z_cl 3, z_cl 4, z_cl 5, fun t => z_cl (41 + t), ⟨T.I, T.t, c2, b2, d2, T.s17, c1, b1, d1 3 (by decide), d1 4 (by decide), d1 5 (by decide)⟩, fun i j hi hj => absurd hi (by show ¬ (i : Int) < 0; omega), fun t ht => ⟨d1 (41 + t) (by omega), by dsimp only; rw [z_cl0 t ht]; show (0 : Int) ≤ 8 * 0 - 0 + t; omega⟩⟩
set_option maxHeartbeats 2000000 in
set_option maxRecDepth 100000 in
theorem v_head {sz : Int32} (h : MSo th am mb hb nb rb f n lim p0 tok0 at0 sp0 num0 wd0 hf nf on G) (hs : x_sl G am 2 = some (.int sz)) (hr : 0 ≤ sz.toInt ∧ sz.toInt ≤ 940) (hN : NXm f sz (Int16.ofInt 900).toInt32 (Int32.ofInt 0) num0 wd0 p1 tok1 at1 sp1 num1 wd1) (hk : ∀ (G1 : List pE) (lv1 : pL), MS th am mb hb nb rb f sz (Int16.ofInt 900).toInt32 p1 tok1 at1 sp1 num1 wd1 z_cl nf (Int32.ofInt 0) G1 → z_Pl th am nb hb G1 → x_sl G1 am 19 = some (.int (Int32.ofInt 0)) → pm_get lv1 0 = some (.ref am) → SF th G G1 → x_Gd xs L J (d + 3) m_161 K 35 lv1 [] G1) : x_Gd xs L J (d + 3) m_161 K 0 (lv_args 0 [.ref am]) [] G := by
  have g0 : pm_get (lv_args 0 [.ref am]) 0 = some (.ref am) := rfl
  generalize lv_args 0 [.ref am] = lv at g0 ⊢
  refine y_aln (e_161 (0, .aload_n 0, 1) (List.mem_of_getElem? (i := 0) rfl)) g0 ?_
  refine y_st (e_161 (1, .iconst 0, 1) (List.mem_of_getElem? (i := 1) rfl)) ⟨rfl, rfl, rfl, rfl⟩ ?_
  refine y_putf (f := (0, -2147483648, 2147483647)) h.T.I h.T.t (e_161 (2, .putfield 1, 3) (List.mem_of_getElem? (i := 2) rfl)) u_17_1 ⟨rfl, rfl, by decide, rfl, rfl⟩ ⟨_, rfl, (x_i32 _).1, (x_i32 _).2⟩ (fun G1 u1 => ?_)
  have w1 := h.u u1 (by decide) (h.T.I.upd u1 h.T.t (y_okA rfl)) (by rw [u1.2.1, if_neg (fun z => absurd z.2 (by decide))]; exact h.T.s3) (by rw [u1.2.1, if_neg (fun z => absurd z.2 (by decide))]; exact h.T.s4) (by rw [u1.2.1, if_neg (fun z => absurd z.2 (by decide))]; exact h.T.s5)
  have hs1 : x_sl G1 am 2 = some (.int sz) := by rw [u1.2.1, if_neg (fun z => absurd z.2 (by decide))]; exact hs
  refine y_aln (e_161 (5, .aload_n 0, 1) (List.mem_of_getElem? (i := 3) rfl)) g0 ?_
  refine y_st (e_161 (6, .sipush 900, 3) (List.mem_of_getElem? (i := 4) rfl)) ⟨rfl, rfl, rfl, rfl⟩ ?_
  refine y_c2 (K' := _) (e_161 (9, .invokevirtual 217, 3) (List.mem_of_getElem? (i := 5) rfl)) ⟨rfl, rfl, rfl⟩ t_17_217 ⟨by decide, by decide, by decide, by decide⟩ m_162_ok rfl (by decide) (y_recv w1.T.I w1.T.t ⟨rfl, rfl⟩) (Nat.le_of_ble_eq_true rfl) (Nat.le_of_ble_eq_true rfl) (k_taken w1 hs1 hr) (fun r1 G2 hc1 => ?_)
  obtain ⟨rfl, w2, sf2⟩ := hc1
  simp only [Option.toList_some, Option.toList_none, List.cons_append, List.nil_append]
  refine y_aln (e_161 (12, .aload_n 0, 1) (List.mem_of_getElem? (i := 6) rfl)) g0 ?_
  refine y_st (e_161 (13, .iconst 0, 1) (List.mem_of_getElem? (i := 7) rfl)) ⟨rfl, rfl, rfl, rfl⟩ ?_
  refine y_putf (f := (0, -2147483648, 2147483647)) w2.T.I w2.T.t (e_161 (14, .putfield 158, 3) (List.mem_of_getElem? (i := 8) rfl)) u_17_158 ⟨rfl, rfl, by decide, rfl, rfl⟩ ⟨_, rfl, (x_i32 _).1, (x_i32 _).2⟩ (fun G3 u3 => ?_)
  have w3 := w2.f15 u3 (w2.T.I.upd u3 w2.T.t (y_okA rfl))
  refine y_aln (e_161 (17, .aload_n 0, 1) (List.mem_of_getElem? (i := 9) rfl)) g0 ?_
  refine y_st (e_161 (18, .iconst 0, 1) (List.mem_of_getElem? (i := 10) rfl)) ⟨rfl, rfl, rfl, rfl⟩ ?_
  refine y_putf (f := (0, -2147483648, 2147483647)) w3.T.I w3.T.t (e_161 (19, .putfield 220, 3) (List.mem_of_getElem? (i := 11) rfl)) u_17_220 ⟨rfl, rfl, by decide, rfl, rfl⟩ ⟨_, rfl, (x_i32 _).1, (x_i32 _).2⟩ (fun G4 u4 => ?_)
  have w4 := w3.u u4 (by decide) (w3.T.I.upd u4 w3.T.t (y_okA rfl)) (by rw [u4.2.1, if_neg (fun z => absurd z.2 (by decide))]; exact w3.T.s3) (by rw [u4.2.1, if_neg (fun z => absurd z.2 (by decide))]; exact w3.T.s4) (by rw [u4.2.1, if_neg (fun z => absurd z.2 (by decide))]; exact w3.T.s5)
  have l4 : x_sl G4 am 19 = some (.int (Int32.ofInt 0)) := by rw [u4.2.1, if_pos ⟨rfl, rfl⟩]
  refine y_aln (e_161 (22, .aload_n 0, 1) (List.mem_of_getElem? (i := 12) rfl)) g0 ?_
  refine y_st (e_161 (23, .iconst 0, 1) (List.mem_of_getElem? (i := 13) rfl)) ⟨rfl, rfl, rfl, rfl⟩ ?_
  refine y_putf (f := (0, -2147483648, 2147483647)) w4.T.I w4.T.t (e_161 (24, .putfield 192, 3) (List.mem_of_getElem? (i := 14) rfl)) u_17_192 ⟨rfl, rfl, by decide, rfl, rfl⟩ ⟨_, rfl, (x_i32 _).1, (x_i32 _).2⟩ (fun G5 u5 => ?_)
  have w5 := w4.on9 u5 (w4.T.I.upd u5 w4.T.t (y_okA rfl))
  have l5 : x_sl G5 am 19 = some (.int (Int32.ofInt 0)) := by rw [u5.2.1, if_neg (fun z => absurd z.2 (by decide))]; exact l4
  refine y_aln (e_161 (27, .aload_n 0, 1) (List.mem_of_getElem? (i := 15) rfl)) g0 ?_
  refine y_c1 (K' := _) (e_161 (28, .invokevirtual 128, 3) (List.mem_of_getElem? (i := 16) rfl)) ⟨rfl, rfl, rfl⟩ t_17_128 ⟨by decide, by decide, by decide, by decide⟩ m_160_ok rfl (by decide) (y_recv w5.T.I w5.T.t ⟨rfl, rfl⟩) (Nat.le_of_ble_eq_true rfl) (Nat.le_of_ble_eq_true rfl) (g_clears w5.T.I w5.T.t w5.2.2.2.2.1 w5.2.1) (fun r1 G6 hc1 => ?_)
  obtain ⟨rfl, hI6, hO6, hc6⟩ := hc1
  simp only [Option.toList_some, Option.toList_none, List.cons_append, List.nil_append]
  have w6 := w5.cl hI6 hO6 hc6
  have l6 : x_sl G6 am 19 = some (.int (Int32.ofInt 0)) := by rw [hO6 am 19 (fun z => w5.ne.1 z.symm)]; exact l5
  refine y_aln (e_161 (31, .aload_n 0, 1) (List.mem_of_getElem? (i := 17) rfl)) g0 ?_
  refine y_c1 (K' := _) (e_161 (32, .invokevirtual 170, 3) (List.mem_of_getElem? (i := 18) rfl)) ⟨rfl, rfl, rfl⟩ t_17_170 ⟨by decide, by decide, by decide, by decide⟩ m_163_ok rfl (by decide) (y_recv w6.T.I w6.T.t ⟨rfl, rfl⟩) (Nat.le_of_ble_eq_true rfl) (Nat.le_of_ble_eq_true rfl) (hN _ _ _ _ _ _ _ _ _ _ _ _ w6.T) (fun r1 Gc hc1 => ?_)
  obtain ⟨rfl, hc2⟩ := hc1
  simp only [Option.toList_some, Option.toList_none, List.cons_append, List.nil_append]
  have hc3 := w6.nxt hc2
  have sf9 : SF th G Gc := ((((((SF.u u1 h.T.t (by decide)).tr sf2).tr (SF.u u3 h.T.t (by decide))).tr (SF.u u4 h.T.t (by decide))).tr (SF.u u5 h.T.t (by decide))).tr (fun c i hc => hO6 c i (fun z => by rw [z, w5.2.1] at hc; rcases hc with hc | ⟨hc, -⟩ <;> cases hc))).tr (fun c i hc => hc2.ot c i (Or.inl (fun z => by rw [z, h.T.t] at hc; rcases hc with hc | ⟨hc, -⟩ <;> cases hc)))
  exact hk Gc lv hc3 hc3.pl (by rw [hc2.ot am 19 (Or.inr (by decide))]; exact l6) g0 sf9
end MG10
