/-- the model's hill (s) is as it was -/
def SF (th : List Nat) (G G' : List pE) : Prop := ∀ c i : Nat, (th[c]? = some 36 ∨ (th[c]? = some 39 ∧ i < 16)) → x_sl G' c i = x_sl G c i
theorem SF.rf {th : List Nat} {G : List pE} : SF th G G := fun _ _ _ => rfl
theorem SF.tr {th : List Nat} {G G1 G2 : List pE} (h : SF th G G1) (h' : SF th G1 G2) : SF th G G2 := fun c i hc => (h' c i hc).trans (h c i hc)
theorem SF.u {th : List Nat} {G G1 : List pE} {a t i : Nat} {v : Value} (u : x_upd G G1 a i v) (ta : th[a]? = some t) (ht : t ≠ 36 ∧ t ≠ 39) : SF th G G1 := fun c j hc => by
  rw [u.2.1, if_neg (fun z => by
    rw [z.1, ta] at hc
    rcases hc with hc | ⟨hc, -⟩
    · cases hc; exact ht.1 rfl
    · cases hc; exact ht.2 rfl)]
theorem SF.e {th : List Nat} {G G1 : List pE} {E : List (Nat × Nat × Nat)} (he : x_eff th E G G1) (h : E.all (fun q => !(q.1 == 36) && (!(q.1 == 39) || decide (16 ≤ q.2.1))) = true) : SF th G G1 := fun c j hc => by
  rw [List.all_eq_true] at h
  rcases hc with hc | ⟨hc, hj⟩
  · exact he.at hc (by
      unfold y_out
      rw [List.all_eq_true]
      intro q hq
      have := h q hq
      simp only [Bool.and_eq_true, Bool.not_eq_true', beq_eq_false_iff_ne] at this
      simp only [Bool.not_eq_true', Bool.and_eq_false_iff, beq_eq_false_iff_ne]
      exact Or.inl (Or.inl this.1))
  · exact he.at hc (by
      unfold y_out
      rw [List.all_eq_true]
      intro q hq
      have := h q hq
      simp only [Bool.and_eq_true, Bool.or_eq_true, Bool.not_eq_true', beq_eq_false_iff_ne, decide_eq_true_eq] at this
      simp only [Bool.not_eq_true', Bool.and_eq_false_iff, beq_eq_false_iff_ne, decide_eq_false_iff_not]
      rcases this.2 with z | z
      · exact Or.inl (Or.inl z)
      · exact Or.inl (Or.inr (by omega)))
section MG8
variable {th : List Nat} {xs : Nat → Int32} {L J d am mb hb nb rb : Nat} {K : Option Value → List pE → Prop} {f : Nat → Int32} {G : List pE} {n lim : Int32} {lv : pL} {hf : Nat → Int32} {nf : Nat → Int64} {on : Int32} {p0 tok0 at0 sp0 num0 : Int32} {wd0 : Int64} {p1 tok1 at1 sp1 num1 : Int32} {wd1 : Int64} {p2 tok2 at2 sp2 num2 : Int32} {wd2 : Int64} {p3 tok3 at3 sp3 num3 : Int32} {wd3 : Int64} {p4 tok4 at4 sp4 num4 : Int32} {wd4 : Int64} {p5 tok5 at5 sp5 num5 : Int32} {wd5 : Int64} {p6 tok6 at6 sp6 num6 : Int32} {wd6 : Int64} {p7 tok7 at7 sp7 num7 : Int32} {wd7 : Int64} {li : Int32} {hf1 : Nat → Int32} {nf1 : Nat → Int64} {on1 : Int32}
theorem MS.o19 {v : Value} (h : MS th am mb hb nb rb f n lim p0 tok0 at0 sp0 num0 wd0 hf nf on G) {G1 : List pE} (u : x_upd G G1 am 19 v) (hI : xI x_tb th G1) : MS th am mb hb nb rb f n lim p0 tok0 at0 sp0 num0 wd0 hf nf on G1 := by
  obtain ⟨n1, n2, n3, -, -, -, -, -, n9⟩ := h.ne
  obtain ⟨T, b1, b2, b3, c1, c2, c3, c4, d1, d2, d3⟩ := h
  exact ⟨T.other u n9 (Or.inr (by omega)) hI, b1, b2, b3, by rw [u.2.1, if_neg (fun z => by omega)]; exact c1, by rw [u.2.1, if_neg (fun z => by omega)]; exact c2, by rw [u.2.1, if_neg (fun z => by omega)]; exact c3, by rw [u.2.1, if_neg (fun z => by omega)]; exact c4, fun j hj => by rw [u.2.1, if_neg (fun z => n1 z.1)]; exact d1 j hj, fun j hj => by rw [u.2.1, if_neg (fun z => n2 z.1)]; exact d2 j hj, fun j hj => by rw [u.2.1, if_neg (fun z => n3 z.1)]; exact d3.1 j hj, by rw [u.2.1, if_neg (fun z => by omega)]; exact d3.2⟩
set_option maxHeartbeats 2000000 in
set_option maxRecDepth 100000 in
theorem v_loop_end (h : MS th am mb hb nb rb f n lim p0 tok0 at0 sp0 num0 wd0 hf nf on G) (g0 : pm_get lv 0 = some (.ref am)) (htk : tok0 = Int32.ofInt 0) (hk : x_Gd xs L J d m_161 K 78 lv [] G) : x_Gd xs L J d m_161 K 35 lv [] G := by
  refine y_aln (e_161 (35, .aload_n 0, 1) (List.mem_of_getElem? (i := 19) rfl)) g0 ?_
  refine y_getf h.T.I h.T.t (e_161 (36, .getfield 141, 3) (List.mem_of_getElem? (i := 20) rfl)) u_17_141 ⟨rfl, rfl⟩ h.T.s11 ?_
  subst htk
  exact y_ifc (e_161 (39, .ifCond .eq 39, 3) (List.mem_of_getElem? (i := 21) rfl)) rfl (fun _ => hk) (fun hc => absurd hc (by decide))
set_option maxHeartbeats 2000000 in
set_option maxRecDepth 100000 in
theorem v_loop_no {p' q' : Int32} (h : MS th am mb hb nb rb f n lim p0 tok0 at0 sp0 num0 wd0 hf nf on G) (g0 : pm_get lv 0 = some (.ref am)) (hd : 305 ≤ d) (hP : z_Pl th am nb hb G) (htk : tok0 ≠ Int32.ofInt 0) (hm : x_Gd xs L J (d + 6) m_167 (fun r G' => r = some (.int 0) ∧ x_sl G' am 16 = some (.int p') ∧ x_sl G' am 15 = some (.int q')) 0 (lv_args 0 [.ref am]) [] G) : x_Gd xs L J (d + 7) m_161 (fun r G' => r = some (.int (Int32.ofInt (-1) - p')) ∧ SF th G G' ∧ x_sl G' am 15 = some (.int q')) 35 lv [] G := by
  refine y_aln (e_161 (35, .aload_n 0, 1) (List.mem_of_getElem? (i := 19) rfl)) g0 ?_
  refine y_getf h.T.I h.T.t (e_161 (36, .getfield 141, 3) (List.mem_of_getElem? (i := 20) rfl)) u_17_141 ⟨rfl, rfl⟩ h.T.s11 ?_
  refine y_ifc (e_161 (39, .ifCond .eq 39, 3) (List.mem_of_getElem? (i := 21) rfl)) rfl (fun hc => absurd (y_hI.1 hc) htk) (fun _ => ?_)
  refine y_aln (e_161 (42, .aload_n 0, 1) (List.mem_of_getElem? (i := 22) rfl)) g0 ?_
  refine y_c1 (K' := _) (e_161 (43, .invokevirtual 223, 3) (List.mem_of_getElem? (i := 23) rfl)) ⟨rfl, rfl, rfl⟩ t_17_223 ⟨by decide, by decide, by decide, by decide⟩ m_167_ok rfl (by decide) (y_recv h.T.I h.T.t ⟨rfl, rfl⟩) (Nat.le_of_ble_eq_true rfl) (Nat.le_of_ble_eq_true rfl) (hm.and (g_lineC (d := d + 2) (by omega) hP h.T.s4)) (fun r1 G1 hc1 => ?_)
  obtain ⟨⟨rfl, hz⟩, ef1, hI1, hr⟩ := hc1
  simp only [Option.toList_some, Option.toList_none, List.cons_append, List.nil_append]
  refine y_ifc (e_161 (46, .ifCond .eq 12, 3) (List.mem_of_getElem? (i := 24) rfl)) rfl (fun _ => ?_) (fun hc => absurd hc (by decide))
  refine y_st (e_161 (58, .iconst (-1), 1) (List.mem_of_getElem? (i := 29) rfl)) ⟨rfl, rfl, rfl, rfl⟩ ?_
  refine y_aln (e_161 (59, .aload_n 0, 1) (List.mem_of_getElem? (i := 30) rfl)) g0 ?_
  refine y_getf hI1 h.T.t (e_161 (60, .getfield 161, 3) (List.mem_of_getElem? (i := 31) rfl)) u_17_161 ⟨rfl, rfl⟩ hz.1 ?_
  refine y_st (e_161 (63, .isub, 1) (List.mem_of_getElem? (i := 32) rfl)) ⟨rfl, rfl, rfl, rfl⟩ ?_
  exact y_ret (e_161 (64, .ireturn, 1) (List.mem_of_getElem? (i := 33) rfl)) ⟨rfl, y_ri⟩ ⟨rfl, SF.e ef1 (by decide), hz.2⟩
set_option maxHeartbeats 2000000 in
set_option maxRecDepth 100000 in
theorem v_loop_semi (h : MS th am mb hb nb rb f n lim p0 tok0 at0 sp0 num0 wd0 hf nf on G) (g0 : pm_get lv 0 = some (.ref am)) (hd : 305 ≤ d) (hP : z_Pl th am nb hb G) (htk : tok0 ≠ Int32.ofInt 0) (hm : x_Gd xs L J (d + 6) m_167 (fun r G' => r = some (.int 1) ∧ MS th am mb hb nb rb f n lim p1 tok1 at1 sp1 num1 wd1 hf1 nf1 on1 G') 0 (lv_args 0 [.ref am]) [] G) (h4 : ¬ (tok1 = Int32.ofInt 3 ∧ num1 = (Int8.ofInt 59).toInt32)) : x_Gd xs L J (d + 7) m_161 (fun r G' => r = some (.int (Int32.ofInt (-1) - at1)) ∧ SF th G G' ∧ x_sl G' am 15 = some (.int (Int32.ofInt 1))) 35 lv [] G := by
  refine y_aln (e_161 (35, .aload_n 0, 1) (List.mem_of_getElem? (i := 19) rfl)) g0 ?_
  refine y_getf h.T.I h.T.t (e_161 (36, .getfield 141, 3) (List.mem_of_getElem? (i := 20) rfl)) u_17_141 ⟨rfl, rfl⟩ h.T.s11 ?_
  refine y_ifc (e_161 (39, .ifCond .eq 39, 3) (List.mem_of_getElem? (i := 21) rfl)) rfl (fun hc => absurd (y_hI.1 hc) htk) (fun _ => ?_)
  refine y_aln (e_161 (42, .aload_n 0, 1) (List.mem_of_getElem? (i := 22) rfl)) g0 ?_
  refine y_c1 (K' := _) (e_161 (43, .invokevirtual 223, 3) (List.mem_of_getElem? (i := 23) rfl)) ⟨rfl, rfl, rfl⟩ t_17_223 ⟨by decide, by decide, by decide, by decide⟩ m_167_ok rfl (by decide) (y_recv h.T.I h.T.t ⟨rfl, rfl⟩) (Nat.le_of_ble_eq_true rfl) (Nat.le_of_ble_eq_true rfl) (hm.and (g_lineC (d := d + 2) (by omega) hP h.T.s4)) (fun r1 G1 hc1 => ?_)
  obtain ⟨⟨rfl, hz⟩, ef1, hI1, hr⟩ := hc1
  simp only [Option.toList_some, Option.toList_none, List.cons_append, List.nil_append]
  obtain ⟨-, hP1, -⟩ := hr.resolve_left (fun z => by cases z)
  refine y_ifc (e_161 (46, .ifCond .eq 12, 3) (List.mem_of_getElem? (i := 24) rfl)) rfl (fun hc => absurd hc (by decide)) (fun _ => ?_)
  refine y_aln (e_161 (49, .aload_n 0, 1) (List.mem_of_getElem? (i := 25) rfl)) g0 ?_
  refine y_st (e_161 (50, .bipush 59, 2) (List.mem_of_getElem? (i := 26) rfl)) ⟨rfl, rfl, rfl, rfl⟩ ?_
  refine y_c2 (K' := _) (e_161 (52, .invokevirtual 226, 3) (List.mem_of_getElem? (i := 27) rfl)) ⟨rfl, rfl, rfl⟩ t_17_226 ⟨by decide, by decide, by decide, by decide⟩ m_180_ok rfl (by decide) (y_recv hI1 h.T.t ⟨rfl, rfl⟩) (Nat.le_of_ble_eq_true rfl) (Nat.le_of_ble_eq_true rfl) ((k_sign_no hz h4).and (g_sign (by omega) hI1 h.T.t hz.T.s11 hz.T.s4)) (fun r1 G2 hc1 => ?_)
  obtain ⟨⟨rfl, hy⟩, ef2, hI2, -⟩ := hc1
  simp only [Option.toList_some, Option.toList_none, List.cons_append, List.nil_append]
  refine y_ifc (e_161 (55, .ifCond .ne 10, 3) (List.mem_of_getElem? (i := 28) rfl)) rfl (fun hc => absurd hc (by decide)) (fun _ => ?_)
  refine y_st (e_161 (58, .iconst (-1), 1) (List.mem_of_getElem? (i := 29) rfl)) ⟨rfl, rfl, rfl, rfl⟩ ?_
  refine y_aln (e_161 (59, .aload_n 0, 1) (List.mem_of_getElem? (i := 30) rfl)) g0 ?_
  refine y_getf hI2 h.T.t (e_161 (60, .getfield 161, 3) (List.mem_of_getElem? (i := 31) rfl)) u_17_161 ⟨rfl, rfl⟩ hy.1 ?_
  refine y_st (e_161 (63, .isub, 1) (List.mem_of_getElem? (i := 32) rfl)) ⟨rfl, rfl, rfl, rfl⟩ ?_
  exact y_ret (e_161 (64, .ireturn, 1) (List.mem_of_getElem? (i := 33) rfl)) ⟨rfl, y_ri⟩ ⟨rfl, (SF.e ef1 (by decide)).tr (SF.e ef2 (by decide)), hy.2⟩
set_option maxHeartbeats 2000000 in
set_option maxRecDepth 100000 in
theorem v_loop_go (h : MS th am mb hb nb rb f n lim p0 tok0 at0 sp0 num0 wd0 hf nf on G) (g0 : pm_get lv 0 = some (.ref am)) (hd : 305 ≤ d) (hP : z_Pl th am nb hb G) (htk : tok0 ≠ Int32.ofInt 0) (hs : x_sl G am 19 = some (.int li)) (hm : x_Gd xs L J (d + 6) m_167 (fun r G' => r = some (.int 1) ∧ MS th am mb hb nb rb f n lim p1 tok1 at1 sp1 num1 wd1 hf1 nf1 on1 G') 0 (lv_args 0 [.ref am]) [] G) (h4 : (tok1 = Int32.ofInt 3 ∧ num1 = (Int8.ofInt 59).toInt32)) (hN : NXm f n lim p1 num1 wd1 p2 tok2 at2 sp2 num2 wd2) (hk : ∀ G' : List pE, MS th am mb hb nb rb f n lim p2 tok2 at2 sp2 num2 wd2 hf1 nf1 on1 G' → z_Pl th am nb hb G' → x_sl G' am 19 = some (.int (li + Int32.ofInt 1)) → x_eff th E_l1 G G' → x_Gd xs L J (d + 7) m_161 K 35 lv [] G') : x_Gd xs L J (d + 7) m_161 K 35 lv [] G := by
  refine y_aln (e_161 (35, .aload_n 0, 1) (List.mem_of_getElem? (i := 19) rfl)) g0 ?_
  refine y_getf h.T.I h.T.t (e_161 (36, .getfield 141, 3) (List.mem_of_getElem? (i := 20) rfl)) u_17_141 ⟨rfl, rfl⟩ h.T.s11 ?_
  refine y_ifc (e_161 (39, .ifCond .eq 39, 3) (List.mem_of_getElem? (i := 21) rfl)) rfl (fun hc => absurd (y_hI.1 hc) htk) (fun _ => ?_)
  refine y_aln (e_161 (42, .aload_n 0, 1) (List.mem_of_getElem? (i := 22) rfl)) g0 ?_
  refine y_c1 (K' := _) (e_161 (43, .invokevirtual 223, 3) (List.mem_of_getElem? (i := 23) rfl)) ⟨rfl, rfl, rfl⟩ t_17_223 ⟨by decide, by decide, by decide, by decide⟩ m_167_ok rfl (by decide) (y_recv h.T.I h.T.t ⟨rfl, rfl⟩) (Nat.le_of_ble_eq_true rfl) (Nat.le_of_ble_eq_true rfl) (hm.and (g_lineC (d := d + 2) (by omega) hP h.T.s4)) (fun r1 G1 hc1 => ?_)
  obtain ⟨⟨rfl, hz⟩, ef1, hI1, hr⟩ := hc1
  simp only [Option.toList_some, Option.toList_none, List.cons_append, List.nil_append]
  obtain ⟨-, hP1, -⟩ := hr.resolve_left (fun z => by cases z)
  refine y_ifc (e_161 (46, .ifCond .eq 12, 3) (List.mem_of_getElem? (i := 24) rfl)) rfl (fun hc => absurd hc (by decide)) (fun _ => ?_)
  refine y_aln (e_161 (49, .aload_n 0, 1) (List.mem_of_getElem? (i := 25) rfl)) g0 ?_
  refine y_st (e_161 (50, .bipush 59, 2) (List.mem_of_getElem? (i := 26) rfl)) ⟨rfl, rfl, rfl, rfl⟩ ?_
  refine y_c2 (K' := _) (e_161 (52, .invokevirtual 226, 3) (List.mem_of_getElem? (i := 27) rfl)) ⟨rfl, rfl, rfl⟩ t_17_226 ⟨by decide, by decide, by decide, by decide⟩ m_180_ok rfl (by decide) (y_recv hI1 h.T.t ⟨rfl, rfl⟩) (Nat.le_of_ble_eq_true rfl) (Nat.le_of_ble_eq_true rfl) ((k_sign_yes hz h4 hN).and (g_sign (by omega) hI1 h.T.t hz.T.s11 hz.T.s4)) (fun r1 G2 hc1 => ?_)
  obtain ⟨⟨rfl, hy⟩, ef2, hI2, -⟩ := hc1
  simp only [Option.toList_some, Option.toList_none, List.cons_append, List.nil_append]
  refine y_ifc (e_161 (55, .ifCond .ne 10, 3) (List.mem_of_getElem? (i := 28) rfl)) rfl (fun _ => ?_) (fun hc => absurd hc (by decide))
  have hP2 : z_Pl th am nb hb G2 := hP1.eff hI2 ef2 rfl (by decide) (by decide) (by decide)
  have hli : x_sl G2 am 19 = some (.int li) := by rw [ef2.at h.T.t rfl, ef1.at h.T.t rfl]; exact hs
  refine y_aln (e_161 (65, .aload_n 0, 1) (List.mem_of_getElem? (i := 34) rfl)) g0 ?_
  refine y_st (e_161 (66, .dup, 1) (List.mem_of_getElem? (i := 35) rfl)) ⟨rfl, rfl, rfl, rfl⟩ ?_
  refine y_getf hI2 h.T.t (e_161 (67, .getfield 220, 3) (List.mem_of_getElem? (i := 36) rfl)) u_17_220 ⟨rfl, rfl⟩ hli ?_
  refine y_st (e_161 (70, .iconst 1, 1) (List.mem_of_getElem? (i := 37) rfl)) ⟨rfl, rfl, rfl, rfl⟩ ?_
  refine y_st (e_161 (71, .iadd, 1) (List.mem_of_getElem? (i := 38) rfl)) ⟨rfl, rfl, rfl, rfl⟩ ?_
  refine y_putf (f := (0, -2147483648, 2147483647)) hI2 h.T.t (e_161 (72, .putfield 220, 3) (List.mem_of_getElem? (i := 39) rfl)) u_17_220 ⟨rfl, rfl, by decide, rfl, rfl⟩ ⟨_, rfl, (x_i32 _).1, (x_i32 _).2⟩ (fun G3 u3 => ?_)
  have hI3 := hI2.upd u3 h.T.t (y_okA rfl)
  have ef3 : x_eff th [(10, 19, 19)] G2 G3 := x_eff.upd u3 h.T.t (q := (10, 19, 19)) List.mem_cons_self rfl (by decide) (by decide)
  have e1 : x_eff th E_l1 G G1 := ef1.l.l
  have e2 : x_eff th E_l1 G1 G2 := ef2.r.l
  have e3 : x_eff th E_l1 G2 G3 := ef3.r
  refine y_st (e_161 (75, .goto (-40), 3) (List.mem_of_getElem? (i := 40) rfl)) ⟨rfl, rfl, rfl, rfl⟩ ?_
  exact hk G3 (hy.o19 u3 hI3) (hP2.eff hI3 ef3 rfl (by decide) (by decide) (by decide)) (by rw [u3.2.1, if_pos ⟨rfl, rfl⟩]) ((e1.tr e2).tr e3)
end MG8
