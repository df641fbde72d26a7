section MG7
variable {th : List Nat} {xs : Nat → Int32} {L J d am mb hb nb rb : Nat} {K : Option Value → List pE → Prop} {f : Nat → Int32} {G : List pE} {n lim : Int32} {lv : pL} {hf : Nat → Int32} {nf : Nat → Int64} {on : Int32} {p0 tok0 at0 sp0 num0 : Int32} {wd0 : Int64} {p1 tok1 at1 sp1 num1 : Int32} {wd1 : Int64} {p2 tok2 at2 sp2 num2 : Int32} {wd2 : Int64} {p3 tok3 at3 sp3 num3 : Int32} {wd3 : Int64} {p4 tok4 at4 sp4 num4 : Int32} {wd4 : Int64} {p5 tok5 at5 sp5 num5 : Int32} {wd5 : Int64} {p6 tok6 at6 sp6 num6 : Int32} {wd6 : Int64} {p7 tok7 at7 sp7 num7 : Int32} {wd7 : Int64}
set_option maxHeartbeats 2000000 in
set_option maxRecDepth 100000 in
theorem v_passage_0 (h : MS th am mb hb nb rb f n lim p0 tok0 at0 sp0 num0 wd0 hf nf on G) (hw : tok0 = Int32.ofInt 1 ∧ wd0 = t_W 5) (hcn : (hf 2).toInt = 4) : x_Gd xs L J (d + 6) m_167 (fun r G' => r = some (.int 0) ∧ x_sl G' am 16 = some (.int at0) ∧ x_sl G' am 15 = some (.int (Int32.ofInt 4))) 0 (lv_args 0 [.ref am]) [] G := by
  have g0 : pm_get (lv_args 0 [.ref am]) 0 = some (.ref am) := rfl
  generalize (lv_args 0 [.ref am]) = lv at g0 ⊢
  refine v_to_passage h g0 hw ?_
  obtain ⟨⟨p0_, p1_⟩, ⟨t0_, t1_⟩, ⟨l0_, l1_⟩, ⟨m0_, m1_⟩⟩ := h.cn
  refine y_aln (e_167 (236, .aload_n 0, 1) (List.mem_of_getElem? (i := 118) rfl)) g0 ?_
  refine y_getf h.T.I h.T.t (e_167 (237, .getfield 37, 3) (List.mem_of_getElem? (i := 119) rfl)) u_17_37 ⟨rfl, rfl⟩ h.2.2.2.2.1 ?_
  refine y_st (e_167 (240, .iconst 2, 1) (List.mem_of_getElem? (i := 120) rfl)) ⟨rfl, rfl, rfl, rfl⟩ ?_
  refine y_iald h.T.I h.2.1 (e_167 (241, .iaload, 1) (List.mem_of_getElem? (i := 121) rfl)) ⟨rfl, rfl⟩ (by decide) (h.2.2.2.2.2.2.2.2.1 2 (by decide)) ?_
  refine y_isn (e_167 (242, .istore_n 1, 1) (List.mem_of_getElem? (i := 122) rfl)) (by decide) ?_
  have g1 : pm_get (pm_put1 lv 1 (.int (hf 2))) 1 = some (.int (hf 2)) := x_get_self
  have g0 : pm_get (pm_put1 lv 1 (.int (hf 2))) 0 = some (.ref am) := y_gpr g0 (by decide)
  show x_Gd xs L J _ m_167 _ 243 (pm_put1 lv 1 (.int (hf 2))) [] G
  generalize (pm_put1 lv 1 (.int (hf 2))) = lv3 at g0 g1 ⊢
  refine y_iln (e_167 (243, .iload_n 1, 1) (List.mem_of_getElem? (i := 123) rfl)) g1 ?_
  refine y_st (e_167 (244, .iconst 4, 1) (List.mem_of_getElem? (i := 124) rfl)) ⟨rfl, rfl, rfl, rfl⟩ ?_
  refine y_icm (e_167 (245, .if_icmp .ne 9, 3) (List.mem_of_getElem? (i := 125) rfl)) rfl (fun hc => absurd (Int32.toInt_inj.mp (by rw [hcn]; rfl)) (y_hI.2.2.1 hc)) (fun _ => ?_)
  refine y_aln (e_167 (248, .aload_n 0, 1) (List.mem_of_getElem? (i := 126) rfl)) g0 ?_
  refine y_st (e_167 (249, .iconst 4, 1) (List.mem_of_getElem? (i := 127) rfl)) ⟨rfl, rfl, rfl, rfl⟩ ?_
  refine y_c2 (K' := _) (e_167 (250, .invokevirtual 167, 3) (List.mem_of_getElem? (i := 128) rfl)) ⟨rfl, rfl, rfl⟩ t_17_167 ⟨by decide, by decide, by decide, by decide⟩ m_171_ok rfl (by decide) (y_recv h.T.I h.T.t ⟨rfl, rfl⟩) (Nat.le_of_ble_eq_true rfl) (Nat.le_of_ble_eq_true rfl) (k_bad h _) (fun r1 Gc hc1 => ?_)
  obtain ⟨rfl, hz⟩ := hc1
  simp only [Option.toList_some, Option.toList_none, List.cons_append, List.nil_append]
  exact y_ret (e_167 (253, .ireturn, 1) (List.mem_of_getElem? (i := 129) rfl)) ⟨rfl, y_rb (Or.inl rfl)⟩ ⟨rfl, hz⟩
set_option maxHeartbeats 2000000 in
set_option maxRecDepth 100000 in
theorem v_passage_1 (h : MS th am mb hb nb rb f n lim p0 tok0 at0 sp0 num0 wd0 hf nf on G) (hw : tok0 = Int32.ofInt 1 ∧ wd0 = t_W 5) (hcn : (hf 2).toInt < 4) (hN1 : NXm f n lim p0 num0 wd0 p1 tok1 at1 sp1 num1 wd1)  (hno : tok1 ≠ Int32.ofInt 2 ∨ num1.toInt < 2 ∨ 9 < num1.toInt) : x_Gd xs L J (d + 6) m_167 (fun r G' => r = some (.int 0) ∧ x_sl G' am 16 = some (.int at1) ∧ x_sl G' am 15 = some (.int (t_km tok1))) 0 (lv_args 0 [.ref am]) [] G := by
  have g0 : pm_get (lv_args 0 [.ref am]) 0 = some (.ref am) := rfl
  generalize (lv_args 0 [.ref am]) = lv at g0 ⊢
  refine v_to_passage h g0 hw ?_
  obtain ⟨⟨p0_, p1_⟩, ⟨t0_, t1_⟩, ⟨l0_, l1_⟩, ⟨m0_, m1_⟩⟩ := h.cn
  refine y_aln (e_167 (236, .aload_n 0, 1) (List.mem_of_getElem? (i := 118) rfl)) g0 ?_
  refine y_getf h.T.I h.T.t (e_167 (237, .getfield 37, 3) (List.mem_of_getElem? (i := 119) rfl)) u_17_37 ⟨rfl, rfl⟩ h.2.2.2.2.1 ?_
  refine y_st (e_167 (240, .iconst 2, 1) (List.mem_of_getElem? (i := 120) rfl)) ⟨rfl, rfl, rfl, rfl⟩ ?_
  refine y_iald h.T.I h.2.1 (e_167 (241, .iaload, 1) (List.mem_of_getElem? (i := 121) rfl)) ⟨rfl, rfl⟩ (by decide) (h.2.2.2.2.2.2.2.2.1 2 (by decide)) ?_
  refine y_isn (e_167 (242, .istore_n 1, 1) (List.mem_of_getElem? (i := 122) rfl)) (by decide) ?_
  have g1 : pm_get (pm_put1 lv 1 (.int (hf 2))) 1 = some (.int (hf 2)) := x_get_self
  have g0 : pm_get (pm_put1 lv 1 (.int (hf 2))) 0 = some (.ref am) := y_gpr g0 (by decide)
  show x_Gd xs L J _ m_167 _ 243 (pm_put1 lv 1 (.int (hf 2))) [] G
  generalize (pm_put1 lv 1 (.int (hf 2))) = lv3 at g0 g1 ⊢
  refine y_iln (e_167 (243, .iload_n 1, 1) (List.mem_of_getElem? (i := 123) rfl)) g1 ?_
  refine y_st (e_167 (244, .iconst 4, 1) (List.mem_of_getElem? (i := 124) rfl)) ⟨rfl, rfl, rfl, rfl⟩ ?_
  refine y_icm (e_167 (245, .if_icmp .ne 9, 3) (List.mem_of_getElem? (i := 125) rfl)) rfl (fun _ => ?_) (fun hc => ?_)
  rotate_left
  · have z := y_hI.2.2.2.1 hc
    rw [z] at hcn
    exact absurd hcn (by decide)
  have e13 : ((Int8.ofInt 13).toInt32 + hf 2).toInt = 13 + (hf 2).toInt := (y_add (by show -2147483648 ≤ (13 : Int) + _; omega) (by show (13 : Int) + _ ≤ 2147483647; omega)).trans rfl
  have e17 : ((Int8.ofInt 17).toInt32 + hf 2).toInt = 17 + (hf 2).toInt := (y_add (by show -2147483648 ≤ (17 : Int) + _; omega) (by show (17 : Int) + _ ≤ 2147483647; omega)).trans rfl
  have e21 : ((Int8.ofInt 21).toInt32 + hf 2).toInt = 21 + (hf 2).toInt := (y_add (by show -2147483648 ≤ (21 : Int) + _; omega) (by show (21 : Int) + _ ≤ 2147483647; omega)).trans rfl
  refine y_aln (e_167 (254, .aload_n 0, 1) (List.mem_of_getElem? (i := 130) rfl)) g0 ?_
  refine y_c1 (K' := _) (e_167 (255, .invokevirtual 170, 3) (List.mem_of_getElem? (i := 131) rfl)) ⟨rfl, rfl, rfl⟩ t_17_170 ⟨by decide, by decide, by decide, by decide⟩ m_163_ok rfl (by decide) (y_recv h.T.I h.T.t ⟨rfl, rfl⟩) (Nat.le_of_ble_eq_true rfl) (Nat.le_of_ble_eq_true rfl) (hN1 _ _ _ _ _ _ _ _ _ _ _ _ h.T) (fun r1 Gc hc1 => ?_)
  obtain ⟨rfl, hc2⟩ := hc1
  simp only [Option.toList_some, Option.toList_none, List.cons_append, List.nil_append]
  have hc3 := h.nxt hc2
  refine y_aln (e_167 (258, .aload_n 0, 1) (List.mem_of_getElem? (i := 132) rfl)) g0 ?_
  refine y_st (e_167 (259, .bipush 13, 2) (List.mem_of_getElem? (i := 133) rfl)) ⟨rfl, rfl, rfl, rfl⟩ ?_
  refine y_iln (e_167 (261, .iload_n 1, 1) (List.mem_of_getElem? (i := 134) rfl)) g1 ?_
  refine y_st (e_167 (262, .iadd, 1) (List.mem_of_getElem? (i := 135) rfl)) ⟨rfl, rfl, rfl, rfl⟩ ?_
  refine y_st (e_167 (263, .iconst 2, 1) (List.mem_of_getElem? (i := 136) rfl)) ⟨rfl, rfl, rfl, rfl⟩ ?_
  refine y_st (e_167 (264, .bipush 9, 2) (List.mem_of_getElem? (i := 137) rfl)) ⟨rfl, rfl, rfl, rfl⟩ ?_
  refine y_c4 (K' := _) (e_167 (266, .invokevirtual 205, 3) (List.mem_of_getElem? (i := 138) rfl)) ⟨rfl, rfl, rfl⟩ t_17_205 ⟨by decide, by decide, by decide, by decide⟩ m_172_ok rfl (by decide) (y_recv hc3.T.I hc3.T.t ⟨rfl, rfl⟩) (Nat.le_of_ble_eq_true rfl) (Nat.le_of_ble_eq_true rfl) (k_puts_no hc3 hno) (fun r1 Gc hc1 => ?_)
  obtain ⟨rfl, hz⟩ := hc1
  simp only [Option.toList_some, Option.toList_none, List.cons_append, List.nil_append]
  refine y_ifc (e_167 (269, .ifCond .eq 31, 3) (List.mem_of_getElem? (i := 139) rfl)) rfl (fun _ => ?_) (fun hc => absurd hc (by decide))
  refine y_st (e_167 (300, .iconst 0, 1) (List.mem_of_getElem? (i := 156) rfl)) ⟨rfl, rfl, rfl, rfl⟩ ?_
  exact y_ret (e_167 (301, .ireturn, 1) (List.mem_of_getElem? (i := 157) rfl)) ⟨rfl, y_rb (Or.inl rfl)⟩ ⟨rfl, hz⟩
set_option maxHeartbeats 2000000 in
set_option maxRecDepth 100000 in
theorem v_passage_2 (h : MS th am mb hb nb rb f n lim p0 tok0 at0 sp0 num0 wd0 hf nf on G) (hw : tok0 = Int32.ofInt 1 ∧ wd0 = t_W 5) (hcn : (hf 2).toInt < 4) (hN1 : NXm f n lim p0 num0 wd0 p1 tok1 at1 sp1 num1 wd1) (htk1 : tok1 = Int32.ofInt 2) (a1 : 2 ≤ num1.toInt) (b1 : num1.toInt ≤ 9) (hN2 : NXm f n lim p1 num1 wd1 p2 tok2 at2 sp2 num2 wd2) (hno : tok2 ≠ Int32.ofInt 2 ∨ num2.toInt < 1 ∨ 9 < num2.toInt) : x_Gd xs L J (d + 6) m_167 (fun r G' => r = some (.int 0) ∧ x_sl G' am 16 = some (.int at2) ∧ x_sl G' am 15 = some (.int (t_km tok2))) 0 (lv_args 0 [.ref am]) [] G := by
  have g0 : pm_get (lv_args 0 [.ref am]) 0 = some (.ref am) := rfl
  generalize (lv_args 0 [.ref am]) = lv at g0 ⊢
  refine v_to_passage h g0 hw ?_
  obtain ⟨⟨p0_, p1_⟩, ⟨t0_, t1_⟩, ⟨l0_, l1_⟩, ⟨m0_, m1_⟩⟩ := h.cn
  refine y_aln (e_167 (236, .aload_n 0, 1) (List.mem_of_getElem? (i := 118) rfl)) g0 ?_
  refine y_getf h.T.I h.T.t (e_167 (237, .getfield 37, 3) (List.mem_of_getElem? (i := 119) rfl)) u_17_37 ⟨rfl, rfl⟩ h.2.2.2.2.1 ?_
  refine y_st (e_167 (240, .iconst 2, 1) (List.mem_of_getElem? (i := 120) rfl)) ⟨rfl, rfl, rfl, rfl⟩ ?_
  refine y_iald h.T.I h.2.1 (e_167 (241, .iaload, 1) (List.mem_of_getElem? (i := 121) rfl)) ⟨rfl, rfl⟩ (by decide) (h.2.2.2.2.2.2.2.2.1 2 (by decide)) ?_
  refine y_isn (e_167 (242, .istore_n 1, 1) (List.mem_of_getElem? (i := 122) rfl)) (by decide) ?_
  have g1 : pm_get (pm_put1 lv 1 (.int (hf 2))) 1 = some (.int (hf 2)) := x_get_self
  have g0 : pm_get (pm_put1 lv 1 (.int (hf 2))) 0 = some (.ref am) := y_gpr g0 (by decide)
  show x_Gd xs L J _ m_167 _ 243 (pm_put1 lv 1 (.int (hf 2))) [] G
  generalize (pm_put1 lv 1 (.int (hf 2))) = lv3 at g0 g1 ⊢
  refine y_iln (e_167 (243, .iload_n 1, 1) (List.mem_of_getElem? (i := 123) rfl)) g1 ?_
  refine y_st (e_167 (244, .iconst 4, 1) (List.mem_of_getElem? (i := 124) rfl)) ⟨rfl, rfl, rfl, rfl⟩ ?_
  refine y_icm (e_167 (245, .if_icmp .ne 9, 3) (List.mem_of_getElem? (i := 125) rfl)) rfl (fun _ => ?_) (fun hc => ?_)
  rotate_left
  · have z := y_hI.2.2.2.1 hc
    rw [z] at hcn
    exact absurd hcn (by decide)
  have e13 : ((Int8.ofInt 13).toInt32 + hf 2).toInt = 13 + (hf 2).toInt := (y_add (by show -2147483648 ≤ (13 : Int) + _; omega) (by show (13 : Int) + _ ≤ 2147483647; omega)).trans rfl
  have e17 : ((Int8.ofInt 17).toInt32 + hf 2).toInt = 17 + (hf 2).toInt := (y_add (by show -2147483648 ≤ (17 : Int) + _; omega) (by show (17 : Int) + _ ≤ 2147483647; omega)).trans rfl
  have e21 : ((Int8.ofInt 21).toInt32 + hf 2).toInt = 21 + (hf 2).toInt := (y_add (by show -2147483648 ≤ (21 : Int) + _; omega) (by show (21 : Int) + _ ≤ 2147483647; omega)).trans rfl
  refine y_aln (e_167 (254, .aload_n 0, 1) (List.mem_of_getElem? (i := 130) rfl)) g0 ?_
  refine y_c1 (K' := _) (e_167 (255, .invokevirtual 170, 3) (List.mem_of_getElem? (i := 131) rfl)) ⟨rfl, rfl, rfl⟩ t_17_170 ⟨by decide, by decide, by decide, by decide⟩ m_163_ok rfl (by decide) (y_recv h.T.I h.T.t ⟨rfl, rfl⟩) (Nat.le_of_ble_eq_true rfl) (Nat.le_of_ble_eq_true rfl) (hN1 _ _ _ _ _ _ _ _ _ _ _ _ h.T) (fun r1 Gc hc1 => ?_)
  obtain ⟨rfl, hc2⟩ := hc1
  simp only [Option.toList_some, Option.toList_none, List.cons_append, List.nil_append]
  have hc3 := h.nxt hc2
  refine y_aln (e_167 (258, .aload_n 0, 1) (List.mem_of_getElem? (i := 132) rfl)) g0 ?_
  refine y_st (e_167 (259, .bipush 13, 2) (List.mem_of_getElem? (i := 133) rfl)) ⟨rfl, rfl, rfl, rfl⟩ ?_
  refine y_iln (e_167 (261, .iload_n 1, 1) (List.mem_of_getElem? (i := 134) rfl)) g1 ?_
  refine y_st (e_167 (262, .iadd, 1) (List.mem_of_getElem? (i := 135) rfl)) ⟨rfl, rfl, rfl, rfl⟩ ?_
  refine y_st (e_167 (263, .iconst 2, 1) (List.mem_of_getElem? (i := 136) rfl)) ⟨rfl, rfl, rfl, rfl⟩ ?_
  refine y_st (e_167 (264, .bipush 9, 2) (List.mem_of_getElem? (i := 137) rfl)) ⟨rfl, rfl, rfl, rfl⟩ ?_
  refine y_c4 (K' := _) (e_167 (266, .invokevirtual 205, 3) (List.mem_of_getElem? (i := 138) rfl)) ⟨rfl, rfl, rfl⟩ t_17_205 ⟨by decide, by decide, by decide, by decide⟩ m_172_ok rfl (by decide) (y_recv hc3.T.I hc3.T.t ⟨rfl, rfl⟩) (Nat.le_of_ble_eq_true rfl) (Nat.le_of_ble_eq_true rfl) (k_puts_yes hc3 htk1 a1 b1 ⟨by omega, by omega⟩ (y_okA (t_37_p _ (by omega) (by omega))) hN2) (fun r1 Gc hc1 => ?_)
  obtain ⟨rfl, q1⟩ := hc1
  simp only [Option.toList_some, Option.toList_none, List.cons_append, List.nil_append]
  refine y_ifc (e_167 (269, .ifCond .eq 31, 3) (List.mem_of_getElem? (i := 139) rfl)) rfl (fun hc => absurd hc (by decide)) (fun _ => ?_)
  refine y_aln (e_167 (272, .aload_n 0, 1) (List.mem_of_getElem? (i := 140) rfl)) g0 ?_
  refine y_st (e_167 (273, .bipush 17, 2) (List.mem_of_getElem? (i := 141) rfl)) ⟨rfl, rfl, rfl, rfl⟩ ?_
  refine y_iln (e_167 (275, .iload_n 1, 1) (List.mem_of_getElem? (i := 142) rfl)) g1 ?_
  refine y_st (e_167 (276, .iadd, 1) (List.mem_of_getElem? (i := 143) rfl)) ⟨rfl, rfl, rfl, rfl⟩ ?_
  refine y_st (e_167 (277, .iconst 1, 1) (List.mem_of_getElem? (i := 144) rfl)) ⟨rfl, rfl, rfl, rfl⟩ ?_
  refine y_st (e_167 (278, .bipush 9, 2) (List.mem_of_getElem? (i := 145) rfl)) ⟨rfl, rfl, rfl, rfl⟩ ?_
  refine y_c4 (K' := _) (e_167 (280, .invokevirtual 205, 3) (List.mem_of_getElem? (i := 146) rfl)) ⟨rfl, rfl, rfl⟩ t_17_205 ⟨by decide, by decide, by decide, by decide⟩ m_172_ok rfl (by decide) (y_recv q1.T.I q1.T.t ⟨rfl, rfl⟩) (Nat.le_of_ble_eq_true rfl) (Nat.le_of_ble_eq_true rfl) (k_puts_no q1 hno) (fun r1 Gc hc1 => ?_)
  obtain ⟨rfl, hz⟩ := hc1
  simp only [Option.toList_some, Option.toList_none, List.cons_append, List.nil_append]
  refine y_ifc (e_167 (283, .ifCond .eq 17, 3) (List.mem_of_getElem? (i := 147) rfl)) rfl (fun _ => ?_) (fun hc => absurd hc (by decide))
  refine y_st (e_167 (300, .iconst 0, 1) (List.mem_of_getElem? (i := 156) rfl)) ⟨rfl, rfl, rfl, rfl⟩ ?_
  exact y_ret (e_167 (301, .ireturn, 1) (List.mem_of_getElem? (i := 157) rfl)) ⟨rfl, y_rb (Or.inl rfl)⟩ ⟨rfl, hz⟩
set_option maxHeartbeats 2000000 in
set_option maxRecDepth 100000 in
theorem v_passage_3 (h : MS th am mb hb nb rb f n lim p0 tok0 at0 sp0 num0 wd0 hf nf on G) (hw : tok0 = Int32.ofInt 1 ∧ wd0 = t_W 5) (hcn : (hf 2).toInt < 4) (hN1 : NXm f n lim p0 num0 wd0 p1 tok1 at1 sp1 num1 wd1) (htk1 : tok1 = Int32.ofInt 2) (a1 : 2 ≤ num1.toInt) (b1 : num1.toInt ≤ 9) (hN2 : NXm f n lim p1 num1 wd1 p2 tok2 at2 sp2 num2 wd2) (htk2 : tok2 = Int32.ofInt 2) (a2 : 1 ≤ num2.toInt) (b2 : num2.toInt ≤ 9) (hN3 : NXm f n lim p2 num2 wd2 p3 tok3 at3 sp3 num3 wd3) (hno : tok3 ≠ Int32.ofInt 2 ∨ num3.toInt < 0 ∨ 7 < num3.toInt) : x_Gd xs L J (d + 6) m_167 (fun r G' => r = some (.int 0) ∧ x_sl G' am 16 = some (.int at3) ∧ x_sl G' am 15 = some (.int (t_km tok3))) 0 (lv_args 0 [.ref am]) [] G := by
  have g0 : pm_get (lv_args 0 [.ref am]) 0 = some (.ref am) := rfl
  generalize (lv_args 0 [.ref am]) = lv at g0 ⊢
  refine v_to_passage h g0 hw ?_
  obtain ⟨⟨p0_, p1_⟩, ⟨t0_, t1_⟩, ⟨l0_, l1_⟩, ⟨m0_, m1_⟩⟩ := h.cn
  refine y_aln (e_167 (236, .aload_n 0, 1) (List.mem_of_getElem? (i := 118) rfl)) g0 ?_
  refine y_getf h.T.I h.T.t (e_167 (237, .getfield 37, 3) (List.mem_of_getElem? (i := 119) rfl)) u_17_37 ⟨rfl, rfl⟩ h.2.2.2.2.1 ?_
  refine y_st (e_167 (240, .iconst 2, 1) (List.mem_of_getElem? (i := 120) rfl)) ⟨rfl, rfl, rfl, rfl⟩ ?_
  refine y_iald h.T.I h.2.1 (e_167 (241, .iaload, 1) (List.mem_of_getElem? (i := 121) rfl)) ⟨rfl, rfl⟩ (by decide) (h.2.2.2.2.2.2.2.2.1 2 (by decide)) ?_
  refine y_isn (e_167 (242, .istore_n 1, 1) (List.mem_of_getElem? (i := 122) rfl)) (by decide) ?_
  have g1 : pm_get (pm_put1 lv 1 (.int (hf 2))) 1 = some (.int (hf 2)) := x_get_self
  have g0 : pm_get (pm_put1 lv 1 (.int (hf 2))) 0 = some (.ref am) := y_gpr g0 (by decide)
  show x_Gd xs L J _ m_167 _ 243 (pm_put1 lv 1 (.int (hf 2))) [] G
  generalize (pm_put1 lv 1 (.int (hf 2))) = lv3 at g0 g1 ⊢
  refine y_iln (e_167 (243, .iload_n 1, 1) (List.mem_of_getElem? (i := 123) rfl)) g1 ?_
  refine y_st (e_167 (244, .iconst 4, 1) (List.mem_of_getElem? (i := 124) rfl)) ⟨rfl, rfl, rfl, rfl⟩ ?_
  refine y_icm (e_167 (245, .if_icmp .ne 9, 3) (List.mem_of_getElem? (i := 125) rfl)) rfl (fun _ => ?_) (fun hc => ?_)
  rotate_left
  · have z := y_hI.2.2.2.1 hc
    rw [z] at hcn
    exact absurd hcn (by decide)
  have e13 : ((Int8.ofInt 13).toInt32 + hf 2).toInt = 13 + (hf 2).toInt := (y_add (by show -2147483648 ≤ (13 : Int) + _; omega) (by show (13 : Int) + _ ≤ 2147483647; omega)).trans rfl
  have e17 : ((Int8.ofInt 17).toInt32 + hf 2).toInt = 17 + (hf 2).toInt := (y_add (by show -2147483648 ≤ (17 : Int) + _; omega) (by show (17 : Int) + _ ≤ 2147483647; omega)).trans rfl
  have e21 : ((Int8.ofInt 21).toInt32 + hf 2).toInt = 21 + (hf 2).toInt := (y_add (by show -2147483648 ≤ (21 : Int) + _; omega) (by show (21 : Int) + _ ≤ 2147483647; omega)).trans rfl
  refine y_aln (e_167 (254, .aload_n 0, 1) (List.mem_of_getElem? (i := 130) rfl)) g0 ?_
  refine y_c1 (K' := _) (e_167 (255, .invokevirtual 170, 3) (List.mem_of_getElem? (i := 131) rfl)) ⟨rfl, rfl, rfl⟩ t_17_170 ⟨by decide, by decide, by decide, by decide⟩ m_163_ok rfl (by decide) (y_recv h.T.I h.T.t ⟨rfl, rfl⟩) (Nat.le_of_ble_eq_true rfl) (Nat.le_of_ble_eq_true rfl) (hN1 _ _ _ _ _ _ _ _ _ _ _ _ h.T) (fun r1 Gc hc1 => ?_)
  obtain ⟨rfl, hc2⟩ := hc1
  simp only [Option.toList_some, Option.toList_none, List.cons_append, List.nil_append]
  have hc3 := h.nxt hc2
  refine y_aln (e_167 (258, .aload_n 0, 1) (List.mem_of_getElem? (i := 132) rfl)) g0 ?_
  refine y_st (e_167 (259, .bipush 13, 2) (List.mem_of_getElem? (i := 133) rfl)) ⟨rfl, rfl, rfl, rfl⟩ ?_
  refine y_iln (e_167 (261, .iload_n 1, 1) (List.mem_of_getElem? (i := 134) rfl)) g1 ?_
  refine y_st (e_167 (262, .iadd, 1) (List.mem_of_getElem? (i := 135) rfl)) ⟨rfl, rfl, rfl, rfl⟩ ?_
  refine y_st (e_167 (263, .iconst 2, 1) (List.mem_of_getElem? (i := 136) rfl)) ⟨rfl, rfl, rfl, rfl⟩ ?_
  refine y_st (e_167 (264, .bipush 9, 2) (List.mem_of_getElem? (i := 137) rfl)) ⟨rfl, rfl, rfl, rfl⟩ ?_
  refine y_c4 (K' := _) (e_167 (266, .invokevirtual 205, 3) (List.mem_of_getElem? (i := 138) rfl)) ⟨rfl, rfl, rfl⟩ t_17_205 ⟨by decide, by decide, by decide, by decide⟩ m_172_ok rfl (by decide) (y_recv hc3.T.I hc3.T.t ⟨rfl, rfl⟩) (Nat.le_of_ble_eq_true rfl) (Nat.le_of_ble_eq_true rfl) (k_puts_yes hc3 htk1 a1 b1 ⟨by omega, by omega⟩ (y_okA (t_37_p _ (by omega) (by omega))) hN2) (fun r1 Gc hc1 => ?_)
  obtain ⟨rfl, q1⟩ := hc1
  simp only [Option.toList_some, Option.toList_none, List.cons_append, List.nil_append]
  refine y_ifc (e_167 (269, .ifCond .eq 31, 3) (List.mem_of_getElem? (i := 139) rfl)) rfl (fun hc => absurd hc (by decide)) (fun _ => ?_)
  refine y_aln (e_167 (272, .aload_n 0, 1) (List.mem_of_getElem? (i := 140) rfl)) g0 ?_
  refine y_st (e_167 (273, .bipush 17, 2) (List.mem_of_getElem? (i := 141) rfl)) ⟨rfl, rfl, rfl, rfl⟩ ?_
  refine y_iln (e_167 (275, .iload_n 1, 1) (List.mem_of_getElem? (i := 142) rfl)) g1 ?_
  refine y_st (e_167 (276, .iadd, 1) (List.mem_of_getElem? (i := 143) rfl)) ⟨rfl, rfl, rfl, rfl⟩ ?_
  refine y_st (e_167 (277, .iconst 1, 1) (List.mem_of_getElem? (i := 144) rfl)) ⟨rfl, rfl, rfl, rfl⟩ ?_
  refine y_st (e_167 (278, .bipush 9, 2) (List.mem_of_getElem? (i := 145) rfl)) ⟨rfl, rfl, rfl, rfl⟩ ?_
  refine y_c4 (K' := _) (e_167 (280, .invokevirtual 205, 3) (List.mem_of_getElem? (i := 146) rfl)) ⟨rfl, rfl, rfl⟩ t_17_205 ⟨by decide, by decide, by decide, by decide⟩ m_172_ok rfl (by decide) (y_recv q1.T.I q1.T.t ⟨rfl, rfl⟩) (Nat.le_of_ble_eq_true rfl) (Nat.le_of_ble_eq_true rfl) (k_puts_yes q1 htk2 a2 b2 ⟨by omega, by omega⟩ (y_okA (t_37_p _ (by omega) (by omega))) hN3) (fun r1 Gc hc1 => ?_)
  obtain ⟨rfl, q2⟩ := hc1
  simp only [Option.toList_some, Option.toList_none, List.cons_append, List.nil_append]
  refine y_ifc (e_167 (283, .ifCond .eq 17, 3) (List.mem_of_getElem? (i := 147) rfl)) rfl (fun hc => absurd hc (by decide)) (fun _ => ?_)
  refine y_aln (e_167 (286, .aload_n 0, 1) (List.mem_of_getElem? (i := 148) rfl)) g0 ?_
  refine y_st (e_167 (287, .bipush 21, 2) (List.mem_of_getElem? (i := 149) rfl)) ⟨rfl, rfl, rfl, rfl⟩ ?_
  refine y_iln (e_167 (289, .iload_n 1, 1) (List.mem_of_getElem? (i := 150) rfl)) g1 ?_
  refine y_st (e_167 (290, .iadd, 1) (List.mem_of_getElem? (i := 151) rfl)) ⟨rfl, rfl, rfl, rfl⟩ ?_
  refine y_st (e_167 (291, .iconst 0, 1) (List.mem_of_getElem? (i := 152) rfl)) ⟨rfl, rfl, rfl, rfl⟩ ?_
  refine y_st (e_167 (292, .bipush 7, 2) (List.mem_of_getElem? (i := 153) rfl)) ⟨rfl, rfl, rfl, rfl⟩ ?_
  refine y_c4 (K' := _) (e_167 (294, .invokevirtual 205, 3) (List.mem_of_getElem? (i := 154) rfl)) ⟨rfl, rfl, rfl⟩ t_17_205 ⟨by decide, by decide, by decide, by decide⟩ m_172_ok rfl (by decide) (y_recv q2.T.I q2.T.t ⟨rfl, rfl⟩) (Nat.le_of_ble_eq_true rfl) (Nat.le_of_ble_eq_true rfl) (k_puts_no q2 hno) (fun r1 Gc hc1 => ?_)
  obtain ⟨rfl, hz⟩ := hc1
  simp only [Option.toList_some, Option.toList_none, List.cons_append, List.nil_append]
  refine y_ifc (e_167 (297, .ifCond .ne 5, 3) (List.mem_of_getElem? (i := 155) rfl)) rfl (fun hc => absurd hc (by decide)) (fun _ => ?_)
  refine y_st (e_167 (300, .iconst 0, 1) (List.mem_of_getElem? (i := 156) rfl)) ⟨rfl, rfl, rfl, rfl⟩ ?_
  exact y_ret (e_167 (301, .ireturn, 1) (List.mem_of_getElem? (i := 157) rfl)) ⟨rfl, y_rb (Or.inl rfl)⟩ ⟨rfl, hz⟩
set_option maxHeartbeats 2000000 in
set_option maxRecDepth 100000 in
theorem v_passage_ok (h : MS th am mb hb nb rb f n lim p0 tok0 at0 sp0 num0 wd0 hf nf on G) (hw : tok0 = Int32.ofInt 1 ∧ wd0 = t_W 5) (hcn : (hf 2).toInt < 4) (hN1 : NXm f n lim p0 num0 wd0 p1 tok1 at1 sp1 num1 wd1) (htk1 : tok1 = Int32.ofInt 2) (a1 : 2 ≤ num1.toInt) (b1 : num1.toInt ≤ 9) (hN2 : NXm f n lim p1 num1 wd1 p2 tok2 at2 sp2 num2 wd2) (htk2 : tok2 = Int32.ofInt 2) (a2 : 1 ≤ num2.toInt) (b2 : num2.toInt ≤ 9) (hN3 : NXm f n lim p2 num2 wd2 p3 tok3 at3 sp3 num3 wd3) (htk3 : tok3 = Int32.ofInt 2) (a3 : 0 ≤ num3.toInt) (b3 : num3.toInt ≤ 7) (hN4 : NXm f n lim p3 num3 wd3 p4 tok4 at4 sp4 num4 wd4) : x_Gd xs L J (d + 6) m_167 (fun r G' => r = some (.int 1) ∧ MS th am mb hb nb rb f n lim p4 tok4 at4 sp4 num4 wd4 (fun i => if i = 2 then hf 2 + Int32.ofInt 1 else (fun i => if i = ((Int8.ofInt 21).toInt32 + hf 2).toInt.toNat then num3 else (fun i => if i = ((Int8.ofInt 17).toInt32 + hf 2).toInt.toNat then num2 else (fun i => if i = ((Int8.ofInt 13).toInt32 + hf 2).toInt.toNat then num1 else hf i) i) i) i) nf on G') 0 (lv_args 0 [.ref am]) [] G := by
  have g0 : pm_get (lv_args 0 [.ref am]) 0 = some (.ref am) := rfl
  generalize (lv_args 0 [.ref am]) = lv at g0 ⊢
  refine v_to_passage h g0 hw ?_
  obtain ⟨⟨p0_, p1_⟩, ⟨t0_, t1_⟩, ⟨l0_, l1_⟩, ⟨m0_, m1_⟩⟩ := h.cn
  refine y_aln (e_167 (236, .aload_n 0, 1) (List.mem_of_getElem? (i := 118) rfl)) g0 ?_
  refine y_getf h.T.I h.T.t (e_167 (237, .getfield 37, 3) (List.mem_of_getElem? (i := 119) rfl)) u_17_37 ⟨rfl, rfl⟩ h.2.2.2.2.1 ?_
  refine y_st (e_167 (240, .iconst 2, 1) (List.mem_of_getElem? (i := 120) rfl)) ⟨rfl, rfl, rfl, rfl⟩ ?_
  refine y_iald h.T.I h.2.1 (e_167 (241, .iaload, 1) (List.mem_of_getElem? (i := 121) rfl)) ⟨rfl, rfl⟩ (by decide) (h.2.2.2.2.2.2.2.2.1 2 (by decide)) ?_
  refine y_isn (e_167 (242, .istore_n 1, 1) (List.mem_of_getElem? (i := 122) rfl)) (by decide) ?_
  have g1 : pm_get (pm_put1 lv 1 (.int (hf 2))) 1 = some (.int (hf 2)) := x_get_self
  have g0 : pm_get (pm_put1 lv 1 (.int (hf 2))) 0 = some (.ref am) := y_gpr g0 (by decide)
  show x_Gd xs L J _ m_167 _ 243 (pm_put1 lv 1 (.int (hf 2))) [] G
  generalize (pm_put1 lv 1 (.int (hf 2))) = lv3 at g0 g1 ⊢
  refine y_iln (e_167 (243, .iload_n 1, 1) (List.mem_of_getElem? (i := 123) rfl)) g1 ?_
  refine y_st (e_167 (244, .iconst 4, 1) (List.mem_of_getElem? (i := 124) rfl)) ⟨rfl, rfl, rfl, rfl⟩ ?_
  refine y_icm (e_167 (245, .if_icmp .ne 9, 3) (List.mem_of_getElem? (i := 125) rfl)) rfl (fun _ => ?_) (fun hc => ?_)
  rotate_left
  · have z := y_hI.2.2.2.1 hc
    rw [z] at hcn
    exact absurd hcn (by decide)
  have e13 : ((Int8.ofInt 13).toInt32 + hf 2).toInt = 13 + (hf 2).toInt := (y_add (by show -2147483648 ≤ (13 : Int) + _; omega) (by show (13 : Int) + _ ≤ 2147483647; omega)).trans rfl
  have e17 : ((Int8.ofInt 17).toInt32 + hf 2).toInt = 17 + (hf 2).toInt := (y_add (by show -2147483648 ≤ (17 : Int) + _; omega) (by show (17 : Int) + _ ≤ 2147483647; omega)).trans rfl
  have e21 : ((Int8.ofInt 21).toInt32 + hf 2).toInt = 21 + (hf 2).toInt := (y_add (by show -2147483648 ≤ (21 : Int) + _; omega) (by show (21 : Int) + _ ≤ 2147483647; omega)).trans rfl
  refine y_aln (e_167 (254, .aload_n 0, 1) (List.mem_of_getElem? (i := 130) rfl)) g0 ?_
  refine y_c1 (K' := _) (e_167 (255, .invokevirtual 170, 3) (List.mem_of_getElem? (i := 131) rfl)) ⟨rfl, rfl, rfl⟩ t_17_170 ⟨by decide, by decide, by decide, by decide⟩ m_163_ok rfl (by decide) (y_recv h.T.I h.T.t ⟨rfl, rfl⟩) (Nat.le_of_ble_eq_true rfl) (Nat.le_of_ble_eq_true rfl) (hN1 _ _ _ _ _ _ _ _ _ _ _ _ h.T) (fun r1 Gc hc1 => ?_)
  obtain ⟨rfl, hc2⟩ := hc1
  simp only [Option.toList_some, Option.toList_none, List.cons_append, List.nil_append]
  have hc3 := h.nxt hc2
  refine y_aln (e_167 (258, .aload_n 0, 1) (List.mem_of_getElem? (i := 132) rfl)) g0 ?_
  refine y_st (e_167 (259, .bipush 13, 2) (List.mem_of_getElem? (i := 133) rfl)) ⟨rfl, rfl, rfl, rfl⟩ ?_
  refine y_iln (e_167 (261, .iload_n 1, 1) (List.mem_of_getElem? (i := 134) rfl)) g1 ?_
  refine y_st (e_167 (262, .iadd, 1) (List.mem_of_getElem? (i := 135) rfl)) ⟨rfl, rfl, rfl, rfl⟩ ?_
  refine y_st (e_167 (263, .iconst 2, 1) (List.mem_of_getElem? (i := 136) rfl)) ⟨rfl, rfl, rfl, rfl⟩ ?_
  refine y_st (e_167 (264, .bipush 9, 2) (List.mem_of_getElem? (i := 137) rfl)) ⟨rfl, rfl, rfl, rfl⟩ ?_
  refine y_c4 (K' := _) (e_167 (266, .invokevirtual 205, 3) (List.mem_of_getElem? (i := 138) rfl)) ⟨rfl, rfl, rfl⟩ t_17_205 ⟨by decide, by decide, by decide, by decide⟩ m_172_ok rfl (by decide) (y_recv hc3.T.I hc3.T.t ⟨rfl, rfl⟩) (Nat.le_of_ble_eq_true rfl) (Nat.le_of_ble_eq_true rfl) (k_puts_yes hc3 htk1 a1 b1 ⟨by omega, by omega⟩ (y_okA (t_37_p _ (by omega) (by omega))) hN2) (fun r1 Gc hc1 => ?_)
  obtain ⟨rfl, q1⟩ := hc1
  simp only [Option.toList_some, Option.toList_none, List.cons_append, List.nil_append]
  refine y_ifc (e_167 (269, .ifCond .eq 31, 3) (List.mem_of_getElem? (i := 139) rfl)) rfl (fun hc => absurd hc (by decide)) (fun _ => ?_)
  refine y_aln (e_167 (272, .aload_n 0, 1) (List.mem_of_getElem? (i := 140) rfl)) g0 ?_
  refine y_st (e_167 (273, .bipush 17, 2) (List.mem_of_getElem? (i := 141) rfl)) ⟨rfl, rfl, rfl, rfl⟩ ?_
  refine y_iln (e_167 (275, .iload_n 1, 1) (List.mem_of_getElem? (i := 142) rfl)) g1 ?_
  refine y_st (e_167 (276, .iadd, 1) (List.mem_of_getElem? (i := 143) rfl)) ⟨rfl, rfl, rfl, rfl⟩ ?_
  refine y_st (e_167 (277, .iconst 1, 1) (List.mem_of_getElem? (i := 144) rfl)) ⟨rfl, rfl, rfl, rfl⟩ ?_
  refine y_st (e_167 (278, .bipush 9, 2) (List.mem_of_getElem? (i := 145) rfl)) ⟨rfl, rfl, rfl, rfl⟩ ?_
  refine y_c4 (K' := _) (e_167 (280, .invokevirtual 205, 3) (List.mem_of_getElem? (i := 146) rfl)) ⟨rfl, rfl, rfl⟩ t_17_205 ⟨by decide, by decide, by decide, by decide⟩ m_172_ok rfl (by decide) (y_recv q1.T.I q1.T.t ⟨rfl, rfl⟩) (Nat.le_of_ble_eq_true rfl) (Nat.le_of_ble_eq_true rfl) (k_puts_yes q1 htk2 a2 b2 ⟨by omega, by omega⟩ (y_okA (t_37_p _ (by omega) (by omega))) hN3) (fun r1 Gc hc1 => ?_)
  obtain ⟨rfl, q2⟩ := hc1
  simp only [Option.toList_some, Option.toList_none, List.cons_append, List.nil_append]
  refine y_ifc (e_167 (283, .ifCond .eq 17, 3) (List.mem_of_getElem? (i := 147) rfl)) rfl (fun hc => absurd hc (by decide)) (fun _ => ?_)
  refine y_aln (e_167 (286, .aload_n 0, 1) (List.mem_of_getElem? (i := 148) rfl)) g0 ?_
  refine y_st (e_167 (287, .bipush 21, 2) (List.mem_of_getElem? (i := 149) rfl)) ⟨rfl, rfl, rfl, rfl⟩ ?_
  refine y_iln (e_167 (289, .iload_n 1, 1) (List.mem_of_getElem? (i := 150) rfl)) g1 ?_
  refine y_st (e_167 (290, .iadd, 1) (List.mem_of_getElem? (i := 151) rfl)) ⟨rfl, rfl, rfl, rfl⟩ ?_
  refine y_st (e_167 (291, .iconst 0, 1) (List.mem_of_getElem? (i := 152) rfl)) ⟨rfl, rfl, rfl, rfl⟩ ?_
  refine y_st (e_167 (292, .bipush 7, 2) (List.mem_of_getElem? (i := 153) rfl)) ⟨rfl, rfl, rfl, rfl⟩ ?_
  refine y_c4 (K' := _) (e_167 (294, .invokevirtual 205, 3) (List.mem_of_getElem? (i := 154) rfl)) ⟨rfl, rfl, rfl⟩ t_17_205 ⟨by decide, by decide, by decide, by decide⟩ m_172_ok rfl (by decide) (y_recv q2.T.I q2.T.t ⟨rfl, rfl⟩) (Nat.le_of_ble_eq_true rfl) (Nat.le_of_ble_eq_true rfl) (k_puts_yes q2 htk3 a3 b3 ⟨by omega, by omega⟩ (y_okA (t_37_p _ (by omega) (by omega))) hN4) (fun r1 Gc hc1 => ?_)
  obtain ⟨rfl, q3⟩ := hc1
  simp only [Option.toList_some, Option.toList_none, List.cons_append, List.nil_append]
  refine y_ifc (e_167 (297, .ifCond .ne 5, 3) (List.mem_of_getElem? (i := 155) rfl)) rfl (fun _ => ?_) (fun hc => absurd hc (by decide))
  have dc := q3.2.2.2.2.2.2.2.2.1 2 (by decide)
  dsimp only at dc
  rw [if_neg (by omega), if_neg (by omega), if_neg (by omega)] at dc
  refine y_aln (e_167 (302, .aload_n 0, 1) (List.mem_of_getElem? (i := 158) rfl)) g0 ?_
  refine y_getf q3.T.I q3.T.t (e_167 (303, .getfield 37, 3) (List.mem_of_getElem? (i := 159) rfl)) u_17_37 ⟨rfl, rfl⟩ q3.2.2.2.2.1 ?_
  refine y_st (e_167 (306, .iconst 2, 1) (List.mem_of_getElem? (i := 160) rfl)) ⟨rfl, rfl, rfl, rfl⟩ ?_
  refine y_st (e_167 (307, .dup2, 1) (List.mem_of_getElem? (i := 161) rfl)) ⟨rfl, rfl, rfl, rfl⟩ ?_
  refine y_iald q3.T.I q3.2.1 (e_167 (308, .iaload, 1) (List.mem_of_getElem? (i := 162) rfl)) ⟨rfl, rfl⟩ (by decide) dc ?_
  refine y_st (e_167 (309, .iconst 1, 1) (List.mem_of_getElem? (i := 163) rfl)) ⟨rfl, rfl, rfl, rfl⟩ ?_
  refine y_st (e_167 (310, .iadd, 1) (List.mem_of_getElem? (i := 164) rfl)) ⟨rfl, rfl, rfl, rfl⟩ ?_
  have ec : (hf 2 + Int32.ofInt 1).toInt = (hf 2).toInt + 1 := y_add1 (t := hf 2) (by omega)
  refine y_iast q3.T.I q3.2.1 (e_167 (311, .iastore, 1) (List.mem_of_getElem? (i := 165) rfl)) ⟨rfl, rfl⟩ ⟨by decide, by decide⟩ (fun Gi ui => ?_)
  have qz := q3.put (k := 2) ui (q3.T.I.upd ui q3.2.1 (y_okI (lo := 0) (hi := 4) rfl (by omega) (by omega)))
  refine y_st (e_167 (312, .iconst 1, 1) (List.mem_of_getElem? (i := 166) rfl)) ⟨rfl, rfl, rfl, rfl⟩ ?_
  exact y_ret (e_167 (313, .ireturn, 1) (List.mem_of_getElem? (i := 167) rfl)) ⟨rfl, y_rb (Or.inr rfl)⟩ ⟨rfl, qz⟩
set_option maxHeartbeats 2000000 in
set_option maxRecDepth 100000 in
theorem v_mill_0 (h : MS th am mb hb nb rb f n lim p0 tok0 at0 sp0 num0 wd0 hf nf on G) (hw : tok0 = Int32.ofInt 1 ∧ wd0 = t_W 8) (hcn : (hf 4).toInt = 4) : x_Gd xs L J (d + 6) m_167 (fun r G' => r = some (.int 0) ∧ x_sl G' am 16 = some (.int at0) ∧ x_sl G' am 15 = some (.int (Int32.ofInt 4))) 0 (lv_args 0 [.ref am]) [] G := by
  have g0 : pm_get (lv_args 0 [.ref am]) 0 = some (.ref am) := rfl
  generalize (lv_args 0 [.ref am]) = lv at g0 ⊢
  refine v_to_mill h g0 hw ?_
  obtain ⟨⟨p0_, p1_⟩, ⟨t0_, t1_⟩, ⟨l0_, l1_⟩, ⟨m0_, m1_⟩⟩ := h.cn
  refine y_aln (e_167 (339, .aload_n 0, 1) (List.mem_of_getElem? (i := 179) rfl)) g0 ?_
  refine y_getf h.T.I h.T.t (e_167 (340, .getfield 37, 3) (List.mem_of_getElem? (i := 180) rfl)) u_17_37 ⟨rfl, rfl⟩ h.2.2.2.2.1 ?_
  refine y_st (e_167 (343, .iconst 4, 1) (List.mem_of_getElem? (i := 181) rfl)) ⟨rfl, rfl, rfl, rfl⟩ ?_
  refine y_iald h.T.I h.2.1 (e_167 (344, .iaload, 1) (List.mem_of_getElem? (i := 182) rfl)) ⟨rfl, rfl⟩ (by decide) (h.2.2.2.2.2.2.2.2.1 4 (by decide)) ?_
  refine y_isn (e_167 (345, .istore_n 1, 1) (List.mem_of_getElem? (i := 183) rfl)) (by decide) ?_
  have g1 : pm_get (pm_put1 lv 1 (.int (hf 4))) 1 = some (.int (hf 4)) := x_get_self
  have g0 : pm_get (pm_put1 lv 1 (.int (hf 4))) 0 = some (.ref am) := y_gpr g0 (by decide)
  show x_Gd xs L J _ m_167 _ 346 (pm_put1 lv 1 (.int (hf 4))) [] G
  generalize (pm_put1 lv 1 (.int (hf 4))) = lv3 at g0 g1 ⊢
  refine y_iln (e_167 (346, .iload_n 1, 1) (List.mem_of_getElem? (i := 184) rfl)) g1 ?_
  refine y_st (e_167 (347, .iconst 4, 1) (List.mem_of_getElem? (i := 185) rfl)) ⟨rfl, rfl, rfl, rfl⟩ ?_
  refine y_icm (e_167 (348, .if_icmp .ne 9, 3) (List.mem_of_getElem? (i := 186) rfl)) rfl (fun hc => absurd (Int32.toInt_inj.mp (by rw [hcn]; rfl)) (y_hI.2.2.1 hc)) (fun _ => ?_)
  refine y_aln (e_167 (351, .aload_n 0, 1) (List.mem_of_getElem? (i := 187) rfl)) g0 ?_
  refine y_st (e_167 (352, .iconst 4, 1) (List.mem_of_getElem? (i := 188) rfl)) ⟨rfl, rfl, rfl, rfl⟩ ?_
  refine y_c2 (K' := _) (e_167 (353, .invokevirtual 167, 3) (List.mem_of_getElem? (i := 189) rfl)) ⟨rfl, rfl, rfl⟩ t_17_167 ⟨by decide, by decide, by decide, by decide⟩ m_171_ok rfl (by decide) (y_recv h.T.I h.T.t ⟨rfl, rfl⟩) (Nat.le_of_ble_eq_true rfl) (Nat.le_of_ble_eq_true rfl) (k_bad h _) (fun r1 Gc hc1 => ?_)
  obtain ⟨rfl, hz⟩ := hc1
  simp only [Option.toList_some, Option.toList_none, List.cons_append, List.nil_append]
  exact y_ret (e_167 (356, .ireturn, 1) (List.mem_of_getElem? (i := 190) rfl)) ⟨rfl, y_rb (Or.inl rfl)⟩ ⟨rfl, hz⟩
set_option maxHeartbeats 2000000 in
set_option maxRecDepth 100000 in
theorem v_mill_a (h : MS th am mb hb nb rb f n lim p0 tok0 at0 sp0 num0 wd0 hf nf on G) (hw : tok0 = Int32.ofInt 1 ∧ wd0 = t_W 8) (hcn : (hf 4).toInt < 4) (hN1 : NXm f n lim p0 num0 wd0 p1 tok1 at1 sp1 num1 wd1) (hno : ¬ (tok1 = Int32.ofInt 1 ∧ ∀ x : Nat, x < 25 → wd1 ≠ t_W x) ∨ t_Told hf nf wd1) : x_Gd xs L J (d + 6) m_167 (fun r G' => r = some (.int 0) ∧ x_sl G' am 16 = some (.int at1) ∧ x_sl G' am 15 = some (.int (t_kf tok1 wd1))) 0 (lv_args 0 [.ref am]) [] G := by
  have g0 : pm_get (lv_args 0 [.ref am]) 0 = some (.ref am) := rfl
  generalize (lv_args 0 [.ref am]) = lv at g0 ⊢
  refine v_to_mill h g0 hw ?_
  obtain ⟨⟨p0_, p1_⟩, ⟨t0_, t1_⟩, ⟨l0_, l1_⟩, ⟨m0_, m1_⟩⟩ := h.cn
  refine y_aln (e_167 (339, .aload_n 0, 1) (List.mem_of_getElem? (i := 179) rfl)) g0 ?_
  refine y_getf h.T.I h.T.t (e_167 (340, .getfield 37, 3) (List.mem_of_getElem? (i := 180) rfl)) u_17_37 ⟨rfl, rfl⟩ h.2.2.2.2.1 ?_
  refine y_st (e_167 (343, .iconst 4, 1) (List.mem_of_getElem? (i := 181) rfl)) ⟨rfl, rfl, rfl, rfl⟩ ?_
  refine y_iald h.T.I h.2.1 (e_167 (344, .iaload, 1) (List.mem_of_getElem? (i := 182) rfl)) ⟨rfl, rfl⟩ (by decide) (h.2.2.2.2.2.2.2.2.1 4 (by decide)) ?_
  refine y_isn (e_167 (345, .istore_n 1, 1) (List.mem_of_getElem? (i := 183) rfl)) (by decide) ?_
  have g1 : pm_get (pm_put1 lv 1 (.int (hf 4))) 1 = some (.int (hf 4)) := x_get_self
  have g0 : pm_get (pm_put1 lv 1 (.int (hf 4))) 0 = some (.ref am) := y_gpr g0 (by decide)
  show x_Gd xs L J _ m_167 _ 346 (pm_put1 lv 1 (.int (hf 4))) [] G
  generalize (pm_put1 lv 1 (.int (hf 4))) = lv3 at g0 g1 ⊢
  refine y_iln (e_167 (346, .iload_n 1, 1) (List.mem_of_getElem? (i := 184) rfl)) g1 ?_
  refine y_st (e_167 (347, .iconst 4, 1) (List.mem_of_getElem? (i := 185) rfl)) ⟨rfl, rfl, rfl, rfl⟩ ?_
  refine y_icm (e_167 (348, .if_icmp .ne 9, 3) (List.mem_of_getElem? (i := 186) rfl)) rfl (fun _ => ?_) (fun hc => ?_)
  rotate_left
  · have z := y_hI.2.2.2.1 hc
    rw [z] at hcn
    exact absurd hcn (by decide)
  have e24 : ((Int8.ofInt 24).toInt32 + hf 4).toInt = 24 + (hf 4).toInt := (y_add (by show -2147483648 ≤ (24 : Int) + _; omega) (by show (24 : Int) + _ ≤ 2147483647; omega)).trans rfl
  have e65 : ((Int8.ofInt 65).toInt32 + hf 4).toInt = 65 + (hf 4).toInt := (y_add (by show -2147483648 ≤ (65 : Int) + _; omega) (by show (65 : Int) + _ ≤ 2147483647; omega)).trans rfl
  have e69 : ((Int8.ofInt 69).toInt32 + hf 4).toInt = 69 + (hf 4).toInt := (y_add (by show -2147483648 ≤ (69 : Int) + _; omega) (by show (69 : Int) + _ ≤ 2147483647; omega)).trans rfl
  refine y_aln (e_167 (357, .aload_n 0, 1) (List.mem_of_getElem? (i := 191) rfl)) g0 ?_
  refine y_st (e_167 (358, .bipush 24, 2) (List.mem_of_getElem? (i := 192) rfl)) ⟨rfl, rfl, rfl, rfl⟩ ?_
  refine y_iln (e_167 (360, .iload_n 1, 1) (List.mem_of_getElem? (i := 193) rfl)) g1 ?_
  refine y_st (e_167 (361, .iadd, 1) (List.mem_of_getElem? (i := 194) rfl)) ⟨rfl, rfl, rfl, rfl⟩ ?_
  refine y_st (e_167 (362, .bipush 65, 2) (List.mem_of_getElem? (i := 195) rfl)) ⟨rfl, rfl, rfl, rfl⟩ ?_
  refine y_iln (e_167 (364, .iload_n 1, 1) (List.mem_of_getElem? (i := 196) rfl)) g1 ?_
  refine y_st (e_167 (365, .iadd, 1) (List.mem_of_getElem? (i := 197) rfl)) ⟨rfl, rfl, rfl, rfl⟩ ?_
  refine y_st (e_167 (366, .bipush 69, 2) (List.mem_of_getElem? (i := 198) rfl)) ⟨rfl, rfl, rfl, rfl⟩ ?_
  refine y_iln (e_167 (368, .iload_n 1, 1) (List.mem_of_getElem? (i := 199) rfl)) g1 ?_
  refine y_st (e_167 (369, .iadd, 1) (List.mem_of_getElem? (i := 200) rfl)) ⟨rfl, rfl, rfl, rfl⟩ ?_
  refine y_c4 (K' := _) (e_167 (370, .invokevirtual 211, 3) (List.mem_of_getElem? (i := 201) rfl)) ⟨rfl, rfl, rfl⟩ t_17_211 ⟨by decide, by decide, by decide, by decide⟩ m_176_ok rfl (by decide) (y_recv h.T.I h.T.t ⟨rfl, rfl⟩) (Nat.le_of_ble_eq_true rfl) (Nat.le_of_ble_eq_true rfl) (k_place_a h hN1 hno) (fun r1 Gc hc1 => ?_)
  obtain ⟨rfl, hz⟩ := hc1
  simp only [Option.toList_some, Option.toList_none, List.cons_append, List.nil_append]
  refine y_ifc (e_167 (373, .ifCond .ne 5, 3) (List.mem_of_getElem? (i := 202) rfl)) rfl (fun hc => absurd hc (by decide)) (fun _ => ?_)
  refine y_st (e_167 (376, .iconst 0, 1) (List.mem_of_getElem? (i := 203) rfl)) ⟨rfl, rfl, rfl, rfl⟩ ?_
  exact y_ret (e_167 (377, .ireturn, 1) (List.mem_of_getElem? (i := 204) rfl)) ⟨rfl, y_rb (Or.inl rfl)⟩ ⟨rfl, hz⟩
set_option maxHeartbeats 2000000 in
set_option maxRecDepth 100000 in
theorem v_mill_b (h : MS th am mb hb nb rb f n lim p0 tok0 at0 sp0 num0 wd0 hf nf on G) (hw : tok0 = Int32.ofInt 1 ∧ wd0 = t_W 8) (hcn : (hf 4).toInt < 4) (hN1 : NXm f n lim p0 num0 wd0 p1 tok1 at1 sp1 num1 wd1) (hname : tok1 = Int32.ofInt 1 ∧ ∀ x : Nat, x < 25 → wd1 ≠ t_W x) (hT : ¬ t_Told hf nf wd1) (hN2 : NXm f n lim p1 num1 wd1 p2 tok2 at2 sp2 num2 wd2) (hno : tok2 ≠ Int32.ofInt 2 ∨ num2.toInt < 0 ∨ 1 < num2.toInt) : x_Gd xs L J (d + 6) m_167 (fun r G' => r = some (.int 0) ∧ x_sl G' am 16 = some (.int at2) ∧ x_sl G' am 15 = some (.int (t_km tok2))) 0 (lv_args 0 [.ref am]) [] G := by
  have g0 : pm_get (lv_args 0 [.ref am]) 0 = some (.ref am) := rfl
  generalize (lv_args 0 [.ref am]) = lv at g0 ⊢
  refine v_to_mill h g0 hw ?_
  obtain ⟨⟨p0_, p1_⟩, ⟨t0_, t1_⟩, ⟨l0_, l1_⟩, ⟨m0_, m1_⟩⟩ := h.cn
  refine y_aln (e_167 (339, .aload_n 0, 1) (List.mem_of_getElem? (i := 179) rfl)) g0 ?_
  refine y_getf h.T.I h.T.t (e_167 (340, .getfield 37, 3) (List.mem_of_getElem? (i := 180) rfl)) u_17_37 ⟨rfl, rfl⟩ h.2.2.2.2.1 ?_
  refine y_st (e_167 (343, .iconst 4, 1) (List.mem_of_getElem? (i := 181) rfl)) ⟨rfl, rfl, rfl, rfl⟩ ?_
  refine y_iald h.T.I h.2.1 (e_167 (344, .iaload, 1) (List.mem_of_getElem? (i := 182) rfl)) ⟨rfl, rfl⟩ (by decide) (h.2.2.2.2.2.2.2.2.1 4 (by decide)) ?_
  refine y_isn (e_167 (345, .istore_n 1, 1) (List.mem_of_getElem? (i := 183) rfl)) (by decide) ?_
  have g1 : pm_get (pm_put1 lv 1 (.int (hf 4))) 1 = some (.int (hf 4)) := x_get_self
  have g0 : pm_get (pm_put1 lv 1 (.int (hf 4))) 0 = some (.ref am) := y_gpr g0 (by decide)
  show x_Gd xs L J _ m_167 _ 346 (pm_put1 lv 1 (.int (hf 4))) [] G
  generalize (pm_put1 lv 1 (.int (hf 4))) = lv3 at g0 g1 ⊢
  refine y_iln (e_167 (346, .iload_n 1, 1) (List.mem_of_getElem? (i := 184) rfl)) g1 ?_
  refine y_st (e_167 (347, .iconst 4, 1) (List.mem_of_getElem? (i := 185) rfl)) ⟨rfl, rfl, rfl, rfl⟩ ?_
  refine y_icm (e_167 (348, .if_icmp .ne 9, 3) (List.mem_of_getElem? (i := 186) rfl)) rfl (fun _ => ?_) (fun hc => ?_)
  rotate_left
  · have z := y_hI.2.2.2.1 hc
    rw [z] at hcn
    exact absurd hcn (by decide)
  have e24 : ((Int8.ofInt 24).toInt32 + hf 4).toInt = 24 + (hf 4).toInt := (y_add (by show -2147483648 ≤ (24 : Int) + _; omega) (by show (24 : Int) + _ ≤ 2147483647; omega)).trans rfl
  have e65 : ((Int8.ofInt 65).toInt32 + hf 4).toInt = 65 + (hf 4).toInt := (y_add (by show -2147483648 ≤ (65 : Int) + _; omega) (by show (65 : Int) + _ ≤ 2147483647; omega)).trans rfl
  have e69 : ((Int8.ofInt 69).toInt32 + hf 4).toInt = 69 + (hf 4).toInt := (y_add (by show -2147483648 ≤ (69 : Int) + _; omega) (by show (69 : Int) + _ ≤ 2147483647; omega)).trans rfl
  refine y_aln (e_167 (357, .aload_n 0, 1) (List.mem_of_getElem? (i := 191) rfl)) g0 ?_
  refine y_st (e_167 (358, .bipush 24, 2) (List.mem_of_getElem? (i := 192) rfl)) ⟨rfl, rfl, rfl, rfl⟩ ?_
  refine y_iln (e_167 (360, .iload_n 1, 1) (List.mem_of_getElem? (i := 193) rfl)) g1 ?_
  refine y_st (e_167 (361, .iadd, 1) (List.mem_of_getElem? (i := 194) rfl)) ⟨rfl, rfl, rfl, rfl⟩ ?_
  refine y_st (e_167 (362, .bipush 65, 2) (List.mem_of_getElem? (i := 195) rfl)) ⟨rfl, rfl, rfl, rfl⟩ ?_
  refine y_iln (e_167 (364, .iload_n 1, 1) (List.mem_of_getElem? (i := 196) rfl)) g1 ?_
  refine y_st (e_167 (365, .iadd, 1) (List.mem_of_getElem? (i := 197) rfl)) ⟨rfl, rfl, rfl, rfl⟩ ?_
  refine y_st (e_167 (366, .bipush 69, 2) (List.mem_of_getElem? (i := 198) rfl)) ⟨rfl, rfl, rfl, rfl⟩ ?_
  refine y_iln (e_167 (368, .iload_n 1, 1) (List.mem_of_getElem? (i := 199) rfl)) g1 ?_
  refine y_st (e_167 (369, .iadd, 1) (List.mem_of_getElem? (i := 200) rfl)) ⟨rfl, rfl, rfl, rfl⟩ ?_
  refine y_c4 (K' := _) (e_167 (370, .invokevirtual 211, 3) (List.mem_of_getElem? (i := 201) rfl)) ⟨rfl, rfl, rfl⟩ t_17_211 ⟨by decide, by decide, by decide, by decide⟩ m_176_ok rfl (by decide) (y_recv h.T.I h.T.t ⟨rfl, rfl⟩) (Nat.le_of_ble_eq_true rfl) (Nat.le_of_ble_eq_true rfl) (k_place_b h hN1 hname hT ⟨by omega, by omega⟩ hN2 hno) (fun r1 Gc hc1 => ?_)
  obtain ⟨rfl, hz⟩ := hc1
  simp only [Option.toList_some, Option.toList_none, List.cons_append, List.nil_append]
  refine y_ifc (e_167 (373, .ifCond .ne 5, 3) (List.mem_of_getElem? (i := 202) rfl)) rfl (fun hc => absurd hc (by decide)) (fun _ => ?_)
  refine y_st (e_167 (376, .iconst 0, 1) (List.mem_of_getElem? (i := 203) rfl)) ⟨rfl, rfl, rfl, rfl⟩ ?_
  exact y_ret (e_167 (377, .ireturn, 1) (List.mem_of_getElem? (i := 204) rfl)) ⟨rfl, y_rb (Or.inl rfl)⟩ ⟨rfl, hz⟩
set_option maxHeartbeats 2000000 in
set_option maxRecDepth 100000 in
theorem v_mill_c (h : MS th am mb hb nb rb f n lim p0 tok0 at0 sp0 num0 wd0 hf nf on G) (hw : tok0 = Int32.ofInt 1 ∧ wd0 = t_W 8) (hcn : (hf 4).toInt < 4) (hN1 : NXm f n lim p0 num0 wd0 p1 tok1 at1 sp1 num1 wd1) (hname : tok1 = Int32.ofInt 1 ∧ ∀ x : Nat, x < 25 → wd1 ≠ t_W x) (hT : ¬ t_Told hf nf wd1) (hN2 : NXm f n lim p1 num1 wd1 p2 tok2 at2 sp2 num2 wd2) (htk2 : tok2 = Int32.ofInt 2) (a2 : 0 ≤ num2.toInt) (b2 : num2.toInt ≤ 1) (hN3 : NXm f n lim p2 num2 wd2 p3 tok3 at3 sp3 num3 wd3) (hno : tok3 ≠ Int32.ofInt 2 ∨ num3.toInt < 0 ∨ (hf num2.toInt.toNat - Int32.ofInt 1).toInt < num3.toInt) : x_Gd xs L J (d + 6) m_167 (fun r G' => r = some (.int 0) ∧ x_sl G' am 16 = some (.int at3) ∧ x_sl G' am 15 = some (.int (t_km tok3))) 0 (lv_args 0 [.ref am]) [] G := by
  have g0 : pm_get (lv_args 0 [.ref am]) 0 = some (.ref am) := rfl
  generalize (lv_args 0 [.ref am]) = lv at g0 ⊢
  refine v_to_mill h g0 hw ?_
  obtain ⟨⟨p0_, p1_⟩, ⟨t0_, t1_⟩, ⟨l0_, l1_⟩, ⟨m0_, m1_⟩⟩ := h.cn
  refine y_aln (e_167 (339, .aload_n 0, 1) (List.mem_of_getElem? (i := 179) rfl)) g0 ?_
  refine y_getf h.T.I h.T.t (e_167 (340, .getfield 37, 3) (List.mem_of_getElem? (i := 180) rfl)) u_17_37 ⟨rfl, rfl⟩ h.2.2.2.2.1 ?_
  refine y_st (e_167 (343, .iconst 4, 1) (List.mem_of_getElem? (i := 181) rfl)) ⟨rfl, rfl, rfl, rfl⟩ ?_
  refine y_iald h.T.I h.2.1 (e_167 (344, .iaload, 1) (List.mem_of_getElem? (i := 182) rfl)) ⟨rfl, rfl⟩ (by decide) (h.2.2.2.2.2.2.2.2.1 4 (by decide)) ?_
  refine y_isn (e_167 (345, .istore_n 1, 1) (List.mem_of_getElem? (i := 183) rfl)) (by decide) ?_
  have g1 : pm_get (pm_put1 lv 1 (.int (hf 4))) 1 = some (.int (hf 4)) := x_get_self
  have g0 : pm_get (pm_put1 lv 1 (.int (hf 4))) 0 = some (.ref am) := y_gpr g0 (by decide)
  show x_Gd xs L J _ m_167 _ 346 (pm_put1 lv 1 (.int (hf 4))) [] G
  generalize (pm_put1 lv 1 (.int (hf 4))) = lv3 at g0 g1 ⊢
  refine y_iln (e_167 (346, .iload_n 1, 1) (List.mem_of_getElem? (i := 184) rfl)) g1 ?_
  refine y_st (e_167 (347, .iconst 4, 1) (List.mem_of_getElem? (i := 185) rfl)) ⟨rfl, rfl, rfl, rfl⟩ ?_
  refine y_icm (e_167 (348, .if_icmp .ne 9, 3) (List.mem_of_getElem? (i := 186) rfl)) rfl (fun _ => ?_) (fun hc => ?_)
  rotate_left
  · have z := y_hI.2.2.2.1 hc
    rw [z] at hcn
    exact absurd hcn (by decide)
  have e24 : ((Int8.ofInt 24).toInt32 + hf 4).toInt = 24 + (hf 4).toInt := (y_add (by show -2147483648 ≤ (24 : Int) + _; omega) (by show (24 : Int) + _ ≤ 2147483647; omega)).trans rfl
  have e65 : ((Int8.ofInt 65).toInt32 + hf 4).toInt = 65 + (hf 4).toInt := (y_add (by show -2147483648 ≤ (65 : Int) + _; omega) (by show (65 : Int) + _ ≤ 2147483647; omega)).trans rfl
  have e69 : ((Int8.ofInt 69).toInt32 + hf 4).toInt = 69 + (hf 4).toInt := (y_add (by show -2147483648 ≤ (69 : Int) + _; omega) (by show (69 : Int) + _ ≤ 2147483647; omega)).trans rfl
  refine y_aln (e_167 (357, .aload_n 0, 1) (List.mem_of_getElem? (i := 191) rfl)) g0 ?_
  refine y_st (e_167 (358, .bipush 24, 2) (List.mem_of_getElem? (i := 192) rfl)) ⟨rfl, rfl, rfl, rfl⟩ ?_
  refine y_iln (e_167 (360, .iload_n 1, 1) (List.mem_of_getElem? (i := 193) rfl)) g1 ?_
  refine y_st (e_167 (361, .iadd, 1) (List.mem_of_getElem? (i := 194) rfl)) ⟨rfl, rfl, rfl, rfl⟩ ?_
  refine y_st (e_167 (362, .bipush 65, 2) (List.mem_of_getElem? (i := 195) rfl)) ⟨rfl, rfl, rfl, rfl⟩ ?_
  refine y_iln (e_167 (364, .iload_n 1, 1) (List.mem_of_getElem? (i := 196) rfl)) g1 ?_
  refine y_st (e_167 (365, .iadd, 1) (List.mem_of_getElem? (i := 197) rfl)) ⟨rfl, rfl, rfl, rfl⟩ ?_
  refine y_st (e_167 (366, .bipush 69, 2) (List.mem_of_getElem? (i := 198) rfl)) ⟨rfl, rfl, rfl, rfl⟩ ?_
  refine y_iln (e_167 (368, .iload_n 1, 1) (List.mem_of_getElem? (i := 199) rfl)) g1 ?_
  refine y_st (e_167 (369, .iadd, 1) (List.mem_of_getElem? (i := 200) rfl)) ⟨rfl, rfl, rfl, rfl⟩ ?_
  refine y_c4 (K' := _) (e_167 (370, .invokevirtual 211, 3) (List.mem_of_getElem? (i := 201) rfl)) ⟨rfl, rfl, rfl⟩ t_17_211 ⟨by decide, by decide, by decide, by decide⟩ m_176_ok rfl (by decide) (y_recv h.T.I h.T.t ⟨rfl, rfl⟩) (Nat.le_of_ble_eq_true rfl) (Nat.le_of_ble_eq_true rfl) (k_place_c h hN1 hname hT ⟨by omega, by omega⟩ hN2 htk2 a2 b2 ⟨by omega, by omega⟩ (y_okI (t_37_v _ (by omega) (by omega)) (by omega) (by omega)) hN3 hno) (fun r1 Gc hc1 => ?_)
  obtain ⟨rfl, hz⟩ := hc1
  simp only [Option.toList_some, Option.toList_none, List.cons_append, List.nil_append]
  refine y_ifc (e_167 (373, .ifCond .ne 5, 3) (List.mem_of_getElem? (i := 202) rfl)) rfl (fun hc => absurd hc (by decide)) (fun _ => ?_)
  refine y_st (e_167 (376, .iconst 0, 1) (List.mem_of_getElem? (i := 203) rfl)) ⟨rfl, rfl, rfl, rfl⟩ ?_
  exact y_ret (e_167 (377, .ireturn, 1) (List.mem_of_getElem? (i := 204) rfl)) ⟨rfl, y_rb (Or.inl rfl)⟩ ⟨rfl, hz⟩
set_option maxHeartbeats 2000000 in
set_option maxRecDepth 100000 in
theorem v_mill_ok (h : MS th am mb hb nb rb f n lim p0 tok0 at0 sp0 num0 wd0 hf nf on G) (hw : tok0 = Int32.ofInt 1 ∧ wd0 = t_W 8) (hcn : (hf 4).toInt < 4) (hN1 : NXm f n lim p0 num0 wd0 p1 tok1 at1 sp1 num1 wd1) (hname : tok1 = Int32.ofInt 1 ∧ ∀ x : Nat, x < 25 → wd1 ≠ t_W x) (hT : ¬ t_Told hf nf wd1) (hN2 : NXm f n lim p1 num1 wd1 p2 tok2 at2 sp2 num2 wd2) (htk2 : tok2 = Int32.ofInt 2) (a2 : 0 ≤ num2.toInt) (b2 : num2.toInt ≤ 1) (hN3 : NXm f n lim p2 num2 wd2 p3 tok3 at3 sp3 num3 wd3) (htk3 : tok3 = Int32.ofInt 2) (a3 : 0 ≤ num3.toInt) (b3 : num3.toInt ≤ (hf num2.toInt.toNat - Int32.ofInt 1).toInt) (hN4 : NXm f n lim p3 num3 wd3 p4 tok4 at4 sp4 num4 wd4) : x_Gd xs L J (d + 6) m_167 (fun r G' => r = some (.int 1) ∧ MS th am mb hb nb rb f n lim p4 tok4 at4 sp4 num4 wd4 (fun i => if i = 4 then hf 4 + Int32.ofInt 1 else (fun i => if i = ((Int8.ofInt 69).toInt32 + hf 4).toInt.toNat then num3 else if i = ((Int8.ofInt 65).toInt32 + hf 4).toInt.toNat then num2 else hf i) i) (fun i => if i = ((Int8.ofInt 24).toInt32 + hf 4).toInt.toNat then wd1 else nf i) (on ||| Int32.ofInt 1) G') 0 (lv_args 0 [.ref am]) [] G := by
  have g0 : pm_get (lv_args 0 [.ref am]) 0 = some (.ref am) := rfl
  generalize (lv_args 0 [.ref am]) = lv at g0 ⊢
  refine v_to_mill h g0 hw ?_
  obtain ⟨⟨p0_, p1_⟩, ⟨t0_, t1_⟩, ⟨l0_, l1_⟩, ⟨m0_, m1_⟩⟩ := h.cn
  refine y_aln (e_167 (339, .aload_n 0, 1) (List.mem_of_getElem? (i := 179) rfl)) g0 ?_
  refine y_getf h.T.I h.T.t (e_167 (340, .getfield 37, 3) (List.mem_of_getElem? (i := 180) rfl)) u_17_37 ⟨rfl, rfl⟩ h.2.2.2.2.1 ?_
  refine y_st (e_167 (343, .iconst 4, 1) (List.mem_of_getElem? (i := 181) rfl)) ⟨rfl, rfl, rfl, rfl⟩ ?_
  refine y_iald h.T.I h.2.1 (e_167 (344, .iaload, 1) (List.mem_of_getElem? (i := 182) rfl)) ⟨rfl, rfl⟩ (by decide) (h.2.2.2.2.2.2.2.2.1 4 (by decide)) ?_
  refine y_isn (e_167 (345, .istore_n 1, 1) (List.mem_of_getElem? (i := 183) rfl)) (by decide) ?_
  have g1 : pm_get (pm_put1 lv 1 (.int (hf 4))) 1 = some (.int (hf 4)) := x_get_self
  have g0 : pm_get (pm_put1 lv 1 (.int (hf 4))) 0 = some (.ref am) := y_gpr g0 (by decide)
  show x_Gd xs L J _ m_167 _ 346 (pm_put1 lv 1 (.int (hf 4))) [] G
  generalize (pm_put1 lv 1 (.int (hf 4))) = lv3 at g0 g1 ⊢
  refine y_iln (e_167 (346, .iload_n 1, 1) (List.mem_of_getElem? (i := 184) rfl)) g1 ?_
  refine y_st (e_167 (347, .iconst 4, 1) (List.mem_of_getElem? (i := 185) rfl)) ⟨rfl, rfl, rfl, rfl⟩ ?_
  refine y_icm (e_167 (348, .if_icmp .ne 9, 3) (List.mem_of_getElem? (i := 186) rfl)) rfl (fun _ => ?_) (fun hc => ?_)
  rotate_left
  · have z := y_hI.2.2.2.1 hc
    rw [z] at hcn
    exact absurd hcn (by decide)
  have e24 : ((Int8.ofInt 24).toInt32 + hf 4).toInt = 24 + (hf 4).toInt := (y_add (by show -2147483648 ≤ (24 : Int) + _; omega) (by show (24 : Int) + _ ≤ 2147483647; omega)).trans rfl
  have e65 : ((Int8.ofInt 65).toInt32 + hf 4).toInt = 65 + (hf 4).toInt := (y_add (by show -2147483648 ≤ (65 : Int) + _; omega) (by show (65 : Int) + _ ≤ 2147483647; omega)).trans rfl
  have e69 : ((Int8.ofInt 69).toInt32 + hf 4).toInt = 69 + (hf 4).toInt := (y_add (by show -2147483648 ≤ (69 : Int) + _; omega) (by show (69 : Int) + _ ≤ 2147483647; omega)).trans rfl
  refine y_aln (e_167 (357, .aload_n 0, 1) (List.mem_of_getElem? (i := 191) rfl)) g0 ?_
  refine y_st (e_167 (358, .bipush 24, 2) (List.mem_of_getElem? (i := 192) rfl)) ⟨rfl, rfl, rfl, rfl⟩ ?_
  refine y_iln (e_167 (360, .iload_n 1, 1) (List.mem_of_getElem? (i := 193) rfl)) g1 ?_
  refine y_st (e_167 (361, .iadd, 1) (List.mem_of_getElem? (i := 194) rfl)) ⟨rfl, rfl, rfl, rfl⟩ ?_
  refine y_st (e_167 (362, .bipush 65, 2) (List.mem_of_getElem? (i := 195) rfl)) ⟨rfl, rfl, rfl, rfl⟩ ?_
  refine y_iln (e_167 (364, .iload_n 1, 1) (List.mem_of_getElem? (i := 196) rfl)) g1 ?_
  refine y_st (e_167 (365, .iadd, 1) (List.mem_of_getElem? (i := 197) rfl)) ⟨rfl, rfl, rfl, rfl⟩ ?_
  refine y_st (e_167 (366, .bipush 69, 2) (List.mem_of_getElem? (i := 198) rfl)) ⟨rfl, rfl, rfl, rfl⟩ ?_
  refine y_iln (e_167 (368, .iload_n 1, 1) (List.mem_of_getElem? (i := 199) rfl)) g1 ?_
  refine y_st (e_167 (369, .iadd, 1) (List.mem_of_getElem? (i := 200) rfl)) ⟨rfl, rfl, rfl, rfl⟩ ?_
  refine y_c4 (K' := _) (e_167 (370, .invokevirtual 211, 3) (List.mem_of_getElem? (i := 201) rfl)) ⟨rfl, rfl, rfl⟩ t_17_211 ⟨by decide, by decide, by decide, by decide⟩ m_176_ok rfl (by decide) (y_recv h.T.I h.T.t ⟨rfl, rfl⟩) (Nat.le_of_ble_eq_true rfl) (Nat.le_of_ble_eq_true rfl) (k_place_yes h hN1 hname hT ⟨by omega, by omega⟩ hN2 htk2 a2 b2 ⟨by omega, by omega⟩ (y_okI (t_37_v _ (by omega) (by omega)) (by omega) (by omega)) hN3 htk3 a3 b3 ⟨by omega, by omega⟩ (y_okA (t_37_c _ (by omega) (by omega))) hN4) (fun r1 Gc hc1 => ?_)
  obtain ⟨rfl, qp⟩ := hc1
  simp only [Option.toList_some, Option.toList_none, List.cons_append, List.nil_append]
  refine y_ifc (e_167 (373, .ifCond .ne 5, 3) (List.mem_of_getElem? (i := 202) rfl)) rfl (fun _ => ?_) (fun hc => absurd hc (by decide))
  have dc := qp.2.2.2.2.2.2.2.2.1 4 (by decide)
  dsimp only at dc
  rw [if_neg (by omega), if_neg (by omega)] at dc
  refine y_aln (e_167 (378, .aload_n 0, 1) (List.mem_of_getElem? (i := 205) rfl)) g0 ?_
  refine y_getf qp.T.I qp.T.t (e_167 (379, .getfield 37, 3) (List.mem_of_getElem? (i := 206) rfl)) u_17_37 ⟨rfl, rfl⟩ qp.2.2.2.2.1 ?_
  refine y_st (e_167 (382, .iconst 4, 1) (List.mem_of_getElem? (i := 207) rfl)) ⟨rfl, rfl, rfl, rfl⟩ ?_
  refine y_st (e_167 (383, .dup2, 1) (List.mem_of_getElem? (i := 208) rfl)) ⟨rfl, rfl, rfl, rfl⟩ ?_
  refine y_iald qp.T.I qp.2.1 (e_167 (384, .iaload, 1) (List.mem_of_getElem? (i := 209) rfl)) ⟨rfl, rfl⟩ (by decide) dc ?_
  refine y_st (e_167 (385, .iconst 1, 1) (List.mem_of_getElem? (i := 210) rfl)) ⟨rfl, rfl, rfl, rfl⟩ ?_
  refine y_st (e_167 (386, .iadd, 1) (List.mem_of_getElem? (i := 211) rfl)) ⟨rfl, rfl, rfl, rfl⟩ ?_
  have ec : (hf 4 + Int32.ofInt 1).toInt = (hf 4).toInt + 1 := y_add1 (t := hf 4) (by omega)
  refine y_iast qp.T.I qp.2.1 (e_167 (387, .iastore, 1) (List.mem_of_getElem? (i := 212) rfl)) ⟨rfl, rfl⟩ ⟨by decide, by decide⟩ (fun Gi ui => ?_)
  have qz := qp.put (k := 4) ui (qp.T.I.upd ui qp.2.1 (y_okI (lo := 0) (hi := 4) rfl (by omega) (by omega)))
  refine y_st (e_167 (388, .iconst 1, 1) (List.mem_of_getElem? (i := 213) rfl)) ⟨rfl, rfl, rfl, rfl⟩ ?_
  exact y_ret (e_167 (389, .ireturn, 1) (List.mem_of_getElem? (i := 214) rfl)) ⟨rfl, y_rb (Or.inr rfl)⟩ ⟨rfl, qz⟩
set_option maxHeartbeats 2000000 in
set_option maxRecDepth 100000 in
theorem v_man_0 (h : MS th am mb hb nb rb f n lim p0 tok0 at0 sp0 num0 wd0 hf nf on G) (hw : tok0 = Int32.ofInt 1 ∧ wd0 = t_W 9) (hcn : (hf 5).toInt = 4) : x_Gd xs L J (d + 6) m_167 (fun r G' => r = some (.int 0) ∧ x_sl G' am 16 = some (.int at0) ∧ x_sl G' am 15 = some (.int (Int32.ofInt 4))) 0 (lv_args 0 [.ref am]) [] G := by
  have g0 : pm_get (lv_args 0 [.ref am]) 0 = some (.ref am) := rfl
  generalize (lv_args 0 [.ref am]) = lv at g0 ⊢
  refine v_to_man h g0 hw ?_
  obtain ⟨⟨p0_, p1_⟩, ⟨t0_, t1_⟩, ⟨l0_, l1_⟩, ⟨m0_, m1_⟩⟩ := h.cn
  refine y_aln (e_167 (406, .aload_n 0, 1) (List.mem_of_getElem? (i := 223) rfl)) g0 ?_
  refine y_getf h.T.I h.T.t (e_167 (407, .getfield 37, 3) (List.mem_of_getElem? (i := 224) rfl)) u_17_37 ⟨rfl, rfl⟩ h.2.2.2.2.1 ?_
  refine y_st (e_167 (410, .iconst 5, 1) (List.mem_of_getElem? (i := 225) rfl)) ⟨rfl, rfl, rfl, rfl⟩ ?_
  refine y_iald h.T.I h.2.1 (e_167 (411, .iaload, 1) (List.mem_of_getElem? (i := 226) rfl)) ⟨rfl, rfl⟩ (by decide) (h.2.2.2.2.2.2.2.2.1 5 (by decide)) ?_
  refine y_isn (e_167 (412, .istore_n 1, 1) (List.mem_of_getElem? (i := 227) rfl)) (by decide) ?_
  have g1 : pm_get (pm_put1 lv 1 (.int (hf 5))) 1 = some (.int (hf 5)) := x_get_self
  have g0 : pm_get (pm_put1 lv 1 (.int (hf 5))) 0 = some (.ref am) := y_gpr g0 (by decide)
  show x_Gd xs L J _ m_167 _ 413 (pm_put1 lv 1 (.int (hf 5))) [] G
  generalize (pm_put1 lv 1 (.int (hf 5))) = lv3 at g0 g1 ⊢
  refine y_iln (e_167 (413, .iload_n 1, 1) (List.mem_of_getElem? (i := 228) rfl)) g1 ?_
  refine y_st (e_167 (414, .iconst 4, 1) (List.mem_of_getElem? (i := 229) rfl)) ⟨rfl, rfl, rfl, rfl⟩ ?_
  refine y_icm (e_167 (415, .if_icmp .ne 9, 3) (List.mem_of_getElem? (i := 230) rfl)) rfl (fun hc => absurd (Int32.toInt_inj.mp (by rw [hcn]; rfl)) (y_hI.2.2.1 hc)) (fun _ => ?_)
  refine y_aln (e_167 (418, .aload_n 0, 1) (List.mem_of_getElem? (i := 231) rfl)) g0 ?_
  refine y_st (e_167 (419, .iconst 4, 1) (List.mem_of_getElem? (i := 232) rfl)) ⟨rfl, rfl, rfl, rfl⟩ ?_
  refine y_c2 (K' := _) (e_167 (420, .invokevirtual 167, 3) (List.mem_of_getElem? (i := 233) rfl)) ⟨rfl, rfl, rfl⟩ t_17_167 ⟨by decide, by decide, by decide, by decide⟩ m_171_ok rfl (by decide) (y_recv h.T.I h.T.t ⟨rfl, rfl⟩) (Nat.le_of_ble_eq_true rfl) (Nat.le_of_ble_eq_true rfl) (k_bad h _) (fun r1 Gc hc1 => ?_)
  obtain ⟨rfl, hz⟩ := hc1
  simp only [Option.toList_some, Option.toList_none, List.cons_append, List.nil_append]
  exact y_ret (e_167 (423, .ireturn, 1) (List.mem_of_getElem? (i := 234) rfl)) ⟨rfl, y_rb (Or.inl rfl)⟩ ⟨rfl, hz⟩
set_option maxHeartbeats 2000000 in
set_option maxRecDepth 100000 in
theorem v_man_a (h : MS th am mb hb nb rb f n lim p0 tok0 at0 sp0 num0 wd0 hf nf on G) (hw : tok0 = Int32.ofInt 1 ∧ wd0 = t_W 9) (hcn : (hf 5).toInt < 4) (hN1 : NXm f n lim p0 num0 wd0 p1 tok1 at1 sp1 num1 wd1) (hno : ¬ (tok1 = Int32.ofInt 1 ∧ ∀ x : Nat, x < 25 → wd1 ≠ t_W x) ∨ t_Told hf nf wd1) : x_Gd xs L J (d + 6) m_167 (fun r G' => r = some (.int 0) ∧ x_sl G' am 16 = some (.int at1) ∧ x_sl G' am 15 = some (.int (t_kf tok1 wd1))) 0 (lv_args 0 [.ref am]) [] G := by
  have g0 : pm_get (lv_args 0 [.ref am]) 0 = some (.ref am) := rfl
  generalize (lv_args 0 [.ref am]) = lv at g0 ⊢
  refine v_to_man h g0 hw ?_
  obtain ⟨⟨p0_, p1_⟩, ⟨t0_, t1_⟩, ⟨l0_, l1_⟩, ⟨m0_, m1_⟩⟩ := h.cn
  refine y_aln (e_167 (406, .aload_n 0, 1) (List.mem_of_getElem? (i := 223) rfl)) g0 ?_
  refine y_getf h.T.I h.T.t (e_167 (407, .getfield 37, 3) (List.mem_of_getElem? (i := 224) rfl)) u_17_37 ⟨rfl, rfl⟩ h.2.2.2.2.1 ?_
  refine y_st (e_167 (410, .iconst 5, 1) (List.mem_of_getElem? (i := 225) rfl)) ⟨rfl, rfl, rfl, rfl⟩ ?_
  refine y_iald h.T.I h.2.1 (e_167 (411, .iaload, 1) (List.mem_of_getElem? (i := 226) rfl)) ⟨rfl, rfl⟩ (by decide) (h.2.2.2.2.2.2.2.2.1 5 (by decide)) ?_
  refine y_isn (e_167 (412, .istore_n 1, 1) (List.mem_of_getElem? (i := 227) rfl)) (by decide) ?_
  have g1 : pm_get (pm_put1 lv 1 (.int (hf 5))) 1 = some (.int (hf 5)) := x_get_self
  have g0 : pm_get (pm_put1 lv 1 (.int (hf 5))) 0 = some (.ref am) := y_gpr g0 (by decide)
  show x_Gd xs L J _ m_167 _ 413 (pm_put1 lv 1 (.int (hf 5))) [] G
  generalize (pm_put1 lv 1 (.int (hf 5))) = lv3 at g0 g1 ⊢
  refine y_iln (e_167 (413, .iload_n 1, 1) (List.mem_of_getElem? (i := 228) rfl)) g1 ?_
  refine y_st (e_167 (414, .iconst 4, 1) (List.mem_of_getElem? (i := 229) rfl)) ⟨rfl, rfl, rfl, rfl⟩ ?_
  refine y_icm (e_167 (415, .if_icmp .ne 9, 3) (List.mem_of_getElem? (i := 230) rfl)) rfl (fun _ => ?_) (fun hc => ?_)
  rotate_left
  · have z := y_hI.2.2.2.1 hc
    rw [z] at hcn
    exact absurd hcn (by decide)
  have e28 : ((Int8.ofInt 28).toInt32 + hf 5).toInt = 28 + (hf 5).toInt := (y_add (by show -2147483648 ≤ (28 : Int) + _; omega) (by show (28 : Int) + _ ≤ 2147483647; omega)).trans rfl
  have e73 : ((Int8.ofInt 73).toInt32 + hf 5).toInt = 73 + (hf 5).toInt := (y_add (by show -2147483648 ≤ (73 : Int) + _; omega) (by show (73 : Int) + _ ≤ 2147483647; omega)).trans rfl
  have e77 : ((Int8.ofInt 77).toInt32 + hf 5).toInt = 77 + (hf 5).toInt := (y_add (by show -2147483648 ≤ (77 : Int) + _; omega) (by show (77 : Int) + _ ≤ 2147483647; omega)).trans rfl
  refine y_aln (e_167 (424, .aload_n 0, 1) (List.mem_of_getElem? (i := 235) rfl)) g0 ?_
  refine y_st (e_167 (425, .bipush 28, 2) (List.mem_of_getElem? (i := 236) rfl)) ⟨rfl, rfl, rfl, rfl⟩ ?_
  refine y_iln (e_167 (427, .iload_n 1, 1) (List.mem_of_getElem? (i := 237) rfl)) g1 ?_
  refine y_st (e_167 (428, .iadd, 1) (List.mem_of_getElem? (i := 238) rfl)) ⟨rfl, rfl, rfl, rfl⟩ ?_
  refine y_st (e_167 (429, .bipush 73, 2) (List.mem_of_getElem? (i := 239) rfl)) ⟨rfl, rfl, rfl, rfl⟩ ?_
  refine y_iln (e_167 (431, .iload_n 1, 1) (List.mem_of_getElem? (i := 240) rfl)) g1 ?_
  refine y_st (e_167 (432, .iadd, 1) (List.mem_of_getElem? (i := 241) rfl)) ⟨rfl, rfl, rfl, rfl⟩ ?_
  refine y_st (e_167 (433, .bipush 77, 2) (List.mem_of_getElem? (i := 242) rfl)) ⟨rfl, rfl, rfl, rfl⟩ ?_
  refine y_iln (e_167 (435, .iload_n 1, 1) (List.mem_of_getElem? (i := 243) rfl)) g1 ?_
  refine y_st (e_167 (436, .iadd, 1) (List.mem_of_getElem? (i := 244) rfl)) ⟨rfl, rfl, rfl, rfl⟩ ?_
  refine y_c4 (K' := _) (e_167 (437, .invokevirtual 211, 3) (List.mem_of_getElem? (i := 245) rfl)) ⟨rfl, rfl, rfl⟩ t_17_211 ⟨by decide, by decide, by decide, by decide⟩ m_176_ok rfl (by decide) (y_recv h.T.I h.T.t ⟨rfl, rfl⟩) (Nat.le_of_ble_eq_true rfl) (Nat.le_of_ble_eq_true rfl) (k_place_a h hN1 hno) (fun r1 Gc hc1 => ?_)
  obtain ⟨rfl, hz⟩ := hc1
  simp only [Option.toList_some, Option.toList_none, List.cons_append, List.nil_append]
  refine y_ifc (e_167 (440, .ifCond .ne 5, 3) (List.mem_of_getElem? (i := 246) rfl)) rfl (fun hc => absurd hc (by decide)) (fun _ => ?_)
  refine y_st (e_167 (443, .iconst 0, 1) (List.mem_of_getElem? (i := 247) rfl)) ⟨rfl, rfl, rfl, rfl⟩ ?_
  exact y_ret (e_167 (444, .ireturn, 1) (List.mem_of_getElem? (i := 248) rfl)) ⟨rfl, y_rb (Or.inl rfl)⟩ ⟨rfl, hz⟩
set_option maxHeartbeats 2000000 in
set_option maxRecDepth 100000 in
theorem v_man_b (h : MS th am mb hb nb rb f n lim p0 tok0 at0 sp0 num0 wd0 hf nf on G) (hw : tok0 = Int32.ofInt 1 ∧ wd0 = t_W 9) (hcn : (hf 5).toInt < 4) (hN1 : NXm f n lim p0 num0 wd0 p1 tok1 at1 sp1 num1 wd1) (hname : tok1 = Int32.ofInt 1 ∧ ∀ x : Nat, x < 25 → wd1 ≠ t_W x) (hT : ¬ t_Told hf nf wd1) (hN2 : NXm f n lim p1 num1 wd1 p2 tok2 at2 sp2 num2 wd2) (hno : tok2 ≠ Int32.ofInt 2 ∨ num2.toInt < 0 ∨ 1 < num2.toInt) : x_Gd xs L J (d + 6) m_167 (fun r G' => r = some (.int 0) ∧ x_sl G' am 16 = some (.int at2) ∧ x_sl G' am 15 = some (.int (t_km tok2))) 0 (lv_args 0 [.ref am]) [] G := by
  have g0 : pm_get (lv_args 0 [.ref am]) 0 = some (.ref am) := rfl
  generalize (lv_args 0 [.ref am]) = lv at g0 ⊢
  refine v_to_man h g0 hw ?_
  obtain ⟨⟨p0_, p1_⟩, ⟨t0_, t1_⟩, ⟨l0_, l1_⟩, ⟨m0_, m1_⟩⟩ := h.cn
  refine y_aln (e_167 (406, .aload_n 0, 1) (List.mem_of_getElem? (i := 223) rfl)) g0 ?_
  refine y_getf h.T.I h.T.t (e_167 (407, .getfield 37, 3) (List.mem_of_getElem? (i := 224) rfl)) u_17_37 ⟨rfl, rfl⟩ h.2.2.2.2.1 ?_
  refine y_st (e_167 (410, .iconst 5, 1) (List.mem_of_getElem? (i := 225) rfl)) ⟨rfl, rfl, rfl, rfl⟩ ?_
  refine y_iald h.T.I h.2.1 (e_167 (411, .iaload, 1) (List.mem_of_getElem? (i := 226) rfl)) ⟨rfl, rfl⟩ (by decide) (h.2.2.2.2.2.2.2.2.1 5 (by decide)) ?_
  refine y_isn (e_167 (412, .istore_n 1, 1) (List.mem_of_getElem? (i := 227) rfl)) (by decide) ?_
  have g1 : pm_get (pm_put1 lv 1 (.int (hf 5))) 1 = some (.int (hf 5)) := x_get_self
  have g0 : pm_get (pm_put1 lv 1 (.int (hf 5))) 0 = some (.ref am) := y_gpr g0 (by decide)
  show x_Gd xs L J _ m_167 _ 413 (pm_put1 lv 1 (.int (hf 5))) [] G
  generalize (pm_put1 lv 1 (.int (hf 5))) = lv3 at g0 g1 ⊢
  refine y_iln (e_167 (413, .iload_n 1, 1) (List.mem_of_getElem? (i := 228) rfl)) g1 ?_
  refine y_st (e_167 (414, .iconst 4, 1) (List.mem_of_getElem? (i := 229) rfl)) ⟨rfl, rfl, rfl, rfl⟩ ?_
  refine y_icm (e_167 (415, .if_icmp .ne 9, 3) (List.mem_of_getElem? (i := 230) rfl)) rfl (fun _ => ?_) (fun hc => ?_)
  rotate_left
  · have z := y_hI.2.2.2.1 hc
    rw [z] at hcn
    exact absurd hcn (by decide)
  have e28 : ((Int8.ofInt 28).toInt32 + hf 5).toInt = 28 + (hf 5).toInt := (y_add (by show -2147483648 ≤ (28 : Int) + _; omega) (by show (28 : Int) + _ ≤ 2147483647; omega)).trans rfl
  have e73 : ((Int8.ofInt 73).toInt32 + hf 5).toInt = 73 + (hf 5).toInt := (y_add (by show -2147483648 ≤ (73 : Int) + _; omega) (by show (73 : Int) + _ ≤ 2147483647; omega)).trans rfl
  have e77 : ((Int8.ofInt 77).toInt32 + hf 5).toInt = 77 + (hf 5).toInt := (y_add (by show -2147483648 ≤ (77 : Int) + _; omega) (by show (77 : Int) + _ ≤ 2147483647; omega)).trans rfl
  refine y_aln (e_167 (424, .aload_n 0, 1) (List.mem_of_getElem? (i := 235) rfl)) g0 ?_
  refine y_st (e_167 (425, .bipush 28, 2) (List.mem_of_getElem? (i := 236) rfl)) ⟨rfl, rfl, rfl, rfl⟩ ?_
  refine y_iln (e_167 (427, .iload_n 1, 1) (List.mem_of_getElem? (i := 237) rfl)) g1 ?_
  refine y_st (e_167 (428, .iadd, 1) (List.mem_of_getElem? (i := 238) rfl)) ⟨rfl, rfl, rfl, rfl⟩ ?_
  refine y_st (e_167 (429, .bipush 73, 2) (List.mem_of_getElem? (i := 239) rfl)) ⟨rfl, rfl, rfl, rfl⟩ ?_
  refine y_iln (e_167 (431, .iload_n 1, 1) (List.mem_of_getElem? (i := 240) rfl)) g1 ?_
  refine y_st (e_167 (432, .iadd, 1) (List.mem_of_getElem? (i := 241) rfl)) ⟨rfl, rfl, rfl, rfl⟩ ?_
  refine y_st (e_167 (433, .bipush 77, 2) (List.mem_of_getElem? (i := 242) rfl)) ⟨rfl, rfl, rfl, rfl⟩ ?_
  refine y_iln (e_167 (435, .iload_n 1, 1) (List.mem_of_getElem? (i := 243) rfl)) g1 ?_
  refine y_st (e_167 (436, .iadd, 1) (List.mem_of_getElem? (i := 244) rfl)) ⟨rfl, rfl, rfl, rfl⟩ ?_
  refine y_c4 (K' := _) (e_167 (437, .invokevirtual 211, 3) (List.mem_of_getElem? (i := 245) rfl)) ⟨rfl, rfl, rfl⟩ t_17_211 ⟨by decide, by decide, by decide, by decide⟩ m_176_ok rfl (by decide) (y_recv h.T.I h.T.t ⟨rfl, rfl⟩) (Nat.le_of_ble_eq_true rfl) (Nat.le_of_ble_eq_true rfl) (k_place_b h hN1 hname hT ⟨by omega, by omega⟩ hN2 hno) (fun r1 Gc hc1 => ?_)
  obtain ⟨rfl, hz⟩ := hc1
  simp only [Option.toList_some, Option.toList_none, List.cons_append, List.nil_append]
  refine y_ifc (e_167 (440, .ifCond .ne 5, 3) (List.mem_of_getElem? (i := 246) rfl)) rfl (fun hc => absurd hc (by decide)) (fun _ => ?_)
  refine y_st (e_167 (443, .iconst 0, 1) (List.mem_of_getElem? (i := 247) rfl)) ⟨rfl, rfl, rfl, rfl⟩ ?_
  exact y_ret (e_167 (444, .ireturn, 1) (List.mem_of_getElem? (i := 248) rfl)) ⟨rfl, y_rb (Or.inl rfl)⟩ ⟨rfl, hz⟩
set_option maxHeartbeats 2000000 in
set_option maxRecDepth 100000 in
theorem v_man_c (h : MS th am mb hb nb rb f n lim p0 tok0 at0 sp0 num0 wd0 hf nf on G) (hw : tok0 = Int32.ofInt 1 ∧ wd0 = t_W 9) (hcn : (hf 5).toInt < 4) (hN1 : NXm f n lim p0 num0 wd0 p1 tok1 at1 sp1 num1 wd1) (hname : tok1 = Int32.ofInt 1 ∧ ∀ x : Nat, x < 25 → wd1 ≠ t_W x) (hT : ¬ t_Told hf nf wd1) (hN2 : NXm f n lim p1 num1 wd1 p2 tok2 at2 sp2 num2 wd2) (htk2 : tok2 = Int32.ofInt 2) (a2 : 0 ≤ num2.toInt) (b2 : num2.toInt ≤ 1) (hN3 : NXm f n lim p2 num2 wd2 p3 tok3 at3 sp3 num3 wd3) (hno : tok3 ≠ Int32.ofInt 2 ∨ num3.toInt < 0 ∨ (hf num2.toInt.toNat - Int32.ofInt 1).toInt < num3.toInt) : x_Gd xs L J (d + 6) m_167 (fun r G' => r = some (.int 0) ∧ x_sl G' am 16 = some (.int at3) ∧ x_sl G' am 15 = some (.int (t_km tok3))) 0 (lv_args 0 [.ref am]) [] G := by
  have g0 : pm_get (lv_args 0 [.ref am]) 0 = some (.ref am) := rfl
  generalize (lv_args 0 [.ref am]) = lv at g0 ⊢
  refine v_to_man h g0 hw ?_
  obtain ⟨⟨p0_, p1_⟩, ⟨t0_, t1_⟩, ⟨l0_, l1_⟩, ⟨m0_, m1_⟩⟩ := h.cn
  refine y_aln (e_167 (406, .aload_n 0, 1) (List.mem_of_getElem? (i := 223) rfl)) g0 ?_
  refine y_getf h.T.I h.T.t (e_167 (407, .getfield 37, 3) (List.mem_of_getElem? (i := 224) rfl)) u_17_37 ⟨rfl, rfl⟩ h.2.2.2.2.1 ?_
  refine y_st (e_167 (410, .iconst 5, 1) (List.mem_of_getElem? (i := 225) rfl)) ⟨rfl, rfl, rfl, rfl⟩ ?_
  refine y_iald h.T.I h.2.1 (e_167 (411, .iaload, 1) (List.mem_of_getElem? (i := 226) rfl)) ⟨rfl, rfl⟩ (by decide) (h.2.2.2.2.2.2.2.2.1 5 (by decide)) ?_
  refine y_isn (e_167 (412, .istore_n 1, 1) (List.mem_of_getElem? (i := 227) rfl)) (by decide) ?_
  have g1 : pm_get (pm_put1 lv 1 (.int (hf 5))) 1 = some (.int (hf 5)) := x_get_self
  have g0 : pm_get (pm_put1 lv 1 (.int (hf 5))) 0 = some (.ref am) := y_gpr g0 (by decide)
  show x_Gd xs L J _ m_167 _ 413 (pm_put1 lv 1 (.int (hf 5))) [] G
  generalize (pm_put1 lv 1 (.int (hf 5))) = lv3 at g0 g1 ⊢
  refine y_iln (e_167 (413, .iload_n 1, 1) (List.mem_of_getElem? (i := 228) rfl)) g1 ?_
  refine y_st (e_167 (414, .iconst 4, 1) (List.mem_of_getElem? (i := 229) rfl)) ⟨rfl, rfl, rfl, rfl⟩ ?_
  refine y_icm (e_167 (415, .if_icmp .ne 9, 3) (List.mem_of_getElem? (i := 230) rfl)) rfl (fun _ => ?_) (fun hc => ?_)
  rotate_left
  · have z := y_hI.2.2.2.1 hc
    rw [z] at hcn
    exact absurd hcn (by decide)
  have e28 : ((Int8.ofInt 28).toInt32 + hf 5).toInt = 28 + (hf 5).toInt := (y_add (by show -2147483648 ≤ (28 : Int) + _; omega) (by show (28 : Int) + _ ≤ 2147483647; omega)).trans rfl
  have e73 : ((Int8.ofInt 73).toInt32 + hf 5).toInt = 73 + (hf 5).toInt := (y_add (by show -2147483648 ≤ (73 : Int) + _; omega) (by show (73 : Int) + _ ≤ 2147483647; omega)).trans rfl
  have e77 : ((Int8.ofInt 77).toInt32 + hf 5).toInt = 77 + (hf 5).toInt := (y_add (by show -2147483648 ≤ (77 : Int) + _; omega) (by show (77 : Int) + _ ≤ 2147483647; omega)).trans rfl
  refine y_aln (e_167 (424, .aload_n 0, 1) (List.mem_of_getElem? (i := 235) rfl)) g0 ?_
  refine y_st (e_167 (425, .bipush 28, 2) (List.mem_of_getElem? (i := 236) rfl)) ⟨rfl, rfl, rfl, rfl⟩ ?_
  refine y_iln (e_167 (427, .iload_n 1, 1) (List.mem_of_getElem? (i := 237) rfl)) g1 ?_
  refine y_st (e_167 (428, .iadd, 1) (List.mem_of_getElem? (i := 238) rfl)) ⟨rfl, rfl, rfl, rfl⟩ ?_
  refine y_st (e_167 (429, .bipush 73, 2) (List.mem_of_getElem? (i := 239) rfl)) ⟨rfl, rfl, rfl, rfl⟩ ?_
  refine y_iln (e_167 (431, .iload_n 1, 1) (List.mem_of_getElem? (i := 240) rfl)) g1 ?_
  refine y_st (e_167 (432, .iadd, 1) (List.mem_of_getElem? (i := 241) rfl)) ⟨rfl, rfl, rfl, rfl⟩ ?_
  refine y_st (e_167 (433, .bipush 77, 2) (List.mem_of_getElem? (i := 242) rfl)) ⟨rfl, rfl, rfl, rfl⟩ ?_
  refine y_iln (e_167 (435, .iload_n 1, 1) (List.mem_of_getElem? (i := 243) rfl)) g1 ?_
  refine y_st (e_167 (436, .iadd, 1) (List.mem_of_getElem? (i := 244) rfl)) ⟨rfl, rfl, rfl, rfl⟩ ?_
  refine y_c4 (K' := _) (e_167 (437, .invokevirtual 211, 3) (List.mem_of_getElem? (i := 245) rfl)) ⟨rfl, rfl, rfl⟩ t_17_211 ⟨by decide, by decide, by decide, by decide⟩ m_176_ok rfl (by decide) (y_recv h.T.I h.T.t ⟨rfl, rfl⟩) (Nat.le_of_ble_eq_true rfl) (Nat.le_of_ble_eq_true rfl) (k_place_c h hN1 hname hT ⟨by omega, by omega⟩ hN2 htk2 a2 b2 ⟨by omega, by omega⟩ (y_okI (t_37_v _ (by omega) (by omega)) (by omega) (by omega)) hN3 hno) (fun r1 Gc hc1 => ?_)
  obtain ⟨rfl, hz⟩ := hc1
  simp only [Option.toList_some, Option.toList_none, List.cons_append, List.nil_append]
  refine y_ifc (e_167 (440, .ifCond .ne 5, 3) (List.mem_of_getElem? (i := 246) rfl)) rfl (fun hc => absurd hc (by decide)) (fun _ => ?_)
  refine y_st (e_167 (443, .iconst 0, 1) (List.mem_of_getElem? (i := 247) rfl)) ⟨rfl, rfl, rfl, rfl⟩ ?_
  exact y_ret (e_167 (444, .ireturn, 1) (List.mem_of_getElem? (i := 248) rfl)) ⟨rfl, y_rb (Or.inl rfl)⟩ ⟨rfl, hz⟩
set_option maxHeartbeats 2000000 in
set_option maxRecDepth 100000 in
theorem v_man_ok (h : MS th am mb hb nb rb f n lim p0 tok0 at0 sp0 num0 wd0 hf nf on G) (hw : tok0 = Int32.ofInt 1 ∧ wd0 = t_W 9) (hcn : (hf 5).toInt < 4) (hN1 : NXm f n lim p0 num0 wd0 p1 tok1 at1 sp1 num1 wd1) (hname : tok1 = Int32.ofInt 1 ∧ ∀ x : Nat, x < 25 → wd1 ≠ t_W x) (hT : ¬ t_Told hf nf wd1) (hN2 : NXm f n lim p1 num1 wd1 p2 tok2 at2 sp2 num2 wd2) (htk2 : tok2 = Int32.ofInt 2) (a2 : 0 ≤ num2.toInt) (b2 : num2.toInt ≤ 1) (hN3 : NXm f n lim p2 num2 wd2 p3 tok3 at3 sp3 num3 wd3) (htk3 : tok3 = Int32.ofInt 2) (a3 : 0 ≤ num3.toInt) (b3 : num3.toInt ≤ (hf num2.toInt.toNat - Int32.ofInt 1).toInt) (hN4 : NXm f n lim p3 num3 wd3 p4 tok4 at4 sp4 num4 wd4) : x_Gd xs L J (d + 6) m_167 (fun r G' => r = some (.int 1) ∧ MS th am mb hb nb rb f n lim p4 tok4 at4 sp4 num4 wd4 (fun i => if i = 5 then hf 5 + Int32.ofInt 1 else (fun i => if i = ((Int8.ofInt 77).toInt32 + hf 5).toInt.toNat then num3 else if i = ((Int8.ofInt 73).toInt32 + hf 5).toInt.toNat then num2 else hf i) i) (fun i => if i = ((Int8.ofInt 28).toInt32 + hf 5).toInt.toNat then wd1 else nf i) (on ||| Int32.ofInt 1) G') 0 (lv_args 0 [.ref am]) [] G := by
  have g0 : pm_get (lv_args 0 [.ref am]) 0 = some (.ref am) := rfl
  generalize (lv_args 0 [.ref am]) = lv at g0 ⊢
  refine v_to_man h g0 hw ?_
  obtain ⟨⟨p0_, p1_⟩, ⟨t0_, t1_⟩, ⟨l0_, l1_⟩, ⟨m0_, m1_⟩⟩ := h.cn
  refine y_aln (e_167 (406, .aload_n 0, 1) (List.mem_of_getElem? (i := 223) rfl)) g0 ?_
  refine y_getf h.T.I h.T.t (e_167 (407, .getfield 37, 3) (List.mem_of_getElem? (i := 224) rfl)) u_17_37 ⟨rfl, rfl⟩ h.2.2.2.2.1 ?_
  refine y_st (e_167 (410, .iconst 5, 1) (List.mem_of_getElem? (i := 225) rfl)) ⟨rfl, rfl, rfl, rfl⟩ ?_
  refine y_iald h.T.I h.2.1 (e_167 (411, .iaload, 1) (List.mem_of_getElem? (i := 226) rfl)) ⟨rfl, rfl⟩ (by decide) (h.2.2.2.2.2.2.2.2.1 5 (by decide)) ?_
  refine y_isn (e_167 (412, .istore_n 1, 1) (List.mem_of_getElem? (i := 227) rfl)) (by decide) ?_
  have g1 : pm_get (pm_put1 lv 1 (.int (hf 5))) 1 = some (.int (hf 5)) := x_get_self
  have g0 : pm_get (pm_put1 lv 1 (.int (hf 5))) 0 = some (.ref am) := y_gpr g0 (by decide)
  show x_Gd xs L J _ m_167 _ 413 (pm_put1 lv 1 (.int (hf 5))) [] G
  generalize (pm_put1 lv 1 (.int (hf 5))) = lv3 at g0 g1 ⊢
  refine y_iln (e_167 (413, .iload_n 1, 1) (List.mem_of_getElem? (i := 228) rfl)) g1 ?_
  refine y_st (e_167 (414, .iconst 4, 1) (List.mem_of_getElem? (i := 229) rfl)) ⟨rfl, rfl, rfl, rfl⟩ ?_
  refine y_icm (e_167 (415, .if_icmp .ne 9, 3) (List.mem_of_getElem? (i := 230) rfl)) rfl (fun _ => ?_) (fun hc => ?_)
  rotate_left
  · have z := y_hI.2.2.2.1 hc
    rw [z] at hcn
    exact absurd hcn (by decide)
  have e28 : ((Int8.ofInt 28).toInt32 + hf 5).toInt = 28 + (hf 5).toInt := (y_add (by show -2147483648 ≤ (28 : Int) + _; omega) (by show (28 : Int) + _ ≤ 2147483647; omega)).trans rfl
  have e73 : ((Int8.ofInt 73).toInt32 + hf 5).toInt = 73 + (hf 5).toInt := (y_add (by show -2147483648 ≤ (73 : Int) + _; omega) (by show (73 : Int) + _ ≤ 2147483647; omega)).trans rfl
  have e77 : ((Int8.ofInt 77).toInt32 + hf 5).toInt = 77 + (hf 5).toInt := (y_add (by show -2147483648 ≤ (77 : Int) + _; omega) (by show (77 : Int) + _ ≤ 2147483647; omega)).trans rfl
  refine y_aln (e_167 (424, .aload_n 0, 1) (List.mem_of_getElem? (i := 235) rfl)) g0 ?_
  refine y_st (e_167 (425, .bipush 28, 2) (List.mem_of_getElem? (i := 236) rfl)) ⟨rfl, rfl, rfl, rfl⟩ ?_
  refine y_iln (e_167 (427, .iload_n 1, 1) (List.mem_of_getElem? (i := 237) rfl)) g1 ?_
  refine y_st (e_167 (428, .iadd, 1) (List.mem_of_getElem? (i := 238) rfl)) ⟨rfl, rfl, rfl, rfl⟩ ?_
  refine y_st (e_167 (429, .bipush 73, 2) (List.mem_of_getElem? (i := 239) rfl)) ⟨rfl, rfl, rfl, rfl⟩ ?_
  refine y_iln (e_167 (431, .iload_n 1, 1) (List.mem_of_getElem? (i := 240) rfl)) g1 ?_
  refine y_st (e_167 (432, .iadd, 1) (List.mem_of_getElem? (i := 241) rfl)) ⟨rfl, rfl, rfl, rfl⟩ ?_
  refine y_st (e_167 (433, .bipush 77, 2) (List.mem_of_getElem? (i := 242) rfl)) ⟨rfl, rfl, rfl, rfl⟩ ?_
  refine y_iln (e_167 (435, .iload_n 1, 1) (List.mem_of_getElem? (i := 243) rfl)) g1 ?_
  refine y_st (e_167 (436, .iadd, 1) (List.mem_of_getElem? (i := 244) rfl)) ⟨rfl, rfl, rfl, rfl⟩ ?_
  refine y_c4 (K' := _) (e_167 (437, .invokevirtual 211, 3) (List.mem_of_getElem? (i := 245) rfl)) ⟨rfl, rfl, rfl⟩ t_17_211 ⟨by decide, by decide, by decide, by decide⟩ m_176_ok rfl (by decide) (y_recv h.T.I h.T.t ⟨rfl, rfl⟩) (Nat.le_of_ble_eq_true rfl) (Nat.le_of_ble_eq_true rfl) (k_place_yes h hN1 hname hT ⟨by omega, by omega⟩ hN2 htk2 a2 b2 ⟨by omega, by omega⟩ (y_okI (t_37_v _ (by omega) (by omega)) (by omega) (by omega)) hN3 htk3 a3 b3 ⟨by omega, by omega⟩ (y_okA (t_37_c _ (by omega) (by omega))) hN4) (fun r1 Gc hc1 => ?_)
  obtain ⟨rfl, qp⟩ := hc1
  simp only [Option.toList_some, Option.toList_none, List.cons_append, List.nil_append]
  refine y_ifc (e_167 (440, .ifCond .ne 5, 3) (List.mem_of_getElem? (i := 246) rfl)) rfl (fun _ => ?_) (fun hc => absurd hc (by decide))
  have dc := qp.2.2.2.2.2.2.2.2.1 5 (by decide)
  dsimp only at dc
  rw [if_neg (by omega), if_neg (by omega)] at dc
  refine y_aln (e_167 (445, .aload_n 0, 1) (List.mem_of_getElem? (i := 249) rfl)) g0 ?_
  refine y_getf qp.T.I qp.T.t (e_167 (446, .getfield 37, 3) (List.mem_of_getElem? (i := 250) rfl)) u_17_37 ⟨rfl, rfl⟩ qp.2.2.2.2.1 ?_
  refine y_st (e_167 (449, .iconst 5, 1) (List.mem_of_getElem? (i := 251) rfl)) ⟨rfl, rfl, rfl, rfl⟩ ?_
  refine y_st (e_167 (450, .dup2, 1) (List.mem_of_getElem? (i := 252) rfl)) ⟨rfl, rfl, rfl, rfl⟩ ?_
  refine y_iald qp.T.I qp.2.1 (e_167 (451, .iaload, 1) (List.mem_of_getElem? (i := 253) rfl)) ⟨rfl, rfl⟩ (by decide) dc ?_
  refine y_st (e_167 (452, .iconst 1, 1) (List.mem_of_getElem? (i := 254) rfl)) ⟨rfl, rfl, rfl, rfl⟩ ?_
  refine y_st (e_167 (453, .iadd, 1) (List.mem_of_getElem? (i := 255) rfl)) ⟨rfl, rfl, rfl, rfl⟩ ?_
  have ec : (hf 5 + Int32.ofInt 1).toInt = (hf 5).toInt + 1 := y_add1 (t := hf 5) (by omega)
  refine y_iast qp.T.I qp.2.1 (e_167 (454, .iastore, 1) (List.mem_of_getElem? (i := 256) rfl)) ⟨rfl, rfl⟩ ⟨by decide, by decide⟩ (fun Gi ui => ?_)
  have qz := qp.put (k := 5) ui (qp.T.I.upd ui qp.2.1 (y_okI (lo := 0) (hi := 4) rfl (by omega) (by omega)))
  refine y_st (e_167 (455, .iconst 1, 1) (List.mem_of_getElem? (i := 257) rfl)) ⟨rfl, rfl, rfl, rfl⟩ ?_
  exact y_ret (e_167 (456, .ireturn, 1) (List.mem_of_getElem? (i := 258) rfl)) ⟨rfl, y_rb (Or.inr rfl)⟩ ⟨rfl, qz⟩
set_option maxHeartbeats 2000000 in
set_option maxRecDepth 100000 in
theorem v_rt_0 (h : MS th am mb hb nb rb f n lim p0 tok0 at0 sp0 num0 wd0 hf nf on G) (hcn : (hf 3).toInt = 8) : x_Gd xs L J (d + 5) m_175 (fun r G' => r = some (.int 0) ∧ x_sl G' am 16 = some (.int at0) ∧ x_sl G' am 15 = some (.int (Int32.ofInt 4))) 0 (lv_args 0 [.ref am]) [] G := by
  have g0 : pm_get (lv_args 0 [.ref am]) 0 = some (.ref am) := rfl
  generalize (lv_args 0 [.ref am]) = lv at g0 ⊢
  obtain ⟨⟨p0_, p1_⟩, ⟨t0_, t1_⟩, ⟨l0_, l1_⟩, ⟨m0_, m1_⟩⟩ := h.cn
  refine y_aln (e_175 (0, .aload_n 0, 1) (List.mem_of_getElem? (i := 0) rfl)) g0 ?_
  refine y_getf h.T.I h.T.t (e_175 (1, .getfield 37, 3) (List.mem_of_getElem? (i := 1) rfl)) u_17_37 ⟨rfl, rfl⟩ h.2.2.2.2.1 ?_
  refine y_st (e_175 (4, .iconst 3, 1) (List.mem_of_getElem? (i := 2) rfl)) ⟨rfl, rfl, rfl, rfl⟩ ?_
  refine y_iald h.T.I h.2.1 (e_175 (5, .iaload, 1) (List.mem_of_getElem? (i := 3) rfl)) ⟨rfl, rfl⟩ (by decide) (h.2.2.2.2.2.2.2.2.1 3 (by decide)) ?_
  refine y_isn (e_175 (6, .istore_n 1, 1) (List.mem_of_getElem? (i := 4) rfl)) (by decide) ?_
  have g1 : pm_get (pm_put1 lv 1 (.int (hf 3))) 1 = some (.int (hf 3)) := x_get_self
  have g0 : pm_get (pm_put1 lv 1 (.int (hf 3))) 0 = some (.ref am) := y_gpr g0 (by decide)
  show x_Gd xs L J _ m_175 _ 7 (pm_put1 lv 1 (.int (hf 3))) [] G
  generalize (pm_put1 lv 1 (.int (hf 3))) = lv3 at g0 g1 ⊢
  refine y_iln (e_175 (7, .iload_n 1, 1) (List.mem_of_getElem? (i := 5) rfl)) g1 ?_
  refine y_st (e_175 (8, .bipush 8, 2) (List.mem_of_getElem? (i := 6) rfl)) ⟨rfl, rfl, rfl, rfl⟩ ?_
  refine y_icm (e_175 (10, .if_icmp .ne 9, 3) (List.mem_of_getElem? (i := 7) rfl)) rfl (fun hc => absurd (Int32.toInt_inj.mp (by rw [hcn]; rfl)) (y_hI.2.2.1 hc)) (fun _ => ?_)
  refine y_aln (e_175 (13, .aload_n 0, 1) (List.mem_of_getElem? (i := 8) rfl)) g0 ?_
  refine y_st (e_175 (14, .iconst 4, 1) (List.mem_of_getElem? (i := 9) rfl)) ⟨rfl, rfl, rfl, rfl⟩ ?_
  refine y_c2 (K' := _) (e_175 (15, .invokevirtual 167, 3) (List.mem_of_getElem? (i := 10) rfl)) ⟨rfl, rfl, rfl⟩ t_17_167 ⟨by decide, by decide, by decide, by decide⟩ m_171_ok rfl (by decide) (y_recv h.T.I h.T.t ⟨rfl, rfl⟩) (Nat.le_of_ble_eq_true rfl) (Nat.le_of_ble_eq_true rfl) (k_bad h _) (fun r1 Gc hc1 => ?_)
  obtain ⟨rfl, hz⟩ := hc1
  simp only [Option.toList_some, Option.toList_none, List.cons_append, List.nil_append]
  exact y_ret (e_175 (18, .ireturn, 1) (List.mem_of_getElem? (i := 11) rfl)) ⟨rfl, y_rb (Or.inl rfl)⟩ ⟨rfl, hz⟩
set_option maxHeartbeats 2000000 in
set_option maxRecDepth 100000 in
theorem v_rt_a (h : MS th am mb hb nb rb f n lim p0 tok0 at0 sp0 num0 wd0 hf nf on G) (hcn : (hf 3).toInt < 8) (hN1 : NXm f n lim p0 num0 wd0 p1 tok1 at1 sp1 num1 wd1) (hno : ¬ (tok1 = Int32.ofInt 1 ∧ ∀ x : Nat, x < 25 → wd1 ≠ t_W x) ∨ t_Told hf nf wd1) : x_Gd xs L J (d + 5) m_175 (fun r G' => r = some (.int 0) ∧ x_sl G' am 16 = some (.int at1) ∧ x_sl G' am 15 = some (.int (t_kf tok1 wd1))) 0 (lv_args 0 [.ref am]) [] G := by
  have g0 : pm_get (lv_args 0 [.ref am]) 0 = some (.ref am) := rfl
  generalize (lv_args 0 [.ref am]) = lv at g0 ⊢
  obtain ⟨⟨p0_, p1_⟩, ⟨t0_, t1_⟩, ⟨l0_, l1_⟩, ⟨m0_, m1_⟩⟩ := h.cn
  refine y_aln (e_175 (0, .aload_n 0, 1) (List.mem_of_getElem? (i := 0) rfl)) g0 ?_
  refine y_getf h.T.I h.T.t (e_175 (1, .getfield 37, 3) (List.mem_of_getElem? (i := 1) rfl)) u_17_37 ⟨rfl, rfl⟩ h.2.2.2.2.1 ?_
  refine y_st (e_175 (4, .iconst 3, 1) (List.mem_of_getElem? (i := 2) rfl)) ⟨rfl, rfl, rfl, rfl⟩ ?_
  refine y_iald h.T.I h.2.1 (e_175 (5, .iaload, 1) (List.mem_of_getElem? (i := 3) rfl)) ⟨rfl, rfl⟩ (by decide) (h.2.2.2.2.2.2.2.2.1 3 (by decide)) ?_
  refine y_isn (e_175 (6, .istore_n 1, 1) (List.mem_of_getElem? (i := 4) rfl)) (by decide) ?_
  have g1 : pm_get (pm_put1 lv 1 (.int (hf 3))) 1 = some (.int (hf 3)) := x_get_self
  have g0 : pm_get (pm_put1 lv 1 (.int (hf 3))) 0 = some (.ref am) := y_gpr g0 (by decide)
  show x_Gd xs L J _ m_175 _ 7 (pm_put1 lv 1 (.int (hf 3))) [] G
  generalize (pm_put1 lv 1 (.int (hf 3))) = lv3 at g0 g1 ⊢
  refine y_iln (e_175 (7, .iload_n 1, 1) (List.mem_of_getElem? (i := 5) rfl)) g1 ?_
  refine y_st (e_175 (8, .bipush 8, 2) (List.mem_of_getElem? (i := 6) rfl)) ⟨rfl, rfl, rfl, rfl⟩ ?_
  refine y_icm (e_175 (10, .if_icmp .ne 9, 3) (List.mem_of_getElem? (i := 7) rfl)) rfl (fun _ => ?_) (fun hc => ?_)
  rotate_left
  · have z := y_hI.2.2.2.1 hc
    rw [z] at hcn
    exact absurd hcn (by decide)
  have e16 : ((Int8.ofInt 16).toInt32 + hf 3).toInt = 16 + (hf 3).toInt := (y_add (by show -2147483648 ≤ (16 : Int) + _; omega) (by show (16 : Int) + _ ≤ 2147483647; omega)).trans rfl
  have e25 : ((Int8.ofInt 25).toInt32 + hf 3).toInt = 25 + (hf 3).toInt := (y_add (by show -2147483648 ≤ (25 : Int) + _; omega) (by show (25 : Int) + _ ≤ 2147483647; omega)).trans rfl
  have e33 : ((Int8.ofInt 33).toInt32 + hf 3).toInt = 33 + (hf 3).toInt := (y_add (by show -2147483648 ≤ (33 : Int) + _; omega) (by show (33 : Int) + _ ≤ 2147483647; omega)).trans rfl
  refine y_aln (e_175 (19, .aload_n 0, 1) (List.mem_of_getElem? (i := 12) rfl)) g0 ?_
  refine y_st (e_175 (20, .bipush 16, 2) (List.mem_of_getElem? (i := 13) rfl)) ⟨rfl, rfl, rfl, rfl⟩ ?_
  refine y_iln (e_175 (22, .iload_n 1, 1) (List.mem_of_getElem? (i := 14) rfl)) g1 ?_
  refine y_st (e_175 (23, .iadd, 1) (List.mem_of_getElem? (i := 15) rfl)) ⟨rfl, rfl, rfl, rfl⟩ ?_
  refine y_st (e_175 (24, .bipush 25, 2) (List.mem_of_getElem? (i := 16) rfl)) ⟨rfl, rfl, rfl, rfl⟩ ?_
  refine y_iln (e_175 (26, .iload_n 1, 1) (List.mem_of_getElem? (i := 17) rfl)) g1 ?_
  refine y_st (e_175 (27, .iadd, 1) (List.mem_of_getElem? (i := 18) rfl)) ⟨rfl, rfl, rfl, rfl⟩ ?_
  refine y_st (e_175 (28, .bipush 33, 2) (List.mem_of_getElem? (i := 19) rfl)) ⟨rfl, rfl, rfl, rfl⟩ ?_
  refine y_iln (e_175 (30, .iload_n 1, 1) (List.mem_of_getElem? (i := 20) rfl)) g1 ?_
  refine y_st (e_175 (31, .iadd, 1) (List.mem_of_getElem? (i := 21) rfl)) ⟨rfl, rfl, rfl, rfl⟩ ?_
  refine y_c4 (K' := _) (e_175 (32, .invokevirtual 211, 3) (List.mem_of_getElem? (i := 22) rfl)) ⟨rfl, rfl, rfl⟩ t_17_211 ⟨by decide, by decide, by decide, by decide⟩ m_176_ok rfl (by decide) (y_recv h.T.I h.T.t ⟨rfl, rfl⟩) (Nat.le_of_ble_eq_true rfl) (Nat.le_of_ble_eq_true rfl) (k_place_a h hN1 hno) (fun r1 Gc hc1 => ?_)
  obtain ⟨rfl, hz⟩ := hc1
  simp only [Option.toList_some, Option.toList_none, List.cons_append, List.nil_append]
  refine y_ifc (e_175 (35, .ifCond .eq 31, 3) (List.mem_of_getElem? (i := 23) rfl)) rfl (fun _ => ?_) (fun hc => absurd hc (by decide))
  refine y_st (e_175 (66, .iconst 0, 1) (List.mem_of_getElem? (i := 40) rfl)) ⟨rfl, rfl, rfl, rfl⟩ ?_
  exact y_ret (e_175 (67, .ireturn, 1) (List.mem_of_getElem? (i := 41) rfl)) ⟨rfl, y_rb (Or.inl rfl)⟩ ⟨rfl, hz⟩
set_option maxHeartbeats 2000000 in
set_option maxRecDepth 100000 in
theorem v_rt_b (h : MS th am mb hb nb rb f n lim p0 tok0 at0 sp0 num0 wd0 hf nf on G) (hcn : (hf 3).toInt < 8) (hN1 : NXm f n lim p0 num0 wd0 p1 tok1 at1 sp1 num1 wd1) (hname : tok1 = Int32.ofInt 1 ∧ ∀ x : Nat, x < 25 → wd1 ≠ t_W x) (hT : ¬ t_Told hf nf wd1) (hN2 : NXm f n lim p1 num1 wd1 p2 tok2 at2 sp2 num2 wd2) (hno : tok2 ≠ Int32.ofInt 2 ∨ num2.toInt < 0 ∨ 1 < num2.toInt) : x_Gd xs L J (d + 5) m_175 (fun r G' => r = some (.int 0) ∧ x_sl G' am 16 = some (.int at2) ∧ x_sl G' am 15 = some (.int (t_km tok2))) 0 (lv_args 0 [.ref am]) [] G := by
  have g0 : pm_get (lv_args 0 [.ref am]) 0 = some (.ref am) := rfl
  generalize (lv_args 0 [.ref am]) = lv at g0 ⊢
  obtain ⟨⟨p0_, p1_⟩, ⟨t0_, t1_⟩, ⟨l0_, l1_⟩, ⟨m0_, m1_⟩⟩ := h.cn
  refine y_aln (e_175 (0, .aload_n 0, 1) (List.mem_of_getElem? (i := 0) rfl)) g0 ?_
  refine y_getf h.T.I h.T.t (e_175 (1, .getfield 37, 3) (List.mem_of_getElem? (i := 1) rfl)) u_17_37 ⟨rfl, rfl⟩ h.2.2.2.2.1 ?_
  refine y_st (e_175 (4, .iconst 3, 1) (List.mem_of_getElem? (i := 2) rfl)) ⟨rfl, rfl, rfl, rfl⟩ ?_
  refine y_iald h.T.I h.2.1 (e_175 (5, .iaload, 1) (List.mem_of_getElem? (i := 3) rfl)) ⟨rfl, rfl⟩ (by decide) (h.2.2.2.2.2.2.2.2.1 3 (by decide)) ?_
  refine y_isn (e_175 (6, .istore_n 1, 1) (List.mem_of_getElem? (i := 4) rfl)) (by decide) ?_
  have g1 : pm_get (pm_put1 lv 1 (.int (hf 3))) 1 = some (.int (hf 3)) := x_get_self
  have g0 : pm_get (pm_put1 lv 1 (.int (hf 3))) 0 = some (.ref am) := y_gpr g0 (by decide)
  show x_Gd xs L J _ m_175 _ 7 (pm_put1 lv 1 (.int (hf 3))) [] G
  generalize (pm_put1 lv 1 (.int (hf 3))) = lv3 at g0 g1 ⊢
  refine y_iln (e_175 (7, .iload_n 1, 1) (List.mem_of_getElem? (i := 5) rfl)) g1 ?_
  refine y_st (e_175 (8, .bipush 8, 2) (List.mem_of_getElem? (i := 6) rfl)) ⟨rfl, rfl, rfl, rfl⟩ ?_
  refine y_icm (e_175 (10, .if_icmp .ne 9, 3) (List.mem_of_getElem? (i := 7) rfl)) rfl (fun _ => ?_) (fun hc => ?_)
  rotate_left
  · have z := y_hI.2.2.2.1 hc
    rw [z] at hcn
    exact absurd hcn (by decide)
  have e16 : ((Int8.ofInt 16).toInt32 + hf 3).toInt = 16 + (hf 3).toInt := (y_add (by show -2147483648 ≤ (16 : Int) + _; omega) (by show (16 : Int) + _ ≤ 2147483647; omega)).trans rfl
  have e25 : ((Int8.ofInt 25).toInt32 + hf 3).toInt = 25 + (hf 3).toInt := (y_add (by show -2147483648 ≤ (25 : Int) + _; omega) (by show (25 : Int) + _ ≤ 2147483647; omega)).trans rfl
  have e33 : ((Int8.ofInt 33).toInt32 + hf 3).toInt = 33 + (hf 3).toInt := (y_add (by show -2147483648 ≤ (33 : Int) + _; omega) (by show (33 : Int) + _ ≤ 2147483647; omega)).trans rfl
  refine y_aln (e_175 (19, .aload_n 0, 1) (List.mem_of_getElem? (i := 12) rfl)) g0 ?_
  refine y_st (e_175 (20, .bipush 16, 2) (List.mem_of_getElem? (i := 13) rfl)) ⟨rfl, rfl, rfl, rfl⟩ ?_
  refine y_iln (e_175 (22, .iload_n 1, 1) (List.mem_of_getElem? (i := 14) rfl)) g1 ?_
  refine y_st (e_175 (23, .iadd, 1) (List.mem_of_getElem? (i := 15) rfl)) ⟨rfl, rfl, rfl, rfl⟩ ?_
  refine y_st (e_175 (24, .bipush 25, 2) (List.mem_of_getElem? (i := 16) rfl)) ⟨rfl, rfl, rfl, rfl⟩ ?_
  refine y_iln (e_175 (26, .iload_n 1, 1) (List.mem_of_getElem? (i := 17) rfl)) g1 ?_
  refine y_st (e_175 (27, .iadd, 1) (List.mem_of_getElem? (i := 18) rfl)) ⟨rfl, rfl, rfl, rfl⟩ ?_
  refine y_st (e_175 (28, .bipush 33, 2) (List.mem_of_getElem? (i := 19) rfl)) ⟨rfl, rfl, rfl, rfl⟩ ?_
  refine y_iln (e_175 (30, .iload_n 1, 1) (List.mem_of_getElem? (i := 20) rfl)) g1 ?_
  refine y_st (e_175 (31, .iadd, 1) (List.mem_of_getElem? (i := 21) rfl)) ⟨rfl, rfl, rfl, rfl⟩ ?_
  refine y_c4 (K' := _) (e_175 (32, .invokevirtual 211, 3) (List.mem_of_getElem? (i := 22) rfl)) ⟨rfl, rfl, rfl⟩ t_17_211 ⟨by decide, by decide, by decide, by decide⟩ m_176_ok rfl (by decide) (y_recv h.T.I h.T.t ⟨rfl, rfl⟩) (Nat.le_of_ble_eq_true rfl) (Nat.le_of_ble_eq_true rfl) (k_place_b h hN1 hname hT ⟨by omega, by omega⟩ hN2 hno) (fun r1 Gc hc1 => ?_)
  obtain ⟨rfl, hz⟩ := hc1
  simp only [Option.toList_some, Option.toList_none, List.cons_append, List.nil_append]
  refine y_ifc (e_175 (35, .ifCond .eq 31, 3) (List.mem_of_getElem? (i := 23) rfl)) rfl (fun _ => ?_) (fun hc => absurd hc (by decide))
  refine y_st (e_175 (66, .iconst 0, 1) (List.mem_of_getElem? (i := 40) rfl)) ⟨rfl, rfl, rfl, rfl⟩ ?_
  exact y_ret (e_175 (67, .ireturn, 1) (List.mem_of_getElem? (i := 41) rfl)) ⟨rfl, y_rb (Or.inl rfl)⟩ ⟨rfl, hz⟩
set_option maxHeartbeats 2000000 in
set_option maxRecDepth 100000 in
theorem v_rt_c (h : MS th am mb hb nb rb f n lim p0 tok0 at0 sp0 num0 wd0 hf nf on G) (hcn : (hf 3).toInt < 8) (hN1 : NXm f n lim p0 num0 wd0 p1 tok1 at1 sp1 num1 wd1) (hname : tok1 = Int32.ofInt 1 ∧ ∀ x : Nat, x < 25 → wd1 ≠ t_W x) (hT : ¬ t_Told hf nf wd1) (hN2 : NXm f n lim p1 num1 wd1 p2 tok2 at2 sp2 num2 wd2) (htk2 : tok2 = Int32.ofInt 2) (a2 : 0 ≤ num2.toInt) (b2 : num2.toInt ≤ 1) (hN3 : NXm f n lim p2 num2 wd2 p3 tok3 at3 sp3 num3 wd3) (hno : tok3 ≠ Int32.ofInt 2 ∨ num3.toInt < 0 ∨ (hf num2.toInt.toNat - Int32.ofInt 1).toInt < num3.toInt) : x_Gd xs L J (d + 5) m_175 (fun r G' => r = some (.int 0) ∧ x_sl G' am 16 = some (.int at3) ∧ x_sl G' am 15 = some (.int (t_km tok3))) 0 (lv_args 0 [.ref am]) [] G := by
  have g0 : pm_get (lv_args 0 [.ref am]) 0 = some (.ref am) := rfl
  generalize (lv_args 0 [.ref am]) = lv at g0 ⊢
  obtain ⟨⟨p0_, p1_⟩, ⟨t0_, t1_⟩, ⟨l0_, l1_⟩, ⟨m0_, m1_⟩⟩ := h.cn
  refine y_aln (e_175 (0, .aload_n 0, 1) (List.mem_of_getElem? (i := 0) rfl)) g0 ?_
  refine y_getf h.T.I h.T.t (e_175 (1, .getfield 37, 3) (List.mem_of_getElem? (i := 1) rfl)) u_17_37 ⟨rfl, rfl⟩ h.2.2.2.2.1 ?_
  refine y_st (e_175 (4, .iconst 3, 1) (List.mem_of_getElem? (i := 2) rfl)) ⟨rfl, rfl, rfl, rfl⟩ ?_
  refine y_iald h.T.I h.2.1 (e_175 (5, .iaload, 1) (List.mem_of_getElem? (i := 3) rfl)) ⟨rfl, rfl⟩ (by decide) (h.2.2.2.2.2.2.2.2.1 3 (by decide)) ?_
  refine y_isn (e_175 (6, .istore_n 1, 1) (List.mem_of_getElem? (i := 4) rfl)) (by decide) ?_
  have g1 : pm_get (pm_put1 lv 1 (.int (hf 3))) 1 = some (.int (hf 3)) := x_get_self
  have g0 : pm_get (pm_put1 lv 1 (.int (hf 3))) 0 = some (.ref am) := y_gpr g0 (by decide)
  show x_Gd xs L J _ m_175 _ 7 (pm_put1 lv 1 (.int (hf 3))) [] G
  generalize (pm_put1 lv 1 (.int (hf 3))) = lv3 at g0 g1 ⊢
  refine y_iln (e_175 (7, .iload_n 1, 1) (List.mem_of_getElem? (i := 5) rfl)) g1 ?_
  refine y_st (e_175 (8, .bipush 8, 2) (List.mem_of_getElem? (i := 6) rfl)) ⟨rfl, rfl, rfl, rfl⟩ ?_
  refine y_icm (e_175 (10, .if_icmp .ne 9, 3) (List.mem_of_getElem? (i := 7) rfl)) rfl (fun _ => ?_) (fun hc => ?_)
  rotate_left
  · have z := y_hI.2.2.2.1 hc
    rw [z] at hcn
    exact absurd hcn (by decide)
  have e16 : ((Int8.ofInt 16).toInt32 + hf 3).toInt = 16 + (hf 3).toInt := (y_add (by show -2147483648 ≤ (16 : Int) + _; omega) (by show (16 : Int) + _ ≤ 2147483647; omega)).trans rfl
  have e25 : ((Int8.ofInt 25).toInt32 + hf 3).toInt = 25 + (hf 3).toInt := (y_add (by show -2147483648 ≤ (25 : Int) + _; omega) (by show (25 : Int) + _ ≤ 2147483647; omega)).trans rfl
  have e33 : ((Int8.ofInt 33).toInt32 + hf 3).toInt = 33 + (hf 3).toInt := (y_add (by show -2147483648 ≤ (33 : Int) + _; omega) (by show (33 : Int) + _ ≤ 2147483647; omega)).trans rfl
  refine y_aln (e_175 (19, .aload_n 0, 1) (List.mem_of_getElem? (i := 12) rfl)) g0 ?_
  refine y_st (e_175 (20, .bipush 16, 2) (List.mem_of_getElem? (i := 13) rfl)) ⟨rfl, rfl, rfl, rfl⟩ ?_
  refine y_iln (e_175 (22, .iload_n 1, 1) (List.mem_of_getElem? (i := 14) rfl)) g1 ?_
  refine y_st (e_175 (23, .iadd, 1) (List.mem_of_getElem? (i := 15) rfl)) ⟨rfl, rfl, rfl, rfl⟩ ?_
  refine y_st (e_175 (24, .bipush 25, 2) (List.mem_of_getElem? (i := 16) rfl)) ⟨rfl, rfl, rfl, rfl⟩ ?_
  refine y_iln (e_175 (26, .iload_n 1, 1) (List.mem_of_getElem? (i := 17) rfl)) g1 ?_
  refine y_st (e_175 (27, .iadd, 1) (List.mem_of_getElem? (i := 18) rfl)) ⟨rfl, rfl, rfl, rfl⟩ ?_
  refine y_st (e_175 (28, .bipush 33, 2) (List.mem_of_getElem? (i := 19) rfl)) ⟨rfl, rfl, rfl, rfl⟩ ?_
  refine y_iln (e_175 (30, .iload_n 1, 1) (List.mem_of_getElem? (i := 20) rfl)) g1 ?_
  refine y_st (e_175 (31, .iadd, 1) (List.mem_of_getElem? (i := 21) rfl)) ⟨rfl, rfl, rfl, rfl⟩ ?_
  refine y_c4 (K' := _) (e_175 (32, .invokevirtual 211, 3) (List.mem_of_getElem? (i := 22) rfl)) ⟨rfl, rfl, rfl⟩ t_17_211 ⟨by decide, by decide, by decide, by decide⟩ m_176_ok rfl (by decide) (y_recv h.T.I h.T.t ⟨rfl, rfl⟩) (Nat.le_of_ble_eq_true rfl) (Nat.le_of_ble_eq_true rfl) (k_place_c h hN1 hname hT ⟨by omega, by omega⟩ hN2 htk2 a2 b2 ⟨by omega, by omega⟩ (y_okI (t_37_v _ (by omega) (by omega)) (by omega) (by omega)) hN3 hno) (fun r1 Gc hc1 => ?_)
  obtain ⟨rfl, hz⟩ := hc1
  simp only [Option.toList_some, Option.toList_none, List.cons_append, List.nil_append]
  refine y_ifc (e_175 (35, .ifCond .eq 31, 3) (List.mem_of_getElem? (i := 23) rfl)) rfl (fun _ => ?_) (fun hc => absurd hc (by decide))
  refine y_st (e_175 (66, .iconst 0, 1) (List.mem_of_getElem? (i := 40) rfl)) ⟨rfl, rfl, rfl, rfl⟩ ?_
  exact y_ret (e_175 (67, .ireturn, 1) (List.mem_of_getElem? (i := 41) rfl)) ⟨rfl, y_rb (Or.inl rfl)⟩ ⟨rfl, hz⟩
set_option maxHeartbeats 2000000 in
set_option maxRecDepth 100000 in
theorem v_rt_d (h : MS th am mb hb nb rb f n lim p0 tok0 at0 sp0 num0 wd0 hf nf on G) (hcn : (hf 3).toInt < 8) (hN1 : NXm f n lim p0 num0 wd0 p1 tok1 at1 sp1 num1 wd1) (hname : tok1 = Int32.ofInt 1 ∧ ∀ x : Nat, x < 25 → wd1 ≠ t_W x) (hT : ¬ t_Told hf nf wd1) (hN2 : NXm f n lim p1 num1 wd1 p2 tok2 at2 sp2 num2 wd2) (htk2 : tok2 = Int32.ofInt 2) (a2 : 0 ≤ num2.toInt) (b2 : num2.toInt ≤ 1) (hN3 : NXm f n lim p2 num2 wd2 p3 tok3 at3 sp3 num3 wd3) (htk3 : tok3 = Int32.ofInt 2) (a3 : 0 ≤ num3.toInt) (b3 : num3.toInt ≤ (hf num2.toInt.toNat - Int32.ofInt 1).toInt) (hN4 : NXm f n lim p3 num3 wd3 p4 tok4 at4 sp4 num4 wd4) (hno : tok4 ≠ Int32.ofInt 2 ∨ num4.toInt < 1 ∨ 9 < num4.toInt) : x_Gd xs L J (d + 5) m_175 (fun r G' => r = some (.int 0) ∧ x_sl G' am 16 = some (.int at4) ∧ x_sl G' am 15 = some (.int (t_km tok4))) 0 (lv_args 0 [.ref am]) [] G := by
  have g0 : pm_get (lv_args 0 [.ref am]) 0 = some (.ref am) := rfl
  generalize (lv_args 0 [.ref am]) = lv at g0 ⊢
  obtain ⟨⟨p0_, p1_⟩, ⟨t0_, t1_⟩, ⟨l0_, l1_⟩, ⟨m0_, m1_⟩⟩ := h.cn
  refine y_aln (e_175 (0, .aload_n 0, 1) (List.mem_of_getElem? (i := 0) rfl)) g0 ?_
  refine y_getf h.T.I h.T.t (e_175 (1, .getfield 37, 3) (List.mem_of_getElem? (i := 1) rfl)) u_17_37 ⟨rfl, rfl⟩ h.2.2.2.2.1 ?_
  refine y_st (e_175 (4, .iconst 3, 1) (List.mem_of_getElem? (i := 2) rfl)) ⟨rfl, rfl, rfl, rfl⟩ ?_
  refine y_iald h.T.I h.2.1 (e_175 (5, .iaload, 1) (List.mem_of_getElem? (i := 3) rfl)) ⟨rfl, rfl⟩ (by decide) (h.2.2.2.2.2.2.2.2.1 3 (by decide)) ?_
  refine y_isn (e_175 (6, .istore_n 1, 1) (List.mem_of_getElem? (i := 4) rfl)) (by decide) ?_
  have g1 : pm_get (pm_put1 lv 1 (.int (hf 3))) 1 = some (.int (hf 3)) := x_get_self
  have g0 : pm_get (pm_put1 lv 1 (.int (hf 3))) 0 = some (.ref am) := y_gpr g0 (by decide)
  show x_Gd xs L J _ m_175 _ 7 (pm_put1 lv 1 (.int (hf 3))) [] G
  generalize (pm_put1 lv 1 (.int (hf 3))) = lv3 at g0 g1 ⊢
  refine y_iln (e_175 (7, .iload_n 1, 1) (List.mem_of_getElem? (i := 5) rfl)) g1 ?_
  refine y_st (e_175 (8, .bipush 8, 2) (List.mem_of_getElem? (i := 6) rfl)) ⟨rfl, rfl, rfl, rfl⟩ ?_
  refine y_icm (e_175 (10, .if_icmp .ne 9, 3) (List.mem_of_getElem? (i := 7) rfl)) rfl (fun _ => ?_) (fun hc => ?_)
  rotate_left
  · have z := y_hI.2.2.2.1 hc
    rw [z] at hcn
    exact absurd hcn (by decide)
  have e41 : ((Int8.ofInt 41).toInt32 + hf 3).toInt = 41 + (hf 3).toInt := (y_add (by show -2147483648 ≤ (41 : Int) + _; omega) (by show (41 : Int) + _ ≤ 2147483647; omega)).trans rfl
  have e49 : ((Int8.ofInt 49).toInt32 + hf 3).toInt = 49 + (hf 3).toInt := (y_add (by show -2147483648 ≤ (49 : Int) + _; omega) (by show (49 : Int) + _ ≤ 2147483647; omega)).trans rfl
  have e57 : ((Int8.ofInt 57).toInt32 + hf 3).toInt = 57 + (hf 3).toInt := (y_add (by show -2147483648 ≤ (57 : Int) + _; omega) (by show (57 : Int) + _ ≤ 2147483647; omega)).trans rfl
  have e16 : ((Int8.ofInt 16).toInt32 + hf 3).toInt = 16 + (hf 3).toInt := (y_add (by show -2147483648 ≤ (16 : Int) + _; omega) (by show (16 : Int) + _ ≤ 2147483647; omega)).trans rfl
  have e25 : ((Int8.ofInt 25).toInt32 + hf 3).toInt = 25 + (hf 3).toInt := (y_add (by show -2147483648 ≤ (25 : Int) + _; omega) (by show (25 : Int) + _ ≤ 2147483647; omega)).trans rfl
  have e33 : ((Int8.ofInt 33).toInt32 + hf 3).toInt = 33 + (hf 3).toInt := (y_add (by show -2147483648 ≤ (33 : Int) + _; omega) (by show (33 : Int) + _ ≤ 2147483647; omega)).trans rfl
  refine y_aln (e_175 (19, .aload_n 0, 1) (List.mem_of_getElem? (i := 12) rfl)) g0 ?_
  refine y_st (e_175 (20, .bipush 16, 2) (List.mem_of_getElem? (i := 13) rfl)) ⟨rfl, rfl, rfl, rfl⟩ ?_
  refine y_iln (e_175 (22, .iload_n 1, 1) (List.mem_of_getElem? (i := 14) rfl)) g1 ?_
  refine y_st (e_175 (23, .iadd, 1) (List.mem_of_getElem? (i := 15) rfl)) ⟨rfl, rfl, rfl, rfl⟩ ?_
  refine y_st (e_175 (24, .bipush 25, 2) (List.mem_of_getElem? (i := 16) rfl)) ⟨rfl, rfl, rfl, rfl⟩ ?_
  refine y_iln (e_175 (26, .iload_n 1, 1) (List.mem_of_getElem? (i := 17) rfl)) g1 ?_
  refine y_st (e_175 (27, .iadd, 1) (List.mem_of_getElem? (i := 18) rfl)) ⟨rfl, rfl, rfl, rfl⟩ ?_
  refine y_st (e_175 (28, .bipush 33, 2) (List.mem_of_getElem? (i := 19) rfl)) ⟨rfl, rfl, rfl, rfl⟩ ?_
  refine y_iln (e_175 (30, .iload_n 1, 1) (List.mem_of_getElem? (i := 20) rfl)) g1 ?_
  refine y_st (e_175 (31, .iadd, 1) (List.mem_of_getElem? (i := 21) rfl)) ⟨rfl, rfl, rfl, rfl⟩ ?_
  refine y_c4 (K' := _) (e_175 (32, .invokevirtual 211, 3) (List.mem_of_getElem? (i := 22) rfl)) ⟨rfl, rfl, rfl⟩ t_17_211 ⟨by decide, by decide, by decide, by decide⟩ m_176_ok rfl (by decide) (y_recv h.T.I h.T.t ⟨rfl, rfl⟩) (Nat.le_of_ble_eq_true rfl) (Nat.le_of_ble_eq_true rfl) (k_place_yes h hN1 hname hT ⟨by omega, by omega⟩ hN2 htk2 a2 b2 ⟨by omega, by omega⟩ (y_okI (t_37_v _ (by omega) (by omega)) (by omega) (by omega)) hN3 htk3 a3 b3 ⟨by omega, by omega⟩ (y_okA (t_37_c _ (by omega) (by omega))) hN4) (fun r1 Gc hc1 => ?_)
  obtain ⟨rfl, qp⟩ := hc1
  simp only [Option.toList_some, Option.toList_none, List.cons_append, List.nil_append]
  refine y_ifc (e_175 (35, .ifCond .eq 31, 3) (List.mem_of_getElem? (i := 23) rfl)) rfl (fun hc => absurd hc (by decide)) (fun _ => ?_)
  refine y_aln (e_175 (38, .aload_n 0, 1) (List.mem_of_getElem? (i := 24) rfl)) g0 ?_
  refine y_st (e_175 (39, .bipush 41, 2) (List.mem_of_getElem? (i := 25) rfl)) ⟨rfl, rfl, rfl, rfl⟩ ?_
  refine y_iln (e_175 (41, .iload_n 1, 1) (List.mem_of_getElem? (i := 26) rfl)) g1 ?_
  refine y_st (e_175 (42, .iadd, 1) (List.mem_of_getElem? (i := 27) rfl)) ⟨rfl, rfl, rfl, rfl⟩ ?_
  refine y_st (e_175 (43, .iconst 1, 1) (List.mem_of_getElem? (i := 28) rfl)) ⟨rfl, rfl, rfl, rfl⟩ ?_
  refine y_st (e_175 (44, .bipush 9, 2) (List.mem_of_getElem? (i := 29) rfl)) ⟨rfl, rfl, rfl, rfl⟩ ?_
  refine y_c4 (K' := _) (e_175 (46, .invokevirtual 205, 3) (List.mem_of_getElem? (i := 30) rfl)) ⟨rfl, rfl, rfl⟩ t_17_205 ⟨by decide, by decide, by decide, by decide⟩ m_172_ok rfl (by decide) (y_recv qp.T.I qp.T.t ⟨rfl, rfl⟩) (Nat.le_of_ble_eq_true rfl) (Nat.le_of_ble_eq_true rfl) (k_puts_no qp hno) (fun r1 Gc hc1 => ?_)
  obtain ⟨rfl, hz⟩ := hc1
  simp only [Option.toList_some, Option.toList_none, List.cons_append, List.nil_append]
  refine y_ifc (e_175 (49, .ifCond .eq 17, 3) (List.mem_of_getElem? (i := 31) rfl)) rfl (fun _ => ?_) (fun hc => absurd hc (by decide))
  refine y_st (e_175 (66, .iconst 0, 1) (List.mem_of_getElem? (i := 40) rfl)) ⟨rfl, rfl, rfl, rfl⟩ ?_
  exact y_ret (e_175 (67, .ireturn, 1) (List.mem_of_getElem? (i := 41) rfl)) ⟨rfl, y_rb (Or.inl rfl)⟩ ⟨rfl, hz⟩
set_option maxHeartbeats 2000000 in
set_option maxRecDepth 100000 in
theorem v_rt_e (h : MS th am mb hb nb rb f n lim p0 tok0 at0 sp0 num0 wd0 hf nf on G) (hcn : (hf 3).toInt < 8) (hN1 : NXm f n lim p0 num0 wd0 p1 tok1 at1 sp1 num1 wd1) (hname : tok1 = Int32.ofInt 1 ∧ ∀ x : Nat, x < 25 → wd1 ≠ t_W x) (hT : ¬ t_Told hf nf wd1) (hN2 : NXm f n lim p1 num1 wd1 p2 tok2 at2 sp2 num2 wd2) (htk2 : tok2 = Int32.ofInt 2) (a2 : 0 ≤ num2.toInt) (b2 : num2.toInt ≤ 1) (hN3 : NXm f n lim p2 num2 wd2 p3 tok3 at3 sp3 num3 wd3) (htk3 : tok3 = Int32.ofInt 2) (a3 : 0 ≤ num3.toInt) (b3 : num3.toInt ≤ (hf num2.toInt.toNat - Int32.ofInt 1).toInt) (hN4 : NXm f n lim p3 num3 wd3 p4 tok4 at4 sp4 num4 wd4) (htk4 : tok4 = Int32.ofInt 2) (a4 : 1 ≤ num4.toInt) (b4 : num4.toInt ≤ 9) (hN5 : NXm f n lim p4 num4 wd4 p5 tok5 at5 sp5 num5 wd5) (hno : tok5 ≠ Int32.ofInt 2 ∨ num5.toInt < 0 ∨ 7 < num5.toInt) : x_Gd xs L J (d + 5) m_175 (fun r G' => r = some (.int 0) ∧ x_sl G' am 16 = some (.int at5) ∧ x_sl G' am 15 = some (.int (t_km tok5))) 0 (lv_args 0 [.ref am]) [] G := by
  have g0 : pm_get (lv_args 0 [.ref am]) 0 = some (.ref am) := rfl
  generalize (lv_args 0 [.ref am]) = lv at g0 ⊢
  obtain ⟨⟨p0_, p1_⟩, ⟨t0_, t1_⟩, ⟨l0_, l1_⟩, ⟨m0_, m1_⟩⟩ := h.cn
  refine y_aln (e_175 (0, .aload_n 0, 1) (List.mem_of_getElem? (i := 0) rfl)) g0 ?_
  refine y_getf h.T.I h.T.t (e_175 (1, .getfield 37, 3) (List.mem_of_getElem? (i := 1) rfl)) u_17_37 ⟨rfl, rfl⟩ h.2.2.2.2.1 ?_
  refine y_st (e_175 (4, .iconst 3, 1) (List.mem_of_getElem? (i := 2) rfl)) ⟨rfl, rfl, rfl, rfl⟩ ?_
  refine y_iald h.T.I h.2.1 (e_175 (5, .iaload, 1) (List.mem_of_getElem? (i := 3) rfl)) ⟨rfl, rfl⟩ (by decide) (h.2.2.2.2.2.2.2.2.1 3 (by decide)) ?_
  refine y_isn (e_175 (6, .istore_n 1, 1) (List.mem_of_getElem? (i := 4) rfl)) (by decide) ?_
  have g1 : pm_get (pm_put1 lv 1 (.int (hf 3))) 1 = some (.int (hf 3)) := x_get_self
  have g0 : pm_get (pm_put1 lv 1 (.int (hf 3))) 0 = some (.ref am) := y_gpr g0 (by decide)
  show x_Gd xs L J _ m_175 _ 7 (pm_put1 lv 1 (.int (hf 3))) [] G
  generalize (pm_put1 lv 1 (.int (hf 3))) = lv3 at g0 g1 ⊢
  refine y_iln (e_175 (7, .iload_n 1, 1) (List.mem_of_getElem? (i := 5) rfl)) g1 ?_
  refine y_st (e_175 (8, .bipush 8, 2) (List.mem_of_getElem? (i := 6) rfl)) ⟨rfl, rfl, rfl, rfl⟩ ?_
  refine y_icm (e_175 (10, .if_icmp .ne 9, 3) (List.mem_of_getElem? (i := 7) rfl)) rfl (fun _ => ?_) (fun hc => ?_)
  rotate_left
  · have z := y_hI.2.2.2.1 hc
    rw [z] at hcn
    exact absurd hcn (by decide)
  have e41 : ((Int8.ofInt 41).toInt32 + hf 3).toInt = 41 + (hf 3).toInt := (y_add (by show -2147483648 ≤ (41 : Int) + _; omega) (by show (41 : Int) + _ ≤ 2147483647; omega)).trans rfl
  have e49 : ((Int8.ofInt 49).toInt32 + hf 3).toInt = 49 + (hf 3).toInt := (y_add (by show -2147483648 ≤ (49 : Int) + _; omega) (by show (49 : Int) + _ ≤ 2147483647; omega)).trans rfl
  have e57 : ((Int8.ofInt 57).toInt32 + hf 3).toInt = 57 + (hf 3).toInt := (y_add (by show -2147483648 ≤ (57 : Int) + _; omega) (by show (57 : Int) + _ ≤ 2147483647; omega)).trans rfl
  have e16 : ((Int8.ofInt 16).toInt32 + hf 3).toInt = 16 + (hf 3).toInt := (y_add (by show -2147483648 ≤ (16 : Int) + _; omega) (by show (16 : Int) + _ ≤ 2147483647; omega)).trans rfl
  have e25 : ((Int8.ofInt 25).toInt32 + hf 3).toInt = 25 + (hf 3).toInt := (y_add (by show -2147483648 ≤ (25 : Int) + _; omega) (by show (25 : Int) + _ ≤ 2147483647; omega)).trans rfl
  have e33 : ((Int8.ofInt 33).toInt32 + hf 3).toInt = 33 + (hf 3).toInt := (y_add (by show -2147483648 ≤ (33 : Int) + _; omega) (by show (33 : Int) + _ ≤ 2147483647; omega)).trans rfl
  refine y_aln (e_175 (19, .aload_n 0, 1) (List.mem_of_getElem? (i := 12) rfl)) g0 ?_
  refine y_st (e_175 (20, .bipush 16, 2) (List.mem_of_getElem? (i := 13) rfl)) ⟨rfl, rfl, rfl, rfl⟩ ?_
  refine y_iln (e_175 (22, .iload_n 1, 1) (List.mem_of_getElem? (i := 14) rfl)) g1 ?_
  refine y_st (e_175 (23, .iadd, 1) (List.mem_of_getElem? (i := 15) rfl)) ⟨rfl, rfl, rfl, rfl⟩ ?_
  refine y_st (e_175 (24, .bipush 25, 2) (List.mem_of_getElem? (i := 16) rfl)) ⟨rfl, rfl, rfl, rfl⟩ ?_
  refine y_iln (e_175 (26, .iload_n 1, 1) (List.mem_of_getElem? (i := 17) rfl)) g1 ?_
  refine y_st (e_175 (27, .iadd, 1) (List.mem_of_getElem? (i := 18) rfl)) ⟨rfl, rfl, rfl, rfl⟩ ?_
  refine y_st (e_175 (28, .bipush 33, 2) (List.mem_of_getElem? (i := 19) rfl)) ⟨rfl, rfl, rfl, rfl⟩ ?_
  refine y_iln (e_175 (30, .iload_n 1, 1) (List.mem_of_getElem? (i := 20) rfl)) g1 ?_
  refine y_st (e_175 (31, .iadd, 1) (List.mem_of_getElem? (i := 21) rfl)) ⟨rfl, rfl, rfl, rfl⟩ ?_
  refine y_c4 (K' := _) (e_175 (32, .invokevirtual 211, 3) (List.mem_of_getElem? (i := 22) rfl)) ⟨rfl, rfl, rfl⟩ t_17_211 ⟨by decide, by decide, by decide, by decide⟩ m_176_ok rfl (by decide) (y_recv h.T.I h.T.t ⟨rfl, rfl⟩) (Nat.le_of_ble_eq_true rfl) (Nat.le_of_ble_eq_true rfl) (k_place_yes h hN1 hname hT ⟨by omega, by omega⟩ hN2 htk2 a2 b2 ⟨by omega, by omega⟩ (y_okI (t_37_v _ (by omega) (by omega)) (by omega) (by omega)) hN3 htk3 a3 b3 ⟨by omega, by omega⟩ (y_okA (t_37_c _ (by omega) (by omega))) hN4) (fun r1 Gc hc1 => ?_)
  obtain ⟨rfl, qp⟩ := hc1
  simp only [Option.toList_some, Option.toList_none, List.cons_append, List.nil_append]
  refine y_ifc (e_175 (35, .ifCond .eq 31, 3) (List.mem_of_getElem? (i := 23) rfl)) rfl (fun hc => absurd hc (by decide)) (fun _ => ?_)
  refine y_aln (e_175 (38, .aload_n 0, 1) (List.mem_of_getElem? (i := 24) rfl)) g0 ?_
  refine y_st (e_175 (39, .bipush 41, 2) (List.mem_of_getElem? (i := 25) rfl)) ⟨rfl, rfl, rfl, rfl⟩ ?_
  refine y_iln (e_175 (41, .iload_n 1, 1) (List.mem_of_getElem? (i := 26) rfl)) g1 ?_
  refine y_st (e_175 (42, .iadd, 1) (List.mem_of_getElem? (i := 27) rfl)) ⟨rfl, rfl, rfl, rfl⟩ ?_
  refine y_st (e_175 (43, .iconst 1, 1) (List.mem_of_getElem? (i := 28) rfl)) ⟨rfl, rfl, rfl, rfl⟩ ?_
  refine y_st (e_175 (44, .bipush 9, 2) (List.mem_of_getElem? (i := 29) rfl)) ⟨rfl, rfl, rfl, rfl⟩ ?_
  refine y_c4 (K' := _) (e_175 (46, .invokevirtual 205, 3) (List.mem_of_getElem? (i := 30) rfl)) ⟨rfl, rfl, rfl⟩ t_17_205 ⟨by decide, by decide, by decide, by decide⟩ m_172_ok rfl (by decide) (y_recv qp.T.I qp.T.t ⟨rfl, rfl⟩) (Nat.le_of_ble_eq_true rfl) (Nat.le_of_ble_eq_true rfl) (k_puts_yes qp htk4 a4 b4 ⟨by omega, by omega⟩ (y_okI (t_37_w _ (by omega) (by omega)) (by omega) (by omega)) hN5) (fun r1 Gc hc1 => ?_)
  obtain ⟨rfl, q1⟩ := hc1
  simp only [Option.toList_some, Option.toList_none, List.cons_append, List.nil_append]
  refine y_ifc (e_175 (49, .ifCond .eq 17, 3) (List.mem_of_getElem? (i := 31) rfl)) rfl (fun hc => absurd hc (by decide)) (fun _ => ?_)
  refine y_aln (e_175 (52, .aload_n 0, 1) (List.mem_of_getElem? (i := 32) rfl)) g0 ?_
  refine y_st (e_175 (53, .bipush 49, 2) (List.mem_of_getElem? (i := 33) rfl)) ⟨rfl, rfl, rfl, rfl⟩ ?_
  refine y_iln (e_175 (55, .iload_n 1, 1) (List.mem_of_getElem? (i := 34) rfl)) g1 ?_
  refine y_st (e_175 (56, .iadd, 1) (List.mem_of_getElem? (i := 35) rfl)) ⟨rfl, rfl, rfl, rfl⟩ ?_
  refine y_st (e_175 (57, .iconst 0, 1) (List.mem_of_getElem? (i := 36) rfl)) ⟨rfl, rfl, rfl, rfl⟩ ?_
  refine y_st (e_175 (58, .bipush 7, 2) (List.mem_of_getElem? (i := 37) rfl)) ⟨rfl, rfl, rfl, rfl⟩ ?_
  refine y_c4 (K' := _) (e_175 (60, .invokevirtual 205, 3) (List.mem_of_getElem? (i := 38) rfl)) ⟨rfl, rfl, rfl⟩ t_17_205 ⟨by decide, by decide, by decide, by decide⟩ m_172_ok rfl (by decide) (y_recv q1.T.I q1.T.t ⟨rfl, rfl⟩) (Nat.le_of_ble_eq_true rfl) (Nat.le_of_ble_eq_true rfl) (k_puts_no q1 hno) (fun r1 Gc hc1 => ?_)
  obtain ⟨rfl, hz⟩ := hc1
  simp only [Option.toList_some, Option.toList_none, List.cons_append, List.nil_append]
  refine y_ifc (e_175 (63, .ifCond .ne 5, 3) (List.mem_of_getElem? (i := 39) rfl)) rfl (fun hc => absurd hc (by decide)) (fun _ => ?_)
  refine y_st (e_175 (66, .iconst 0, 1) (List.mem_of_getElem? (i := 40) rfl)) ⟨rfl, rfl, rfl, rfl⟩ ?_
  exact y_ret (e_175 (67, .ireturn, 1) (List.mem_of_getElem? (i := 41) rfl)) ⟨rfl, y_rb (Or.inl rfl)⟩ ⟨rfl, hz⟩
set_option maxHeartbeats 2000000 in
set_option maxRecDepth 100000 in
theorem v_rt_ok (h : MS th am mb hb nb rb f n lim p0 tok0 at0 sp0 num0 wd0 hf nf on G) (hcn : (hf 3).toInt < 8) (hN1 : NXm f n lim p0 num0 wd0 p1 tok1 at1 sp1 num1 wd1) (hname : tok1 = Int32.ofInt 1 ∧ ∀ x : Nat, x < 25 → wd1 ≠ t_W x) (hT : ¬ t_Told hf nf wd1) (hN2 : NXm f n lim p1 num1 wd1 p2 tok2 at2 sp2 num2 wd2) (htk2 : tok2 = Int32.ofInt 2) (a2 : 0 ≤ num2.toInt) (b2 : num2.toInt ≤ 1) (hN3 : NXm f n lim p2 num2 wd2 p3 tok3 at3 sp3 num3 wd3) (htk3 : tok3 = Int32.ofInt 2) (a3 : 0 ≤ num3.toInt) (b3 : num3.toInt ≤ (hf num2.toInt.toNat - Int32.ofInt 1).toInt) (hN4 : NXm f n lim p3 num3 wd3 p4 tok4 at4 sp4 num4 wd4) (htk4 : tok4 = Int32.ofInt 2) (a4 : 1 ≤ num4.toInt) (b4 : num4.toInt ≤ 9) (hN5 : NXm f n lim p4 num4 wd4 p5 tok5 at5 sp5 num5 wd5) (htk5 : tok5 = Int32.ofInt 2) (a5 : 0 ≤ num5.toInt) (b5 : num5.toInt ≤ 7) (hN6 : NXm f n lim p5 num5 wd5 p6 tok6 at6 sp6 num6 wd6) (hti : ¬ (tok6 = Int32.ofInt 1 ∧ wd6 = t_W 7)) : x_Gd xs L J (d + 5) m_175 (fun r G' => r = some (.int 1) ∧ MS th am mb hb nb rb f n lim p6 tok6 at6 sp6 num6 wd6 (fun i => if i = 3 then hf 3 + Int32.ofInt 1 else (fun i => if i = ((Int8.ofInt 57).toInt32 + hf 3).toInt.toNat then Int32.ofInt 0 else (fun i => if i = ((Int8.ofInt 49).toInt32 + hf 3).toInt.toNat then num5 else (fun i => if i = ((Int8.ofInt 41).toInt32 + hf 3).toInt.toNat then num4 else (fun i => if i = ((Int8.ofInt 33).toInt32 + hf 3).toInt.toNat then num3 else if i = ((Int8.ofInt 25).toInt32 + hf 3).toInt.toNat then num2 else hf i) i) i) i) i) (fun i => if i = ((Int8.ofInt 16).toInt32 + hf 3).toInt.toNat then wd1 else nf i) (on ||| Int32.ofInt 1) G') 0 (lv_args 0 [.ref am]) [] G := by
  have g0 : pm_get (lv_args 0 [.ref am]) 0 = some (.ref am) := rfl
  generalize (lv_args 0 [.ref am]) = lv at g0 ⊢
  obtain ⟨⟨p0_, p1_⟩, ⟨t0_, t1_⟩, ⟨l0_, l1_⟩, ⟨m0_, m1_⟩⟩ := h.cn
  refine y_aln (e_175 (0, .aload_n 0, 1) (List.mem_of_getElem? (i := 0) rfl)) g0 ?_
  refine y_getf h.T.I h.T.t (e_175 (1, .getfield 37, 3) (List.mem_of_getElem? (i := 1) rfl)) u_17_37 ⟨rfl, rfl⟩ h.2.2.2.2.1 ?_
  refine y_st (e_175 (4, .iconst 3, 1) (List.mem_of_getElem? (i := 2) rfl)) ⟨rfl, rfl, rfl, rfl⟩ ?_
  refine y_iald h.T.I h.2.1 (e_175 (5, .iaload, 1) (List.mem_of_getElem? (i := 3) rfl)) ⟨rfl, rfl⟩ (by decide) (h.2.2.2.2.2.2.2.2.1 3 (by decide)) ?_
  refine y_isn (e_175 (6, .istore_n 1, 1) (List.mem_of_getElem? (i := 4) rfl)) (by decide) ?_
  have g1 : pm_get (pm_put1 lv 1 (.int (hf 3))) 1 = some (.int (hf 3)) := x_get_self
  have g0 : pm_get (pm_put1 lv 1 (.int (hf 3))) 0 = some (.ref am) := y_gpr g0 (by decide)
  show x_Gd xs L J _ m_175 _ 7 (pm_put1 lv 1 (.int (hf 3))) [] G
  generalize (pm_put1 lv 1 (.int (hf 3))) = lv3 at g0 g1 ⊢
  refine y_iln (e_175 (7, .iload_n 1, 1) (List.mem_of_getElem? (i := 5) rfl)) g1 ?_
  refine y_st (e_175 (8, .bipush 8, 2) (List.mem_of_getElem? (i := 6) rfl)) ⟨rfl, rfl, rfl, rfl⟩ ?_
  refine y_icm (e_175 (10, .if_icmp .ne 9, 3) (List.mem_of_getElem? (i := 7) rfl)) rfl (fun _ => ?_) (fun hc => ?_)
  rotate_left
  · have z := y_hI.2.2.2.1 hc
    rw [z] at hcn
    exact absurd hcn (by decide)
  have e41 : ((Int8.ofInt 41).toInt32 + hf 3).toInt = 41 + (hf 3).toInt := (y_add (by show -2147483648 ≤ (41 : Int) + _; omega) (by show (41 : Int) + _ ≤ 2147483647; omega)).trans rfl
  have e49 : ((Int8.ofInt 49).toInt32 + hf 3).toInt = 49 + (hf 3).toInt := (y_add (by show -2147483648 ≤ (49 : Int) + _; omega) (by show (49 : Int) + _ ≤ 2147483647; omega)).trans rfl
  have e57 : ((Int8.ofInt 57).toInt32 + hf 3).toInt = 57 + (hf 3).toInt := (y_add (by show -2147483648 ≤ (57 : Int) + _; omega) (by show (57 : Int) + _ ≤ 2147483647; omega)).trans rfl
  have e16 : ((Int8.ofInt 16).toInt32 + hf 3).toInt = 16 + (hf 3).toInt := (y_add (by show -2147483648 ≤ (16 : Int) + _; omega) (by show (16 : Int) + _ ≤ 2147483647; omega)).trans rfl
  have e25 : ((Int8.ofInt 25).toInt32 + hf 3).toInt = 25 + (hf 3).toInt := (y_add (by show -2147483648 ≤ (25 : Int) + _; omega) (by show (25 : Int) + _ ≤ 2147483647; omega)).trans rfl
  have e33 : ((Int8.ofInt 33).toInt32 + hf 3).toInt = 33 + (hf 3).toInt := (y_add (by show -2147483648 ≤ (33 : Int) + _; omega) (by show (33 : Int) + _ ≤ 2147483647; omega)).trans rfl
  refine y_aln (e_175 (19, .aload_n 0, 1) (List.mem_of_getElem? (i := 12) rfl)) g0 ?_
  refine y_st (e_175 (20, .bipush 16, 2) (List.mem_of_getElem? (i := 13) rfl)) ⟨rfl, rfl, rfl, rfl⟩ ?_
  refine y_iln (e_175 (22, .iload_n 1, 1) (List.mem_of_getElem? (i := 14) rfl)) g1 ?_
  refine y_st (e_175 (23, .iadd, 1) (List.mem_of_getElem? (i := 15) rfl)) ⟨rfl, rfl, rfl, rfl⟩ ?_
  refine y_st (e_175 (24, .bipush 25, 2) (List.mem_of_getElem? (i := 16) rfl)) ⟨rfl, rfl, rfl, rfl⟩ ?_
  refine y_iln (e_175 (26, .iload_n 1, 1) (List.mem_of_getElem? (i := 17) rfl)) g1 ?_
  refine y_st (e_175 (27, .iadd, 1) (List.mem_of_getElem? (i := 18) rfl)) ⟨rfl, rfl, rfl, rfl⟩ ?_
  refine y_st (e_175 (28, .bipush 33, 2) (List.mem_of_getElem? (i := 19) rfl)) ⟨rfl, rfl, rfl, rfl⟩ ?_
  refine y_iln (e_175 (30, .iload_n 1, 1) (List.mem_of_getElem? (i := 20) rfl)) g1 ?_
  refine y_st (e_175 (31, .iadd, 1) (List.mem_of_getElem? (i := 21) rfl)) ⟨rfl, rfl, rfl, rfl⟩ ?_
  refine y_c4 (K' := _) (e_175 (32, .invokevirtual 211, 3) (List.mem_of_getElem? (i := 22) rfl)) ⟨rfl, rfl, rfl⟩ t_17_211 ⟨by decide, by decide, by decide, by decide⟩ m_176_ok rfl (by decide) (y_recv h.T.I h.T.t ⟨rfl, rfl⟩) (Nat.le_of_ble_eq_true rfl) (Nat.le_of_ble_eq_true rfl) (k_place_yes h hN1 hname hT ⟨by omega, by omega⟩ hN2 htk2 a2 b2 ⟨by omega, by omega⟩ (y_okI (t_37_v _ (by omega) (by omega)) (by omega) (by omega)) hN3 htk3 a3 b3 ⟨by omega, by omega⟩ (y_okA (t_37_c _ (by omega) (by omega))) hN4) (fun r1 Gc hc1 => ?_)
  obtain ⟨rfl, qp⟩ := hc1
  simp only [Option.toList_some, Option.toList_none, List.cons_append, List.nil_append]
  refine y_ifc (e_175 (35, .ifCond .eq 31, 3) (List.mem_of_getElem? (i := 23) rfl)) rfl (fun hc => absurd hc (by decide)) (fun _ => ?_)
  refine y_aln (e_175 (38, .aload_n 0, 1) (List.mem_of_getElem? (i := 24) rfl)) g0 ?_
  refine y_st (e_175 (39, .bipush 41, 2) (List.mem_of_getElem? (i := 25) rfl)) ⟨rfl, rfl, rfl, rfl⟩ ?_
  refine y_iln (e_175 (41, .iload_n 1, 1) (List.mem_of_getElem? (i := 26) rfl)) g1 ?_
  refine y_st (e_175 (42, .iadd, 1) (List.mem_of_getElem? (i := 27) rfl)) ⟨rfl, rfl, rfl, rfl⟩ ?_
  refine y_st (e_175 (43, .iconst 1, 1) (List.mem_of_getElem? (i := 28) rfl)) ⟨rfl, rfl, rfl, rfl⟩ ?_
  refine y_st (e_175 (44, .bipush 9, 2) (List.mem_of_getElem? (i := 29) rfl)) ⟨rfl, rfl, rfl, rfl⟩ ?_
  refine y_c4 (K' := _) (e_175 (46, .invokevirtual 205, 3) (List.mem_of_getElem? (i := 30) rfl)) ⟨rfl, rfl, rfl⟩ t_17_205 ⟨by decide, by decide, by decide, by decide⟩ m_172_ok rfl (by decide) (y_recv qp.T.I qp.T.t ⟨rfl, rfl⟩) (Nat.le_of_ble_eq_true rfl) (Nat.le_of_ble_eq_true rfl) (k_puts_yes qp htk4 a4 b4 ⟨by omega, by omega⟩ (y_okI (t_37_w _ (by omega) (by omega)) (by omega) (by omega)) hN5) (fun r1 Gc hc1 => ?_)
  obtain ⟨rfl, q1⟩ := hc1
  simp only [Option.toList_some, Option.toList_none, List.cons_append, List.nil_append]
  refine y_ifc (e_175 (49, .ifCond .eq 17, 3) (List.mem_of_getElem? (i := 31) rfl)) rfl (fun hc => absurd hc (by decide)) (fun _ => ?_)
  refine y_aln (e_175 (52, .aload_n 0, 1) (List.mem_of_getElem? (i := 32) rfl)) g0 ?_
  refine y_st (e_175 (53, .bipush 49, 2) (List.mem_of_getElem? (i := 33) rfl)) ⟨rfl, rfl, rfl, rfl⟩ ?_
  refine y_iln (e_175 (55, .iload_n 1, 1) (List.mem_of_getElem? (i := 34) rfl)) g1 ?_
  refine y_st (e_175 (56, .iadd, 1) (List.mem_of_getElem? (i := 35) rfl)) ⟨rfl, rfl, rfl, rfl⟩ ?_
  refine y_st (e_175 (57, .iconst 0, 1) (List.mem_of_getElem? (i := 36) rfl)) ⟨rfl, rfl, rfl, rfl⟩ ?_
  refine y_st (e_175 (58, .bipush 7, 2) (List.mem_of_getElem? (i := 37) rfl)) ⟨rfl, rfl, rfl, rfl⟩ ?_
  refine y_c4 (K' := _) (e_175 (60, .invokevirtual 205, 3) (List.mem_of_getElem? (i := 38) rfl)) ⟨rfl, rfl, rfl⟩ t_17_205 ⟨by decide, by decide, by decide, by decide⟩ m_172_ok rfl (by decide) (y_recv q1.T.I q1.T.t ⟨rfl, rfl⟩) (Nat.le_of_ble_eq_true rfl) (Nat.le_of_ble_eq_true rfl) (k_puts_yes q1 htk5 a5 b5 ⟨by omega, by omega⟩ (y_okA (t_37_k _ (by omega) (by omega))) hN6) (fun r1 Gc hc1 => ?_)
  obtain ⟨rfl, q2⟩ := hc1
  simp only [Option.toList_some, Option.toList_none, List.cons_append, List.nil_append]
  refine y_ifc (e_175 (63, .ifCond .ne 5, 3) (List.mem_of_getElem? (i := 39) rfl)) rfl (fun _ => ?_) (fun hc => absurd hc (by decide))
  refine y_aln (e_175 (68, .aload_n 0, 1) (List.mem_of_getElem? (i := 42) rfl)) g0 ?_
  refine y_getf q2.T.I q2.T.t (e_175 (69, .getfield 37, 3) (List.mem_of_getElem? (i := 43) rfl)) u_17_37 ⟨rfl, rfl⟩ q2.2.2.2.2.1 ?_
  refine y_st (e_175 (72, .bipush 57, 2) (List.mem_of_getElem? (i := 44) rfl)) ⟨rfl, rfl, rfl, rfl⟩ ?_
  refine y_iln (e_175 (74, .iload_n 1, 1) (List.mem_of_getElem? (i := 45) rfl)) g1 ?_
  refine y_st (e_175 (75, .iadd, 1) (List.mem_of_getElem? (i := 46) rfl)) ⟨rfl, rfl, rfl, rfl⟩ ?_
  refine y_aln (e_175 (76, .aload_n 0, 1) (List.mem_of_getElem? (i := 47) rfl)) g0 ?_
  refine y_st (e_175 (77, .ldc2_w 92, 3) (List.mem_of_getElem? (i := 48) rfl)) ⟨rfl, rfl, rfl, rfl⟩ ?_
  refine y_c2 (K' := _) (e_175 (80, .invokevirtual 198, 3) (List.mem_of_getElem? (i := 49) rfl)) ⟨rfl, rfl, rfl⟩ t_17_198 ⟨by decide, by decide, by decide, by decide⟩ m_168_ok rfl (by decide) (y_recv q2.T.I q2.T.t ⟨rfl, rfl⟩) (Nat.le_of_ble_eq_true rfl) (Nat.le_of_ble_eq_true rfl) (k_isWord q2 (t_W 7)) (fun r1 Gc hc1 => ?_)
  obtain ⟨rfl, rfl⟩ := hc1
  simp only [Option.toList_some, Option.toList_none, List.cons_append, List.nil_append]
  rw [if_neg hti]
  refine y_ifc (e_175 (83, .ifCond .eq 7, 3) (List.mem_of_getElem? (i := 50) rfl)) rfl (fun _ => ?_) (fun hc => absurd hc (by decide))
  refine y_st (e_175 (90, .iconst 0, 1) (List.mem_of_getElem? (i := 53) rfl)) ⟨rfl, rfl, rfl, rfl⟩ ?_
  refine y_iast q2.T.I q2.2.1 (e_175 (91, .iastore, 1) (List.mem_of_getElem? (i := 54) rfl)) ⟨rfl, rfl⟩ ⟨by omega, by show _ < (81 : Int); omega⟩ (fun Gw uw => ?_)
  have qw := q2.put (k := ((Int8.ofInt 57).toInt32 + hf 3).toInt.toNat) uw (q2.T.I.upd uw q2.2.1 (y_okI (t_37_t _ (by omega) (by omega)) (by decide) (by decide)))
  refine y_aln (e_175 (92, .aload_n 0, 1) (List.mem_of_getElem? (i := 55) rfl)) g0 ?_
  refine y_st (e_175 (93, .ldc2_w 92, 3) (List.mem_of_getElem? (i := 56) rfl)) ⟨rfl, rfl, rfl, rfl⟩ ?_
  refine y_c2 (K' := _) (e_175 (96, .invokevirtual 198, 3) (List.mem_of_getElem? (i := 57) rfl)) ⟨rfl, rfl, rfl⟩ t_17_198 ⟨by decide, by decide, by decide, by decide⟩ m_168_ok rfl (by decide) (y_recv qw.T.I qw.T.t ⟨rfl, rfl⟩) (Nat.le_of_ble_eq_true rfl) (Nat.le_of_ble_eq_true rfl) (k_isWord qw (t_W 7)) (fun r1 Gc hc1 => ?_)
  obtain ⟨rfl, rfl⟩ := hc1
  simp only [Option.toList_some, Option.toList_none, List.cons_append, List.nil_append]
  rw [if_neg hti]
  refine y_ifc (e_175 (99, .ifCond .eq 7, 3) (List.mem_of_getElem? (i := 58) rfl)) rfl (fun _ => ?_) (fun hc => absurd hc (by decide))
  have dc := qw.2.2.2.2.2.2.2.2.1 3 (by decide)
  dsimp only at dc
  rw [if_neg (by omega), if_neg (by omega), if_neg (by omega), if_neg (by omega), if_neg (by omega)] at dc
  refine y_aln (e_175 (106, .aload_n 0, 1) (List.mem_of_getElem? (i := 61) rfl)) g0 ?_
  refine y_getf qw.T.I qw.T.t (e_175 (107, .getfield 37, 3) (List.mem_of_getElem? (i := 62) rfl)) u_17_37 ⟨rfl, rfl⟩ qw.2.2.2.2.1 ?_
  refine y_st (e_175 (110, .iconst 3, 1) (List.mem_of_getElem? (i := 63) rfl)) ⟨rfl, rfl, rfl, rfl⟩ ?_
  refine y_st (e_175 (111, .dup2, 1) (List.mem_of_getElem? (i := 64) rfl)) ⟨rfl, rfl, rfl, rfl⟩ ?_
  refine y_iald qw.T.I qw.2.1 (e_175 (112, .iaload, 1) (List.mem_of_getElem? (i := 65) rfl)) ⟨rfl, rfl⟩ (by decide) dc ?_
  refine y_st (e_175 (113, .iconst 1, 1) (List.mem_of_getElem? (i := 66) rfl)) ⟨rfl, rfl, rfl, rfl⟩ ?_
  refine y_st (e_175 (114, .iadd, 1) (List.mem_of_getElem? (i := 67) rfl)) ⟨rfl, rfl, rfl, rfl⟩ ?_
  have ec : (hf 3 + Int32.ofInt 1).toInt = (hf 3).toInt + 1 := y_add1 (t := hf 3) (by omega)
  refine y_iast qw.T.I qw.2.1 (e_175 (115, .iastore, 1) (List.mem_of_getElem? (i := 68) rfl)) ⟨rfl, rfl⟩ ⟨by decide, by decide⟩ (fun Gi ui => ?_)
  have qz := qw.put (k := 3) ui (qw.T.I.upd ui qw.2.1 (y_okI (lo := 0) (hi := 8) rfl (by omega) (by omega)))
  refine y_st (e_175 (116, .iconst 1, 1) (List.mem_of_getElem? (i := 69) rfl)) ⟨rfl, rfl, rfl, rfl⟩ ?_
  exact y_ret (e_175 (117, .ireturn, 1) (List.mem_of_getElem? (i := 70) rfl)) ⟨rfl, y_rb (Or.inr rfl)⟩ ⟨rfl, qz⟩
set_option maxHeartbeats 2000000 in
set_option maxRecDepth 100000 in
theorem v_rt_tied (h : MS th am mb hb nb rb f n lim p0 tok0 at0 sp0 num0 wd0 hf nf on G) (hcn : (hf 3).toInt < 8) (hN1 : NXm f n lim p0 num0 wd0 p1 tok1 at1 sp1 num1 wd1) (hname : tok1 = Int32.ofInt 1 ∧ ∀ x : Nat, x < 25 → wd1 ≠ t_W x) (hT : ¬ t_Told hf nf wd1) (hN2 : NXm f n lim p1 num1 wd1 p2 tok2 at2 sp2 num2 wd2) (htk2 : tok2 = Int32.ofInt 2) (a2 : 0 ≤ num2.toInt) (b2 : num2.toInt ≤ 1) (hN3 : NXm f n lim p2 num2 wd2 p3 tok3 at3 sp3 num3 wd3) (htk3 : tok3 = Int32.ofInt 2) (a3 : 0 ≤ num3.toInt) (b3 : num3.toInt ≤ (hf num2.toInt.toNat - Int32.ofInt 1).toInt) (hN4 : NXm f n lim p3 num3 wd3 p4 tok4 at4 sp4 num4 wd4) (htk4 : tok4 = Int32.ofInt 2) (a4 : 1 ≤ num4.toInt) (b4 : num4.toInt ≤ 9) (hN5 : NXm f n lim p4 num4 wd4 p5 tok5 at5 sp5 num5 wd5) (htk5 : tok5 = Int32.ofInt 2) (a5 : 0 ≤ num5.toInt) (b5 : num5.toInt ≤ 7) (hN6 : NXm f n lim p5 num5 wd5 p6 tok6 at6 sp6 num6 wd6) (hti : (tok6 = Int32.ofInt 1 ∧ wd6 = t_W 7)) (hN7 : NXm f n lim p6 num6 wd6 p7 tok7 at7 sp7 num7 wd7) : x_Gd xs L J (d + 5) m_175 (fun r G' => r = some (.int 1) ∧ MS th am mb hb nb rb f n lim p7 tok7 at7 sp7 num7 wd7 (fun i => if i = 3 then hf 3 + Int32.ofInt 1 else (fun i => if i = ((Int8.ofInt 57).toInt32 + hf 3).toInt.toNat then Int32.ofInt 1 else (fun i => if i = ((Int8.ofInt 49).toInt32 + hf 3).toInt.toNat then num5 else (fun i => if i = ((Int8.ofInt 41).toInt32 + hf 3).toInt.toNat then num4 else (fun i => if i = ((Int8.ofInt 33).toInt32 + hf 3).toInt.toNat then num3 else if i = ((Int8.ofInt 25).toInt32 + hf 3).toInt.toNat then num2 else hf i) i) i) i) i) (fun i => if i = ((Int8.ofInt 16).toInt32 + hf 3).toInt.toNat then wd1 else nf i) (on ||| Int32.ofInt 1) G') 0 (lv_args 0 [.ref am]) [] G := by
  have g0 : pm_get (lv_args 0 [.ref am]) 0 = some (.ref am) := rfl
  generalize (lv_args 0 [.ref am]) = lv at g0 ⊢
  obtain ⟨⟨p0_, p1_⟩, ⟨t0_, t1_⟩, ⟨l0_, l1_⟩, ⟨m0_, m1_⟩⟩ := h.cn
  refine y_aln (e_175 (0, .aload_n 0, 1) (List.mem_of_getElem? (i := 0) rfl)) g0 ?_
  refine y_getf h.T.I h.T.t (e_175 (1, .getfield 37, 3) (List.mem_of_getElem? (i := 1) rfl)) u_17_37 ⟨rfl, rfl⟩ h.2.2.2.2.1 ?_
  refine y_st (e_175 (4, .iconst 3, 1) (List.mem_of_getElem? (i := 2) rfl)) ⟨rfl, rfl, rfl, rfl⟩ ?_
  refine y_iald h.T.I h.2.1 (e_175 (5, .iaload, 1) (List.mem_of_getElem? (i := 3) rfl)) ⟨rfl, rfl⟩ (by decide) (h.2.2.2.2.2.2.2.2.1 3 (by decide)) ?_
  refine y_isn (e_175 (6, .istore_n 1, 1) (List.mem_of_getElem? (i := 4) rfl)) (by decide) ?_
  have g1 : pm_get (pm_put1 lv 1 (.int (hf 3))) 1 = some (.int (hf 3)) := x_get_self
  have g0 : pm_get (pm_put1 lv 1 (.int (hf 3))) 0 = some (.ref am) := y_gpr g0 (by decide)
  show x_Gd xs L J _ m_175 _ 7 (pm_put1 lv 1 (.int (hf 3))) [] G
  generalize (pm_put1 lv 1 (.int (hf 3))) = lv3 at g0 g1 ⊢
  refine y_iln (e_175 (7, .iload_n 1, 1) (List.mem_of_getElem? (i := 5) rfl)) g1 ?_
  refine y_st (e_175 (8, .bipush 8, 2) (List.mem_of_getElem? (i := 6) rfl)) ⟨rfl, rfl, rfl, rfl⟩ ?_
  refine y_icm (e_175 (10, .if_icmp .ne 9, 3) (List.mem_of_getElem? (i := 7) rfl)) rfl (fun _ => ?_) (fun hc => ?_)
  rotate_left
  · have z := y_hI.2.2.2.1 hc
    rw [z] at hcn
    exact absurd hcn (by decide)
  have e41 : ((Int8.ofInt 41).toInt32 + hf 3).toInt = 41 + (hf 3).toInt := (y_add (by show -2147483648 ≤ (41 : Int) + _; omega) (by show (41 : Int) + _ ≤ 2147483647; omega)).trans rfl
  have e49 : ((Int8.ofInt 49).toInt32 + hf 3).toInt = 49 + (hf 3).toInt := (y_add (by show -2147483648 ≤ (49 : Int) + _; omega) (by show (49 : Int) + _ ≤ 2147483647; omega)).trans rfl
  have e57 : ((Int8.ofInt 57).toInt32 + hf 3).toInt = 57 + (hf 3).toInt := (y_add (by show -2147483648 ≤ (57 : Int) + _; omega) (by show (57 : Int) + _ ≤ 2147483647; omega)).trans rfl
  have e16 : ((Int8.ofInt 16).toInt32 + hf 3).toInt = 16 + (hf 3).toInt := (y_add (by show -2147483648 ≤ (16 : Int) + _; omega) (by show (16 : Int) + _ ≤ 2147483647; omega)).trans rfl
  have e25 : ((Int8.ofInt 25).toInt32 + hf 3).toInt = 25 + (hf 3).toInt := (y_add (by show -2147483648 ≤ (25 : Int) + _; omega) (by show (25 : Int) + _ ≤ 2147483647; omega)).trans rfl
  have e33 : ((Int8.ofInt 33).toInt32 + hf 3).toInt = 33 + (hf 3).toInt := (y_add (by show -2147483648 ≤ (33 : Int) + _; omega) (by show (33 : Int) + _ ≤ 2147483647; omega)).trans rfl
  refine y_aln (e_175 (19, .aload_n 0, 1) (List.mem_of_getElem? (i := 12) rfl)) g0 ?_
  refine y_st (e_175 (20, .bipush 16, 2) (List.mem_of_getElem? (i := 13) rfl)) ⟨rfl, rfl, rfl, rfl⟩ ?_
  refine y_iln (e_175 (22, .iload_n 1, 1) (List.mem_of_getElem? (i := 14) rfl)) g1 ?_
  refine y_st (e_175 (23, .iadd, 1) (List.mem_of_getElem? (i := 15) rfl)) ⟨rfl, rfl, rfl, rfl⟩ ?_
  refine y_st (e_175 (24, .bipush 25, 2) (List.mem_of_getElem? (i := 16) rfl)) ⟨rfl, rfl, rfl, rfl⟩ ?_
  refine y_iln (e_175 (26, .iload_n 1, 1) (List.mem_of_getElem? (i := 17) rfl)) g1 ?_
  refine y_st (e_175 (27, .iadd, 1) (List.mem_of_getElem? (i := 18) rfl)) ⟨rfl, rfl, rfl, rfl⟩ ?_
  refine y_st (e_175 (28, .bipush 33, 2) (List.mem_of_getElem? (i := 19) rfl)) ⟨rfl, rfl, rfl, rfl⟩ ?_
  refine y_iln (e_175 (30, .iload_n 1, 1) (List.mem_of_getElem? (i := 20) rfl)) g1 ?_
  refine y_st (e_175 (31, .iadd, 1) (List.mem_of_getElem? (i := 21) rfl)) ⟨rfl, rfl, rfl, rfl⟩ ?_
  refine y_c4 (K' := _) (e_175 (32, .invokevirtual 211, 3) (List.mem_of_getElem? (i := 22) rfl)) ⟨rfl, rfl, rfl⟩ t_17_211 ⟨by decide, by decide, by decide, by decide⟩ m_176_ok rfl (by decide) (y_recv h.T.I h.T.t ⟨rfl, rfl⟩) (Nat.le_of_ble_eq_true rfl) (Nat.le_of_ble_eq_true rfl) (k_place_yes h hN1 hname hT ⟨by omega, by omega⟩ hN2 htk2 a2 b2 ⟨by omega, by omega⟩ (y_okI (t_37_v _ (by omega) (by omega)) (by omega) (by omega)) hN3 htk3 a3 b3 ⟨by omega, by omega⟩ (y_okA (t_37_c _ (by omega) (by omega))) hN4) (fun r1 Gc hc1 => ?_)
  obtain ⟨rfl, qp⟩ := hc1
  simp only [Option.toList_some, Option.toList_none, List.cons_append, List.nil_append]
  refine y_ifc (e_175 (35, .ifCond .eq 31, 3) (List.mem_of_getElem? (i := 23) rfl)) rfl (fun hc => absurd hc (by decide)) (fun _ => ?_)
  refine y_aln (e_175 (38, .aload_n 0, 1) (List.mem_of_getElem? (i := 24) rfl)) g0 ?_
  refine y_st (e_175 (39, .bipush 41, 2) (List.mem_of_getElem? (i := 25) rfl)) ⟨rfl, rfl, rfl, rfl⟩ ?_
  refine y_iln (e_175 (41, .iload_n 1, 1) (List.mem_of_getElem? (i := 26) rfl)) g1 ?_
  refine y_st (e_175 (42, .iadd, 1) (List.mem_of_getElem? (i := 27) rfl)) ⟨rfl, rfl, rfl, rfl⟩ ?_
  refine y_st (e_175 (43, .iconst 1, 1) (List.mem_of_getElem? (i := 28) rfl)) ⟨rfl, rfl, rfl, rfl⟩ ?_
  refine y_st (e_175 (44, .bipush 9, 2) (List.mem_of_getElem? (i := 29) rfl)) ⟨rfl, rfl, rfl, rfl⟩ ?_
  refine y_c4 (K' := _) (e_175 (46, .invokevirtual 205, 3) (List.mem_of_getElem? (i := 30) rfl)) ⟨rfl, rfl, rfl⟩ t_17_205 ⟨by decide, by decide, by decide, by decide⟩ m_172_ok rfl (by decide) (y_recv qp.T.I qp.T.t ⟨rfl, rfl⟩) (Nat.le_of_ble_eq_true rfl) (Nat.le_of_ble_eq_true rfl) (k_puts_yes qp htk4 a4 b4 ⟨by omega, by omega⟩ (y_okI (t_37_w _ (by omega) (by omega)) (by omega) (by omega)) hN5) (fun r1 Gc hc1 => ?_)
  obtain ⟨rfl, q1⟩ := hc1
  simp only [Option.toList_some, Option.toList_none, List.cons_append, List.nil_append]
  refine y_ifc (e_175 (49, .ifCond .eq 17, 3) (List.mem_of_getElem? (i := 31) rfl)) rfl (fun hc => absurd hc (by decide)) (fun _ => ?_)
  refine y_aln (e_175 (52, .aload_n 0, 1) (List.mem_of_getElem? (i := 32) rfl)) g0 ?_
  refine y_st (e_175 (53, .bipush 49, 2) (List.mem_of_getElem? (i := 33) rfl)) ⟨rfl, rfl, rfl, rfl⟩ ?_
  refine y_iln (e_175 (55, .iload_n 1, 1) (List.mem_of_getElem? (i := 34) rfl)) g1 ?_
  refine y_st (e_175 (56, .iadd, 1) (List.mem_of_getElem? (i := 35) rfl)) ⟨rfl, rfl, rfl, rfl⟩ ?_
  refine y_st (e_175 (57, .iconst 0, 1) (List.mem_of_getElem? (i := 36) rfl)) ⟨rfl, rfl, rfl, rfl⟩ ?_
  refine y_st (e_175 (58, .bipush 7, 2) (List.mem_of_getElem? (i := 37) rfl)) ⟨rfl, rfl, rfl, rfl⟩ ?_
  refine y_c4 (K' := _) (e_175 (60, .invokevirtual 205, 3) (List.mem_of_getElem? (i := 38) rfl)) ⟨rfl, rfl, rfl⟩ t_17_205 ⟨by decide, by decide, by decide, by decide⟩ m_172_ok rfl (by decide) (y_recv q1.T.I q1.T.t ⟨rfl, rfl⟩) (Nat.le_of_ble_eq_true rfl) (Nat.le_of_ble_eq_true rfl) (k_puts_yes q1 htk5 a5 b5 ⟨by omega, by omega⟩ (y_okA (t_37_k _ (by omega) (by omega))) hN6) (fun r1 Gc hc1 => ?_)
  obtain ⟨rfl, q2⟩ := hc1
  simp only [Option.toList_some, Option.toList_none, List.cons_append, List.nil_append]
  refine y_ifc (e_175 (63, .ifCond .ne 5, 3) (List.mem_of_getElem? (i := 39) rfl)) rfl (fun _ => ?_) (fun hc => absurd hc (by decide))
  refine y_aln (e_175 (68, .aload_n 0, 1) (List.mem_of_getElem? (i := 42) rfl)) g0 ?_
  refine y_getf q2.T.I q2.T.t (e_175 (69, .getfield 37, 3) (List.mem_of_getElem? (i := 43) rfl)) u_17_37 ⟨rfl, rfl⟩ q2.2.2.2.2.1 ?_
  refine y_st (e_175 (72, .bipush 57, 2) (List.mem_of_getElem? (i := 44) rfl)) ⟨rfl, rfl, rfl, rfl⟩ ?_
  refine y_iln (e_175 (74, .iload_n 1, 1) (List.mem_of_getElem? (i := 45) rfl)) g1 ?_
  refine y_st (e_175 (75, .iadd, 1) (List.mem_of_getElem? (i := 46) rfl)) ⟨rfl, rfl, rfl, rfl⟩ ?_
  refine y_aln (e_175 (76, .aload_n 0, 1) (List.mem_of_getElem? (i := 47) rfl)) g0 ?_
  refine y_st (e_175 (77, .ldc2_w 92, 3) (List.mem_of_getElem? (i := 48) rfl)) ⟨rfl, rfl, rfl, rfl⟩ ?_
  refine y_c2 (K' := _) (e_175 (80, .invokevirtual 198, 3) (List.mem_of_getElem? (i := 49) rfl)) ⟨rfl, rfl, rfl⟩ t_17_198 ⟨by decide, by decide, by decide, by decide⟩ m_168_ok rfl (by decide) (y_recv q2.T.I q2.T.t ⟨rfl, rfl⟩) (Nat.le_of_ble_eq_true rfl) (Nat.le_of_ble_eq_true rfl) (k_isWord q2 (t_W 7)) (fun r1 Gc hc1 => ?_)
  obtain ⟨rfl, rfl⟩ := hc1
  simp only [Option.toList_some, Option.toList_none, List.cons_append, List.nil_append]
  rw [if_pos hti]
  refine y_ifc (e_175 (83, .ifCond .eq 7, 3) (List.mem_of_getElem? (i := 50) rfl)) rfl (fun hc => absurd hc (by decide)) (fun _ => ?_)
  refine y_st (e_175 (86, .iconst 1, 1) (List.mem_of_getElem? (i := 51) rfl)) ⟨rfl, rfl, rfl, rfl⟩ ?_
  refine y_st (e_175 (87, .goto 4, 3) (List.mem_of_getElem? (i := 52) rfl)) ⟨rfl, rfl, rfl, rfl⟩ ?_
  refine y_iast q2.T.I q2.2.1 (e_175 (91, .iastore, 1) (List.mem_of_getElem? (i := 54) rfl)) ⟨rfl, rfl⟩ ⟨by omega, by show _ < (81 : Int); omega⟩ (fun Gw uw => ?_)
  have qw := q2.put (k := ((Int8.ofInt 57).toInt32 + hf 3).toInt.toNat) uw (q2.T.I.upd uw q2.2.1 (y_okI (t_37_t _ (by omega) (by omega)) (by decide) (by decide)))
  refine y_aln (e_175 (92, .aload_n 0, 1) (List.mem_of_getElem? (i := 55) rfl)) g0 ?_
  refine y_st (e_175 (93, .ldc2_w 92, 3) (List.mem_of_getElem? (i := 56) rfl)) ⟨rfl, rfl, rfl, rfl⟩ ?_
  refine y_c2 (K' := _) (e_175 (96, .invokevirtual 198, 3) (List.mem_of_getElem? (i := 57) rfl)) ⟨rfl, rfl, rfl⟩ t_17_198 ⟨by decide, by decide, by decide, by decide⟩ m_168_ok rfl (by decide) (y_recv qw.T.I qw.T.t ⟨rfl, rfl⟩) (Nat.le_of_ble_eq_true rfl) (Nat.le_of_ble_eq_true rfl) (k_isWord qw (t_W 7)) (fun r1 Gc hc1 => ?_)
  obtain ⟨rfl, rfl⟩ := hc1
  simp only [Option.toList_some, Option.toList_none, List.cons_append, List.nil_append]
  rw [if_pos hti]
  refine y_ifc (e_175 (99, .ifCond .eq 7, 3) (List.mem_of_getElem? (i := 58) rfl)) rfl (fun hc => absurd hc (by decide)) (fun _ => ?_)
  refine y_aln (e_175 (102, .aload_n 0, 1) (List.mem_of_getElem? (i := 59) rfl)) g0 ?_
  refine y_c1 (K' := _) (e_175 (103, .invokevirtual 170, 3) (List.mem_of_getElem? (i := 60) rfl)) ⟨rfl, rfl, rfl⟩ t_17_170 ⟨by decide, by decide, by decide, by decide⟩ m_163_ok rfl (by decide) (y_recv qw.T.I qw.T.t ⟨rfl, rfl⟩) (Nat.le_of_ble_eq_true rfl) (Nat.le_of_ble_eq_true rfl) (hN7 _ _ _ _ _ _ _ _ _ _ _ _ qw.T) (fun r1 Gc hc1 => ?_)
  obtain ⟨rfl, hc2⟩ := hc1
  simp only [Option.toList_some, Option.toList_none, List.cons_append, List.nil_append]
  have hc3 := qw.nxt hc2
  have dc := hc3.2.2.2.2.2.2.2.2.1 3 (by decide)
  dsimp only at dc
  rw [if_neg (by omega), if_neg (by omega), if_neg (by omega), if_neg (by omega), if_neg (by omega)] at dc
  refine y_aln (e_175 (106, .aload_n 0, 1) (List.mem_of_getElem? (i := 61) rfl)) g0 ?_
  refine y_getf hc3.T.I hc3.T.t (e_175 (107, .getfield 37, 3) (List.mem_of_getElem? (i := 62) rfl)) u_17_37 ⟨rfl, rfl⟩ hc3.2.2.2.2.1 ?_
  refine y_st (e_175 (110, .iconst 3, 1) (List.mem_of_getElem? (i := 63) rfl)) ⟨rfl, rfl, rfl, rfl⟩ ?_
  refine y_st (e_175 (111, .dup2, 1) (List.mem_of_getElem? (i := 64) rfl)) ⟨rfl, rfl, rfl, rfl⟩ ?_
  refine y_iald hc3.T.I hc3.2.1 (e_175 (112, .iaload, 1) (List.mem_of_getElem? (i := 65) rfl)) ⟨rfl, rfl⟩ (by decide) dc ?_
  refine y_st (e_175 (113, .iconst 1, 1) (List.mem_of_getElem? (i := 66) rfl)) ⟨rfl, rfl, rfl, rfl⟩ ?_
  refine y_st (e_175 (114, .iadd, 1) (List.mem_of_getElem? (i := 67) rfl)) ⟨rfl, rfl, rfl, rfl⟩ ?_
  have ec : (hf 3 + Int32.ofInt 1).toInt = (hf 3).toInt + 1 := y_add1 (t := hf 3) (by omega)
  refine y_iast hc3.T.I hc3.2.1 (e_175 (115, .iastore, 1) (List.mem_of_getElem? (i := 68) rfl)) ⟨rfl, rfl⟩ ⟨by decide, by decide⟩ (fun Gi ui => ?_)
  have qz := hc3.put (k := 3) ui (hc3.T.I.upd ui hc3.2.1 (y_okI (lo := 0) (hi := 8) rfl (by omega) (by omega)))
  refine y_st (e_175 (116, .iconst 1, 1) (List.mem_of_getElem? (i := 69) rfl)) ⟨rfl, rfl, rfl, rfl⟩ ?_
  exact y_ret (e_175 (117, .ireturn, 1) (List.mem_of_getElem? (i := 70) rfl)) ⟨rfl, y_rb (Or.inr rfl)⟩ ⟨rfl, qz⟩
set_option maxHeartbeats 2000000 in
set_option maxRecDepth 100000 in
theorem v_thing_0 (h : MS th am mb hb nb rb f n lim p0 tok0 at0 sp0 num0 wd0 hf nf on G) (hw : tok0 = Int32.ofInt 1 ∧ wd0 = t_W 6) (hcn : (hf 3).toInt = 8) : x_Gd xs L J (d + 6) m_167 (fun r G' => r = some (.int 0) ∧ x_sl G' am 16 = some (.int at0) ∧ x_sl G' am 15 = some (.int (Int32.ofInt 4))) 0 (lv_args 0 [.ref am]) [] G := by
  have g0 : pm_get (lv_args 0 [.ref am]) 0 = some (.ref am) := rfl
  generalize (lv_args 0 [.ref am]) = lv at g0 ⊢
  refine v_to_thing h g0 hw ?_
  refine y_aln (e_167 (324, .aload_n 0, 1) (List.mem_of_getElem? (i := 172) rfl)) g0 ?_
  refine y_c1 (K' := _) (e_167 (325, .invokevirtual 208, 3) (List.mem_of_getElem? (i := 173) rfl)) ⟨rfl, rfl, rfl⟩ t_17_208 ⟨by decide, by decide, by decide, by decide⟩ m_175_ok rfl (by decide) (y_recv h.T.I h.T.t ⟨rfl, rfl⟩) (Nat.le_of_ble_eq_true rfl) (Nat.le_of_ble_eq_true rfl) (v_rt_0 h hcn) (fun r1 Gc hc1 => ?_)
  obtain ⟨rfl, hz⟩ := hc1
  simp only [Option.toList_some, Option.toList_none, List.cons_append, List.nil_append]
  exact y_ret (e_167 (328, .ireturn, 1) (List.mem_of_getElem? (i := 174) rfl)) ⟨rfl, y_rb (Or.inl rfl)⟩ ⟨rfl, hz⟩
set_option maxHeartbeats 2000000 in
set_option maxRecDepth 100000 in
theorem v_thing_a (h : MS th am mb hb nb rb f n lim p0 tok0 at0 sp0 num0 wd0 hf nf on G) (hw : tok0 = Int32.ofInt 1 ∧ wd0 = t_W 6) (hcn : (hf 3).toInt < 8) (hN1 : NXm f n lim p0 num0 wd0 p1 tok1 at1 sp1 num1 wd1) (hno : ¬ (tok1 = Int32.ofInt 1 ∧ ∀ x : Nat, x < 25 → wd1 ≠ t_W x) ∨ t_Told hf nf wd1) : x_Gd xs L J (d + 6) m_167 (fun r G' => r = some (.int 0) ∧ x_sl G' am 16 = some (.int at1) ∧ x_sl G' am 15 = some (.int (t_kf tok1 wd1))) 0 (lv_args 0 [.ref am]) [] G := by
  have g0 : pm_get (lv_args 0 [.ref am]) 0 = some (.ref am) := rfl
  generalize (lv_args 0 [.ref am]) = lv at g0 ⊢
  refine v_to_thing h g0 hw ?_
  refine y_aln (e_167 (324, .aload_n 0, 1) (List.mem_of_getElem? (i := 172) rfl)) g0 ?_
  refine y_c1 (K' := _) (e_167 (325, .invokevirtual 208, 3) (List.mem_of_getElem? (i := 173) rfl)) ⟨rfl, rfl, rfl⟩ t_17_208 ⟨by decide, by decide, by decide, by decide⟩ m_175_ok rfl (by decide) (y_recv h.T.I h.T.t ⟨rfl, rfl⟩) (Nat.le_of_ble_eq_true rfl) (Nat.le_of_ble_eq_true rfl) (v_rt_a h hcn hN1 hno) (fun r1 Gc hc1 => ?_)
  obtain ⟨rfl, hz⟩ := hc1
  simp only [Option.toList_some, Option.toList_none, List.cons_append, List.nil_append]
  exact y_ret (e_167 (328, .ireturn, 1) (List.mem_of_getElem? (i := 174) rfl)) ⟨rfl, y_rb (Or.inl rfl)⟩ ⟨rfl, hz⟩
set_option maxHeartbeats 2000000 in
set_option maxRecDepth 100000 in
theorem v_thing_b (h : MS th am mb hb nb rb f n lim p0 tok0 at0 sp0 num0 wd0 hf nf on G) (hw : tok0 = Int32.ofInt 1 ∧ wd0 = t_W 6) (hcn : (hf 3).toInt < 8) (hN1 : NXm f n lim p0 num0 wd0 p1 tok1 at1 sp1 num1 wd1) (hname : tok1 = Int32.ofInt 1 ∧ ∀ x : Nat, x < 25 → wd1 ≠ t_W x) (hT : ¬ t_Told hf nf wd1) (hN2 : NXm f n lim p1 num1 wd1 p2 tok2 at2 sp2 num2 wd2) (hno : tok2 ≠ Int32.ofInt 2 ∨ num2.toInt < 0 ∨ 1 < num2.toInt) : x_Gd xs L J (d + 6) m_167 (fun r G' => r = some (.int 0) ∧ x_sl G' am 16 = some (.int at2) ∧ x_sl G' am 15 = some (.int (t_km tok2))) 0 (lv_args 0 [.ref am]) [] G := by
  have g0 : pm_get (lv_args 0 [.ref am]) 0 = some (.ref am) := rfl
  generalize (lv_args 0 [.ref am]) = lv at g0 ⊢
  refine v_to_thing h g0 hw ?_
  refine y_aln (e_167 (324, .aload_n 0, 1) (List.mem_of_getElem? (i := 172) rfl)) g0 ?_
  refine y_c1 (K' := _) (e_167 (325, .invokevirtual 208, 3) (List.mem_of_getElem? (i := 173) rfl)) ⟨rfl, rfl, rfl⟩ t_17_208 ⟨by decide, by decide, by decide, by decide⟩ m_175_ok rfl (by decide) (y_recv h.T.I h.T.t ⟨rfl, rfl⟩) (Nat.le_of_ble_eq_true rfl) (Nat.le_of_ble_eq_true rfl) (v_rt_b h hcn hN1 hname hT hN2 hno) (fun r1 Gc hc1 => ?_)
  obtain ⟨rfl, hz⟩ := hc1
  simp only [Option.toList_some, Option.toList_none, List.cons_append, List.nil_append]
  exact y_ret (e_167 (328, .ireturn, 1) (List.mem_of_getElem? (i := 174) rfl)) ⟨rfl, y_rb (Or.inl rfl)⟩ ⟨rfl, hz⟩
set_option maxHeartbeats 2000000 in
set_option maxRecDepth 100000 in
theorem v_thing_c (h : MS th am mb hb nb rb f n lim p0 tok0 at0 sp0 num0 wd0 hf nf on G) (hw : tok0 = Int32.ofInt 1 ∧ wd0 = t_W 6) (hcn : (hf 3).toInt < 8) (hN1 : NXm f n lim p0 num0 wd0 p1 tok1 at1 sp1 num1 wd1) (hname : tok1 = Int32.ofInt 1 ∧ ∀ x : Nat, x < 25 → wd1 ≠ t_W x) (hT : ¬ t_Told hf nf wd1) (hN2 : NXm f n lim p1 num1 wd1 p2 tok2 at2 sp2 num2 wd2) (htk2 : tok2 = Int32.ofInt 2) (a2 : 0 ≤ num2.toInt) (b2 : num2.toInt ≤ 1) (hN3 : NXm f n lim p2 num2 wd2 p3 tok3 at3 sp3 num3 wd3) (hno : tok3 ≠ Int32.ofInt 2 ∨ num3.toInt < 0 ∨ (hf num2.toInt.toNat - Int32.ofInt 1).toInt < num3.toInt) : x_Gd xs L J (d + 6) m_167 (fun r G' => r = some (.int 0) ∧ x_sl G' am 16 = some (.int at3) ∧ x_sl G' am 15 = some (.int (t_km tok3))) 0 (lv_args 0 [.ref am]) [] G := by
  have g0 : pm_get (lv_args 0 [.ref am]) 0 = some (.ref am) := rfl
  generalize (lv_args 0 [.ref am]) = lv at g0 ⊢
  refine v_to_thing h g0 hw ?_
  refine y_aln (e_167 (324, .aload_n 0, 1) (List.mem_of_getElem? (i := 172) rfl)) g0 ?_
  refine y_c1 (K' := _) (e_167 (325, .invokevirtual 208, 3) (List.mem_of_getElem? (i := 173) rfl)) ⟨rfl, rfl, rfl⟩ t_17_208 ⟨by decide, by decide, by decide, by decide⟩ m_175_ok rfl (by decide) (y_recv h.T.I h.T.t ⟨rfl, rfl⟩) (Nat.le_of_ble_eq_true rfl) (Nat.le_of_ble_eq_true rfl) (v_rt_c h hcn hN1 hname hT hN2 htk2 a2 b2 hN3 hno) (fun r1 Gc hc1 => ?_)
  obtain ⟨rfl, hz⟩ := hc1
  simp only [Option.toList_some, Option.toList_none, List.cons_append, List.nil_append]
  exact y_ret (e_167 (328, .ireturn, 1) (List.mem_of_getElem? (i := 174) rfl)) ⟨rfl, y_rb (Or.inl rfl)⟩ ⟨rfl, hz⟩
set_option maxHeartbeats 2000000 in
set_option maxRecDepth 100000 in
theorem v_thing_d (h : MS th am mb hb nb rb f n lim p0 tok0 at0 sp0 num0 wd0 hf nf on G) (hw : tok0 = Int32.ofInt 1 ∧ wd0 = t_W 6) (hcn : (hf 3).toInt < 8) (hN1 : NXm f n lim p0 num0 wd0 p1 tok1 at1 sp1 num1 wd1) (hname : tok1 = Int32.ofInt 1 ∧ ∀ x : Nat, x < 25 → wd1 ≠ t_W x) (hT : ¬ t_Told hf nf wd1) (hN2 : NXm f n lim p1 num1 wd1 p2 tok2 at2 sp2 num2 wd2) (htk2 : tok2 = Int32.ofInt 2) (a2 : 0 ≤ num2.toInt) (b2 : num2.toInt ≤ 1) (hN3 : NXm f n lim p2 num2 wd2 p3 tok3 at3 sp3 num3 wd3) (htk3 : tok3 = Int32.ofInt 2) (a3 : 0 ≤ num3.toInt) (b3 : num3.toInt ≤ (hf num2.toInt.toNat - Int32.ofInt 1).toInt) (hN4 : NXm f n lim p3 num3 wd3 p4 tok4 at4 sp4 num4 wd4) (hno : tok4 ≠ Int32.ofInt 2 ∨ num4.toInt < 1 ∨ 9 < num4.toInt) : x_Gd xs L J (d + 6) m_167 (fun r G' => r = some (.int 0) ∧ x_sl G' am 16 = some (.int at4) ∧ x_sl G' am 15 = some (.int (t_km tok4))) 0 (lv_args 0 [.ref am]) [] G := by
  have g0 : pm_get (lv_args 0 [.ref am]) 0 = some (.ref am) := rfl
  generalize (lv_args 0 [.ref am]) = lv at g0 ⊢
  refine v_to_thing h g0 hw ?_
  refine y_aln (e_167 (324, .aload_n 0, 1) (List.mem_of_getElem? (i := 172) rfl)) g0 ?_
  refine y_c1 (K' := _) (e_167 (325, .invokevirtual 208, 3) (List.mem_of_getElem? (i := 173) rfl)) ⟨rfl, rfl, rfl⟩ t_17_208 ⟨by decide, by decide, by decide, by decide⟩ m_175_ok rfl (by decide) (y_recv h.T.I h.T.t ⟨rfl, rfl⟩) (Nat.le_of_ble_eq_true rfl) (Nat.le_of_ble_eq_true rfl) (v_rt_d h hcn hN1 hname hT hN2 htk2 a2 b2 hN3 htk3 a3 b3 hN4 hno) (fun r1 Gc hc1 => ?_)
  obtain ⟨rfl, hz⟩ := hc1
  simp only [Option.toList_some, Option.toList_none, List.cons_append, List.nil_append]
  exact y_ret (e_167 (328, .ireturn, 1) (List.mem_of_getElem? (i := 174) rfl)) ⟨rfl, y_rb (Or.inl rfl)⟩ ⟨rfl, hz⟩
set_option maxHeartbeats 2000000 in
set_option maxRecDepth 100000 in
theorem v_thing_e (h : MS th am mb hb nb rb f n lim p0 tok0 at0 sp0 num0 wd0 hf nf on G) (hw : tok0 = Int32.ofInt 1 ∧ wd0 = t_W 6) (hcn : (hf 3).toInt < 8) (hN1 : NXm f n lim p0 num0 wd0 p1 tok1 at1 sp1 num1 wd1) (hname : tok1 = Int32.ofInt 1 ∧ ∀ x : Nat, x < 25 → wd1 ≠ t_W x) (hT : ¬ t_Told hf nf wd1) (hN2 : NXm f n lim p1 num1 wd1 p2 tok2 at2 sp2 num2 wd2) (htk2 : tok2 = Int32.ofInt 2) (a2 : 0 ≤ num2.toInt) (b2 : num2.toInt ≤ 1) (hN3 : NXm f n lim p2 num2 wd2 p3 tok3 at3 sp3 num3 wd3) (htk3 : tok3 = Int32.ofInt 2) (a3 : 0 ≤ num3.toInt) (b3 : num3.toInt ≤ (hf num2.toInt.toNat - Int32.ofInt 1).toInt) (hN4 : NXm f n lim p3 num3 wd3 p4 tok4 at4 sp4 num4 wd4) (htk4 : tok4 = Int32.ofInt 2) (a4 : 1 ≤ num4.toInt) (b4 : num4.toInt ≤ 9) (hN5 : NXm f n lim p4 num4 wd4 p5 tok5 at5 sp5 num5 wd5) (hno : tok5 ≠ Int32.ofInt 2 ∨ num5.toInt < 0 ∨ 7 < num5.toInt) : x_Gd xs L J (d + 6) m_167 (fun r G' => r = some (.int 0) ∧ x_sl G' am 16 = some (.int at5) ∧ x_sl G' am 15 = some (.int (t_km tok5))) 0 (lv_args 0 [.ref am]) [] G := by
  have g0 : pm_get (lv_args 0 [.ref am]) 0 = some (.ref am) := rfl
  generalize (lv_args 0 [.ref am]) = lv at g0 ⊢
  refine v_to_thing h g0 hw ?_
  refine y_aln (e_167 (324, .aload_n 0, 1) (List.mem_of_getElem? (i := 172) rfl)) g0 ?_
  refine y_c1 (K' := _) (e_167 (325, .invokevirtual 208, 3) (List.mem_of_getElem? (i := 173) rfl)) ⟨rfl, rfl, rfl⟩ t_17_208 ⟨by decide, by decide, by decide, by decide⟩ m_175_ok rfl (by decide) (y_recv h.T.I h.T.t ⟨rfl, rfl⟩) (Nat.le_of_ble_eq_true rfl) (Nat.le_of_ble_eq_true rfl) (v_rt_e h hcn hN1 hname hT hN2 htk2 a2 b2 hN3 htk3 a3 b3 hN4 htk4 a4 b4 hN5 hno) (fun r1 Gc hc1 => ?_)
  obtain ⟨rfl, hz⟩ := hc1
  simp only [Option.toList_some, Option.toList_none, List.cons_append, List.nil_append]
  exact y_ret (e_167 (328, .ireturn, 1) (List.mem_of_getElem? (i := 174) rfl)) ⟨rfl, y_rb (Or.inl rfl)⟩ ⟨rfl, hz⟩
set_option maxHeartbeats 2000000 in
set_option maxRecDepth 100000 in
theorem v_thing_ok (h : MS th am mb hb nb rb f n lim p0 tok0 at0 sp0 num0 wd0 hf nf on G) (hw : tok0 = Int32.ofInt 1 ∧ wd0 = t_W 6) (hcn : (hf 3).toInt < 8) (hN1 : NXm f n lim p0 num0 wd0 p1 tok1 at1 sp1 num1 wd1) (hname : tok1 = Int32.ofInt 1 ∧ ∀ x : Nat, x < 25 → wd1 ≠ t_W x) (hT : ¬ t_Told hf nf wd1) (hN2 : NXm f n lim p1 num1 wd1 p2 tok2 at2 sp2 num2 wd2) (htk2 : tok2 = Int32.ofInt 2) (a2 : 0 ≤ num2.toInt) (b2 : num2.toInt ≤ 1) (hN3 : NXm f n lim p2 num2 wd2 p3 tok3 at3 sp3 num3 wd3) (htk3 : tok3 = Int32.ofInt 2) (a3 : 0 ≤ num3.toInt) (b3 : num3.toInt ≤ (hf num2.toInt.toNat - Int32.ofInt 1).toInt) (hN4 : NXm f n lim p3 num3 wd3 p4 tok4 at4 sp4 num4 wd4) (htk4 : tok4 = Int32.ofInt 2) (a4 : 1 ≤ num4.toInt) (b4 : num4.toInt ≤ 9) (hN5 : NXm f n lim p4 num4 wd4 p5 tok5 at5 sp5 num5 wd5) (htk5 : tok5 = Int32.ofInt 2) (a5 : 0 ≤ num5.toInt) (b5 : num5.toInt ≤ 7) (hN6 : NXm f n lim p5 num5 wd5 p6 tok6 at6 sp6 num6 wd6) (hti : ¬ (tok6 = Int32.ofInt 1 ∧ wd6 = t_W 7)) : x_Gd xs L J (d + 6) m_167 (fun r G' => r = some (.int 1) ∧ MS th am mb hb nb rb f n lim p6 tok6 at6 sp6 num6 wd6 (fun i => if i = 3 then hf 3 + Int32.ofInt 1 else (fun i => if i = ((Int8.ofInt 57).toInt32 + hf 3).toInt.toNat then Int32.ofInt 0 else (fun i => if i = ((Int8.ofInt 49).toInt32 + hf 3).toInt.toNat then num5 else (fun i => if i = ((Int8.ofInt 41).toInt32 + hf 3).toInt.toNat then num4 else (fun i => if i = ((Int8.ofInt 33).toInt32 + hf 3).toInt.toNat then num3 else if i = ((Int8.ofInt 25).toInt32 + hf 3).toInt.toNat then num2 else hf i) i) i) i) i) (fun i => if i = ((Int8.ofInt 16).toInt32 + hf 3).toInt.toNat then wd1 else nf i) (on ||| Int32.ofInt 1) G') 0 (lv_args 0 [.ref am]) [] G := by
  have g0 : pm_get (lv_args 0 [.ref am]) 0 = some (.ref am) := rfl
  generalize (lv_args 0 [.ref am]) = lv at g0 ⊢
  refine v_to_thing h g0 hw ?_
  refine y_aln (e_167 (324, .aload_n 0, 1) (List.mem_of_getElem? (i := 172) rfl)) g0 ?_
  refine y_c1 (K' := _) (e_167 (325, .invokevirtual 208, 3) (List.mem_of_getElem? (i := 173) rfl)) ⟨rfl, rfl, rfl⟩ t_17_208 ⟨by decide, by decide, by decide, by decide⟩ m_175_ok rfl (by decide) (y_recv h.T.I h.T.t ⟨rfl, rfl⟩) (Nat.le_of_ble_eq_true rfl) (Nat.le_of_ble_eq_true rfl) (v_rt_ok h hcn hN1 hname hT hN2 htk2 a2 b2 hN3 htk3 a3 b3 hN4 htk4 a4 b4 hN5 htk5 a5 b5 hN6 hti) (fun r1 Gc hc1 => ?_)
  obtain ⟨rfl, hz⟩ := hc1
  simp only [Option.toList_some, Option.toList_none, List.cons_append, List.nil_append]
  exact y_ret (e_167 (328, .ireturn, 1) (List.mem_of_getElem? (i := 174) rfl)) ⟨rfl, y_rb (Or.inr rfl)⟩ ⟨rfl, hz⟩
set_option maxHeartbeats 2000000 in
set_option maxRecDepth 100000 in
theorem v_thing_tied (h : MS th am mb hb nb rb f n lim p0 tok0 at0 sp0 num0 wd0 hf nf on G) (hw : tok0 = Int32.ofInt 1 ∧ wd0 = t_W 6) (hcn : (hf 3).toInt < 8) (hN1 : NXm f n lim p0 num0 wd0 p1 tok1 at1 sp1 num1 wd1) (hname : tok1 = Int32.ofInt 1 ∧ ∀ x : Nat, x < 25 → wd1 ≠ t_W x) (hT : ¬ t_Told hf nf wd1) (hN2 : NXm f n lim p1 num1 wd1 p2 tok2 at2 sp2 num2 wd2) (htk2 : tok2 = Int32.ofInt 2) (a2 : 0 ≤ num2.toInt) (b2 : num2.toInt ≤ 1) (hN3 : NXm f n lim p2 num2 wd2 p3 tok3 at3 sp3 num3 wd3) (htk3 : tok3 = Int32.ofInt 2) (a3 : 0 ≤ num3.toInt) (b3 : num3.toInt ≤ (hf num2.toInt.toNat - Int32.ofInt 1).toInt) (hN4 : NXm f n lim p3 num3 wd3 p4 tok4 at4 sp4 num4 wd4) (htk4 : tok4 = Int32.ofInt 2) (a4 : 1 ≤ num4.toInt) (b4 : num4.toInt ≤ 9) (hN5 : NXm f n lim p4 num4 wd4 p5 tok5 at5 sp5 num5 wd5) (htk5 : tok5 = Int32.ofInt 2) (a5 : 0 ≤ num5.toInt) (b5 : num5.toInt ≤ 7) (hN6 : NXm f n lim p5 num5 wd5 p6 tok6 at6 sp6 num6 wd6) (hti : (tok6 = Int32.ofInt 1 ∧ wd6 = t_W 7)) (hN7 : NXm f n lim p6 num6 wd6 p7 tok7 at7 sp7 num7 wd7) : x_Gd xs L J (d + 6) m_167 (fun r G' => r = some (.int 1) ∧ MS th am mb hb nb rb f n lim p7 tok7 at7 sp7 num7 wd7 (fun i => if i = 3 then hf 3 + Int32.ofInt 1 else (fun i => if i = ((Int8.ofInt 57).toInt32 + hf 3).toInt.toNat then Int32.ofInt 1 else (fun i => if i = ((Int8.ofInt 49).toInt32 + hf 3).toInt.toNat then num5 else (fun i => if i = ((Int8.ofInt 41).toInt32 + hf 3).toInt.toNat then num4 else (fun i => if i = ((Int8.ofInt 33).toInt32 + hf 3).toInt.toNat then num3 else if i = ((Int8.ofInt 25).toInt32 + hf 3).toInt.toNat then num2 else hf i) i) i) i) i) (fun i => if i = ((Int8.ofInt 16).toInt32 + hf 3).toInt.toNat then wd1 else nf i) (on ||| Int32.ofInt 1) G') 0 (lv_args 0 [.ref am]) [] G := by
  have g0 : pm_get (lv_args 0 [.ref am]) 0 = some (.ref am) := rfl
  generalize (lv_args 0 [.ref am]) = lv at g0 ⊢
  refine v_to_thing h g0 hw ?_
  refine y_aln (e_167 (324, .aload_n 0, 1) (List.mem_of_getElem? (i := 172) rfl)) g0 ?_
  refine y_c1 (K' := _) (e_167 (325, .invokevirtual 208, 3) (List.mem_of_getElem? (i := 173) rfl)) ⟨rfl, rfl, rfl⟩ t_17_208 ⟨by decide, by decide, by decide, by decide⟩ m_175_ok rfl (by decide) (y_recv h.T.I h.T.t ⟨rfl, rfl⟩) (Nat.le_of_ble_eq_true rfl) (Nat.le_of_ble_eq_true rfl) (v_rt_tied h hcn hN1 hname hT hN2 htk2 a2 b2 hN3 htk3 a3 b3 hN4 htk4 a4 b4 hN5 htk5 a5 b5 hN6 hti hN7) (fun r1 Gc hc1 => ?_)
  obtain ⟨rfl, hz⟩ := hc1
  simp only [Option.toList_some, Option.toList_none, List.cons_append, List.nil_append]
  exact y_ret (e_167 (328, .ireturn, 1) (List.mem_of_getElem? (i := 174) rfl)) ⟨rfl, y_rb (Or.inr rfl)⟩ ⟨rfl, hz⟩
end MG7
