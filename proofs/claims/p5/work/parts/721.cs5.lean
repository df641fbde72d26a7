section CS5
variable {xs : Nat → Int32} {L J d : Nat} {K : Option Value → List pE → Prop} {f : Nat → Int32} {G G1 G' : List pE} {n lim ft fp : Int32} {lv : pL} {cc : Nat → Int32} {np nt nl nn oc : Int32} {ot : Nat → Nat} {tn ln mn : Nat → Int64} {nx0 pl0 num0 : Int32} {tk0 : Nat} {nm0 : Int64} {nx1 pl1 num1 : Int32} {tk1 : Nat} {nm1 : Int64} {nx2 pl2 num2 : Int32} {tk2 : Nat} {nm2 : Int64} {nx3 pl3 num3 : Int32} {tk3 : Nat} {nm3 : Int64} {nx4 pl4 num4 : Int32} {tk4 : Nat} {nm4 : Int64} {nx5 pl5 num5 : Int32} {tk5 : Nat} {nm5 : Int64} {nx6 pl6 num6 : Int32} {tk6 : Nat} {nm6 : Int64} {nx7 pl7 num7 : Int32} {tk7 : Nat} {nm7 : Int64} {nx8 pl8 num8 : Int32} {tk8 : Nat} {nm8 : Int64}
set_option maxHeartbeats 2000000 in
set_option maxRecDepth 100000 in
theorem k_nac_a (h : CS f n lim nx1 tk1 pl1 num1 nm1 ft fp cc np nt nl nn oc ot tn ln mn G) (hno : tk1 ≠ 3 ∨ c_Told nt nl nn tn ln mn nm1) : x_Gd xs L J (d + 2) m_30 (fun r G' => r = some (.int 0) ∧ x_sl G' 1 9 = some (.int pl1) ∧ x_sl G' 1 8 = some (.int (t_kn tk1))) 0 (lv_args 0 [.ref 3, .ref 1, .ref 32]) [] G := by
  have g0 : pm_get (lv_args 0 [.ref 3, .ref 1, .ref 32]) 0 = some (.ref 3) := rfl
  have g1 : pm_get (lv_args 0 [.ref 3, .ref 1, .ref 32]) 1 = some (.ref 1) := rfl
  have g2 : pm_get (lv_args 0 [.ref 3, .ref 1, .ref 32]) 2 = some (.ref 32) := rfl
  generalize (lv_args 0 [.ref 3, .ref 1, .ref 32]) = lv at g0 g1 g2 ⊢
  refine y_aln (e_30 (0, .aload_n 1, 1) (List.mem_of_getElem? (i := 0) rfl)) g1 ?_
  refine y_getf h.1.I h.1.t (e_30 (1, .getfield 36, 3) (List.mem_of_getElem? (i := 1) rfl)) u_3_36 ⟨rfl, rfl⟩ h.1.s4 ?_
  refine y_gst (a := pm_TB + 3) (e_30 (4, .getstatic 225, 3) (List.mem_of_getElem? (i := 2) rfl)) w_3_225 rfl ?_
  refine y_acm (e_30 (7, .if_acmp .eq 9, 3) (List.mem_of_getElem? (i := 3) rfl)) rfl h.1.tk35 (by decide) (fun z => ?_) (fun zn => ?_)
  rotate_left
  · skip
    refine y_aln (e_30 (10, .aload_n 1, 1) (List.mem_of_getElem? (i := 4) rfl)) g1 ?_
    refine y_st (e_30 (11, .iconst 1, 1) (List.mem_of_getElem? (i := 5) rfl)) ⟨rfl, rfl, rfl, rfl⟩ ?_
    refine y_c2 (K' := _) (e_30 (12, .invokevirtual 116, 3) (List.mem_of_getElem? (i := 6) rfl)) ⟨rfl, rfl, rfl⟩ t_3_116 ⟨by decide, by decide, by decide, by decide⟩ m_27_ok rfl (by decide) (y_recv h.1.I h.1.t ⟨rfl, rfl⟩) (Nat.le_of_ble_eq_true rfl) (Nat.le_of_ble_eq_true rfl) (k_refuse h.1 _) (fun r1 Gc hc1 => ?_)
    obtain ⟨rfl, hc2⟩ := hc1
    simp only [Option.toList_some, Option.toList_none, List.cons_append, List.nil_append]
    exact y_ret (e_30 (15, .ireturn, 1) (List.mem_of_getElem? (i := 7) rfl)) ⟨rfl, y_rb (Or.inl rfl)⟩ ⟨rfl, hc2.s9, by unfold t_kn; rw [if_neg zn]; exact hc2.s8⟩
  refine y_aln (e_30 (16, .aload_n 2, 1) (List.mem_of_getElem? (i := 8) rfl)) g2 ?_
  refine y_aln (e_30 (17, .aload_n 1, 1) (List.mem_of_getElem? (i := 9) rfl)) g1 ?_
  refine y_getf h.1.I h.1.t (e_30 (18, .getfield 173, 3) (List.mem_of_getElem? (i := 10) rfl)) u_3_173 ⟨rfl, rfl⟩ h.1.s7 ?_
  refine y_c2 (K' := _) (e_30 (21, .invokevirtual 228, 3) (List.mem_of_getElem? (i := 11) rfl)) ⟨rfl, rfl, rfl⟩ t_3_228 ⟨by decide, by decide, by decide, by decide⟩ m_31_ok rfl (by decide) (y_recv h.1.I th0_p.2.2.2.2.2.1 ⟨rfl, rfl⟩) (Nat.le_of_ble_eq_true rfl) (Nat.le_of_ble_eq_true rfl) (k_isTold h _) (fun r1 Gc hc1 => ?_)
  obtain ⟨rfl, y, rfl, hy⟩ := hc1
  simp only [Option.toList_some, Option.toList_none, List.cons_append, List.nil_append]
  obtain rfl : y = true := hy.mpr (hno.resolve_left (fun w => w z))
  refine y_ifc (e_30 (24, .ifCond .eq 9, 3) (List.mem_of_getElem? (i := 12) rfl)) rfl (fun hc => absurd hc (by decide)) (fun _ => ?_)
  refine y_aln (e_30 (27, .aload_n 1, 1) (List.mem_of_getElem? (i := 13) rfl)) g1 ?_
  refine y_st (e_30 (28, .iconst 3, 1) (List.mem_of_getElem? (i := 14) rfl)) ⟨rfl, rfl, rfl, rfl⟩ ?_
  refine y_c2 (K' := _) (e_30 (29, .invokevirtual 116, 3) (List.mem_of_getElem? (i := 15) rfl)) ⟨rfl, rfl, rfl⟩ t_3_116 ⟨by decide, by decide, by decide, by decide⟩ m_27_ok rfl (by decide) (y_recv h.1.I h.1.t ⟨rfl, rfl⟩) (Nat.le_of_ble_eq_true rfl) (Nat.le_of_ble_eq_true rfl) (k_refuse h.1 _) (fun r1 Gc hc1 => ?_)
  obtain ⟨rfl, hc2⟩ := hc1
  simp only [Option.toList_some, Option.toList_none, List.cons_append, List.nil_append]
  exact y_ret (e_30 (32, .ireturn, 1) (List.mem_of_getElem? (i := 16) rfl)) ⟨rfl, y_rb (Or.inl rfl)⟩ ⟨rfl, hc2.s9, by unfold t_kn; rw [if_pos z]; exact hc2.s8⟩
set_option maxHeartbeats 2000000 in
set_option maxRecDepth 100000 in
theorem k_nac_b (h : CS f n lim nx1 tk1 pl1 num1 nm1 ft fp cc np nt nl nn oc ot tn ln mn G) (htk1 : tk1 = 3) (hT : ¬ c_Told nt nl nn tn ln mn nm1) (hN2 : NXc f n lim nx1 num1 nm1 nx2 tk2 pl2 num2 nm2) (hno : tk2 ≠ 2 ∨ num2.toInt < 0 ∨ 1 < num2.toInt) : x_Gd xs L J (d + 3) m_30 (fun r G' => r = some (.int 0) ∧ x_sl G' 1 9 = some (.int pl2) ∧ x_sl G' 1 8 = some (.int (t_kd tk2))) 0 (lv_args 0 [.ref 3, .ref 1, .ref 32]) [] G := by
  have g0 : pm_get (lv_args 0 [.ref 3, .ref 1, .ref 32]) 0 = some (.ref 3) := rfl
  have g1 : pm_get (lv_args 0 [.ref 3, .ref 1, .ref 32]) 1 = some (.ref 1) := rfl
  have g2 : pm_get (lv_args 0 [.ref 3, .ref 1, .ref 32]) 2 = some (.ref 32) := rfl
  generalize (lv_args 0 [.ref 3, .ref 1, .ref 32]) = lv at g0 g1 g2 ⊢
  refine y_aln (e_30 (0, .aload_n 1, 1) (List.mem_of_getElem? (i := 0) rfl)) g1 ?_
  refine y_getf h.1.I h.1.t (e_30 (1, .getfield 36, 3) (List.mem_of_getElem? (i := 1) rfl)) u_3_36 ⟨rfl, rfl⟩ h.1.s4 ?_
  refine y_gst (a := pm_TB + 3) (e_30 (4, .getstatic 225, 3) (List.mem_of_getElem? (i := 2) rfl)) w_3_225 rfl ?_
  refine y_acm (e_30 (7, .if_acmp .eq 9, 3) (List.mem_of_getElem? (i := 3) rfl)) rfl h.1.tk35 (by decide) (fun _ => ?_) (fun z => absurd htk1 z)
  refine y_aln (e_30 (16, .aload_n 2, 1) (List.mem_of_getElem? (i := 8) rfl)) g2 ?_
  refine y_aln (e_30 (17, .aload_n 1, 1) (List.mem_of_getElem? (i := 9) rfl)) g1 ?_
  refine y_getf h.1.I h.1.t (e_30 (18, .getfield 173, 3) (List.mem_of_getElem? (i := 10) rfl)) u_3_173 ⟨rfl, rfl⟩ h.1.s7 ?_
  refine y_c2 (K' := _) (e_30 (21, .invokevirtual 228, 3) (List.mem_of_getElem? (i := 11) rfl)) ⟨rfl, rfl, rfl⟩ t_3_228 ⟨by decide, by decide, by decide, by decide⟩ m_31_ok rfl (by decide) (y_recv h.1.I th0_p.2.2.2.2.2.1 ⟨rfl, rfl⟩) (Nat.le_of_ble_eq_true rfl) (Nat.le_of_ble_eq_true rfl) (k_isTold h _) (fun r1 Gc hc1 => ?_)
  obtain ⟨rfl, y, rfl, hy⟩ := hc1
  simp only [Option.toList_some, Option.toList_none, List.cons_append, List.nil_append]
  obtain rfl : y = false := by
    cases y
    · rfl
    · exact absurd (hy.mp rfl) hT
  refine y_ifc (e_30 (24, .ifCond .eq 9, 3) (List.mem_of_getElem? (i := 12) rfl)) rfl (fun _ => ?_) (fun hc => absurd hc (by decide))
  refine y_aln (e_30 (33, .aload_n 1, 1) (List.mem_of_getElem? (i := 17) rfl)) g1 ?_
  refine y_c1 (K' := _) (e_30 (34, .invokevirtual 120, 3) (List.mem_of_getElem? (i := 18) rfl)) ⟨rfl, rfl, rfl⟩ t_3_120 ⟨by decide, by decide, by decide, by decide⟩ m_21_ok rfl (by decide) (y_recv h.1.I h.1.t ⟨rfl, rfl⟩) (Nat.le_of_ble_eq_true rfl) (Nat.le_of_ble_eq_true rfl) (hN2 _ _ _ _ _ _ _ _ _ _ _ _ _ h.1) (fun r1 Gc hc1 => ?_)
  obtain ⟨rfl, hc2⟩ := hc1
  simp only [Option.toList_some, Option.toList_none, List.cons_append, List.nil_append]
  have h2 := h.nxt hc2
  refine y_aln (e_30 (37, .aload_n 1, 1) (List.mem_of_getElem? (i := 19) rfl)) g1 ?_
  refine y_st (e_30 (38, .iconst 0, 1) (List.mem_of_getElem? (i := 20) rfl)) ⟨rfl, rfl, rfl, rfl⟩ ?_
  refine y_st (e_30 (39, .iconst 1, 1) (List.mem_of_getElem? (i := 21) rfl)) ⟨rfl, rfl, rfl, rfl⟩ ?_
  refine y_aln (e_30 (40, .aload_n 0, 1) (List.mem_of_getElem? (i := 22) rfl)) g0 ?_
  refine y_getf h2.1.I th0_p.2.2.1 (e_30 (41, .getfield 9, 3) (List.mem_of_getElem? (i := 23) rfl)) u_3_9 ⟨rfl, rfl⟩ h2.2.a3_0 ?_
  refine y_st (e_30 (44, .iconst 0, 1) (List.mem_of_getElem? (i := 24) rfl)) ⟨rfl, rfl, rfl, rfl⟩ ?_
  refine y_c5 (K' := _) (e_30 (45, .invokevirtual 141, 3) (List.mem_of_getElem? (i := 25) rfl)) ⟨rfl, rfl, rfl⟩ t_3_141 ⟨by decide, by decide, by decide, by decide⟩ m_28_ok rfl (by decide) (y_recv h2.1.I h2.1.t ⟨rfl, rfl⟩) (Nat.le_of_ble_eq_true rfl) (Nat.le_of_ble_eq_true rfl) (k_takeN_no h2.1 hno) (fun r1 Gc hc1 => ?_)
  obtain ⟨rfl, hz⟩ := hc1
  simp only [Option.toList_some, Option.toList_none, List.cons_append, List.nil_append]
  refine y_ifc (e_30 (48, .ifCond .ne 5, 3) (List.mem_of_getElem? (i := 26) rfl)) rfl (fun hc => absurd hc (by decide)) (fun _ => ?_)
  refine y_st (e_30 (51, .iconst 0, 1) (List.mem_of_getElem? (i := 27) rfl)) ⟨rfl, rfl, rfl, rfl⟩ ?_
  exact y_ret (e_30 (52, .ireturn, 1) (List.mem_of_getElem? (i := 28) rfl)) ⟨rfl, y_rb (Or.inl rfl)⟩ ⟨rfl, hz.s9, hz.s8⟩
set_option maxHeartbeats 2000000 in
set_option maxRecDepth 100000 in
theorem k_nac_c (h : CS f n lim nx1 tk1 pl1 num1 nm1 ft fp cc np nt nl nn oc ot tn ln mn G) (htk1 : tk1 = 3) (hT : ¬ c_Told nt nl nn tn ln mn nm1) (hN2 : NXc f n lim nx1 num1 nm1 nx2 tk2 pl2 num2 nm2) (htk2 : tk2 = 2) (a2 : 0 ≤ num2.toInt) (b2 : num2.toInt ≤ 1) (hN3 : NXc f n lim nx2 num2 nm2 nx3 tk3 pl3 num3 nm3) (hno : tk3 ≠ 2 ∨ num3.toInt < 0 ∨ (cc num2.toInt.toNat - Int32.ofInt 1).toInt < num3.toInt) : x_Gd xs L J (d + 3) m_30 (fun r G' => r = some (.int 0) ∧ x_sl G' 1 9 = some (.int pl3) ∧ x_sl G' 1 8 = some (.int (t_kd tk3))) 0 (lv_args 0 [.ref 3, .ref 1, .ref 32]) [] G := by
  have g0 : pm_get (lv_args 0 [.ref 3, .ref 1, .ref 32]) 0 = some (.ref 3) := rfl
  have g1 : pm_get (lv_args 0 [.ref 3, .ref 1, .ref 32]) 1 = some (.ref 1) := rfl
  have g2 : pm_get (lv_args 0 [.ref 3, .ref 1, .ref 32]) 2 = some (.ref 32) := rfl
  generalize (lv_args 0 [.ref 3, .ref 1, .ref 32]) = lv at g0 g1 g2 ⊢
  refine y_aln (e_30 (0, .aload_n 1, 1) (List.mem_of_getElem? (i := 0) rfl)) g1 ?_
  refine y_getf h.1.I h.1.t (e_30 (1, .getfield 36, 3) (List.mem_of_getElem? (i := 1) rfl)) u_3_36 ⟨rfl, rfl⟩ h.1.s4 ?_
  refine y_gst (a := pm_TB + 3) (e_30 (4, .getstatic 225, 3) (List.mem_of_getElem? (i := 2) rfl)) w_3_225 rfl ?_
  refine y_acm (e_30 (7, .if_acmp .eq 9, 3) (List.mem_of_getElem? (i := 3) rfl)) rfl h.1.tk35 (by decide) (fun _ => ?_) (fun z => absurd htk1 z)
  refine y_aln (e_30 (16, .aload_n 2, 1) (List.mem_of_getElem? (i := 8) rfl)) g2 ?_
  refine y_aln (e_30 (17, .aload_n 1, 1) (List.mem_of_getElem? (i := 9) rfl)) g1 ?_
  refine y_getf h.1.I h.1.t (e_30 (18, .getfield 173, 3) (List.mem_of_getElem? (i := 10) rfl)) u_3_173 ⟨rfl, rfl⟩ h.1.s7 ?_
  refine y_c2 (K' := _) (e_30 (21, .invokevirtual 228, 3) (List.mem_of_getElem? (i := 11) rfl)) ⟨rfl, rfl, rfl⟩ t_3_228 ⟨by decide, by decide, by decide, by decide⟩ m_31_ok rfl (by decide) (y_recv h.1.I th0_p.2.2.2.2.2.1 ⟨rfl, rfl⟩) (Nat.le_of_ble_eq_true rfl) (Nat.le_of_ble_eq_true rfl) (k_isTold h _) (fun r1 Gc hc1 => ?_)
  obtain ⟨rfl, y, rfl, hy⟩ := hc1
  simp only [Option.toList_some, Option.toList_none, List.cons_append, List.nil_append]
  obtain rfl : y = false := by
    cases y
    · rfl
    · exact absurd (hy.mp rfl) hT
  refine y_ifc (e_30 (24, .ifCond .eq 9, 3) (List.mem_of_getElem? (i := 12) rfl)) rfl (fun _ => ?_) (fun hc => absurd hc (by decide))
  refine y_aln (e_30 (33, .aload_n 1, 1) (List.mem_of_getElem? (i := 17) rfl)) g1 ?_
  refine y_c1 (K' := _) (e_30 (34, .invokevirtual 120, 3) (List.mem_of_getElem? (i := 18) rfl)) ⟨rfl, rfl, rfl⟩ t_3_120 ⟨by decide, by decide, by decide, by decide⟩ m_21_ok rfl (by decide) (y_recv h.1.I h.1.t ⟨rfl, rfl⟩) (Nat.le_of_ble_eq_true rfl) (Nat.le_of_ble_eq_true rfl) (hN2 _ _ _ _ _ _ _ _ _ _ _ _ _ h.1) (fun r1 Gc hc1 => ?_)
  obtain ⟨rfl, hc2⟩ := hc1
  simp only [Option.toList_some, Option.toList_none, List.cons_append, List.nil_append]
  have h2 := h.nxt hc2
  refine y_aln (e_30 (37, .aload_n 1, 1) (List.mem_of_getElem? (i := 19) rfl)) g1 ?_
  refine y_st (e_30 (38, .iconst 0, 1) (List.mem_of_getElem? (i := 20) rfl)) ⟨rfl, rfl, rfl, rfl⟩ ?_
  refine y_st (e_30 (39, .iconst 1, 1) (List.mem_of_getElem? (i := 21) rfl)) ⟨rfl, rfl, rfl, rfl⟩ ?_
  refine y_aln (e_30 (40, .aload_n 0, 1) (List.mem_of_getElem? (i := 22) rfl)) g0 ?_
  refine y_getf h2.1.I th0_p.2.2.1 (e_30 (41, .getfield 9, 3) (List.mem_of_getElem? (i := 23) rfl)) u_3_9 ⟨rfl, rfl⟩ h2.2.a3_0 ?_
  refine y_st (e_30 (44, .iconst 0, 1) (List.mem_of_getElem? (i := 24) rfl)) ⟨rfl, rfl, rfl, rfl⟩ ?_
  refine y_c5 (K' := _) (e_30 (45, .invokevirtual 141, 3) (List.mem_of_getElem? (i := 25) rfl)) ⟨rfl, rfl, rfl⟩ t_3_141 ⟨by decide, by decide, by decide, by decide⟩ m_28_ok rfl (by decide) (y_recv h2.1.I h2.1.t ⟨rfl, rfl⟩) (Nat.le_of_ble_eq_true rfl) (Nat.le_of_ble_eq_true rfl) (k_takeN_yes h2.1 htk2 a2 b2 th0_p.2.2.2.1 ⟨rfl, rfl⟩ (by decide) ⟨by decide, by decide⟩ (y_okA (by rw [show (x_tb 19).2.2.2 = [(4, ((0 : Nat), (-2147483648 : Int), (2147483647 : Int)))] from rfl]; exact y_one (by decide))) (by decide) (by decide) hN3) (fun r1 Gc hc1 => ?_)
  obtain ⟨rfl, Gr, ur, hz⟩ := hc1
  simp only [Option.toList_some, Option.toList_none, List.cons_append, List.nil_append]
  have hI := h2.1.I.upd ur th0_p.2.2.2.1 (y_okA (by rw [show (x_tb 19).2.2.2 = [(4, ((0 : Nat), (-2147483648 : Int), (2147483647 : Int)))] from rfl]; exact y_one (by decide)))
  have h3 := (h2.oth ur hI (by decide) (by decide) rfl).nxt hz
  have r0 : x_sl Gc 4 0 = some (.int num2) := by rw [hz.ot 4 0 (by decide), ur.2.1, if_pos ⟨rfl, rfl⟩]
  refine y_ifc (e_30 (48, .ifCond .ne 5, 3) (List.mem_of_getElem? (i := 26) rfl)) rfl (fun _ => ?_) (fun hc => absurd hc (by decide))
  refine y_aln (e_30 (53, .aload_n 1, 1) (List.mem_of_getElem? (i := 29) rfl)) g1 ?_
  refine y_st (e_30 (54, .iconst 0, 1) (List.mem_of_getElem? (i := 30) rfl)) ⟨rfl, rfl, rfl, rfl⟩ ?_
  refine y_aln (e_30 (55, .aload_n 2, 1) (List.mem_of_getElem? (i := 31) rfl)) g2 ?_
  refine y_getf h3.1.I th0_p.2.2.2.2.2.1 (e_30 (56, .getfield 57, 3) (List.mem_of_getElem? (i := 32) rfl)) u_3_57 ⟨rfl, rfl⟩ h3.2.a32_0 ?_
  refine y_aln (e_30 (59, .aload_n 0, 1) (List.mem_of_getElem? (i := 33) rfl)) g0 ?_
  refine y_getf h3.1.I th0_p.2.2.1 (e_30 (60, .getfield 9, 3) (List.mem_of_getElem? (i := 34) rfl)) u_3_9 ⟨rfl, rfl⟩ h3.2.a3_0 ?_
  refine y_st (e_30 (63, .iconst 0, 1) (List.mem_of_getElem? (i := 35) rfl)) ⟨rfl, rfl, rfl, rfl⟩ ?_
  refine y_iald h3.1.I th0_p.2.2.2.1 (e_30 (64, .iaload, 1) (List.mem_of_getElem? (i := 36) rfl)) ⟨rfl, rfl⟩ (by decide) r0 ?_
  refine y_c2 (K' := _) (e_30 (65, .invokevirtual 232, 3) (List.mem_of_getElem? (i := 37) rfl)) ⟨rfl, rfl, rfl⟩ t_3_232 ⟨by decide, by decide, by decide, by decide⟩ m_34_ok rfl (by decide) (y_recv h3.1.I th0_p.2.2.2.2.2.2.1 ⟨rfl, rfl⟩) (Nat.le_of_ble_eq_true rfl) (Nat.le_of_ble_eq_true rfl) (k_cellsOf h3 a2 b2) (fun r1 Gd hc1 => ?_)
  obtain ⟨rfl, rfl⟩ := hc1
  simp only [Option.toList_some, Option.toList_none, List.cons_append, List.nil_append]
  refine y_st (e_30 (68, .iconst 1, 1) (List.mem_of_getElem? (i := 38) rfl)) ⟨rfl, rfl, rfl, rfl⟩ ?_
  refine y_st (e_30 (69, .isub, 1) (List.mem_of_getElem? (i := 39) rfl)) ⟨rfl, rfl, rfl, rfl⟩ ?_
  refine y_aln (e_30 (70, .aload_n 0, 1) (List.mem_of_getElem? (i := 40) rfl)) g0 ?_
  refine y_getf h3.1.I th0_p.2.2.1 (e_30 (71, .getfield 9, 3) (List.mem_of_getElem? (i := 41) rfl)) u_3_9 ⟨rfl, rfl⟩ h3.2.a3_0 ?_
  refine y_st (e_30 (74, .iconst 1, 1) (List.mem_of_getElem? (i := 42) rfl)) ⟨rfl, rfl, rfl, rfl⟩ ?_
  refine y_c5 (K' := _) (e_30 (75, .invokevirtual 141, 3) (List.mem_of_getElem? (i := 43) rfl)) ⟨rfl, rfl, rfl⟩ t_3_141 ⟨by decide, by decide, by decide, by decide⟩ m_28_ok rfl (by decide) (y_recv h3.1.I h3.1.t ⟨rfl, rfl⟩) (Nat.le_of_ble_eq_true rfl) (Nat.le_of_ble_eq_true rfl) (k_takeN_no h3.1 hno) (fun r1 Gc hc1 => ?_)
  obtain ⟨rfl, hz9⟩ := hc1
  simp only [Option.toList_some, Option.toList_none, List.cons_append, List.nil_append]
  exact y_ret (e_30 (78, .ireturn, 1) (List.mem_of_getElem? (i := 44) rfl)) ⟨rfl, y_rb (Or.inl rfl)⟩ ⟨rfl, hz9.s9, hz9.s8⟩
set_option maxHeartbeats 2000000 in
set_option maxRecDepth 100000 in
theorem k_nac_yes (h : CS f n lim nx1 tk1 pl1 num1 nm1 ft fp cc np nt nl nn oc ot tn ln mn G) (htk1 : tk1 = 3) (hT : ¬ c_Told nt nl nn tn ln mn nm1) (hN2 : NXc f n lim nx1 num1 nm1 nx2 tk2 pl2 num2 nm2) (htk2 : tk2 = 2) (a2 : 0 ≤ num2.toInt) (b2 : num2.toInt ≤ 1) (hN3 : NXc f n lim nx2 num2 nm2 nx3 tk3 pl3 num3 nm3) (htk3 : tk3 = 2) (a3 : 0 ≤ num3.toInt) (b3 : num3.toInt ≤ (cc num2.toInt.toNat - Int32.ofInt 1).toInt) (hN4 : NXc f n lim nx3 num3 nm3 nx4 tk4 pl4 num4 nm4) : x_Gd xs L J (d + 3) m_30 (fun r G' => r = some (.int 1) ∧ CS f n lim nx4 tk4 pl4 num4 nm4 ft fp cc np nt nl nn oc ot tn ln mn G' ∧ x_sl G' 4 0 = some (.int num2) ∧ x_sl G' 4 1 = some (.int num3)) 0 (lv_args 0 [.ref 3, .ref 1, .ref 32]) [] G := by
  have g0 : pm_get (lv_args 0 [.ref 3, .ref 1, .ref 32]) 0 = some (.ref 3) := rfl
  have g1 : pm_get (lv_args 0 [.ref 3, .ref 1, .ref 32]) 1 = some (.ref 1) := rfl
  have g2 : pm_get (lv_args 0 [.ref 3, .ref 1, .ref 32]) 2 = some (.ref 32) := rfl
  generalize (lv_args 0 [.ref 3, .ref 1, .ref 32]) = lv at g0 g1 g2 ⊢
  refine y_aln (e_30 (0, .aload_n 1, 1) (List.mem_of_getElem? (i := 0) rfl)) g1 ?_
  refine y_getf h.1.I h.1.t (e_30 (1, .getfield 36, 3) (List.mem_of_getElem? (i := 1) rfl)) u_3_36 ⟨rfl, rfl⟩ h.1.s4 ?_
  refine y_gst (a := pm_TB + 3) (e_30 (4, .getstatic 225, 3) (List.mem_of_getElem? (i := 2) rfl)) w_3_225 rfl ?_
  refine y_acm (e_30 (7, .if_acmp .eq 9, 3) (List.mem_of_getElem? (i := 3) rfl)) rfl h.1.tk35 (by decide) (fun _ => ?_) (fun z => absurd htk1 z)
  refine y_aln (e_30 (16, .aload_n 2, 1) (List.mem_of_getElem? (i := 8) rfl)) g2 ?_
  refine y_aln (e_30 (17, .aload_n 1, 1) (List.mem_of_getElem? (i := 9) rfl)) g1 ?_
  refine y_getf h.1.I h.1.t (e_30 (18, .getfield 173, 3) (List.mem_of_getElem? (i := 10) rfl)) u_3_173 ⟨rfl, rfl⟩ h.1.s7 ?_
  refine y_c2 (K' := _) (e_30 (21, .invokevirtual 228, 3) (List.mem_of_getElem? (i := 11) rfl)) ⟨rfl, rfl, rfl⟩ t_3_228 ⟨by decide, by decide, by decide, by decide⟩ m_31_ok rfl (by decide) (y_recv h.1.I th0_p.2.2.2.2.2.1 ⟨rfl, rfl⟩) (Nat.le_of_ble_eq_true rfl) (Nat.le_of_ble_eq_true rfl) (k_isTold h _) (fun r1 Gc hc1 => ?_)
  obtain ⟨rfl, y, rfl, hy⟩ := hc1
  simp only [Option.toList_some, Option.toList_none, List.cons_append, List.nil_append]
  obtain rfl : y = false := by
    cases y
    · rfl
    · exact absurd (hy.mp rfl) hT
  refine y_ifc (e_30 (24, .ifCond .eq 9, 3) (List.mem_of_getElem? (i := 12) rfl)) rfl (fun _ => ?_) (fun hc => absurd hc (by decide))
  refine y_aln (e_30 (33, .aload_n 1, 1) (List.mem_of_getElem? (i := 17) rfl)) g1 ?_
  refine y_c1 (K' := _) (e_30 (34, .invokevirtual 120, 3) (List.mem_of_getElem? (i := 18) rfl)) ⟨rfl, rfl, rfl⟩ t_3_120 ⟨by decide, by decide, by decide, by decide⟩ m_21_ok rfl (by decide) (y_recv h.1.I h.1.t ⟨rfl, rfl⟩) (Nat.le_of_ble_eq_true rfl) (Nat.le_of_ble_eq_true rfl) (hN2 _ _ _ _ _ _ _ _ _ _ _ _ _ h.1) (fun r1 Gc hc1 => ?_)
  obtain ⟨rfl, hc2⟩ := hc1
  simp only [Option.toList_some, Option.toList_none, List.cons_append, List.nil_append]
  have h2 := h.nxt hc2
  refine y_aln (e_30 (37, .aload_n 1, 1) (List.mem_of_getElem? (i := 19) rfl)) g1 ?_
  refine y_st (e_30 (38, .iconst 0, 1) (List.mem_of_getElem? (i := 20) rfl)) ⟨rfl, rfl, rfl, rfl⟩ ?_
  refine y_st (e_30 (39, .iconst 1, 1) (List.mem_of_getElem? (i := 21) rfl)) ⟨rfl, rfl, rfl, rfl⟩ ?_
  refine y_aln (e_30 (40, .aload_n 0, 1) (List.mem_of_getElem? (i := 22) rfl)) g0 ?_
  refine y_getf h2.1.I th0_p.2.2.1 (e_30 (41, .getfield 9, 3) (List.mem_of_getElem? (i := 23) rfl)) u_3_9 ⟨rfl, rfl⟩ h2.2.a3_0 ?_
  refine y_st (e_30 (44, .iconst 0, 1) (List.mem_of_getElem? (i := 24) rfl)) ⟨rfl, rfl, rfl, rfl⟩ ?_
  refine y_c5 (K' := _) (e_30 (45, .invokevirtual 141, 3) (List.mem_of_getElem? (i := 25) rfl)) ⟨rfl, rfl, rfl⟩ t_3_141 ⟨by decide, by decide, by decide, by decide⟩ m_28_ok rfl (by decide) (y_recv h2.1.I h2.1.t ⟨rfl, rfl⟩) (Nat.le_of_ble_eq_true rfl) (Nat.le_of_ble_eq_true rfl) (k_takeN_yes h2.1 htk2 a2 b2 th0_p.2.2.2.1 ⟨rfl, rfl⟩ (by decide) ⟨by decide, by decide⟩ (y_okA (by rw [show (x_tb 19).2.2.2 = [(4, ((0 : Nat), (-2147483648 : Int), (2147483647 : Int)))] from rfl]; exact y_one (by decide))) (by decide) (by decide) hN3) (fun r1 Gc hc1 => ?_)
  obtain ⟨rfl, Gr, ur, hz⟩ := hc1
  simp only [Option.toList_some, Option.toList_none, List.cons_append, List.nil_append]
  have hI := h2.1.I.upd ur th0_p.2.2.2.1 (y_okA (by rw [show (x_tb 19).2.2.2 = [(4, ((0 : Nat), (-2147483648 : Int), (2147483647 : Int)))] from rfl]; exact y_one (by decide)))
  have h3 := (h2.oth ur hI (by decide) (by decide) rfl).nxt hz
  have r0 : x_sl Gc 4 0 = some (.int num2) := by rw [hz.ot 4 0 (by decide), ur.2.1, if_pos ⟨rfl, rfl⟩]
  refine y_ifc (e_30 (48, .ifCond .ne 5, 3) (List.mem_of_getElem? (i := 26) rfl)) rfl (fun _ => ?_) (fun hc => absurd hc (by decide))
  refine y_aln (e_30 (53, .aload_n 1, 1) (List.mem_of_getElem? (i := 29) rfl)) g1 ?_
  refine y_st (e_30 (54, .iconst 0, 1) (List.mem_of_getElem? (i := 30) rfl)) ⟨rfl, rfl, rfl, rfl⟩ ?_
  refine y_aln (e_30 (55, .aload_n 2, 1) (List.mem_of_getElem? (i := 31) rfl)) g2 ?_
  refine y_getf h3.1.I th0_p.2.2.2.2.2.1 (e_30 (56, .getfield 57, 3) (List.mem_of_getElem? (i := 32) rfl)) u_3_57 ⟨rfl, rfl⟩ h3.2.a32_0 ?_
  refine y_aln (e_30 (59, .aload_n 0, 1) (List.mem_of_getElem? (i := 33) rfl)) g0 ?_
  refine y_getf h3.1.I th0_p.2.2.1 (e_30 (60, .getfield 9, 3) (List.mem_of_getElem? (i := 34) rfl)) u_3_9 ⟨rfl, rfl⟩ h3.2.a3_0 ?_
  refine y_st (e_30 (63, .iconst 0, 1) (List.mem_of_getElem? (i := 35) rfl)) ⟨rfl, rfl, rfl, rfl⟩ ?_
  refine y_iald h3.1.I th0_p.2.2.2.1 (e_30 (64, .iaload, 1) (List.mem_of_getElem? (i := 36) rfl)) ⟨rfl, rfl⟩ (by decide) r0 ?_
  refine y_c2 (K' := _) (e_30 (65, .invokevirtual 232, 3) (List.mem_of_getElem? (i := 37) rfl)) ⟨rfl, rfl, rfl⟩ t_3_232 ⟨by decide, by decide, by decide, by decide⟩ m_34_ok rfl (by decide) (y_recv h3.1.I th0_p.2.2.2.2.2.2.1 ⟨rfl, rfl⟩) (Nat.le_of_ble_eq_true rfl) (Nat.le_of_ble_eq_true rfl) (k_cellsOf h3 a2 b2) (fun r1 Gd hc1 => ?_)
  obtain ⟨rfl, rfl⟩ := hc1
  simp only [Option.toList_some, Option.toList_none, List.cons_append, List.nil_append]
  refine y_st (e_30 (68, .iconst 1, 1) (List.mem_of_getElem? (i := 38) rfl)) ⟨rfl, rfl, rfl, rfl⟩ ?_
  refine y_st (e_30 (69, .isub, 1) (List.mem_of_getElem? (i := 39) rfl)) ⟨rfl, rfl, rfl, rfl⟩ ?_
  refine y_aln (e_30 (70, .aload_n 0, 1) (List.mem_of_getElem? (i := 40) rfl)) g0 ?_
  refine y_getf h3.1.I th0_p.2.2.1 (e_30 (71, .getfield 9, 3) (List.mem_of_getElem? (i := 41) rfl)) u_3_9 ⟨rfl, rfl⟩ h3.2.a3_0 ?_
  refine y_st (e_30 (74, .iconst 1, 1) (List.mem_of_getElem? (i := 42) rfl)) ⟨rfl, rfl, rfl, rfl⟩ ?_
  refine y_c5 (K' := _) (e_30 (75, .invokevirtual 141, 3) (List.mem_of_getElem? (i := 43) rfl)) ⟨rfl, rfl, rfl⟩ t_3_141 ⟨by decide, by decide, by decide, by decide⟩ m_28_ok rfl (by decide) (y_recv h3.1.I h3.1.t ⟨rfl, rfl⟩) (Nat.le_of_ble_eq_true rfl) (Nat.le_of_ble_eq_true rfl) (k_takeN_yes h3.1 htk3 a3 b3 th0_p.2.2.2.1 ⟨rfl, rfl⟩ (by decide) ⟨by decide, by decide⟩ (y_okA (by rw [show (x_tb 19).2.2.2 = [(4, ((0 : Nat), (-2147483648 : Int), (2147483647 : Int)))] from rfl]; exact y_one (by decide))) (by decide) (by decide) hN4) (fun r1 Gc hc1 => ?_)
  obtain ⟨rfl, Gs, us, hz9⟩ := hc1
  simp only [Option.toList_some, Option.toList_none, List.cons_append, List.nil_append]
  have hI2 := h3.1.I.upd us th0_p.2.2.2.1 (y_okA (by rw [show (x_tb 19).2.2.2 = [(4, ((0 : Nat), (-2147483648 : Int), (2147483647 : Int)))] from rfl]; exact y_one (by decide)))
  have h4 := (h3.oth us hI2 (by decide) (by decide) rfl).nxt hz9
  exact y_ret (e_30 (78, .ireturn, 1) (List.mem_of_getElem? (i := 44) rfl)) ⟨rfl, y_rb (Or.inr rfl)⟩ ⟨rfl, h4, by rw [hz9.ot 4 0 (by decide), us.2.1, if_neg (fun z => absurd z.2 (by decide))]; exact r0, by rw [hz9.ot 4 1 (by decide), us.2.1, if_pos ⟨rfl, rfl⟩]⟩
end CS5
