def m_17 : pM := (⟨"BreathingHill$LandReader", "readLand", "(LBreathingHill$Tape;LBreathingHill$Hill;)I"⟩, 543, 4, some (FieldType.int), 3, 2, false, 2, 95, 541, 542)
set_option maxRecDepth 100000 in
theorem m_17_ok : pm_tab[17]? = some m_17 := rfl
theorem e_17 : ∀ q ∈ d_17, decode m_17.code q.1 = .ok (q.2.1, q.2.2) := y_dec d_17_ok m_17_ok
theorem t_3_43 : pm_ctab.find? (fun r => r.1 == 3 && r.2.1 == 43) = some (3, 43, 1, 25, 579) := by decide +kernel
theorem t_3_50 : pm_ctab.find? (fun r => r.1 == 3 && r.2.1 == 50) = some (3, 50, 1, 46, 688) := by decide +kernel
section PR5
variable {xs : Nat → Int32} {L J d : Nat} {K : Option Value → List pE → Prop} {f : Nat → Int32} {G G1 G' : List pE} {n lim ft fp : Int32} {lv : pL} {cc : Nat → Int32} {np nt nl nn oc : Int32} {ot : Nat → Nat} {tn ln mn : Nat → Int64} {nx0 pl0 num0 : Int32} {tk0 : Nat} {nm0 : Int64} {nx1 pl1 num1 : Int32} {tk1 : Nat} {nm1 : Int64} {nx2 pl2 num2 : Int32} {tk2 : Nat} {nm2 : Int64} {nx3 pl3 num3 : Int32} {tk3 : Nat} {nm3 : Int64} {nx4 pl4 num4 : Int32} {tk4 : Nat} {nm4 : Int64} {nx5 pl5 num5 : Int32} {tk5 : Nat} {nm5 : Int64} {nx6 pl6 num6 : Int32} {tk6 : Nat} {nm6 : Int64} {nx7 pl7 num7 : Int32} {tk7 : Nat} {nm7 : Int64} {nx8 pl8 num8 : Int32} {tk8 : Nat} {nm8 : Int64} {li : Int32} {th : List Nat} {am mb hb nb rb : Nat} {tok0 sp0 mu0 tok1 sp1 mu1 tok2 sp2 mu2 : Int32} {wd0 wd1 wd2 : Int64} {hf hf1 : Nat → Int32} {nf nf1 : Nat → Int64} {on on1 : Int32} {cc1 : Nat → Int32} {np1 nt1 nl1 nn1 oc1 : Int32} {ot1 : Nat → Nat} {tn1 ln1 mn1 : Nat → Int64}
set_option maxHeartbeats 2000000 in
set_option maxRecDepth 100000 in
theorem c_loop_end (h : CS f n lim nx0 tk0 pl0 num0 nm0 ft fp cc np nt nl nn oc ot tn ln mn G) (g0 : pm_get lv 0 = some (.ref 3)) (g1 : pm_get lv 1 = some (.ref 1)) (g2 : pm_get lv 2 = some (.ref 32)) (g3 : pm_get lv 3 = some (.int li)) (hl9 : li.toInt < 900) (htk : tk0 = 0) (hk : K (some (.int li)) G) : x_Gd xs L J d m_17 K 18 lv [] G := by
  refine y_iln (e_17 (18, .iload_n 3, 1) (List.mem_of_getElem? (i := 10) rfl)) g3 ?_
  refine y_st (e_17 (19, .sipush 900, 3) (List.mem_of_getElem? (i := 11) rfl)) ⟨rfl, rfl, rfl, rfl⟩ ?_
  refine y_icm (e_17 (22, .if_icmp .ge 42, 3) (List.mem_of_getElem? (i := 12) rfl)) rfl (fun hc => ?_) (fun _ => ?_)
  · have z := y_hI.2.2.2.2.1 hc
    rw [show (Int16.ofInt 900).toInt32.toInt = 900 from rfl] at z
    omega
  refine y_aln (e_17 (25, .aload_n 1, 1) (List.mem_of_getElem? (i := 13) rfl)) g1 ?_
  refine y_getf h.1.I h.1.t (e_17 (26, .getfield 36, 3) (List.mem_of_getElem? (i := 14) rfl)) u_3_36 ⟨rfl, rfl⟩ h.1.s4 ?_
  refine y_gst (a := pm_TB + 0) (e_17 (29, .getstatic 40, 3) (List.mem_of_getElem? (i := 15) rfl)) w_3_40 rfl ?_
  refine y_acmN (e_17 (32, .if_acmp .ne 5, 3) (List.mem_of_getElem? (i := 16) rfl)) rfl h.1.tk35 (by decide) (fun z => absurd htk z) (fun _ => ?_)
  refine y_iln (e_17 (35, .iload_n 3, 1) (List.mem_of_getElem? (i := 17) rfl)) g3 ?_
  exact y_ret (e_17 (36, .ireturn, 1) (List.mem_of_getElem? (i := 18) rfl)) ⟨rfl, y_ri⟩ hk
set_option maxHeartbeats 2000000 in
set_option maxRecDepth 100000 in
theorem c_loop_no {p' q' : Int32} (h : CS f n lim nx0 tk0 pl0 num0 nm0 ft fp cc np nt nl nn oc ot tn ln mn G) (g0 : pm_get lv 0 = some (.ref 3)) (g1 : pm_get lv 1 = some (.ref 1)) (g2 : pm_get lv 2 = some (.ref 32)) (g3 : pm_get lv 3 = some (.int li)) (hl9 : li.toInt < 900) (htk : tk0 ≠ 0) (hm : x_Gd xs L J (d + 2) m_25 (fun r G' => r = some (.int 0) ∧ x_sl G' 1 9 = some (.int p') ∧ x_sl G' 1 8 = some (.int q')) 0 (lv_args 0 [.ref 3, .ref 1, .ref 32]) [] G) : x_Gd xs L J (d + 3) m_17 (fun r G' => r = some (.int (Int32.ofInt (-1))) ∧ x_sl G' 1 9 = some (.int p') ∧ x_sl G' 1 8 = some (.int q')) 18 lv [] G := by
  refine y_iln (e_17 (18, .iload_n 3, 1) (List.mem_of_getElem? (i := 10) rfl)) g3 ?_
  refine y_st (e_17 (19, .sipush 900, 3) (List.mem_of_getElem? (i := 11) rfl)) ⟨rfl, rfl, rfl, rfl⟩ ?_
  refine y_icm (e_17 (22, .if_icmp .ge 42, 3) (List.mem_of_getElem? (i := 12) rfl)) rfl (fun hc => ?_) (fun _ => ?_)
  · have z := y_hI.2.2.2.2.1 hc
    rw [show (Int16.ofInt 900).toInt32.toInt = 900 from rfl] at z
    omega
  refine y_aln (e_17 (25, .aload_n 1, 1) (List.mem_of_getElem? (i := 13) rfl)) g1 ?_
  refine y_getf h.1.I h.1.t (e_17 (26, .getfield 36, 3) (List.mem_of_getElem? (i := 14) rfl)) u_3_36 ⟨rfl, rfl⟩ h.1.s4 ?_
  refine y_gst (a := pm_TB + 0) (e_17 (29, .getstatic 40, 3) (List.mem_of_getElem? (i := 15) rfl)) w_3_40 rfl ?_
  refine y_acmN (e_17 (32, .if_acmp .ne 5, 3) (List.mem_of_getElem? (i := 16) rfl)) rfl h.1.tk35 (by decide) (fun _ => ?_) (fun z => absurd z htk)
  refine y_aln (e_17 (37, .aload_n 0, 1) (List.mem_of_getElem? (i := 19) rfl)) g0 ?_
  refine y_aln (e_17 (38, .aload_n 1, 1) (List.mem_of_getElem? (i := 20) rfl)) g1 ?_
  refine y_aln (e_17 (39, .aload_n 2, 1) (List.mem_of_getElem? (i := 21) rfl)) g2 ?_
  refine y_c3 (K' := _) (e_17 (40, .invokevirtual 43, 3) (List.mem_of_getElem? (i := 22) rfl)) ⟨rfl, rfl, rfl⟩ t_3_43 ⟨by decide, by decide, by decide, by decide⟩ m_25_ok rfl (by decide) (y_recv h.1.I th0_p.2.2.1 ⟨rfl, rfl⟩) (Nat.le_of_ble_eq_true rfl) (Nat.le_of_ble_eq_true rfl) hm (fun r1 Gc hc1 => ?_)
  obtain ⟨rfl, hz⟩ := hc1
  simp only [Option.toList_some, Option.toList_none, List.cons_append, List.nil_append]
  refine y_ifc (e_17 (43, .ifCond .eq 13, 3) (List.mem_of_getElem? (i := 23) rfl)) rfl (fun _ => ?_) (fun hc => absurd hc (by decide))
  refine y_st (e_17 (56, .iconst (-1), 1) (List.mem_of_getElem? (i := 28) rfl)) ⟨rfl, rfl, rfl, rfl⟩ ?_
  exact y_ret (e_17 (57, .ireturn, 1) (List.mem_of_getElem? (i := 29) rfl)) ⟨rfl, y_ri⟩ ⟨rfl, hz⟩
set_option maxHeartbeats 2000000 in
set_option maxRecDepth 100000 in
theorem c_loop_semi (h : CS f n lim nx0 tk0 pl0 num0 nm0 ft fp cc np nt nl nn oc ot tn ln mn G) (g0 : pm_get lv 0 = some (.ref 3)) (g1 : pm_get lv 1 = some (.ref 1)) (g2 : pm_get lv 2 = some (.ref 32)) (g3 : pm_get lv 3 = some (.int li)) (hl9 : li.toInt < 900) (htk : tk0 ≠ 0) (hm : x_Gd xs L J (d + 2) m_25 (fun r G' => r = some (.int 1) ∧ CS f n lim nx1 tk1 pl1 num1 nm1 ft fp cc1 np1 nt1 nl1 nn1 oc1 ot1 tn1 ln1 mn1 G') 0 (lv_args 0 [.ref 3, .ref 1, .ref 32]) [] G) (h4 : tk1 ≠ 4) : x_Gd xs L J (d + 3) m_17 (fun r G' => r = some (.int (Int32.ofInt (-1))) ∧ x_sl G' 1 9 = some (.int pl1) ∧ x_sl G' 1 8 = some (.int (Int32.ofInt 1))) 18 lv [] G := by
  refine y_iln (e_17 (18, .iload_n 3, 1) (List.mem_of_getElem? (i := 10) rfl)) g3 ?_
  refine y_st (e_17 (19, .sipush 900, 3) (List.mem_of_getElem? (i := 11) rfl)) ⟨rfl, rfl, rfl, rfl⟩ ?_
  refine y_icm (e_17 (22, .if_icmp .ge 42, 3) (List.mem_of_getElem? (i := 12) rfl)) rfl (fun hc => ?_) (fun _ => ?_)
  · have z := y_hI.2.2.2.2.1 hc
    rw [show (Int16.ofInt 900).toInt32.toInt = 900 from rfl] at z
    omega
  refine y_aln (e_17 (25, .aload_n 1, 1) (List.mem_of_getElem? (i := 13) rfl)) g1 ?_
  refine y_getf h.1.I h.1.t (e_17 (26, .getfield 36, 3) (List.mem_of_getElem? (i := 14) rfl)) u_3_36 ⟨rfl, rfl⟩ h.1.s4 ?_
  refine y_gst (a := pm_TB + 0) (e_17 (29, .getstatic 40, 3) (List.mem_of_getElem? (i := 15) rfl)) w_3_40 rfl ?_
  refine y_acmN (e_17 (32, .if_acmp .ne 5, 3) (List.mem_of_getElem? (i := 16) rfl)) rfl h.1.tk35 (by decide) (fun _ => ?_) (fun z => absurd z htk)
  refine y_aln (e_17 (37, .aload_n 0, 1) (List.mem_of_getElem? (i := 19) rfl)) g0 ?_
  refine y_aln (e_17 (38, .aload_n 1, 1) (List.mem_of_getElem? (i := 20) rfl)) g1 ?_
  refine y_aln (e_17 (39, .aload_n 2, 1) (List.mem_of_getElem? (i := 21) rfl)) g2 ?_
  refine y_c3 (K' := _) (e_17 (40, .invokevirtual 43, 3) (List.mem_of_getElem? (i := 22) rfl)) ⟨rfl, rfl, rfl⟩ t_3_43 ⟨by decide, by decide, by decide, by decide⟩ m_25_ok rfl (by decide) (y_recv h.1.I th0_p.2.2.1 ⟨rfl, rfl⟩) (Nat.le_of_ble_eq_true rfl) (Nat.le_of_ble_eq_true rfl) hm (fun r1 Gc hc1 => ?_)
  obtain ⟨rfl, hz⟩ := hc1
  simp only [Option.toList_some, Option.toList_none, List.cons_append, List.nil_append]
  refine y_ifc (e_17 (43, .ifCond .eq 13, 3) (List.mem_of_getElem? (i := 23) rfl)) rfl (fun hc => absurd hc (by decide)) (fun _ => ?_)
  refine y_aln (e_17 (46, .aload_n 1, 1) (List.mem_of_getElem? (i := 24) rfl)) g1 ?_
  refine y_gst (a := pm_TB + 4) (e_17 (47, .getstatic 47, 3) (List.mem_of_getElem? (i := 25) rfl)) w_3_47 rfl ?_
  refine y_c2 (K' := _) (e_17 (50, .invokevirtual 50, 3) (List.mem_of_getElem? (i := 26) rfl)) ⟨rfl, rfl, rfl⟩ t_3_50 ⟨by decide, by decide, by decide, by decide⟩ m_46_ok rfl (by decide) (y_recv hz.1.I hz.1.t ⟨rfl, rfl⟩) (Nat.le_of_ble_eq_true rfl) (Nat.le_of_ble_eq_true rfl) (k_take_no hz.1 (by decide) h4) (fun r1 Gd hc1 => ?_)
  obtain ⟨rfl, hy⟩ := hc1
  simp only [Option.toList_some, Option.toList_none, List.cons_append, List.nil_append]
  refine y_ifc (e_17 (53, .ifCond .ne 5, 3) (List.mem_of_getElem? (i := 27) rfl)) rfl (fun hc => absurd hc (by decide)) (fun _ => ?_)
  refine y_st (e_17 (56, .iconst (-1), 1) (List.mem_of_getElem? (i := 28) rfl)) ⟨rfl, rfl, rfl, rfl⟩ ?_
  exact y_ret (e_17 (57, .ireturn, 1) (List.mem_of_getElem? (i := 29) rfl)) ⟨rfl, y_ri⟩ ⟨rfl, hy.s9, hy.s8⟩
set_option maxHeartbeats 2000000 in
set_option maxRecDepth 100000 in
theorem c_loop_go (h : CS f n lim nx0 tk0 pl0 num0 nm0 ft fp cc np nt nl nn oc ot tn ln mn G) (g0 : pm_get lv 0 = some (.ref 3)) (g1 : pm_get lv 1 = some (.ref 1)) (g2 : pm_get lv 2 = some (.ref 32)) (g3 : pm_get lv 3 = some (.int li)) (hl9 : li.toInt < 900) (htk : tk0 ≠ 0) (hm : x_Gd xs L J (d + 2) m_25 (fun r G' => r = some (.int 1) ∧ CS f n lim nx1 tk1 pl1 num1 nm1 ft fp cc1 np1 nt1 nl1 nn1 oc1 ot1 tn1 ln1 mn1 G') 0 (lv_args 0 [.ref 3, .ref 1, .ref 32]) [] G) (h4 : tk1 = 4) (hN : NXc f n lim nx1 num1 nm1 nx2 tk2 pl2 num2 nm2) (hk : ∀ (G1 : List pE) (lv1 : pL), CS f n lim nx2 tk2 pl2 num2 nm2 ft fp cc1 np1 nt1 nl1 nn1 oc1 ot1 tn1 ln1 mn1 G1 → pm_get lv1 0 = some (.ref 3) → pm_get lv1 1 = some (.ref 1) → pm_get lv1 2 = some (.ref 32) → pm_get lv1 3 = some (.int (li + Int32.ofInt 1)) → x_Gd xs L J (d + 3) m_17 K 18 lv1 [] G1) : x_Gd xs L J (d + 3) m_17 K 18 lv [] G := by
  refine y_iln (e_17 (18, .iload_n 3, 1) (List.mem_of_getElem? (i := 10) rfl)) g3 ?_
  refine y_st (e_17 (19, .sipush 900, 3) (List.mem_of_getElem? (i := 11) rfl)) ⟨rfl, rfl, rfl, rfl⟩ ?_
  refine y_icm (e_17 (22, .if_icmp .ge 42, 3) (List.mem_of_getElem? (i := 12) rfl)) rfl (fun hc => ?_) (fun _ => ?_)
  · have z := y_hI.2.2.2.2.1 hc
    rw [show (Int16.ofInt 900).toInt32.toInt = 900 from rfl] at z
    omega
  refine y_aln (e_17 (25, .aload_n 1, 1) (List.mem_of_getElem? (i := 13) rfl)) g1 ?_
  refine y_getf h.1.I h.1.t (e_17 (26, .getfield 36, 3) (List.mem_of_getElem? (i := 14) rfl)) u_3_36 ⟨rfl, rfl⟩ h.1.s4 ?_
  refine y_gst (a := pm_TB + 0) (e_17 (29, .getstatic 40, 3) (List.mem_of_getElem? (i := 15) rfl)) w_3_40 rfl ?_
  refine y_acmN (e_17 (32, .if_acmp .ne 5, 3) (List.mem_of_getElem? (i := 16) rfl)) rfl h.1.tk35 (by decide) (fun _ => ?_) (fun z => absurd z htk)
  refine y_aln (e_17 (37, .aload_n 0, 1) (List.mem_of_getElem? (i := 19) rfl)) g0 ?_
  refine y_aln (e_17 (38, .aload_n 1, 1) (List.mem_of_getElem? (i := 20) rfl)) g1 ?_
  refine y_aln (e_17 (39, .aload_n 2, 1) (List.mem_of_getElem? (i := 21) rfl)) g2 ?_
  refine y_c3 (K' := _) (e_17 (40, .invokevirtual 43, 3) (List.mem_of_getElem? (i := 22) rfl)) ⟨rfl, rfl, rfl⟩ t_3_43 ⟨by decide, by decide, by decide, by decide⟩ m_25_ok rfl (by decide) (y_recv h.1.I th0_p.2.2.1 ⟨rfl, rfl⟩) (Nat.le_of_ble_eq_true rfl) (Nat.le_of_ble_eq_true rfl) hm (fun r1 Gc hc1 => ?_)
  obtain ⟨rfl, hz⟩ := hc1
  simp only [Option.toList_some, Option.toList_none, List.cons_append, List.nil_append]
  refine y_ifc (e_17 (43, .ifCond .eq 13, 3) (List.mem_of_getElem? (i := 23) rfl)) rfl (fun hc => absurd hc (by decide)) (fun _ => ?_)
  refine y_aln (e_17 (46, .aload_n 1, 1) (List.mem_of_getElem? (i := 24) rfl)) g1 ?_
  refine y_gst (a := pm_TB + 4) (e_17 (47, .getstatic 47, 3) (List.mem_of_getElem? (i := 25) rfl)) w_3_47 rfl ?_
  refine y_c2 (K' := _) (e_17 (50, .invokevirtual 50, 3) (List.mem_of_getElem? (i := 26) rfl)) ⟨rfl, rfl, rfl⟩ t_3_50 ⟨by decide, by decide, by decide, by decide⟩ m_46_ok rfl (by decide) (y_recv hz.1.I hz.1.t ⟨rfl, rfl⟩) (Nat.le_of_ble_eq_true rfl) (Nat.le_of_ble_eq_true rfl) (k_take_yes hz.1 (by decide) h4 hN) (fun r1 Gd hc1 => ?_)
  obtain ⟨rfl, hy⟩ := hc1
  simp only [Option.toList_some, Option.toList_none, List.cons_append, List.nil_append]
  refine y_ifc (e_17 (53, .ifCond .ne 5, 3) (List.mem_of_getElem? (i := 27) rfl)) rfl (fun _ => ?_) (fun hc => absurd hc (by decide))
  refine y_iinc (e_17 (58, .iinc 3 1, 3) (List.mem_of_getElem? (i := 30) rfl)) g3 (by decide) ?_
  refine y_st (e_17 (61, .goto (-43), 3) (List.mem_of_getElem? (i := 31) rfl)) ⟨rfl, rfl, rfl, rfl⟩ ?_
  exact hk Gd _ (hz.nxt hy) (y_gpr g0 (by decide)) (y_gpr g1 (by decide)) (y_gpr g2 (by decide)) x_get_self
end PR5
