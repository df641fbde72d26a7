section CS7
variable {xs : Nat → Int32} {L J d : Nat} {K : Option Value → List pE → Prop} {f : Nat → Int32} {G G1 G' : List pE} {n lim ft fp : Int32} {lv : pL} {cc : Nat → Int32} {np nt nl nn oc : Int32} {ot : Nat → Nat} {tn ln mn : Nat → Int64} {nx0 pl0 num0 : Int32} {tk0 : Nat} {nm0 : Int64} {nx1 pl1 num1 : Int32} {tk1 : Nat} {nm1 : Int64} {nx2 pl2 num2 : Int32} {tk2 : Nat} {nm2 : Int64} {nx3 pl3 num3 : Int32} {tk3 : Nat} {nm3 : Int64} {nx4 pl4 num4 : Int32} {tk4 : Nat} {nm4 : Int64} {nx5 pl5 num5 : Int32} {tk5 : Nat} {nm5 : Int64} {nx6 pl6 num6 : Int32} {tk6 : Nat} {nm6 : Int64} {nx7 pl7 num7 : Int32} {tk7 : Nat} {nm7 : Int64} {nx8 pl8 num8 : Int32} {tk8 : Nat} {nm8 : Int64}
set_option maxHeartbeats 2000000 in
set_option maxRecDepth 100000 in
theorem c_long_0 (h : CS f n lim nx0 tk0 pl0 num0 nm0 ft fp cc np nt nl nn oc ot tn ln mn G) (hcnt : 0 < nt.toInt + nl.toInt + nn.toInt) : x_Gd xs L J (d + 2) m_39 (fun r G' => r = some (.int 0) ∧ x_sl G' 1 9 = some (.int pl0) ∧ x_sl G' 1 8 = some (.int (Int32.ofInt 3))) 0 (lv_args 0 [.ref 3, .ref 1, .ref 32]) [] G := by
  have g0 : pm_get (lv_args 0 [.ref 3, .ref 1, .ref 32]) 0 = some (.ref 3) := rfl
  have g1 : pm_get (lv_args 0 [.ref 3, .ref 1, .ref 32]) 1 = some (.ref 1) := rfl
  have g2 : pm_get (lv_args 0 [.ref 3, .ref 1, .ref 32]) 2 = some (.ref 32) := rfl
  generalize (lv_args 0 [.ref 3, .ref 1, .ref 32]) = lv at g0 g1 g2 ⊢
  obtain ⟨⟨t0, t1⟩, ⟨l0, l1⟩, ⟨m0, m1⟩, -, -⟩ := h.cn
  have es1 : (nt + nl).toInt = nt.toInt + nl.toInt := y_add (by omega) (by omega)
  have es2 : (nt + nl + nn).toInt = nt.toInt + nl.toInt + nn.toInt := by rw [y_add (by omega) (by omega), es1]
  refine y_aln (e_39 (0, .aload_n 2, 1) (List.mem_of_getElem? (i := 0) rfl)) g2 ?_
  refine y_getf h.1.I th0_p.2.2.2.2.2.1 (e_39 (1, .getfield 123, 3) (List.mem_of_getElem? (i := 1) rfl)) u_3_123 ⟨rfl, rfl⟩ h.2.a32_4 ?_
  refine y_aln (e_39 (4, .aload_n 2, 1) (List.mem_of_getElem? (i := 2) rfl)) g2 ?_
  refine y_getf h.1.I th0_p.2.2.2.2.2.1 (e_39 (5, .getfield 126, 3) (List.mem_of_getElem? (i := 3) rfl)) u_3_126 ⟨rfl, rfl⟩ h.2.a32_5 ?_
  refine y_st (e_39 (8, .iadd, 1) (List.mem_of_getElem? (i := 4) rfl)) ⟨rfl, rfl, rfl, rfl⟩ ?_
  refine y_aln (e_39 (9, .aload_n 2, 1) (List.mem_of_getElem? (i := 5) rfl)) g2 ?_
  refine y_getf h.1.I th0_p.2.2.2.2.2.1 (e_39 (10, .getfield 129, 3) (List.mem_of_getElem? (i := 6) rfl)) u_3_129 ⟨rfl, rfl⟩ h.2.a32_6 ?_
  refine y_st (e_39 (13, .iadd, 1) (List.mem_of_getElem? (i := 7) rfl)) ⟨rfl, rfl, rfl, rfl⟩ ?_
  refine y_ifc (e_39 (14, .ifCond .le 9, 3) (List.mem_of_getElem? (i := 8) rfl)) rfl (fun hc => ?_) (fun hc => ?_)
  · have z := y_hI.2.2.2.2.2.2.1 hc
    rw [es2, show (0 : Int32).toInt = 0 from rfl] at z
    omega
  refine y_aln (e_39 (17, .aload_n 1, 1) (List.mem_of_getElem? (i := 9) rfl)) g1 ?_
  refine y_st (e_39 (18, .iconst 3, 1) (List.mem_of_getElem? (i := 10) rfl)) ⟨rfl, rfl, rfl, rfl⟩ ?_
  refine y_c2 (K' := _) (e_39 (19, .invokevirtual 116, 3) (List.mem_of_getElem? (i := 11) rfl)) ⟨rfl, rfl, rfl⟩ t_3_116 ⟨by decide, by decide, by decide, by decide⟩ m_27_ok rfl (by decide) (y_recv h.1.I h.1.t ⟨rfl, rfl⟩) (Nat.le_of_ble_eq_true rfl) (Nat.le_of_ble_eq_true rfl) (k_refuse h.1 _) (fun r1 Gc hc1 => ?_)
  obtain ⟨rfl, hc2⟩ := hc1
  simp only [Option.toList_some, Option.toList_none, List.cons_append, List.nil_append]
  exact y_ret (e_39 (22, .ireturn, 1) (List.mem_of_getElem? (i := 12) rfl)) ⟨rfl, y_rb (Or.inl rfl)⟩ ⟨rfl, hc2.s9, hc2.s8⟩
set_option maxHeartbeats 2000000 in
set_option maxRecDepth 100000 in
theorem c_long_1 (h : CS f n lim nx0 tk0 pl0 num0 nm0 ft fp cc np nt nl nn oc ot tn ln mn G) (hcnt : nt.toInt + nl.toInt + nn.toInt = 0) (hno : ∃ i : Nat, (i : Int) < oc.toInt ∧ ot i = tk0) : x_Gd xs L J (d + 2) m_39 (fun r G' => r = some (.int 0) ∧ x_sl G' 1 9 = some (.int pl0) ∧ x_sl G' 1 8 = some (.int (Int32.ofInt 3))) 0 (lv_args 0 [.ref 3, .ref 1, .ref 32]) [] G := by
  have g0 : pm_get (lv_args 0 [.ref 3, .ref 1, .ref 32]) 0 = some (.ref 3) := rfl
  have g1 : pm_get (lv_args 0 [.ref 3, .ref 1, .ref 32]) 1 = some (.ref 1) := rfl
  have g2 : pm_get (lv_args 0 [.ref 3, .ref 1, .ref 32]) 2 = some (.ref 32) := rfl
  generalize (lv_args 0 [.ref 3, .ref 1, .ref 32]) = lv at g0 g1 g2 ⊢
  obtain ⟨⟨t0, t1⟩, ⟨l0, l1⟩, ⟨m0, m1⟩, -, -⟩ := h.cn
  have es1 : (nt + nl).toInt = nt.toInt + nl.toInt := y_add (by omega) (by omega)
  have es2 : (nt + nl + nn).toInt = nt.toInt + nl.toInt + nn.toInt := by rw [y_add (by omega) (by omega), es1]
  refine y_aln (e_39 (0, .aload_n 2, 1) (List.mem_of_getElem? (i := 0) rfl)) g2 ?_
  refine y_getf h.1.I th0_p.2.2.2.2.2.1 (e_39 (1, .getfield 123, 3) (List.mem_of_getElem? (i := 1) rfl)) u_3_123 ⟨rfl, rfl⟩ h.2.a32_4 ?_
  refine y_aln (e_39 (4, .aload_n 2, 1) (List.mem_of_getElem? (i := 2) rfl)) g2 ?_
  refine y_getf h.1.I th0_p.2.2.2.2.2.1 (e_39 (5, .getfield 126, 3) (List.mem_of_getElem? (i := 3) rfl)) u_3_126 ⟨rfl, rfl⟩ h.2.a32_5 ?_
  refine y_st (e_39 (8, .iadd, 1) (List.mem_of_getElem? (i := 4) rfl)) ⟨rfl, rfl, rfl, rfl⟩ ?_
  refine y_aln (e_39 (9, .aload_n 2, 1) (List.mem_of_getElem? (i := 5) rfl)) g2 ?_
  refine y_getf h.1.I th0_p.2.2.2.2.2.1 (e_39 (10, .getfield 129, 3) (List.mem_of_getElem? (i := 6) rfl)) u_3_129 ⟨rfl, rfl⟩ h.2.a32_6 ?_
  refine y_st (e_39 (13, .iadd, 1) (List.mem_of_getElem? (i := 7) rfl)) ⟨rfl, rfl, rfl, rfl⟩ ?_
  refine y_ifc (e_39 (14, .ifCond .le 9, 3) (List.mem_of_getElem? (i := 8) rfl)) rfl (fun _ => ?_) (fun hc => ?_)
  rotate_left
  · have z := y_hI.2.2.2.2.2.2.2.1 hc
    rw [es2, show (0 : Int32).toInt = 0 from rfl] at z
    omega
  refine y_aln (e_39 (23, .aload_n 2, 1) (List.mem_of_getElem? (i := 13) rfl)) g2 ?_
  refine y_getf h.1.I th0_p.2.2.2.2.2.1 (e_39 (24, .getfield 57, 3) (List.mem_of_getElem? (i := 14) rfl)) u_3_57 ⟨rfl, rfl⟩ h.2.a32_0 ?_
  refine y_getf h.1.I th0_p.2.2.2.2.2.2.1 (e_39 (27, .getfield 132, 3) (List.mem_of_getElem? (i := 15) rfl)) u_3_132 ⟨rfl, rfl⟩ h.2.a33_0 ?_
  refine y_asn (e_39 (30, .astore_n 3, 1) (List.mem_of_getElem? (i := 16) rfl)) (by decide) ?_
  have g3 : pm_get (pm_put1 lv 3 (.ref 34)) 3 = some (.ref 34) := x_get_self
  have g0 : pm_get (pm_put1 lv 3 (.ref 34)) 0 = some (.ref 3) := y_gpr g0 (by decide)
  have g1 : pm_get (pm_put1 lv 3 (.ref 34)) 1 = some (.ref 1) := y_gpr g1 (by decide)
  have g2 : pm_get (pm_put1 lv 3 (.ref 34)) 2 = some (.ref 32) := y_gpr g2 (by decide)
  show x_Gd xs L J _ m_39 _ 31 (pm_put1 lv 3 (.ref 34)) [] G
  generalize pm_put1 lv 3 (.ref 34) = lv3 at g0 g1 g2 g3 ⊢
  refine y_aln (e_39 (31, .aload_n 0, 1) (List.mem_of_getElem? (i := 17) rfl)) g0 ?_
  refine y_aln (e_39 (32, .aload_n 1, 1) (List.mem_of_getElem? (i := 18) rfl)) g1 ?_
  refine y_c2 (K' := _) (e_39 (33, .invokevirtual 137, 3) (List.mem_of_getElem? (i := 19) rfl)) ⟨rfl, rfl, rfl⟩ t_3_137 ⟨by decide, by decide, by decide, by decide⟩ m_40_ok rfl (by decide) (y_recv h.1.I th0_p.2.2.1 ⟨rfl, rfl⟩) (Nat.le_of_ble_eq_true rfl) (Nat.le_of_ble_eq_true rfl) (k_once_no h hno) (fun r1 Gc hc1 => ?_)
  obtain ⟨rfl, hz⟩ := hc1
  simp only [Option.toList_some, Option.toList_none, List.cons_append, List.nil_append]
  refine y_ifc (e_39 (36, .ifCond .eq 31, 3) (List.mem_of_getElem? (i := 20) rfl)) rfl (fun _ => ?_) (fun hc => absurd hc (by decide))
  refine y_st (e_39 (67, .iconst 0, 1) (List.mem_of_getElem? (i := 37) rfl)) ⟨rfl, rfl, rfl, rfl⟩ ?_
  exact y_ret (e_39 (68, .ireturn, 1) (List.mem_of_getElem? (i := 38) rfl)) ⟨rfl, y_rb (Or.inl rfl)⟩ ⟨rfl, hz⟩
set_option maxHeartbeats 2000000 in
set_option maxRecDepth 100000 in
theorem c_long_2 (h : CS f n lim nx0 tk0 pl0 num0 nm0 ft fp cc np nt nl nn oc ot tn ln mn G) (hcnt : nt.toInt + nl.toInt + nn.toInt = 0) (hno0 : ∀ i : Nat, (i : Int) < oc.toInt → ot i ≠ tk0) (h5 : oc.toInt < 5) (hN1 : NXc f n lim nx0 num0 nm0 nx1 tk1 pl1 num1 nm1)  (hno : tk1 ≠ 2 ∨ num1.toInt < 1 ∨ 20 < num1.toInt) : x_Gd xs L J (d + 4) m_39 (fun r G' => r = some (.int 0) ∧ x_sl G' 1 9 = some (.int pl1) ∧ x_sl G' 1 8 = some (.int (t_kd tk1))) 0 (lv_args 0 [.ref 3, .ref 1, .ref 32]) [] G := by
  have g0 : pm_get (lv_args 0 [.ref 3, .ref 1, .ref 32]) 0 = some (.ref 3) := rfl
  have g1 : pm_get (lv_args 0 [.ref 3, .ref 1, .ref 32]) 1 = some (.ref 1) := rfl
  have g2 : pm_get (lv_args 0 [.ref 3, .ref 1, .ref 32]) 2 = some (.ref 32) := rfl
  generalize (lv_args 0 [.ref 3, .ref 1, .ref 32]) = lv at g0 g1 g2 ⊢
  obtain ⟨⟨t0, t1⟩, ⟨l0, l1⟩, ⟨m0, m1⟩, -, -⟩ := h.cn
  have es1 : (nt + nl).toInt = nt.toInt + nl.toInt := y_add (by omega) (by omega)
  have es2 : (nt + nl + nn).toInt = nt.toInt + nl.toInt + nn.toInt := by rw [y_add (by omega) (by omega), es1]
  refine y_aln (e_39 (0, .aload_n 2, 1) (List.mem_of_getElem? (i := 0) rfl)) g2 ?_
  refine y_getf h.1.I th0_p.2.2.2.2.2.1 (e_39 (1, .getfield 123, 3) (List.mem_of_getElem? (i := 1) rfl)) u_3_123 ⟨rfl, rfl⟩ h.2.a32_4 ?_
  refine y_aln (e_39 (4, .aload_n 2, 1) (List.mem_of_getElem? (i := 2) rfl)) g2 ?_
  refine y_getf h.1.I th0_p.2.2.2.2.2.1 (e_39 (5, .getfield 126, 3) (List.mem_of_getElem? (i := 3) rfl)) u_3_126 ⟨rfl, rfl⟩ h.2.a32_5 ?_
  refine y_st (e_39 (8, .iadd, 1) (List.mem_of_getElem? (i := 4) rfl)) ⟨rfl, rfl, rfl, rfl⟩ ?_
  refine y_aln (e_39 (9, .aload_n 2, 1) (List.mem_of_getElem? (i := 5) rfl)) g2 ?_
  refine y_getf h.1.I th0_p.2.2.2.2.2.1 (e_39 (10, .getfield 129, 3) (List.mem_of_getElem? (i := 6) rfl)) u_3_129 ⟨rfl, rfl⟩ h.2.a32_6 ?_
  refine y_st (e_39 (13, .iadd, 1) (List.mem_of_getElem? (i := 7) rfl)) ⟨rfl, rfl, rfl, rfl⟩ ?_
  refine y_ifc (e_39 (14, .ifCond .le 9, 3) (List.mem_of_getElem? (i := 8) rfl)) rfl (fun _ => ?_) (fun hc => ?_)
  rotate_left
  · have z := y_hI.2.2.2.2.2.2.2.1 hc
    rw [es2, show (0 : Int32).toInt = 0 from rfl] at z
    omega
  refine y_aln (e_39 (23, .aload_n 2, 1) (List.mem_of_getElem? (i := 13) rfl)) g2 ?_
  refine y_getf h.1.I th0_p.2.2.2.2.2.1 (e_39 (24, .getfield 57, 3) (List.mem_of_getElem? (i := 14) rfl)) u_3_57 ⟨rfl, rfl⟩ h.2.a32_0 ?_
  refine y_getf h.1.I th0_p.2.2.2.2.2.2.1 (e_39 (27, .getfield 132, 3) (List.mem_of_getElem? (i := 15) rfl)) u_3_132 ⟨rfl, rfl⟩ h.2.a33_0 ?_
  refine y_asn (e_39 (30, .astore_n 3, 1) (List.mem_of_getElem? (i := 16) rfl)) (by decide) ?_
  have g3 : pm_get (pm_put1 lv 3 (.ref 34)) 3 = some (.ref 34) := x_get_self
  have g0 : pm_get (pm_put1 lv 3 (.ref 34)) 0 = some (.ref 3) := y_gpr g0 (by decide)
  have g1 : pm_get (pm_put1 lv 3 (.ref 34)) 1 = some (.ref 1) := y_gpr g1 (by decide)
  have g2 : pm_get (pm_put1 lv 3 (.ref 34)) 2 = some (.ref 32) := y_gpr g2 (by decide)
  show x_Gd xs L J _ m_39 _ 31 (pm_put1 lv 3 (.ref 34)) [] G
  generalize pm_put1 lv 3 (.ref 34) = lv3 at g0 g1 g2 g3 ⊢
  refine y_aln (e_39 (31, .aload_n 0, 1) (List.mem_of_getElem? (i := 17) rfl)) g0 ?_
  refine y_aln (e_39 (32, .aload_n 1, 1) (List.mem_of_getElem? (i := 18) rfl)) g1 ?_
  refine y_c2 (K' := _) (e_39 (33, .invokevirtual 137, 3) (List.mem_of_getElem? (i := 19) rfl)) ⟨rfl, rfl, rfl⟩ t_3_137 ⟨by decide, by decide, by decide, by decide⟩ m_40_ok rfl (by decide) (y_recv h.1.I th0_p.2.2.1 ⟨rfl, rfl⟩) (Nat.le_of_ble_eq_true rfl) (Nat.le_of_ble_eq_true rfl) (k_once_yes h hno0 h5 hN1) (fun r1 Gc hc1 => ?_)
  obtain ⟨rfl, q1⟩ := hc1
  simp only [Option.toList_some, Option.toList_none, List.cons_append, List.nil_append]
  refine y_ifc (e_39 (36, .ifCond .eq 31, 3) (List.mem_of_getElem? (i := 20) rfl)) rfl (fun hc => absurd hc (by decide)) (fun _ => ?_)
  refine y_aln (e_39 (39, .aload_n 1, 1) (List.mem_of_getElem? (i := 21) rfl)) g1 ?_
  refine y_st (e_39 (40, .iconst 1, 1) (List.mem_of_getElem? (i := 22) rfl)) ⟨rfl, rfl, rfl, rfl⟩ ?_
  refine y_st (e_39 (41, .bipush 20, 2) (List.mem_of_getElem? (i := 23) rfl)) ⟨rfl, rfl, rfl, rfl⟩ ?_
  refine y_aln (e_39 (43, .aload_n 3, 1) (List.mem_of_getElem? (i := 24) rfl)) g3 ?_
  refine y_st (e_39 (44, .iconst 0, 1) (List.mem_of_getElem? (i := 25) rfl)) ⟨rfl, rfl, rfl, rfl⟩ ?_
  refine y_c5 (K' := _) (e_39 (45, .invokevirtual 141, 3) (List.mem_of_getElem? (i := 26) rfl)) ⟨rfl, rfl, rfl⟩ t_3_141 ⟨by decide, by decide, by decide, by decide⟩ m_28_ok rfl (by decide) (y_recv q1.1.I q1.1.t ⟨rfl, rfl⟩) (Nat.le_of_ble_eq_true rfl) (Nat.le_of_ble_eq_true rfl) (k_takeN_no q1.1 hno) (fun r1 Gc hc1 => ?_)
  obtain ⟨rfl, hz⟩ := hc1
  simp only [Option.toList_some, Option.toList_none, List.cons_append, List.nil_append]
  refine y_ifc (e_39 (48, .ifCond .eq 19, 3) (List.mem_of_getElem? (i := 27) rfl)) rfl (fun _ => ?_) (fun hc => absurd hc (by decide))
  refine y_st (e_39 (67, .iconst 0, 1) (List.mem_of_getElem? (i := 37) rfl)) ⟨rfl, rfl, rfl, rfl⟩ ?_
  exact y_ret (e_39 (68, .ireturn, 1) (List.mem_of_getElem? (i := 38) rfl)) ⟨rfl, y_rb (Or.inl rfl)⟩ ⟨rfl, hz.s9, hz.s8⟩
set_option maxHeartbeats 2000000 in
set_option maxRecDepth 100000 in
theorem c_long_3 (h : CS f n lim nx0 tk0 pl0 num0 nm0 ft fp cc np nt nl nn oc ot tn ln mn G) (hcnt : nt.toInt + nl.toInt + nn.toInt = 0) (hno0 : ∀ i : Nat, (i : Int) < oc.toInt → ot i ≠ tk0) (h5 : oc.toInt < 5) (hN1 : NXc f n lim nx0 num0 nm0 nx1 tk1 pl1 num1 nm1) (htk1 : tk1 = 2) (a1 : 1 ≤ num1.toInt) (b1 : num1.toInt ≤ 20) (hN2 : NXc f n lim nx1 num1 nm1 nx2 tk2 pl2 num2 nm2) (hno : tk2 ≠ 2 ∨ num2.toInt < 1 ∨ 20 < num2.toInt) : x_Gd xs L J (d + 4) m_39 (fun r G' => r = some (.int 0) ∧ x_sl G' 1 9 = some (.int pl2) ∧ x_sl G' 1 8 = some (.int (t_kd tk2))) 0 (lv_args 0 [.ref 3, .ref 1, .ref 32]) [] G := by
  have g0 : pm_get (lv_args 0 [.ref 3, .ref 1, .ref 32]) 0 = some (.ref 3) := rfl
  have g1 : pm_get (lv_args 0 [.ref 3, .ref 1, .ref 32]) 1 = some (.ref 1) := rfl
  have g2 : pm_get (lv_args 0 [.ref 3, .ref 1, .ref 32]) 2 = some (.ref 32) := rfl
  generalize (lv_args 0 [.ref 3, .ref 1, .ref 32]) = lv at g0 g1 g2 ⊢
  obtain ⟨⟨t0, t1⟩, ⟨l0, l1⟩, ⟨m0, m1⟩, -, -⟩ := h.cn
  have es1 : (nt + nl).toInt = nt.toInt + nl.toInt := y_add (by omega) (by omega)
  have es2 : (nt + nl + nn).toInt = nt.toInt + nl.toInt + nn.toInt := by rw [y_add (by omega) (by omega), es1]
  refine y_aln (e_39 (0, .aload_n 2, 1) (List.mem_of_getElem? (i := 0) rfl)) g2 ?_
  refine y_getf h.1.I th0_p.2.2.2.2.2.1 (e_39 (1, .getfield 123, 3) (List.mem_of_getElem? (i := 1) rfl)) u_3_123 ⟨rfl, rfl⟩ h.2.a32_4 ?_
  refine y_aln (e_39 (4, .aload_n 2, 1) (List.mem_of_getElem? (i := 2) rfl)) g2 ?_
  refine y_getf h.1.I th0_p.2.2.2.2.2.1 (e_39 (5, .getfield 126, 3) (List.mem_of_getElem? (i := 3) rfl)) u_3_126 ⟨rfl, rfl⟩ h.2.a32_5 ?_
  refine y_st (e_39 (8, .iadd, 1) (List.mem_of_getElem? (i := 4) rfl)) ⟨rfl, rfl, rfl, rfl⟩ ?_
  refine y_aln (e_39 (9, .aload_n 2, 1) (List.mem_of_getElem? (i := 5) rfl)) g2 ?_
  refine y_getf h.1.I th0_p.2.2.2.2.2.1 (e_39 (10, .getfield 129, 3) (List.mem_of_getElem? (i := 6) rfl)) u_3_129 ⟨rfl, rfl⟩ h.2.a32_6 ?_
  refine y_st (e_39 (13, .iadd, 1) (List.mem_of_getElem? (i := 7) rfl)) ⟨rfl, rfl, rfl, rfl⟩ ?_
  refine y_ifc (e_39 (14, .ifCond .le 9, 3) (List.mem_of_getElem? (i := 8) rfl)) rfl (fun _ => ?_) (fun hc => ?_)
  rotate_left
  · have z := y_hI.2.2.2.2.2.2.2.1 hc
    rw [es2, show (0 : Int32).toInt = 0 from rfl] at z
    omega
  refine y_aln (e_39 (23, .aload_n 2, 1) (List.mem_of_getElem? (i := 13) rfl)) g2 ?_
  refine y_getf h.1.I th0_p.2.2.2.2.2.1 (e_39 (24, .getfield 57, 3) (List.mem_of_getElem? (i := 14) rfl)) u_3_57 ⟨rfl, rfl⟩ h.2.a32_0 ?_
  refine y_getf h.1.I th0_p.2.2.2.2.2.2.1 (e_39 (27, .getfield 132, 3) (List.mem_of_getElem? (i := 15) rfl)) u_3_132 ⟨rfl, rfl⟩ h.2.a33_0 ?_
  refine y_asn (e_39 (30, .astore_n 3, 1) (List.mem_of_getElem? (i := 16) rfl)) (by decide) ?_
  have g3 : pm_get (pm_put1 lv 3 (.ref 34)) 3 = some (.ref 34) := x_get_self
  have g0 : pm_get (pm_put1 lv 3 (.ref 34)) 0 = some (.ref 3) := y_gpr g0 (by decide)
  have g1 : pm_get (pm_put1 lv 3 (.ref 34)) 1 = some (.ref 1) := y_gpr g1 (by decide)
  have g2 : pm_get (pm_put1 lv 3 (.ref 34)) 2 = some (.ref 32) := y_gpr g2 (by decide)
  show x_Gd xs L J _ m_39 _ 31 (pm_put1 lv 3 (.ref 34)) [] G
  generalize pm_put1 lv 3 (.ref 34) = lv3 at g0 g1 g2 g3 ⊢
  refine y_aln (e_39 (31, .aload_n 0, 1) (List.mem_of_getElem? (i := 17) rfl)) g0 ?_
  refine y_aln (e_39 (32, .aload_n 1, 1) (List.mem_of_getElem? (i := 18) rfl)) g1 ?_
  refine y_c2 (K' := _) (e_39 (33, .invokevirtual 137, 3) (List.mem_of_getElem? (i := 19) rfl)) ⟨rfl, rfl, rfl⟩ t_3_137 ⟨by decide, by decide, by decide, by decide⟩ m_40_ok rfl (by decide) (y_recv h.1.I th0_p.2.2.1 ⟨rfl, rfl⟩) (Nat.le_of_ble_eq_true rfl) (Nat.le_of_ble_eq_true rfl) (k_once_yes h hno0 h5 hN1) (fun r1 Gc hc1 => ?_)
  obtain ⟨rfl, q1⟩ := hc1
  simp only [Option.toList_some, Option.toList_none, List.cons_append, List.nil_append]
  refine y_ifc (e_39 (36, .ifCond .eq 31, 3) (List.mem_of_getElem? (i := 20) rfl)) rfl (fun hc => absurd hc (by decide)) (fun _ => ?_)
  refine y_aln (e_39 (39, .aload_n 1, 1) (List.mem_of_getElem? (i := 21) rfl)) g1 ?_
  refine y_st (e_39 (40, .iconst 1, 1) (List.mem_of_getElem? (i := 22) rfl)) ⟨rfl, rfl, rfl, rfl⟩ ?_
  refine y_st (e_39 (41, .bipush 20, 2) (List.mem_of_getElem? (i := 23) rfl)) ⟨rfl, rfl, rfl, rfl⟩ ?_
  refine y_aln (e_39 (43, .aload_n 3, 1) (List.mem_of_getElem? (i := 24) rfl)) g3 ?_
  refine y_st (e_39 (44, .iconst 0, 1) (List.mem_of_getElem? (i := 25) rfl)) ⟨rfl, rfl, rfl, rfl⟩ ?_
  refine y_c5 (K' := _) (e_39 (45, .invokevirtual 141, 3) (List.mem_of_getElem? (i := 26) rfl)) ⟨rfl, rfl, rfl⟩ t_3_141 ⟨by decide, by decide, by decide, by decide⟩ m_28_ok rfl (by decide) (y_recv q1.1.I q1.1.t ⟨rfl, rfl⟩) (Nat.le_of_ble_eq_true rfl) (Nat.le_of_ble_eq_true rfl) (k_takeN_yes q1.1 htk1 a1 b1 th0_p.2.2.2.2.2.2.2.1 ⟨rfl, rfl⟩ (by decide) ⟨by decide, by decide⟩ (y_okA (by rw [show (x_tb 14).2.2.2 = [(2, ((0 : Nat), (-2147483648 : Int), (2147483647 : Int)))] from rfl]; exact y_one (by decide))) (by decide) (by decide) hN2) (fun r1 Gc hc1 => ?_)
  obtain ⟨rfl, Gr2, ur2, hz2⟩ := hc1
  simp only [Option.toList_some, Option.toList_none, List.cons_append, List.nil_append]
  have hI2 := q1.1.I.upd ur2 th0_p.2.2.2.2.2.2.2.1 (y_okA (by rw [show (x_tb 14).2.2.2 = [(2, ((0 : Nat), (-2147483648 : Int), (2147483647 : Int)))] from rfl]; exact y_one (by decide)))
  have p2 : CS f n lim nx1 tk1 pl1 num1 nm1 ft fp (fun j => if j = 0 then num1 else cc j) np nt nl nn (oc + Int32.ofInt 1) (fun j => if j = oc.toInt.toNat then tk0 else ot j) tn ln mn Gr2 := ⟨q1.1.other ur2 (by decide) (by decide) hI2, q1.2.ucc (k := 0) (by decide) (fun c i => by rw [ur2.2.1] <;> rfl)⟩
  have q2 := p2.nxt hz2
  refine y_ifc (e_39 (48, .ifCond .eq 19, 3) (List.mem_of_getElem? (i := 27) rfl)) rfl (fun hc => absurd hc (by decide)) (fun _ => ?_)
  refine y_aln (e_39 (51, .aload_n 1, 1) (List.mem_of_getElem? (i := 28) rfl)) g1 ?_
  refine y_st (e_39 (52, .iconst 1, 1) (List.mem_of_getElem? (i := 29) rfl)) ⟨rfl, rfl, rfl, rfl⟩ ?_
  refine y_st (e_39 (53, .bipush 20, 2) (List.mem_of_getElem? (i := 30) rfl)) ⟨rfl, rfl, rfl, rfl⟩ ?_
  refine y_aln (e_39 (55, .aload_n 3, 1) (List.mem_of_getElem? (i := 31) rfl)) g3 ?_
  refine y_st (e_39 (56, .iconst 1, 1) (List.mem_of_getElem? (i := 32) rfl)) ⟨rfl, rfl, rfl, rfl⟩ ?_
  refine y_c5 (K' := _) (e_39 (57, .invokevirtual 141, 3) (List.mem_of_getElem? (i := 33) rfl)) ⟨rfl, rfl, rfl⟩ t_3_141 ⟨by decide, by decide, by decide, by decide⟩ m_28_ok rfl (by decide) (y_recv q2.1.I q2.1.t ⟨rfl, rfl⟩) (Nat.le_of_ble_eq_true rfl) (Nat.le_of_ble_eq_true rfl) (k_takeN_no q2.1 hno) (fun r1 Gc hc1 => ?_)
  obtain ⟨rfl, hz⟩ := hc1
  simp only [Option.toList_some, Option.toList_none, List.cons_append, List.nil_append]
  refine y_ifc (e_39 (60, .ifCond .eq 7, 3) (List.mem_of_getElem? (i := 34) rfl)) rfl (fun _ => ?_) (fun hc => absurd hc (by decide))
  refine y_st (e_39 (67, .iconst 0, 1) (List.mem_of_getElem? (i := 37) rfl)) ⟨rfl, rfl, rfl, rfl⟩ ?_
  exact y_ret (e_39 (68, .ireturn, 1) (List.mem_of_getElem? (i := 38) rfl)) ⟨rfl, y_rb (Or.inl rfl)⟩ ⟨rfl, hz.s9, hz.s8⟩
set_option maxHeartbeats 2000000 in
set_option maxRecDepth 100000 in
theorem c_long_ok (h : CS f n lim nx0 tk0 pl0 num0 nm0 ft fp cc np nt nl nn oc ot tn ln mn G) (hcnt : nt.toInt + nl.toInt + nn.toInt = 0) (hno0 : ∀ i : Nat, (i : Int) < oc.toInt → ot i ≠ tk0) (h5 : oc.toInt < 5) (hN1 : NXc f n lim nx0 num0 nm0 nx1 tk1 pl1 num1 nm1) (htk1 : tk1 = 2) (a1 : 1 ≤ num1.toInt) (b1 : num1.toInt ≤ 20) (hN2 : NXc f n lim nx1 num1 nm1 nx2 tk2 pl2 num2 nm2) (htk2 : tk2 = 2) (a2 : 1 ≤ num2.toInt) (b2 : num2.toInt ≤ 20) (hN3 : NXc f n lim nx2 num2 nm2 nx3 tk3 pl3 num3 nm3) : x_Gd xs L J (d + 4) m_39 (fun r G' => r = some (.int 1) ∧ CS f n lim nx3 tk3 pl3 num3 nm3 ft fp (fun j => if j = 1 then num2 else (fun j => if j = 0 then num1 else cc j) j) np nt nl nn (oc + Int32.ofInt 1) (fun j => if j = oc.toInt.toNat then tk0 else ot j) tn ln mn G') 0 (lv_args 0 [.ref 3, .ref 1, .ref 32]) [] G := by
  have g0 : pm_get (lv_args 0 [.ref 3, .ref 1, .ref 32]) 0 = some (.ref 3) := rfl
  have g1 : pm_get (lv_args 0 [.ref 3, .ref 1, .ref 32]) 1 = some (.ref 1) := rfl
  have g2 : pm_get (lv_args 0 [.ref 3, .ref 1, .ref 32]) 2 = some (.ref 32) := rfl
  generalize (lv_args 0 [.ref 3, .ref 1, .ref 32]) = lv at g0 g1 g2 ⊢
  obtain ⟨⟨t0, t1⟩, ⟨l0, l1⟩, ⟨m0, m1⟩, -, -⟩ := h.cn
  have es1 : (nt + nl).toInt = nt.toInt + nl.toInt := y_add (by omega) (by omega)
  have es2 : (nt + nl + nn).toInt = nt.toInt + nl.toInt + nn.toInt := by rw [y_add (by omega) (by omega), es1]
  refine y_aln (e_39 (0, .aload_n 2, 1) (List.mem_of_getElem? (i := 0) rfl)) g2 ?_
  refine y_getf h.1.I th0_p.2.2.2.2.2.1 (e_39 (1, .getfield 123, 3) (List.mem_of_getElem? (i := 1) rfl)) u_3_123 ⟨rfl, rfl⟩ h.2.a32_4 ?_
  refine y_aln (e_39 (4, .aload_n 2, 1) (List.mem_of_getElem? (i := 2) rfl)) g2 ?_
  refine y_getf h.1.I th0_p.2.2.2.2.2.1 (e_39 (5, .getfield 126, 3) (List.mem_of_getElem? (i := 3) rfl)) u_3_126 ⟨rfl, rfl⟩ h.2.a32_5 ?_
  refine y_st (e_39 (8, .iadd, 1) (List.mem_of_getElem? (i := 4) rfl)) ⟨rfl, rfl, rfl, rfl⟩ ?_
  refine y_aln (e_39 (9, .aload_n 2, 1) (List.mem_of_getElem? (i := 5) rfl)) g2 ?_
  refine y_getf h.1.I th0_p.2.2.2.2.2.1 (e_39 (10, .getfield 129, 3) (List.mem_of_getElem? (i := 6) rfl)) u_3_129 ⟨rfl, rfl⟩ h.2.a32_6 ?_
  refine y_st (e_39 (13, .iadd, 1) (List.mem_of_getElem? (i := 7) rfl)) ⟨rfl, rfl, rfl, rfl⟩ ?_
  refine y_ifc (e_39 (14, .ifCond .le 9, 3) (List.mem_of_getElem? (i := 8) rfl)) rfl (fun _ => ?_) (fun hc => ?_)
  rotate_left
  · have z := y_hI.2.2.2.2.2.2.2.1 hc
    rw [es2, show (0 : Int32).toInt = 0 from rfl] at z
    omega
  refine y_aln (e_39 (23, .aload_n 2, 1) (List.mem_of_getElem? (i := 13) rfl)) g2 ?_
  refine y_getf h.1.I th0_p.2.2.2.2.2.1 (e_39 (24, .getfield 57, 3) (List.mem_of_getElem? (i := 14) rfl)) u_3_57 ⟨rfl, rfl⟩ h.2.a32_0 ?_
  refine y_getf h.1.I th0_p.2.2.2.2.2.2.1 (e_39 (27, .getfield 132, 3) (List.mem_of_getElem? (i := 15) rfl)) u_3_132 ⟨rfl, rfl⟩ h.2.a33_0 ?_
  refine y_asn (e_39 (30, .astore_n 3, 1) (List.mem_of_getElem? (i := 16) rfl)) (by decide) ?_
  have g3 : pm_get (pm_put1 lv 3 (.ref 34)) 3 = some (.ref 34) := x_get_self
  have g0 : pm_get (pm_put1 lv 3 (.ref 34)) 0 = some (.ref 3) := y_gpr g0 (by decide)
  have g1 : pm_get (pm_put1 lv 3 (.ref 34)) 1 = some (.ref 1) := y_gpr g1 (by decide)
  have g2 : pm_get (pm_put1 lv 3 (.ref 34)) 2 = some (.ref 32) := y_gpr g2 (by decide)
  show x_Gd xs L J _ m_39 _ 31 (pm_put1 lv 3 (.ref 34)) [] G
  generalize pm_put1 lv 3 (.ref 34) = lv3 at g0 g1 g2 g3 ⊢
  refine y_aln (e_39 (31, .aload_n 0, 1) (List.mem_of_getElem? (i := 17) rfl)) g0 ?_
  refine y_aln (e_39 (32, .aload_n 1, 1) (List.mem_of_getElem? (i := 18) rfl)) g1 ?_
  refine y_c2 (K' := _) (e_39 (33, .invokevirtual 137, 3) (List.mem_of_getElem? (i := 19) rfl)) ⟨rfl, rfl, rfl⟩ t_3_137 ⟨by decide, by decide, by decide, by decide⟩ m_40_ok rfl (by decide) (y_recv h.1.I th0_p.2.2.1 ⟨rfl, rfl⟩) (Nat.le_of_ble_eq_true rfl) (Nat.le_of_ble_eq_true rfl) (k_once_yes h hno0 h5 hN1) (fun r1 Gc hc1 => ?_)
  obtain ⟨rfl, q1⟩ := hc1
  simp only [Option.toList_some, Option.toList_none, List.cons_append, List.nil_append]
  refine y_ifc (e_39 (36, .ifCond .eq 31, 3) (List.mem_of_getElem? (i := 20) rfl)) rfl (fun hc => absurd hc (by decide)) (fun _ => ?_)
  refine y_aln (e_39 (39, .aload_n 1, 1) (List.mem_of_getElem? (i := 21) rfl)) g1 ?_
  refine y_st (e_39 (40, .iconst 1, 1) (List.mem_of_getElem? (i := 22) rfl)) ⟨rfl, rfl, rfl, rfl⟩ ?_
  refine y_st (e_39 (41, .bipush 20, 2) (List.mem_of_getElem? (i := 23) rfl)) ⟨rfl, rfl, rfl, rfl⟩ ?_
  refine y_aln (e_39 (43, .aload_n 3, 1) (List.mem_of_getElem? (i := 24) rfl)) g3 ?_
  refine y_st (e_39 (44, .iconst 0, 1) (List.mem_of_getElem? (i := 25) rfl)) ⟨rfl, rfl, rfl, rfl⟩ ?_
  refine y_c5 (K' := _) (e_39 (45, .invokevirtual 141, 3) (List.mem_of_getElem? (i := 26) rfl)) ⟨rfl, rfl, rfl⟩ t_3_141 ⟨by decide, by decide, by decide, by decide⟩ m_28_ok rfl (by decide) (y_recv q1.1.I q1.1.t ⟨rfl, rfl⟩) (Nat.le_of_ble_eq_true rfl) (Nat.le_of_ble_eq_true rfl) (k_takeN_yes q1.1 htk1 a1 b1 th0_p.2.2.2.2.2.2.2.1 ⟨rfl, rfl⟩ (by decide) ⟨by decide, by decide⟩ (y_okA (by rw [show (x_tb 14).2.2.2 = [(2, ((0 : Nat), (-2147483648 : Int), (2147483647 : Int)))] from rfl]; exact y_one (by decide))) (by decide) (by decide) hN2) (fun r1 Gc hc1 => ?_)
  obtain ⟨rfl, Gr2, ur2, hz2⟩ := hc1
  simp only [Option.toList_some, Option.toList_none, List.cons_append, List.nil_append]
  have hI2 := q1.1.I.upd ur2 th0_p.2.2.2.2.2.2.2.1 (y_okA (by rw [show (x_tb 14).2.2.2 = [(2, ((0 : Nat), (-2147483648 : Int), (2147483647 : Int)))] from rfl]; exact y_one (by decide)))
  have p2 : CS f n lim nx1 tk1 pl1 num1 nm1 ft fp (fun j => if j = 0 then num1 else cc j) np nt nl nn (oc + Int32.ofInt 1) (fun j => if j = oc.toInt.toNat then tk0 else ot j) tn ln mn Gr2 := ⟨q1.1.other ur2 (by decide) (by decide) hI2, q1.2.ucc (k := 0) (by decide) (fun c i => by rw [ur2.2.1] <;> rfl)⟩
  have q2 := p2.nxt hz2
  refine y_ifc (e_39 (48, .ifCond .eq 19, 3) (List.mem_of_getElem? (i := 27) rfl)) rfl (fun hc => absurd hc (by decide)) (fun _ => ?_)
  refine y_aln (e_39 (51, .aload_n 1, 1) (List.mem_of_getElem? (i := 28) rfl)) g1 ?_
  refine y_st (e_39 (52, .iconst 1, 1) (List.mem_of_getElem? (i := 29) rfl)) ⟨rfl, rfl, rfl, rfl⟩ ?_
  refine y_st (e_39 (53, .bipush 20, 2) (List.mem_of_getElem? (i := 30) rfl)) ⟨rfl, rfl, rfl, rfl⟩ ?_
  refine y_aln (e_39 (55, .aload_n 3, 1) (List.mem_of_getElem? (i := 31) rfl)) g3 ?_
  refine y_st (e_39 (56, .iconst 1, 1) (List.mem_of_getElem? (i := 32) rfl)) ⟨rfl, rfl, rfl, rfl⟩ ?_
  refine y_c5 (K' := _) (e_39 (57, .invokevirtual 141, 3) (List.mem_of_getElem? (i := 33) rfl)) ⟨rfl, rfl, rfl⟩ t_3_141 ⟨by decide, by decide, by decide, by decide⟩ m_28_ok rfl (by decide) (y_recv q2.1.I q2.1.t ⟨rfl, rfl⟩) (Nat.le_of_ble_eq_true rfl) (Nat.le_of_ble_eq_true rfl) (k_takeN_yes q2.1 htk2 a2 b2 th0_p.2.2.2.2.2.2.2.1 ⟨rfl, rfl⟩ (by decide) ⟨by decide, by decide⟩ (y_okA (by rw [show (x_tb 14).2.2.2 = [(2, ((0 : Nat), (-2147483648 : Int), (2147483647 : Int)))] from rfl]; exact y_one (by decide))) (by decide) (by decide) hN3) (fun r1 Gc hc1 => ?_)
  obtain ⟨rfl, Gr3, ur3, hz3⟩ := hc1
  simp only [Option.toList_some, Option.toList_none, List.cons_append, List.nil_append]
  have hI3 := q2.1.I.upd ur3 th0_p.2.2.2.2.2.2.2.1 (y_okA (by rw [show (x_tb 14).2.2.2 = [(2, ((0 : Nat), (-2147483648 : Int), (2147483647 : Int)))] from rfl]; exact y_one (by decide)))
  have p3 : CS f n lim nx2 tk2 pl2 num2 nm2 ft fp (fun j => if j = 1 then num2 else (fun j => if j = 0 then num1 else cc j) j) np nt nl nn (oc + Int32.ofInt 1) (fun j => if j = oc.toInt.toNat then tk0 else ot j) tn ln mn Gr3 := ⟨q2.1.other ur3 (by decide) (by decide) hI3, q2.2.ucc (k := 1) (by decide) (fun c i => by rw [ur3.2.1] <;> rfl)⟩
  have q3 := p3.nxt hz3
  refine y_ifc (e_39 (60, .ifCond .eq 7, 3) (List.mem_of_getElem? (i := 34) rfl)) rfl (fun hc => absurd hc (by decide)) (fun _ => ?_)
  refine y_st (e_39 (63, .iconst 1, 1) (List.mem_of_getElem? (i := 35) rfl)) ⟨rfl, rfl, rfl, rfl⟩ ?_
  refine y_st (e_39 (64, .goto 4, 3) (List.mem_of_getElem? (i := 36) rfl)) ⟨rfl, rfl, rfl, rfl⟩ ?_
  exact y_ret (e_39 (68, .ireturn, 1) (List.mem_of_getElem? (i := 38) rfl)) ⟨rfl, y_rb (Or.inr rfl)⟩ ⟨rfl, q3⟩
set_option maxHeartbeats 2000000 in
set_option maxRecDepth 100000 in
theorem c_pass_0 (h : CS f n lim nx0 tk0 pl0 num0 nm0 ft fp cc np nt nl nn oc ot tn ln mn G) (hnp : 4 ≤ np.toInt) : x_Gd xs L J (d + 2) m_26 (fun r G' => r = some (.int 0) ∧ x_sl G' 1 9 = some (.int pl0) ∧ x_sl G' 1 8 = some (.int (Int32.ofInt 4))) 0 (lv_args 0 [.ref 3, .ref 1, .ref 33]) [] G := by
  have g0 : pm_get (lv_args 0 [.ref 3, .ref 1, .ref 33]) 0 = some (.ref 3) := rfl
  have g1 : pm_get (lv_args 0 [.ref 3, .ref 1, .ref 33]) 1 = some (.ref 1) := rfl
  have g2 : pm_get (lv_args 0 [.ref 3, .ref 1, .ref 33]) 2 = some (.ref 33) := rfl
  generalize (lv_args 0 [.ref 3, .ref 1, .ref 33]) = lv at g0 g1 g2 ⊢
  obtain ⟨-, -, -, ⟨o0, o1⟩, -⟩ := h.cn
  refine y_aln (e_26 (0, .aload_n 2, 1) (List.mem_of_getElem? (i := 0) rfl)) g2 ?_
  refine y_getf h.1.I th0_p.2.2.2.2.2.2.1 (e_26 (1, .getfield 157, 3) (List.mem_of_getElem? (i := 1) rfl)) u_3_157 ⟨rfl, rfl⟩ h.2.a33_5 ?_
  refine y_isn (e_26 (4, .istore_n 3, 1) (List.mem_of_getElem? (i := 2) rfl)) (by decide) ?_
  have g3 : pm_get (pm_put1 lv 3 (.int np)) 3 = some (.int np) := x_get_self
  have g0 : pm_get (pm_put1 lv 3 (.int np)) 0 = some (.ref 3) := y_gpr g0 (by decide)
  have g1 : pm_get (pm_put1 lv 3 (.int np)) 1 = some (.ref 1) := y_gpr g1 (by decide)
  have g2 : pm_get (pm_put1 lv 3 (.int np)) 2 = some (.ref 33) := y_gpr g2 (by decide)
  show x_Gd xs L J _ m_26 _ 5 (pm_put1 lv 3 (.int np)) [] G
  generalize pm_put1 lv 3 (.int np) = lv3 at g0 g1 g2 g3 ⊢
  refine y_iln (e_26 (5, .iload_n 3, 1) (List.mem_of_getElem? (i := 3) rfl)) g3 ?_
  refine y_st (e_26 (6, .iconst 4, 1) (List.mem_of_getElem? (i := 4) rfl)) ⟨rfl, rfl, rfl, rfl⟩ ?_
  refine y_icm (e_26 (7, .if_icmp .lt 9, 3) (List.mem_of_getElem? (i := 5) rfl)) rfl (fun hc => ?_) (fun _ => ?_)
  · have z := y_hI.2.2.2.2.2.2.2.2.1 hc
    rw [show (Int32.ofInt 4).toInt = 4 from rfl] at z
    omega
  refine y_aln (e_26 (10, .aload_n 1, 1) (List.mem_of_getElem? (i := 6) rfl)) g1 ?_
  refine y_st (e_26 (11, .iconst 4, 1) (List.mem_of_getElem? (i := 7) rfl)) ⟨rfl, rfl, rfl, rfl⟩ ?_
  refine y_c2 (K' := _) (e_26 (12, .invokevirtual 116, 3) (List.mem_of_getElem? (i := 8) rfl)) ⟨rfl, rfl, rfl⟩ t_3_116 ⟨by decide, by decide, by decide, by decide⟩ m_27_ok rfl (by decide) (y_recv h.1.I h.1.t ⟨rfl, rfl⟩) (Nat.le_of_ble_eq_true rfl) (Nat.le_of_ble_eq_true rfl) (k_refuse h.1 _) (fun r1 Gc hc1 => ?_)
  obtain ⟨rfl, hc2⟩ := hc1
  simp only [Option.toList_some, Option.toList_none, List.cons_append, List.nil_append]
  exact y_ret (e_26 (15, .ireturn, 1) (List.mem_of_getElem? (i := 9) rfl)) ⟨rfl, y_rb (Or.inl rfl)⟩ ⟨rfl, hc2.s9, hc2.s8⟩
set_option maxHeartbeats 2000000 in
set_option maxRecDepth 100000 in
theorem c_pass_1 (h : CS f n lim nx0 tk0 pl0 num0 nm0 ft fp cc np nt nl nn oc ot tn ln mn G) (hnp : np.toInt < 4) (hN1 : NXc f n lim nx0 num0 nm0 nx1 tk1 pl1 num1 nm1)  (hno : tk1 ≠ 2 ∨ num1.toInt < 2 ∨ 9 < num1.toInt) : x_Gd xs L J (d + 4) m_26 (fun r G' => r = some (.int 0) ∧ x_sl G' 1 9 = some (.int pl1) ∧ x_sl G' 1 8 = some (.int (t_kd tk1))) 0 (lv_args 0 [.ref 3, .ref 1, .ref 33]) [] G := by
  have g0 : pm_get (lv_args 0 [.ref 3, .ref 1, .ref 33]) 0 = some (.ref 3) := rfl
  have g1 : pm_get (lv_args 0 [.ref 3, .ref 1, .ref 33]) 1 = some (.ref 1) := rfl
  have g2 : pm_get (lv_args 0 [.ref 3, .ref 1, .ref 33]) 2 = some (.ref 33) := rfl
  generalize (lv_args 0 [.ref 3, .ref 1, .ref 33]) = lv at g0 g1 g2 ⊢
  obtain ⟨-, -, -, ⟨o0, o1⟩, -⟩ := h.cn
  refine y_aln (e_26 (0, .aload_n 2, 1) (List.mem_of_getElem? (i := 0) rfl)) g2 ?_
  refine y_getf h.1.I th0_p.2.2.2.2.2.2.1 (e_26 (1, .getfield 157, 3) (List.mem_of_getElem? (i := 1) rfl)) u_3_157 ⟨rfl, rfl⟩ h.2.a33_5 ?_
  refine y_isn (e_26 (4, .istore_n 3, 1) (List.mem_of_getElem? (i := 2) rfl)) (by decide) ?_
  have g3 : pm_get (pm_put1 lv 3 (.int np)) 3 = some (.int np) := x_get_self
  have g0 : pm_get (pm_put1 lv 3 (.int np)) 0 = some (.ref 3) := y_gpr g0 (by decide)
  have g1 : pm_get (pm_put1 lv 3 (.int np)) 1 = some (.ref 1) := y_gpr g1 (by decide)
  have g2 : pm_get (pm_put1 lv 3 (.int np)) 2 = some (.ref 33) := y_gpr g2 (by decide)
  show x_Gd xs L J _ m_26 _ 5 (pm_put1 lv 3 (.int np)) [] G
  generalize pm_put1 lv 3 (.int np) = lv3 at g0 g1 g2 g3 ⊢
  refine y_iln (e_26 (5, .iload_n 3, 1) (List.mem_of_getElem? (i := 3) rfl)) g3 ?_
  refine y_st (e_26 (6, .iconst 4, 1) (List.mem_of_getElem? (i := 4) rfl)) ⟨rfl, rfl, rfl, rfl⟩ ?_
  refine y_icm (e_26 (7, .if_icmp .lt 9, 3) (List.mem_of_getElem? (i := 5) rfl)) rfl (fun _ => ?_) (fun hc => ?_)
  rotate_left
  · have z := y_hI.2.2.2.2.2.2.2.2.2.1 hc
    rw [show (Int32.ofInt 4).toInt = 4 from rfl] at z
    omega
  refine y_aln (e_26 (16, .aload_n 1, 1) (List.mem_of_getElem? (i := 10) rfl)) g1 ?_
  refine y_c1 (K' := _) (e_26 (17, .invokevirtual 120, 3) (List.mem_of_getElem? (i := 11) rfl)) ⟨rfl, rfl, rfl⟩ t_3_120 ⟨by decide, by decide, by decide, by decide⟩ m_21_ok rfl (by decide) (y_recv h.1.I h.1.t ⟨rfl, rfl⟩) (Nat.le_of_ble_eq_true rfl) (Nat.le_of_ble_eq_true rfl) (hN1 _ _ _ _ _ _ _ _ _ _ _ _ _ h.1) (fun r1 Gc hc1 => ?_)
  obtain ⟨rfl, hc2⟩ := hc1
  simp only [Option.toList_some, Option.toList_none, List.cons_append, List.nil_append]
  have w1 := h.nxt hc2
  have ep : (np + Int32.ofInt 1).toInt = np.toInt + 1 := y_add1 (t := np) (by omega)
  refine y_aln (e_26 (20, .aload_n 2, 1) (List.mem_of_getElem? (i := 12) rfl)) g2 ?_
  refine y_iln (e_26 (21, .iload_n 3, 1) (List.mem_of_getElem? (i := 13) rfl)) g3 ?_
  refine y_st (e_26 (22, .iconst 1, 1) (List.mem_of_getElem? (i := 14) rfl)) ⟨rfl, rfl, rfl, rfl⟩ ?_
  refine y_st (e_26 (23, .iadd, 1) (List.mem_of_getElem? (i := 15) rfl)) ⟨rfl, rfl, rfl, rfl⟩ ?_
  refine y_putf (f := (0, 0, 4)) w1.1.I th0_p.2.2.2.2.2.2.1 (e_26 (24, .putfield 157, 3) (List.mem_of_getElem? (i := 16) rfl)) u_3_157 ⟨rfl, rfl, by decide, rfl, rfl⟩ ⟨_, rfl, by show (0 : Int) ≤ _; omega, by show _ ≤ (4 : Int); omega⟩ (fun Gp up => ?_)
  have w2 : CS f n lim nx1 tk1 pl1 num1 nm1 ft fp cc (np + Int32.ofInt 1) nt nl nn oc ot tn ln mn Gp := ⟨w1.1.other up (by decide) (by decide) (w1.1.I.upd up th0_p.2.2.2.2.2.2.1 (y_okI rfl (by show (0 : Int) ≤ _; omega) (by show _ ≤ (4 : Int); omega))), w1.2.unp (fun c i => by rw [up.2.1])⟩
  refine y_aln (e_26 (27, .aload_n 1, 1) (List.mem_of_getElem? (i := 17) rfl)) g1 ?_
  refine y_st (e_26 (28, .iconst 2, 1) (List.mem_of_getElem? (i := 18) rfl)) ⟨rfl, rfl, rfl, rfl⟩ ?_
  refine y_st (e_26 (29, .bipush 9, 2) (List.mem_of_getElem? (i := 19) rfl)) ⟨rfl, rfl, rfl, rfl⟩ ?_
  refine y_aln (e_26 (31, .aload_n 2, 1) (List.mem_of_getElem? (i := 20) rfl)) g2 ?_
  refine y_getf w2.1.I th0_p.2.2.2.2.2.2.1 (e_26 (32, .getfield 160, 3) (List.mem_of_getElem? (i := 21) rfl)) u_3_160 ⟨rfl, rfl⟩ w2.2.a33_6 ?_
  refine y_iln (e_26 (35, .iload_n 3, 1) (List.mem_of_getElem? (i := 22) rfl)) g3 ?_
  refine y_c5 (K' := _) (e_26 (36, .invokevirtual 141, 3) (List.mem_of_getElem? (i := 23) rfl)) ⟨rfl, rfl, rfl⟩ t_3_141 ⟨by decide, by decide, by decide, by decide⟩ m_28_ok rfl (by decide) (y_recv w2.1.I w2.1.t ⟨rfl, rfl⟩) (Nat.le_of_ble_eq_true rfl) (Nat.le_of_ble_eq_true rfl) (k_takeN_no w2.1 hno) (fun r1 Gc hc1 => ?_)
  obtain ⟨rfl, hz⟩ := hc1
  simp only [Option.toList_some, Option.toList_none, List.cons_append, List.nil_append]
  refine y_ifc (e_26 (39, .ifCond .eq 37, 3) (List.mem_of_getElem? (i := 24) rfl)) rfl (fun _ => ?_) (fun hc => absurd hc (by decide))
  refine y_st (e_26 (76, .iconst 0, 1) (List.mem_of_getElem? (i := 43) rfl)) ⟨rfl, rfl, rfl, rfl⟩ ?_
  exact y_ret (e_26 (77, .ireturn, 1) (List.mem_of_getElem? (i := 44) rfl)) ⟨rfl, y_rb (Or.inl rfl)⟩ ⟨rfl, hz.s9, hz.s8⟩
set_option maxHeartbeats 2000000 in
set_option maxRecDepth 100000 in
theorem c_pass_2 (h : CS f n lim nx0 tk0 pl0 num0 nm0 ft fp cc np nt nl nn oc ot tn ln mn G) (hnp : np.toInt < 4) (hN1 : NXc f n lim nx0 num0 nm0 nx1 tk1 pl1 num1 nm1) (htk1 : tk1 = 2) (a1 : 2 ≤ num1.toInt) (b1 : num1.toInt ≤ 9) (hN2 : NXc f n lim nx1 num1 nm1 nx2 tk2 pl2 num2 nm2) (hno : tk2 ≠ 2 ∨ num2.toInt < 1 ∨ 9 < num2.toInt) : x_Gd xs L J (d + 4) m_26 (fun r G' => r = some (.int 0) ∧ x_sl G' 1 9 = some (.int pl2) ∧ x_sl G' 1 8 = some (.int (t_kd tk2))) 0 (lv_args 0 [.ref 3, .ref 1, .ref 33]) [] G := by
  have g0 : pm_get (lv_args 0 [.ref 3, .ref 1, .ref 33]) 0 = some (.ref 3) := rfl
  have g1 : pm_get (lv_args 0 [.ref 3, .ref 1, .ref 33]) 1 = some (.ref 1) := rfl
  have g2 : pm_get (lv_args 0 [.ref 3, .ref 1, .ref 33]) 2 = some (.ref 33) := rfl
  generalize (lv_args 0 [.ref 3, .ref 1, .ref 33]) = lv at g0 g1 g2 ⊢
  obtain ⟨-, -, -, ⟨o0, o1⟩, -⟩ := h.cn
  refine y_aln (e_26 (0, .aload_n 2, 1) (List.mem_of_getElem? (i := 0) rfl)) g2 ?_
  refine y_getf h.1.I th0_p.2.2.2.2.2.2.1 (e_26 (1, .getfield 157, 3) (List.mem_of_getElem? (i := 1) rfl)) u_3_157 ⟨rfl, rfl⟩ h.2.a33_5 ?_
  refine y_isn (e_26 (4, .istore_n 3, 1) (List.mem_of_getElem? (i := 2) rfl)) (by decide) ?_
  have g3 : pm_get (pm_put1 lv 3 (.int np)) 3 = some (.int np) := x_get_self
  have g0 : pm_get (pm_put1 lv 3 (.int np)) 0 = some (.ref 3) := y_gpr g0 (by decide)
  have g1 : pm_get (pm_put1 lv 3 (.int np)) 1 = some (.ref 1) := y_gpr g1 (by decide)
  have g2 : pm_get (pm_put1 lv 3 (.int np)) 2 = some (.ref 33) := y_gpr g2 (by decide)
  show x_Gd xs L J _ m_26 _ 5 (pm_put1 lv 3 (.int np)) [] G
  generalize pm_put1 lv 3 (.int np) = lv3 at g0 g1 g2 g3 ⊢
  refine y_iln (e_26 (5, .iload_n 3, 1) (List.mem_of_getElem? (i := 3) rfl)) g3 ?_
  refine y_st (e_26 (6, .iconst 4, 1) (List.mem_of_getElem? (i := 4) rfl)) ⟨rfl, rfl, rfl, rfl⟩ ?_
  refine y_icm (e_26 (7, .if_icmp .lt 9, 3) (List.mem_of_getElem? (i := 5) rfl)) rfl (fun _ => ?_) (fun hc => ?_)
  rotate_left
  · have z := y_hI.2.2.2.2.2.2.2.2.2.1 hc
    rw [show (Int32.ofInt 4).toInt = 4 from rfl] at z
    omega
  refine y_aln (e_26 (16, .aload_n 1, 1) (List.mem_of_getElem? (i := 10) rfl)) g1 ?_
  refine y_c1 (K' := _) (e_26 (17, .invokevirtual 120, 3) (List.mem_of_getElem? (i := 11) rfl)) ⟨rfl, rfl, rfl⟩ t_3_120 ⟨by decide, by decide, by decide, by decide⟩ m_21_ok rfl (by decide) (y_recv h.1.I h.1.t ⟨rfl, rfl⟩) (Nat.le_of_ble_eq_true rfl) (Nat.le_of_ble_eq_true rfl) (hN1 _ _ _ _ _ _ _ _ _ _ _ _ _ h.1) (fun r1 Gc hc1 => ?_)
  obtain ⟨rfl, hc2⟩ := hc1
  simp only [Option.toList_some, Option.toList_none, List.cons_append, List.nil_append]
  have w1 := h.nxt hc2
  have ep : (np + Int32.ofInt 1).toInt = np.toInt + 1 := y_add1 (t := np) (by omega)
  refine y_aln (e_26 (20, .aload_n 2, 1) (List.mem_of_getElem? (i := 12) rfl)) g2 ?_
  refine y_iln (e_26 (21, .iload_n 3, 1) (List.mem_of_getElem? (i := 13) rfl)) g3 ?_
  refine y_st (e_26 (22, .iconst 1, 1) (List.mem_of_getElem? (i := 14) rfl)) ⟨rfl, rfl, rfl, rfl⟩ ?_
  refine y_st (e_26 (23, .iadd, 1) (List.mem_of_getElem? (i := 15) rfl)) ⟨rfl, rfl, rfl, rfl⟩ ?_
  refine y_putf (f := (0, 0, 4)) w1.1.I th0_p.2.2.2.2.2.2.1 (e_26 (24, .putfield 157, 3) (List.mem_of_getElem? (i := 16) rfl)) u_3_157 ⟨rfl, rfl, by decide, rfl, rfl⟩ ⟨_, rfl, by show (0 : Int) ≤ _; omega, by show _ ≤ (4 : Int); omega⟩ (fun Gp up => ?_)
  have w2 : CS f n lim nx1 tk1 pl1 num1 nm1 ft fp cc (np + Int32.ofInt 1) nt nl nn oc ot tn ln mn Gp := ⟨w1.1.other up (by decide) (by decide) (w1.1.I.upd up th0_p.2.2.2.2.2.2.1 (y_okI rfl (by show (0 : Int) ≤ _; omega) (by show _ ≤ (4 : Int); omega))), w1.2.unp (fun c i => by rw [up.2.1])⟩
  refine y_aln (e_26 (27, .aload_n 1, 1) (List.mem_of_getElem? (i := 17) rfl)) g1 ?_
  refine y_st (e_26 (28, .iconst 2, 1) (List.mem_of_getElem? (i := 18) rfl)) ⟨rfl, rfl, rfl, rfl⟩ ?_
  refine y_st (e_26 (29, .bipush 9, 2) (List.mem_of_getElem? (i := 19) rfl)) ⟨rfl, rfl, rfl, rfl⟩ ?_
  refine y_aln (e_26 (31, .aload_n 2, 1) (List.mem_of_getElem? (i := 20) rfl)) g2 ?_
  refine y_getf w2.1.I th0_p.2.2.2.2.2.2.1 (e_26 (32, .getfield 160, 3) (List.mem_of_getElem? (i := 21) rfl)) u_3_160 ⟨rfl, rfl⟩ w2.2.a33_6 ?_
  refine y_iln (e_26 (35, .iload_n 3, 1) (List.mem_of_getElem? (i := 22) rfl)) g3 ?_
  refine y_c5 (K' := _) (e_26 (36, .invokevirtual 141, 3) (List.mem_of_getElem? (i := 23) rfl)) ⟨rfl, rfl, rfl⟩ t_3_141 ⟨by decide, by decide, by decide, by decide⟩ m_28_ok rfl (by decide) (y_recv w2.1.I w2.1.t ⟨rfl, rfl⟩) (Nat.le_of_ble_eq_true rfl) (Nat.le_of_ble_eq_true rfl) (k_takeN_yes w2.1 htk1 a1 b1 th0_p.2.2.2.2.2.2.2.2.2.1 ⟨rfl, rfl⟩ (by decide) ⟨by omega, by show _ < (4 : Int); omega⟩ (y_okA (by rw [show (x_tb 16).2.2.2 = [(4, ((0 : Nat), (-2147483648 : Int), (2147483647 : Int)))] from rfl]; exact y_one (by omega))) (by decide) (by decide) hN2) (fun r1 Gc hc1 => ?_)
  obtain ⟨rfl, Gr1, ur1, hz1⟩ := hc1
  simp only [Option.toList_some, Option.toList_none, List.cons_append, List.nil_append]
  have hI1 := w2.1.I.upd ur1 th0_p.2.2.2.2.2.2.2.2.2.1 (y_okA (by rw [show (x_tb 16).2.2.2 = [(4, ((0 : Nat), (-2147483648 : Int), (2147483647 : Int)))] from rfl]; exact y_one (by omega)))
  have p1 : CS f n lim nx1 tk1 pl1 num1 nm1 ft fp (fun j => if j = 13 + np.toInt.toNat then num1 else cc j) (np + Int32.ofInt 1) nt nl nn oc ot tn ln mn Gr1 := ⟨w2.1.other ur1 (by decide) (by decide) hI1, w2.2.ule (k := np.toInt.toNat) (by omega) (fun c i => by rw [ur1.2.1] <;> rfl)⟩
  have q1 := p1.nxt hz1
  refine y_ifc (e_26 (39, .ifCond .eq 37, 3) (List.mem_of_getElem? (i := 24) rfl)) rfl (fun hc => absurd hc (by decide)) (fun _ => ?_)
  refine y_aln (e_26 (42, .aload_n 1, 1) (List.mem_of_getElem? (i := 25) rfl)) g1 ?_
  refine y_st (e_26 (43, .iconst 1, 1) (List.mem_of_getElem? (i := 26) rfl)) ⟨rfl, rfl, rfl, rfl⟩ ?_
  refine y_st (e_26 (44, .bipush 9, 2) (List.mem_of_getElem? (i := 27) rfl)) ⟨rfl, rfl, rfl, rfl⟩ ?_
  refine y_aln (e_26 (46, .aload_n 2, 1) (List.mem_of_getElem? (i := 28) rfl)) g2 ?_
  refine y_getf q1.1.I th0_p.2.2.2.2.2.2.1 (e_26 (47, .getfield 163, 3) (List.mem_of_getElem? (i := 29) rfl)) u_3_163 ⟨rfl, rfl⟩ q1.2.a33_7 ?_
  refine y_iln (e_26 (50, .iload_n 3, 1) (List.mem_of_getElem? (i := 30) rfl)) g3 ?_
  refine y_c5 (K' := _) (e_26 (51, .invokevirtual 141, 3) (List.mem_of_getElem? (i := 31) rfl)) ⟨rfl, rfl, rfl⟩ t_3_141 ⟨by decide, by decide, by decide, by decide⟩ m_28_ok rfl (by decide) (y_recv q1.1.I q1.1.t ⟨rfl, rfl⟩) (Nat.le_of_ble_eq_true rfl) (Nat.le_of_ble_eq_true rfl) (k_takeN_no q1.1 hno) (fun r1 Gc hc1 => ?_)
  obtain ⟨rfl, hz⟩ := hc1
  simp only [Option.toList_some, Option.toList_none, List.cons_append, List.nil_append]
  refine y_ifc (e_26 (54, .ifCond .eq 22, 3) (List.mem_of_getElem? (i := 32) rfl)) rfl (fun _ => ?_) (fun hc => absurd hc (by decide))
  refine y_st (e_26 (76, .iconst 0, 1) (List.mem_of_getElem? (i := 43) rfl)) ⟨rfl, rfl, rfl, rfl⟩ ?_
  exact y_ret (e_26 (77, .ireturn, 1) (List.mem_of_getElem? (i := 44) rfl)) ⟨rfl, y_rb (Or.inl rfl)⟩ ⟨rfl, hz.s9, hz.s8⟩
set_option maxHeartbeats 2000000 in
set_option maxRecDepth 100000 in
theorem c_pass_3 (h : CS f n lim nx0 tk0 pl0 num0 nm0 ft fp cc np nt nl nn oc ot tn ln mn G) (hnp : np.toInt < 4) (hN1 : NXc f n lim nx0 num0 nm0 nx1 tk1 pl1 num1 nm1) (htk1 : tk1 = 2) (a1 : 2 ≤ num1.toInt) (b1 : num1.toInt ≤ 9) (hN2 : NXc f n lim nx1 num1 nm1 nx2 tk2 pl2 num2 nm2) (htk2 : tk2 = 2) (a2 : 1 ≤ num2.toInt) (b2 : num2.toInt ≤ 9) (hN3 : NXc f n lim nx2 num2 nm2 nx3 tk3 pl3 num3 nm3) (hno : tk3 ≠ 2 ∨ num3.toInt < 0 ∨ 7 < num3.toInt) : x_Gd xs L J (d + 4) m_26 (fun r G' => r = some (.int 0) ∧ x_sl G' 1 9 = some (.int pl3) ∧ x_sl G' 1 8 = some (.int (t_kd tk3))) 0 (lv_args 0 [.ref 3, .ref 1, .ref 33]) [] G := by
  have g0 : pm_get (lv_args 0 [.ref 3, .ref 1, .ref 33]) 0 = some (.ref 3) := rfl
  have g1 : pm_get (lv_args 0 [.ref 3, .ref 1, .ref 33]) 1 = some (.ref 1) := rfl
  have g2 : pm_get (lv_args 0 [.ref 3, .ref 1, .ref 33]) 2 = some (.ref 33) := rfl
  generalize (lv_args 0 [.ref 3, .ref 1, .ref 33]) = lv at g0 g1 g2 ⊢
  obtain ⟨-, -, -, ⟨o0, o1⟩, -⟩ := h.cn
  refine y_aln (e_26 (0, .aload_n 2, 1) (List.mem_of_getElem? (i := 0) rfl)) g2 ?_
  refine y_getf h.1.I th0_p.2.2.2.2.2.2.1 (e_26 (1, .getfield 157, 3) (List.mem_of_getElem? (i := 1) rfl)) u_3_157 ⟨rfl, rfl⟩ h.2.a33_5 ?_
  refine y_isn (e_26 (4, .istore_n 3, 1) (List.mem_of_getElem? (i := 2) rfl)) (by decide) ?_
  have g3 : pm_get (pm_put1 lv 3 (.int np)) 3 = some (.int np) := x_get_self
  have g0 : pm_get (pm_put1 lv 3 (.int np)) 0 = some (.ref 3) := y_gpr g0 (by decide)
  have g1 : pm_get (pm_put1 lv 3 (.int np)) 1 = some (.ref 1) := y_gpr g1 (by decide)
  have g2 : pm_get (pm_put1 lv 3 (.int np)) 2 = some (.ref 33) := y_gpr g2 (by decide)
  show x_Gd xs L J _ m_26 _ 5 (pm_put1 lv 3 (.int np)) [] G
  generalize pm_put1 lv 3 (.int np) = lv3 at g0 g1 g2 g3 ⊢
  refine y_iln (e_26 (5, .iload_n 3, 1) (List.mem_of_getElem? (i := 3) rfl)) g3 ?_
  refine y_st (e_26 (6, .iconst 4, 1) (List.mem_of_getElem? (i := 4) rfl)) ⟨rfl, rfl, rfl, rfl⟩ ?_
  refine y_icm (e_26 (7, .if_icmp .lt 9, 3) (List.mem_of_getElem? (i := 5) rfl)) rfl (fun _ => ?_) (fun hc => ?_)
  rotate_left
  · have z := y_hI.2.2.2.2.2.2.2.2.2.1 hc
    rw [show (Int32.ofInt 4).toInt = 4 from rfl] at z
    omega
  refine y_aln (e_26 (16, .aload_n 1, 1) (List.mem_of_getElem? (i := 10) rfl)) g1 ?_
  refine y_c1 (K' := _) (e_26 (17, .invokevirtual 120, 3) (List.mem_of_getElem? (i := 11) rfl)) ⟨rfl, rfl, rfl⟩ t_3_120 ⟨by decide, by decide, by decide, by decide⟩ m_21_ok rfl (by decide) (y_recv h.1.I h.1.t ⟨rfl, rfl⟩) (Nat.le_of_ble_eq_true rfl) (Nat.le_of_ble_eq_true rfl) (hN1 _ _ _ _ _ _ _ _ _ _ _ _ _ h.1) (fun r1 Gc hc1 => ?_)
  obtain ⟨rfl, hc2⟩ := hc1
  simp only [Option.toList_some, Option.toList_none, List.cons_append, List.nil_append]
  have w1 := h.nxt hc2
  have ep : (np + Int32.ofInt 1).toInt = np.toInt + 1 := y_add1 (t := np) (by omega)
  refine y_aln (e_26 (20, .aload_n 2, 1) (List.mem_of_getElem? (i := 12) rfl)) g2 ?_
  refine y_iln (e_26 (21, .iload_n 3, 1) (List.mem_of_getElem? (i := 13) rfl)) g3 ?_
  refine y_st (e_26 (22, .iconst 1, 1) (List.mem_of_getElem? (i := 14) rfl)) ⟨rfl, rfl, rfl, rfl⟩ ?_
  refine y_st (e_26 (23, .iadd, 1) (List.mem_of_getElem? (i := 15) rfl)) ⟨rfl, rfl, rfl, rfl⟩ ?_
  refine y_putf (f := (0, 0, 4)) w1.1.I th0_p.2.2.2.2.2.2.1 (e_26 (24, .putfield 157, 3) (List.mem_of_getElem? (i := 16) rfl)) u_3_157 ⟨rfl, rfl, by decide, rfl, rfl⟩ ⟨_, rfl, by show (0 : Int) ≤ _; omega, by show _ ≤ (4 : Int); omega⟩ (fun Gp up => ?_)
  have w2 : CS f n lim nx1 tk1 pl1 num1 nm1 ft fp cc (np + Int32.ofInt 1) nt nl nn oc ot tn ln mn Gp := ⟨w1.1.other up (by decide) (by decide) (w1.1.I.upd up th0_p.2.2.2.2.2.2.1 (y_okI rfl (by show (0 : Int) ≤ _; omega) (by show _ ≤ (4 : Int); omega))), w1.2.unp (fun c i => by rw [up.2.1])⟩
  refine y_aln (e_26 (27, .aload_n 1, 1) (List.mem_of_getElem? (i := 17) rfl)) g1 ?_
  refine y_st (e_26 (28, .iconst 2, 1) (List.mem_of_getElem? (i := 18) rfl)) ⟨rfl, rfl, rfl, rfl⟩ ?_
  refine y_st (e_26 (29, .bipush 9, 2) (List.mem_of_getElem? (i := 19) rfl)) ⟨rfl, rfl, rfl, rfl⟩ ?_
  refine y_aln (e_26 (31, .aload_n 2, 1) (List.mem_of_getElem? (i := 20) rfl)) g2 ?_
  refine y_getf w2.1.I th0_p.2.2.2.2.2.2.1 (e_26 (32, .getfield 160, 3) (List.mem_of_getElem? (i := 21) rfl)) u_3_160 ⟨rfl, rfl⟩ w2.2.a33_6 ?_
  refine y_iln (e_26 (35, .iload_n 3, 1) (List.mem_of_getElem? (i := 22) rfl)) g3 ?_
  refine y_c5 (K' := _) (e_26 (36, .invokevirtual 141, 3) (List.mem_of_getElem? (i := 23) rfl)) ⟨rfl, rfl, rfl⟩ t_3_141 ⟨by decide, by decide, by decide, by decide⟩ m_28_ok rfl (by decide) (y_recv w2.1.I w2.1.t ⟨rfl, rfl⟩) (Nat.le_of_ble_eq_true rfl) (Nat.le_of_ble_eq_true rfl) (k_takeN_yes w2.1 htk1 a1 b1 th0_p.2.2.2.2.2.2.2.2.2.1 ⟨rfl, rfl⟩ (by decide) ⟨by omega, by show _ < (4 : Int); omega⟩ (y_okA (by rw [show (x_tb 16).2.2.2 = [(4, ((0 : Nat), (-2147483648 : Int), (2147483647 : Int)))] from rfl]; exact y_one (by omega))) (by decide) (by decide) hN2) (fun r1 Gc hc1 => ?_)
  obtain ⟨rfl, Gr1, ur1, hz1⟩ := hc1
  simp only [Option.toList_some, Option.toList_none, List.cons_append, List.nil_append]
  have hI1 := w2.1.I.upd ur1 th0_p.2.2.2.2.2.2.2.2.2.1 (y_okA (by rw [show (x_tb 16).2.2.2 = [(4, ((0 : Nat), (-2147483648 : Int), (2147483647 : Int)))] from rfl]; exact y_one (by omega)))
  have p1 : CS f n lim nx1 tk1 pl1 num1 nm1 ft fp (fun j => if j = 13 + np.toInt.toNat then num1 else cc j) (np + Int32.ofInt 1) nt nl nn oc ot tn ln mn Gr1 := ⟨w2.1.other ur1 (by decide) (by decide) hI1, w2.2.ule (k := np.toInt.toNat) (by omega) (fun c i => by rw [ur1.2.1] <;> rfl)⟩
  have q1 := p1.nxt hz1
  refine y_ifc (e_26 (39, .ifCond .eq 37, 3) (List.mem_of_getElem? (i := 24) rfl)) rfl (fun hc => absurd hc (by decide)) (fun _ => ?_)
  refine y_aln (e_26 (42, .aload_n 1, 1) (List.mem_of_getElem? (i := 25) rfl)) g1 ?_
  refine y_st (e_26 (43, .iconst 1, 1) (List.mem_of_getElem? (i := 26) rfl)) ⟨rfl, rfl, rfl, rfl⟩ ?_
  refine y_st (e_26 (44, .bipush 9, 2) (List.mem_of_getElem? (i := 27) rfl)) ⟨rfl, rfl, rfl, rfl⟩ ?_
  refine y_aln (e_26 (46, .aload_n 2, 1) (List.mem_of_getElem? (i := 28) rfl)) g2 ?_
  refine y_getf q1.1.I th0_p.2.2.2.2.2.2.1 (e_26 (47, .getfield 163, 3) (List.mem_of_getElem? (i := 29) rfl)) u_3_163 ⟨rfl, rfl⟩ q1.2.a33_7 ?_
  refine y_iln (e_26 (50, .iload_n 3, 1) (List.mem_of_getElem? (i := 30) rfl)) g3 ?_
  refine y_c5 (K' := _) (e_26 (51, .invokevirtual 141, 3) (List.mem_of_getElem? (i := 31) rfl)) ⟨rfl, rfl, rfl⟩ t_3_141 ⟨by decide, by decide, by decide, by decide⟩ m_28_ok rfl (by decide) (y_recv q1.1.I q1.1.t ⟨rfl, rfl⟩) (Nat.le_of_ble_eq_true rfl) (Nat.le_of_ble_eq_true rfl) (k_takeN_yes q1.1 htk2 a2 b2 th0_p.2.2.2.2.2.2.2.2.2.2.1 ⟨rfl, rfl⟩ (by decide) ⟨by omega, by show _ < (4 : Int); omega⟩ (y_okA (by rw [show (x_tb 17).2.2.2 = [(4, ((0 : Nat), (-2147483648 : Int), (2147483647 : Int)))] from rfl]; exact y_one (by omega))) (by decide) (by decide) hN3) (fun r1 Gc hc1 => ?_)
  obtain ⟨rfl, Gr2, ur2, hz2⟩ := hc1
  simp only [Option.toList_some, Option.toList_none, List.cons_append, List.nil_append]
  have hI2 := q1.1.I.upd ur2 th0_p.2.2.2.2.2.2.2.2.2.2.1 (y_okA (by rw [show (x_tb 17).2.2.2 = [(4, ((0 : Nat), (-2147483648 : Int), (2147483647 : Int)))] from rfl]; exact y_one (by omega)))
  have p2 : CS f n lim nx2 tk2 pl2 num2 nm2 ft fp (fun j => if j = 17 + np.toInt.toNat then num2 else (fun j => if j = 13 + np.toInt.toNat then num1 else cc j) j) (np + Int32.ofInt 1) nt nl nn oc ot tn ln mn Gr2 := ⟨q1.1.other ur2 (by decide) (by decide) hI2, q1.2.uwd (k := np.toInt.toNat) (by omega) (fun c i => by rw [ur2.2.1] <;> rfl)⟩
  have q2 := p2.nxt hz2
  refine y_ifc (e_26 (54, .ifCond .eq 22, 3) (List.mem_of_getElem? (i := 32) rfl)) rfl (fun hc => absurd hc (by decide)) (fun _ => ?_)
  refine y_aln (e_26 (57, .aload_n 1, 1) (List.mem_of_getElem? (i := 33) rfl)) g1 ?_
  refine y_st (e_26 (58, .iconst 0, 1) (List.mem_of_getElem? (i := 34) rfl)) ⟨rfl, rfl, rfl, rfl⟩ ?_
  refine y_st (e_26 (59, .bipush 7, 2) (List.mem_of_getElem? (i := 35) rfl)) ⟨rfl, rfl, rfl, rfl⟩ ?_
  refine y_aln (e_26 (61, .aload_n 2, 1) (List.mem_of_getElem? (i := 36) rfl)) g2 ?_
  refine y_getf q2.1.I th0_p.2.2.2.2.2.2.1 (e_26 (62, .getfield 166, 3) (List.mem_of_getElem? (i := 37) rfl)) u_3_166 ⟨rfl, rfl⟩ q2.2.a33_8 ?_
  refine y_iln (e_26 (65, .iload_n 3, 1) (List.mem_of_getElem? (i := 38) rfl)) g3 ?_
  refine y_c5 (K' := _) (e_26 (66, .invokevirtual 141, 3) (List.mem_of_getElem? (i := 39) rfl)) ⟨rfl, rfl, rfl⟩ t_3_141 ⟨by decide, by decide, by decide, by decide⟩ m_28_ok rfl (by decide) (y_recv q2.1.I q2.1.t ⟨rfl, rfl⟩) (Nat.le_of_ble_eq_true rfl) (Nat.le_of_ble_eq_true rfl) (k_takeN_no q2.1 hno) (fun r1 Gc hc1 => ?_)
  obtain ⟨rfl, hz⟩ := hc1
  simp only [Option.toList_some, Option.toList_none, List.cons_append, List.nil_append]
  refine y_ifc (e_26 (69, .ifCond .eq 7, 3) (List.mem_of_getElem? (i := 40) rfl)) rfl (fun _ => ?_) (fun hc => absurd hc (by decide))
  refine y_st (e_26 (76, .iconst 0, 1) (List.mem_of_getElem? (i := 43) rfl)) ⟨rfl, rfl, rfl, rfl⟩ ?_
  exact y_ret (e_26 (77, .ireturn, 1) (List.mem_of_getElem? (i := 44) rfl)) ⟨rfl, y_rb (Or.inl rfl)⟩ ⟨rfl, hz.s9, hz.s8⟩
set_option maxHeartbeats 2000000 in
set_option maxRecDepth 100000 in
theorem c_pass_ok (h : CS f n lim nx0 tk0 pl0 num0 nm0 ft fp cc np nt nl nn oc ot tn ln mn G) (hnp : np.toInt < 4) (hN1 : NXc f n lim nx0 num0 nm0 nx1 tk1 pl1 num1 nm1) (htk1 : tk1 = 2) (a1 : 2 ≤ num1.toInt) (b1 : num1.toInt ≤ 9) (hN2 : NXc f n lim nx1 num1 nm1 nx2 tk2 pl2 num2 nm2) (htk2 : tk2 = 2) (a2 : 1 ≤ num2.toInt) (b2 : num2.toInt ≤ 9) (hN3 : NXc f n lim nx2 num2 nm2 nx3 tk3 pl3 num3 nm3) (htk3 : tk3 = 2) (a3 : 0 ≤ num3.toInt) (b3 : num3.toInt ≤ 7) (hN4 : NXc f n lim nx3 num3 nm3 nx4 tk4 pl4 num4 nm4) : x_Gd xs L J (d + 4) m_26 (fun r G' => r = some (.int 1) ∧ CS f n lim nx4 tk4 pl4 num4 nm4 ft fp (fun j => if j = 21 + np.toInt.toNat then num3 else (fun j => if j = 17 + np.toInt.toNat then num2 else (fun j => if j = 13 + np.toInt.toNat then num1 else cc j) j) j) (np + Int32.ofInt 1) nt nl nn oc ot tn ln mn G') 0 (lv_args 0 [.ref 3, .ref 1, .ref 33]) [] G := by
  have g0 : pm_get (lv_args 0 [.ref 3, .ref 1, .ref 33]) 0 = some (.ref 3) := rfl
  have g1 : pm_get (lv_args 0 [.ref 3, .ref 1, .ref 33]) 1 = some (.ref 1) := rfl
  have g2 : pm_get (lv_args 0 [.ref 3, .ref 1, .ref 33]) 2 = some (.ref 33) := rfl
  generalize (lv_args 0 [.ref 3, .ref 1, .ref 33]) = lv at g0 g1 g2 ⊢
  obtain ⟨-, -, -, ⟨o0, o1⟩, -⟩ := h.cn
  refine y_aln (e_26 (0, .aload_n 2, 1) (List.mem_of_getElem? (i := 0) rfl)) g2 ?_
  refine y_getf h.1.I th0_p.2.2.2.2.2.2.1 (e_26 (1, .getfield 157, 3) (List.mem_of_getElem? (i := 1) rfl)) u_3_157 ⟨rfl, rfl⟩ h.2.a33_5 ?_
  refine y_isn (e_26 (4, .istore_n 3, 1) (List.mem_of_getElem? (i := 2) rfl)) (by decide) ?_
  have g3 : pm_get (pm_put1 lv 3 (.int np)) 3 = some (.int np) := x_get_self
  have g0 : pm_get (pm_put1 lv 3 (.int np)) 0 = some (.ref 3) := y_gpr g0 (by decide)
  have g1 : pm_get (pm_put1 lv 3 (.int np)) 1 = some (.ref 1) := y_gpr g1 (by decide)
  have g2 : pm_get (pm_put1 lv 3 (.int np)) 2 = some (.ref 33) := y_gpr g2 (by decide)
  show x_Gd xs L J _ m_26 _ 5 (pm_put1 lv 3 (.int np)) [] G
  generalize pm_put1 lv 3 (.int np) = lv3 at g0 g1 g2 g3 ⊢
  refine y_iln (e_26 (5, .iload_n 3, 1) (List.mem_of_getElem? (i := 3) rfl)) g3 ?_
  refine y_st (e_26 (6, .iconst 4, 1) (List.mem_of_getElem? (i := 4) rfl)) ⟨rfl, rfl, rfl, rfl⟩ ?_
  refine y_icm (e_26 (7, .if_icmp .lt 9, 3) (List.mem_of_getElem? (i := 5) rfl)) rfl (fun _ => ?_) (fun hc => ?_)
  rotate_left
  · have z := y_hI.2.2.2.2.2.2.2.2.2.1 hc
    rw [show (Int32.ofInt 4).toInt = 4 from rfl] at z
    omega
  refine y_aln (e_26 (16, .aload_n 1, 1) (List.mem_of_getElem? (i := 10) rfl)) g1 ?_
  refine y_c1 (K' := _) (e_26 (17, .invokevirtual 120, 3) (List.mem_of_getElem? (i := 11) rfl)) ⟨rfl, rfl, rfl⟩ t_3_120 ⟨by decide, by decide, by decide, by decide⟩ m_21_ok rfl (by decide) (y_recv h.1.I h.1.t ⟨rfl, rfl⟩) (Nat.le_of_ble_eq_true rfl) (Nat.le_of_ble_eq_true rfl) (hN1 _ _ _ _ _ _ _ _ _ _ _ _ _ h.1) (fun r1 Gc hc1 => ?_)
  obtain ⟨rfl, hc2⟩ := hc1
  simp only [Option.toList_some, Option.toList_none, List.cons_append, List.nil_append]
  have w1 := h.nxt hc2
  have ep : (np + Int32.ofInt 1).toInt = np.toInt + 1 := y_add1 (t := np) (by omega)
  refine y_aln (e_26 (20, .aload_n 2, 1) (List.mem_of_getElem? (i := 12) rfl)) g2 ?_
  refine y_iln (e_26 (21, .iload_n 3, 1) (List.mem_of_getElem? (i := 13) rfl)) g3 ?_
  refine y_st (e_26 (22, .iconst 1, 1) (List.mem_of_getElem? (i := 14) rfl)) ⟨rfl, rfl, rfl, rfl⟩ ?_
  refine y_st (e_26 (23, .iadd, 1) (List.mem_of_getElem? (i := 15) rfl)) ⟨rfl, rfl, rfl, rfl⟩ ?_
  refine y_putf (f := (0, 0, 4)) w1.1.I th0_p.2.2.2.2.2.2.1 (e_26 (24, .putfield 157, 3) (List.mem_of_getElem? (i := 16) rfl)) u_3_157 ⟨rfl, rfl, by decide, rfl, rfl⟩ ⟨_, rfl, by show (0 : Int) ≤ _; omega, by show _ ≤ (4 : Int); omega⟩ (fun Gp up => ?_)
  have w2 : CS f n lim nx1 tk1 pl1 num1 nm1 ft fp cc (np + Int32.ofInt 1) nt nl nn oc ot tn ln mn Gp := ⟨w1.1.other up (by decide) (by decide) (w1.1.I.upd up th0_p.2.2.2.2.2.2.1 (y_okI rfl (by show (0 : Int) ≤ _; omega) (by show _ ≤ (4 : Int); omega))), w1.2.unp (fun c i => by rw [up.2.1])⟩
  refine y_aln (e_26 (27, .aload_n 1, 1) (List.mem_of_getElem? (i := 17) rfl)) g1 ?_
  refine y_st (e_26 (28, .iconst 2, 1) (List.mem_of_getElem? (i := 18) rfl)) ⟨rfl, rfl, rfl, rfl⟩ ?_
  refine y_st (e_26 (29, .bipush 9, 2) (List.mem_of_getElem? (i := 19) rfl)) ⟨rfl, rfl, rfl, rfl⟩ ?_
  refine y_aln (e_26 (31, .aload_n 2, 1) (List.mem_of_getElem? (i := 20) rfl)) g2 ?_
  refine y_getf w2.1.I th0_p.2.2.2.2.2.2.1 (e_26 (32, .getfield 160, 3) (List.mem_of_getElem? (i := 21) rfl)) u_3_160 ⟨rfl, rfl⟩ w2.2.a33_6 ?_
  refine y_iln (e_26 (35, .iload_n 3, 1) (List.mem_of_getElem? (i := 22) rfl)) g3 ?_
  refine y_c5 (K' := _) (e_26 (36, .invokevirtual 141, 3) (List.mem_of_getElem? (i := 23) rfl)) ⟨rfl, rfl, rfl⟩ t_3_141 ⟨by decide, by decide, by decide, by decide⟩ m_28_ok rfl (by decide) (y_recv w2.1.I w2.1.t ⟨rfl, rfl⟩) (Nat.le_of_ble_eq_true rfl) (Nat.le_of_ble_eq_true rfl) (k_takeN_yes w2.1 htk1 a1 b1 th0_p.2.2.2.2.2.2.2.2.2.1 ⟨rfl, rfl⟩ (by decide) ⟨by omega, by show _ < (4 : Int); omega⟩ (y_okA (by rw [show (x_tb 16).2.2.2 = [(4, ((0 : Nat), (-2147483648 : Int), (2147483647 : Int)))] from rfl]; exact y_one (by omega))) (by decide) (by decide) hN2) (fun r1 Gc hc1 => ?_)
  obtain ⟨rfl, Gr1, ur1, hz1⟩ := hc1
  simp only [Option.toList_some, Option.toList_none, List.cons_append, List.nil_append]
  have hI1 := w2.1.I.upd ur1 th0_p.2.2.2.2.2.2.2.2.2.1 (y_okA (by rw [show (x_tb 16).2.2.2 = [(4, ((0 : Nat), (-2147483648 : Int), (2147483647 : Int)))] from rfl]; exact y_one (by omega)))
  have p1 : CS f n lim nx1 tk1 pl1 num1 nm1 ft fp (fun j => if j = 13 + np.toInt.toNat then num1 else cc j) (np + Int32.ofInt 1) nt nl nn oc ot tn ln mn Gr1 := ⟨w2.1.other ur1 (by decide) (by decide) hI1, w2.2.ule (k := np.toInt.toNat) (by omega) (fun c i => by rw [ur1.2.1] <;> rfl)⟩
  have q1 := p1.nxt hz1
  refine y_ifc (e_26 (39, .ifCond .eq 37, 3) (List.mem_of_getElem? (i := 24) rfl)) rfl (fun hc => absurd hc (by decide)) (fun _ => ?_)
  refine y_aln (e_26 (42, .aload_n 1, 1) (List.mem_of_getElem? (i := 25) rfl)) g1 ?_
  refine y_st (e_26 (43, .iconst 1, 1) (List.mem_of_getElem? (i := 26) rfl)) ⟨rfl, rfl, rfl, rfl⟩ ?_
  refine y_st (e_26 (44, .bipush 9, 2) (List.mem_of_getElem? (i := 27) rfl)) ⟨rfl, rfl, rfl, rfl⟩ ?_
  refine y_aln (e_26 (46, .aload_n 2, 1) (List.mem_of_getElem? (i := 28) rfl)) g2 ?_
  refine y_getf q1.1.I th0_p.2.2.2.2.2.2.1 (e_26 (47, .getfield 163, 3) (List.mem_of_getElem? (i := 29) rfl)) u_3_163 ⟨rfl, rfl⟩ q1.2.a33_7 ?_
  refine y_iln (e_26 (50, .iload_n 3, 1) (List.mem_of_getElem? (i := 30) rfl)) g3 ?_
  refine y_c5 (K' := _) (e_26 (51, .invokevirtual 141, 3) (List.mem_of_getElem? (i := 31) rfl)) ⟨rfl, rfl, rfl⟩ t_3_141 ⟨by decide, by decide, by decide, by decide⟩ m_28_ok rfl (by decide) (y_recv q1.1.I q1.1.t ⟨rfl, rfl⟩) (Nat.le_of_ble_eq_true rfl) (Nat.le_of_ble_eq_true rfl) (k_takeN_yes q1.1 htk2 a2 b2 th0_p.2.2.2.2.2.2.2.2.2.2.1 ⟨rfl, rfl⟩ (by decide) ⟨by omega, by show _ < (4 : Int); omega⟩ (y_okA (by rw [show (x_tb 17).2.2.2 = [(4, ((0 : Nat), (-2147483648 : Int), (2147483647 : Int)))] from rfl]; exact y_one (by omega))) (by decide) (by decide) hN3) (fun r1 Gc hc1 => ?_)
  obtain ⟨rfl, Gr2, ur2, hz2⟩ := hc1
  simp only [Option.toList_some, Option.toList_none, List.cons_append, List.nil_append]
  have hI2 := q1.1.I.upd ur2 th0_p.2.2.2.2.2.2.2.2.2.2.1 (y_okA (by rw [show (x_tb 17).2.2.2 = [(4, ((0 : Nat), (-2147483648 : Int), (2147483647 : Int)))] from rfl]; exact y_one (by omega)))
  have p2 : CS f n lim nx2 tk2 pl2 num2 nm2 ft fp (fun j => if j = 17 + np.toInt.toNat then num2 else (fun j => if j = 13 + np.toInt.toNat then num1 else cc j) j) (np + Int32.ofInt 1) nt nl nn oc ot tn ln mn Gr2 := ⟨q1.1.other ur2 (by decide) (by decide) hI2, q1.2.uwd (k := np.toInt.toNat) (by omega) (fun c i => by rw [ur2.2.1] <;> rfl)⟩
  have q2 := p2.nxt hz2
  refine y_ifc (e_26 (54, .ifCond .eq 22, 3) (List.mem_of_getElem? (i := 32) rfl)) rfl (fun hc => absurd hc (by decide)) (fun _ => ?_)
  refine y_aln (e_26 (57, .aload_n 1, 1) (List.mem_of_getElem? (i := 33) rfl)) g1 ?_
  refine y_st (e_26 (58, .iconst 0, 1) (List.mem_of_getElem? (i := 34) rfl)) ⟨rfl, rfl, rfl, rfl⟩ ?_
  refine y_st (e_26 (59, .bipush 7, 2) (List.mem_of_getElem? (i := 35) rfl)) ⟨rfl, rfl, rfl, rfl⟩ ?_
  refine y_aln (e_26 (61, .aload_n 2, 1) (List.mem_of_getElem? (i := 36) rfl)) g2 ?_
  refine y_getf q2.1.I th0_p.2.2.2.2.2.2.1 (e_26 (62, .getfield 166, 3) (List.mem_of_getElem? (i := 37) rfl)) u_3_166 ⟨rfl, rfl⟩ q2.2.a33_8 ?_
  refine y_iln (e_26 (65, .iload_n 3, 1) (List.mem_of_getElem? (i := 38) rfl)) g3 ?_
  refine y_c5 (K' := _) (e_26 (66, .invokevirtual 141, 3) (List.mem_of_getElem? (i := 39) rfl)) ⟨rfl, rfl, rfl⟩ t_3_141 ⟨by decide, by decide, by decide, by decide⟩ m_28_ok rfl (by decide) (y_recv q2.1.I q2.1.t ⟨rfl, rfl⟩) (Nat.le_of_ble_eq_true rfl) (Nat.le_of_ble_eq_true rfl) (k_takeN_yes q2.1 htk3 a3 b3 th0_p.2.2.2.2.2.2.2.2.2.2.2.1 ⟨rfl, rfl⟩ (by decide) ⟨by omega, by show _ < (4 : Int); omega⟩ (y_okA (by rw [show (x_tb 18).2.2.2 = [(4, ((0 : Nat), (-2147483648 : Int), (2147483647 : Int)))] from rfl]; exact y_one (by omega))) (by decide) (by decide) hN4) (fun r1 Gc hc1 => ?_)
  obtain ⟨rfl, Gr3, ur3, hz3⟩ := hc1
  simp only [Option.toList_some, Option.toList_none, List.cons_append, List.nil_append]
  have hI3 := q2.1.I.upd ur3 th0_p.2.2.2.2.2.2.2.2.2.2.2.1 (y_okA (by rw [show (x_tb 18).2.2.2 = [(4, ((0 : Nat), (-2147483648 : Int), (2147483647 : Int)))] from rfl]; exact y_one (by omega)))
  have p3 : CS f n lim nx3 tk3 pl3 num3 nm3 ft fp (fun j => if j = 21 + np.toInt.toNat then num3 else (fun j => if j = 17 + np.toInt.toNat then num2 else (fun j => if j = 13 + np.toInt.toNat then num1 else cc j) j) j) (np + Int32.ofInt 1) nt nl nn oc ot tn ln mn Gr3 := ⟨q2.1.other ur3 (by decide) (by decide) hI3, q2.2.ual (k := np.toInt.toNat) (by omega) (fun c i => by rw [ur3.2.1] <;> rfl)⟩
  have q3 := p3.nxt hz3
  refine y_ifc (e_26 (69, .ifCond .eq 7, 3) (List.mem_of_getElem? (i := 40) rfl)) rfl (fun hc => absurd hc (by decide)) (fun _ => ?_)
  refine y_st (e_26 (72, .iconst 1, 1) (List.mem_of_getElem? (i := 41) rfl)) ⟨rfl, rfl, rfl, rfl⟩ ?_
  refine y_st (e_26 (73, .goto 4, 3) (List.mem_of_getElem? (i := 42) rfl)) ⟨rfl, rfl, rfl, rfl⟩ ?_
  exact y_ret (e_26 (77, .ireturn, 1) (List.mem_of_getElem? (i := 44) rfl)) ⟨rfl, y_rb (Or.inr rfl)⟩ ⟨rfl, q3⟩
end CS7
