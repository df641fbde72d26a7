def m_39 : pM := (⟨"BreathingHill$LandReader", "readLong", "(LBreathingHill$Tape;LBreathingHill$Hill;)Z"⟩, 653, 4, some (FieldType.boolean), 3, 2, false, 2, 95, 652, 6)
set_option maxRecDepth 100000 in
theorem m_39_ok : pm_tab[39]? = some m_39 := rfl
theorem e_39 : ∀ q ∈ d_39, decode m_39.code q.1 = .ok (q.2.1, q.2.2) := y_dec d_39_ok m_39_ok
def m_41 : pM := (⟨"BreathingHill$LandReader", "readBreath", "(LBreathingHill$Tape;LBreathingHill$Land;)Z"⟩, 663, 3, some (FieldType.boolean), 3, 2, false, 2, 95, 662, 8)
set_option maxRecDepth 100000 in
theorem m_41_ok : pm_tab[41]? = some m_41 := rfl
theorem e_41 : ∀ q ∈ d_41, decode m_41.code q.1 = .ok (q.2.1, q.2.2) := y_dec d_41_ok m_41_ok
def m_43 : pM := (⟨"BreathingHill$LandReader", "readForce", "(LBreathingHill$Tape;LBreathingHill$Land;)Z"⟩, 673, 3, some (FieldType.boolean), 3, 2, false, 2, 95, 672, 10)
set_option maxRecDepth 100000 in
theorem m_43_ok : pm_tab[43]? = some m_43 := rfl
theorem e_43 : ∀ q ∈ d_43, decode m_43.code q.1 = .ok (q.2.1, q.2.2) := y_dec d_43_ok m_43_ok
def m_44 : pM := (⟨"BreathingHill$LandReader", "readFade", "(LBreathingHill$Tape;LBreathingHill$Land;)Z"⟩, 679, 3, some (FieldType.boolean), 3, 2, false, 2, 95, 678, 11)
set_option maxRecDepth 100000 in
theorem m_44_ok : pm_tab[44]? = some m_44 := rfl
theorem e_44 : ∀ q ∈ d_44, decode m_44.code q.1 = .ok (q.2.1, q.2.2) := y_dec d_44_ok m_44_ok
def m_45 : pM := (⟨"BreathingHill$LandReader", "readHeld", "(LBreathingHill$Tape;LBreathingHill$Land;)Z"⟩, 685, 3, some (FieldType.boolean), 3, 2, false, 2, 95, 684, 12)
set_option maxRecDepth 100000 in
theorem m_45_ok : pm_tab[45]? = some m_45 := rfl
theorem e_45 : ∀ q ∈ d_45, decode m_45.code q.1 = .ok (q.2.1, q.2.2) := y_dec d_45_ok m_45_ok
def m_26 : pM := (⟨"BreathingHill$LandReader", "readPassage", "(LBreathingHill$Tape;LBreathingHill$Land;)Z"⟩, 588, 4, some (FieldType.boolean), 3, 2, false, 2, 95, 587, 1)
set_option maxRecDepth 100000 in
theorem m_26_ok : pm_tab[26]? = some m_26 := rfl
theorem e_26 : ∀ q ∈ d_26, decode m_26.code q.1 = .ok (q.2.1, q.2.2) := y_dec d_26_ok m_26_ok
theorem u_3_123 : pm_ftab.find? (fun r => r.1 == 3 && r.2.1 == 123) = some (3, 123, 0, 4, 1, 372) := by decide +kernel
theorem u_3_126 : pm_ftab.find? (fun r => r.1 == 3 && r.2.1 == 126) = some (3, 126, 0, 5, 1, 376) := by decide +kernel
theorem u_3_129 : pm_ftab.find? (fun r => r.1 == 3 && r.2.1 == 129) = some (3, 129, 0, 6, 1, 379) := by decide +kernel
theorem u_3_132 : pm_ftab.find? (fun r => r.1 == 3 && r.2.1 == 132) = some (3, 132, 1, 0, 1, 198) := by decide +kernel
theorem u_3_145 : pm_ftab.find? (fun r => r.1 == 3 && r.2.1 == 145) = some (3, 145, 1, 1, 1, 201) := by decide +kernel
theorem u_3_157 : pm_ftab.find? (fun r => r.1 == 3 && r.2.1 == 157) = some (3, 157, 1, 5, 1, 209) := by decide +kernel
theorem u_3_160 : pm_ftab.find? (fun r => r.1 == 3 && r.2.1 == 160) = some (3, 160, 1, 6, 1, 213) := by decide +kernel
theorem u_3_163 : pm_ftab.find? (fun r => r.1 == 3 && r.2.1 == 163) = some (3, 163, 1, 7, 1, 217) := by decide +kernel
theorem u_3_166 : pm_ftab.find? (fun r => r.1 == 3 && r.2.1 == 166) = some (3, 166, 1, 8, 1, 220) := by decide +kernel
theorem u_3_148 : pm_ftab.find? (fun r => r.1 == 3 && r.2.1 == 148) = some (3, 148, 1, 2, 1, 203) := by decide +kernel
theorem u_3_151 : pm_ftab.find? (fun r => r.1 == 3 && r.2.1 == 151) = some (3, 151, 1, 3, 1, 205) := by decide +kernel
theorem u_3_154 : pm_ftab.find? (fun r => r.1 == 3 && r.2.1 == 154) = some (3, 154, 1, 4, 1, 207) := by decide +kernel
theorem t_3_137 : pm_ctab.find? (fun r => r.1 == 3 && r.2.1 == 137) = some (3, 137, 1, 40, 654) := by decide +kernel
section CS6
variable {xs : Nat → Int32} {L J d : Nat} {K : Option Value → List pE → Prop} {f : Nat → Int32} {G G1 G' : List pE} {n lim ft fp : Int32} {lv : pL} {cc : Nat → Int32} {np nt nl nn oc : Int32} {ot : Nat → Nat} {tn ln mn : Nat → Int64} {nx0 pl0 num0 : Int32} {tk0 : Nat} {nm0 : Int64} {nx1 pl1 num1 : Int32} {tk1 : Nat} {nm1 : Int64} {nx2 pl2 num2 : Int32} {tk2 : Nat} {nm2 : Int64} {nx3 pl3 num3 : Int32} {tk3 : Nat} {nm3 : Int64} {nx4 pl4 num4 : Int32} {tk4 : Nat} {nm4 : Int64} {nx5 pl5 num5 : Int32} {tk5 : Nat} {nm5 : Int64} {nx6 pl6 num6 : Int32} {tk6 : Nat} {nm6 : Int64} {nx7 pl7 num7 : Int32} {tk7 : Nat} {nm7 : Int64} {nx8 pl8 num8 : Int32} {tk8 : Nat} {nm8 : Int64}
theorem y_asn {M : pM} {pc : Nat} {r : List Value} {j : Fin 4} {x : Nat} (hd : decode M.code pc = .ok (Instr.astore_n j, 1)) (hl : (j : Nat) < M.maxL) (hk : x_Gd xs L J d M K (pc + 1) (pm_put1 lv (j : Nat) (.ref x)) r G) : x_Gd xs L J d M K pc lv (.ref x :: r) G := y_st hd ⟨rfl, rfl, rfl, by dsimp only [pm_step]; rw [if_pos hl]⟩ hk
set_option maxHeartbeats 2000000 in
set_option maxRecDepth 100000 in
theorem c_force_0 (h : CS f n lim nx0 tk0 pl0 num0 nm0 ft fp cc np nt nl nn oc ot tn ln mn G) (hno : ∃ i : Nat, (i : Int) < oc.toInt ∧ ot i = tk0) : x_Gd xs L J (d + 2) m_43 (fun r G' => r = some (.int 0) ∧ x_sl G' 1 9 = some (.int pl0) ∧ x_sl G' 1 8 = some (.int (Int32.ofInt 3))) 0 (lv_args 0 [.ref 3, .ref 1, .ref 33]) [] G := by
  have g0 : pm_get (lv_args 0 [.ref 3, .ref 1, .ref 33]) 0 = some (.ref 3) := rfl
  have g1 : pm_get (lv_args 0 [.ref 3, .ref 1, .ref 33]) 1 = some (.ref 1) := rfl
  have g2 : pm_get (lv_args 0 [.ref 3, .ref 1, .ref 33]) 2 = some (.ref 33) := rfl
  generalize (lv_args 0 [.ref 3, .ref 1, .ref 33]) = lv at g0 g1 g2 ⊢
  refine y_aln (e_43 (0, .aload_n 0, 1) (List.mem_of_getElem? (i := 0) rfl)) g0 ?_
  refine y_aln (e_43 (1, .aload_n 1, 1) (List.mem_of_getElem? (i := 1) rfl)) g1 ?_
  refine y_c2 (K' := _) (e_43 (2, .invokevirtual 137, 3) (List.mem_of_getElem? (i := 2) rfl)) ⟨rfl, rfl, rfl⟩ t_3_137 ⟨by decide, by decide, by decide, by decide⟩ m_40_ok rfl (by decide) (y_recv h.1.I th0_p.2.2.1 ⟨rfl, rfl⟩) (Nat.le_of_ble_eq_true rfl) (Nat.le_of_ble_eq_true rfl) (k_once_no h hno) (fun r1 Gc hc1 => ?_)
  obtain ⟨rfl, hz⟩ := hc1
  simp only [Option.toList_some, Option.toList_none, List.cons_append, List.nil_append]
  refine y_ifc (e_43 (5, .ifCond .eq 18, 3) (List.mem_of_getElem? (i := 3) rfl)) rfl (fun _ => ?_) (fun hc => absurd hc (by decide))
  refine y_st (e_43 (23, .iconst 0, 1) (List.mem_of_getElem? (i := 12) rfl)) ⟨rfl, rfl, rfl, rfl⟩ ?_
  exact y_ret (e_43 (24, .ireturn, 1) (List.mem_of_getElem? (i := 13) rfl)) ⟨rfl, y_rb (Or.inl rfl)⟩ ⟨rfl, hz⟩
set_option maxHeartbeats 2000000 in
set_option maxRecDepth 100000 in
theorem c_force_1 (h : CS f n lim nx0 tk0 pl0 num0 nm0 ft fp cc np nt nl nn oc ot tn ln mn G) (hno0 : ∀ i : Nat, (i : Int) < oc.toInt → ot i ≠ tk0) (h5 : oc.toInt < 5) (hN1 : NXc f n lim nx0 num0 nm0 nx1 tk1 pl1 num1 nm1) (hno : tk1 ≠ 2 ∨ num1.toInt < 1 ∨ 9 < num1.toInt) : x_Gd xs L J (d + 4) m_43 (fun r G' => r = some (.int 0) ∧ x_sl G' 1 9 = some (.int pl1) ∧ x_sl G' 1 8 = some (.int (t_kd tk1))) 0 (lv_args 0 [.ref 3, .ref 1, .ref 33]) [] G := by
  have g0 : pm_get (lv_args 0 [.ref 3, .ref 1, .ref 33]) 0 = some (.ref 3) := rfl
  have g1 : pm_get (lv_args 0 [.ref 3, .ref 1, .ref 33]) 1 = some (.ref 1) := rfl
  have g2 : pm_get (lv_args 0 [.ref 3, .ref 1, .ref 33]) 2 = some (.ref 33) := rfl
  generalize (lv_args 0 [.ref 3, .ref 1, .ref 33]) = lv at g0 g1 g2 ⊢
  refine y_aln (e_43 (0, .aload_n 0, 1) (List.mem_of_getElem? (i := 0) rfl)) g0 ?_
  refine y_aln (e_43 (1, .aload_n 1, 1) (List.mem_of_getElem? (i := 1) rfl)) g1 ?_
  refine y_c2 (K' := _) (e_43 (2, .invokevirtual 137, 3) (List.mem_of_getElem? (i := 2) rfl)) ⟨rfl, rfl, rfl⟩ t_3_137 ⟨by decide, by decide, by decide, by decide⟩ m_40_ok rfl (by decide) (y_recv h.1.I th0_p.2.2.1 ⟨rfl, rfl⟩) (Nat.le_of_ble_eq_true rfl) (Nat.le_of_ble_eq_true rfl) (k_once_yes h hno0 h5 hN1) (fun r1 Gc hc1 => ?_)
  obtain ⟨rfl, q1⟩ := hc1
  simp only [Option.toList_some, Option.toList_none, List.cons_append, List.nil_append]
  refine y_ifc (e_43 (5, .ifCond .eq 18, 3) (List.mem_of_getElem? (i := 3) rfl)) rfl (fun hc => absurd hc (by decide)) (fun _ => ?_)
  refine y_aln (e_43 (8, .aload_n 1, 1) (List.mem_of_getElem? (i := 4) rfl)) g1 ?_
  refine y_st (e_43 (9, .iconst 1, 1) (List.mem_of_getElem? (i := 5) rfl)) ⟨rfl, rfl, rfl, rfl⟩ ?_
  refine y_st (e_43 (10, .bipush 9, 2) (List.mem_of_getElem? (i := 6) rfl)) ⟨rfl, rfl, rfl, rfl⟩ ?_
  refine y_aln (e_43 (12, .aload_n 0, 1) (List.mem_of_getElem? (i := 7) rfl)) g0 ?_
  refine y_getf q1.1.I th0_p.2.2.1 (e_43 (13, .getfield 9, 3) (List.mem_of_getElem? (i := 8) rfl)) u_3_9 ⟨rfl, rfl⟩ q1.2.a3_0 ?_
  refine y_st (e_43 (16, .iconst 0, 1) (List.mem_of_getElem? (i := 9) rfl)) ⟨rfl, rfl, rfl, rfl⟩ ?_
  refine y_c5 (K' := _) (e_43 (17, .invokevirtual 141, 3) (List.mem_of_getElem? (i := 10) rfl)) ⟨rfl, rfl, rfl⟩ t_3_141 ⟨by decide, by decide, by decide, by decide⟩ m_28_ok rfl (by decide) (y_recv q1.1.I q1.1.t ⟨rfl, rfl⟩) (Nat.le_of_ble_eq_true rfl) (Nat.le_of_ble_eq_true rfl) (k_takeN_no q1.1 hno) (fun r1 Gc hc1 => ?_)
  obtain ⟨rfl, hz⟩ := hc1
  simp only [Option.toList_some, Option.toList_none, List.cons_append, List.nil_append]
  refine y_ifc (e_43 (20, .ifCond .ne 5, 3) (List.mem_of_getElem? (i := 11) rfl)) rfl (fun hc => absurd hc (by decide)) (fun _ => ?_)
  refine y_st (e_43 (23, .iconst 0, 1) (List.mem_of_getElem? (i := 12) rfl)) ⟨rfl, rfl, rfl, rfl⟩ ?_
  exact y_ret (e_43 (24, .ireturn, 1) (List.mem_of_getElem? (i := 13) rfl)) ⟨rfl, y_rb (Or.inl rfl)⟩ ⟨rfl, hz.s9, hz.s8⟩
set_option maxHeartbeats 2000000 in
set_option maxRecDepth 100000 in
theorem c_force_ok (h : CS f n lim nx0 tk0 pl0 num0 nm0 ft fp cc np nt nl nn oc ot tn ln mn G) (hno0 : ∀ i : Nat, (i : Int) < oc.toInt → ot i ≠ tk0) (h5 : oc.toInt < 5) (hN1 : NXc f n lim nx0 num0 nm0 nx1 tk1 pl1 num1 nm1) (htk1 : tk1 = 2) (a1 : 1 ≤ num1.toInt) (b1 : num1.toInt ≤ 9) (hN2 : NXc f n lim nx1 num1 nm1 nx2 tk2 pl2 num2 nm2) : x_Gd xs L J (d + 4) m_43 (fun r G' => r = some (.int 1) ∧ CS f n lim nx2 tk2 pl2 num2 nm2 ft fp (fun j => if j = 10 then num1 else cc j) np nt nl nn (oc + Int32.ofInt 1) (fun j => if j = oc.toInt.toNat then tk0 else ot j) tn ln mn G') 0 (lv_args 0 [.ref 3, .ref 1, .ref 33]) [] G := by
  have g0 : pm_get (lv_args 0 [.ref 3, .ref 1, .ref 33]) 0 = some (.ref 3) := rfl
  have g1 : pm_get (lv_args 0 [.ref 3, .ref 1, .ref 33]) 1 = some (.ref 1) := rfl
  have g2 : pm_get (lv_args 0 [.ref 3, .ref 1, .ref 33]) 2 = some (.ref 33) := rfl
  generalize (lv_args 0 [.ref 3, .ref 1, .ref 33]) = lv at g0 g1 g2 ⊢
  refine y_aln (e_43 (0, .aload_n 0, 1) (List.mem_of_getElem? (i := 0) rfl)) g0 ?_
  refine y_aln (e_43 (1, .aload_n 1, 1) (List.mem_of_getElem? (i := 1) rfl)) g1 ?_
  refine y_c2 (K' := _) (e_43 (2, .invokevirtual 137, 3) (List.mem_of_getElem? (i := 2) rfl)) ⟨rfl, rfl, rfl⟩ t_3_137 ⟨by decide, by decide, by decide, by decide⟩ m_40_ok rfl (by decide) (y_recv h.1.I th0_p.2.2.1 ⟨rfl, rfl⟩) (Nat.le_of_ble_eq_true rfl) (Nat.le_of_ble_eq_true rfl) (k_once_yes h hno0 h5 hN1) (fun r1 Gc hc1 => ?_)
  obtain ⟨rfl, q1⟩ := hc1
  simp only [Option.toList_some, Option.toList_none, List.cons_append, List.nil_append]
  refine y_ifc (e_43 (5, .ifCond .eq 18, 3) (List.mem_of_getElem? (i := 3) rfl)) rfl (fun hc => absurd hc (by decide)) (fun _ => ?_)
  refine y_aln (e_43 (8, .aload_n 1, 1) (List.mem_of_getElem? (i := 4) rfl)) g1 ?_
  refine y_st (e_43 (9, .iconst 1, 1) (List.mem_of_getElem? (i := 5) rfl)) ⟨rfl, rfl, rfl, rfl⟩ ?_
  refine y_st (e_43 (10, .bipush 9, 2) (List.mem_of_getElem? (i := 6) rfl)) ⟨rfl, rfl, rfl, rfl⟩ ?_
  refine y_aln (e_43 (12, .aload_n 0, 1) (List.mem_of_getElem? (i := 7) rfl)) g0 ?_
  refine y_getf q1.1.I th0_p.2.2.1 (e_43 (13, .getfield 9, 3) (List.mem_of_getElem? (i := 8) rfl)) u_3_9 ⟨rfl, rfl⟩ q1.2.a3_0 ?_
  refine y_st (e_43 (16, .iconst 0, 1) (List.mem_of_getElem? (i := 9) rfl)) ⟨rfl, rfl, rfl, rfl⟩ ?_
  refine y_c5 (K' := _) (e_43 (17, .invokevirtual 141, 3) (List.mem_of_getElem? (i := 10) rfl)) ⟨rfl, rfl, rfl⟩ t_3_141 ⟨by decide, by decide, by decide, by decide⟩ m_28_ok rfl (by decide) (y_recv q1.1.I q1.1.t ⟨rfl, rfl⟩) (Nat.le_of_ble_eq_true rfl) (Nat.le_of_ble_eq_true rfl) (k_takeN_yes q1.1 htk1 a1 b1 th0_p.2.2.2.1 ⟨rfl, rfl⟩ (by decide) ⟨by decide, by decide⟩ (y_okA (by rw [show (x_tb 19).2.2.2 = [(4, ((0 : Nat), (-2147483648 : Int), (2147483647 : Int)))] from rfl]; exact y_one (by decide))) (by decide) (by decide) hN2) (fun r1 Gc hc1 => ?_)
  obtain ⟨rfl, Gr2, ur2, hz2⟩ := hc1
  simp only [Option.toList_some, Option.toList_none, List.cons_append, List.nil_append]
  have hI2 := q1.1.I.upd ur2 th0_p.2.2.2.1 (y_okA (by rw [show (x_tb 19).2.2.2 = [(4, ((0 : Nat), (-2147483648 : Int), (2147483647 : Int)))] from rfl]; exact y_one (by decide)))
  have q2 := (q1.oth ur2 hI2 (by decide) (by decide) rfl).nxt hz2
  refine y_ifc (e_43 (20, .ifCond .ne 5, 3) (List.mem_of_getElem? (i := 11) rfl)) rfl (fun _ => ?_) (fun hc => absurd hc (by decide))
  have r0 : x_sl Gc 4 0 = some (.int num1) := by rw [hz2.ot 4 0 (by decide), ur2.2.1, if_pos ⟨rfl, rfl⟩]
  refine y_aln (e_43 (25, .aload_n 2, 1) (List.mem_of_getElem? (i := 14) rfl)) g2 ?_
  refine y_aln (e_43 (26, .aload_n 0, 1) (List.mem_of_getElem? (i := 15) rfl)) g0 ?_
  refine y_getf q2.1.I th0_p.2.2.1 (e_43 (27, .getfield 9, 3) (List.mem_of_getElem? (i := 16) rfl)) u_3_9 ⟨rfl, rfl⟩ q2.2.a3_0 ?_
  refine y_st (e_43 (30, .iconst 0, 1) (List.mem_of_getElem? (i := 17) rfl)) ⟨rfl, rfl, rfl, rfl⟩ ?_
  refine y_iald q2.1.I th0_p.2.2.2.1 (e_43 (31, .iaload, 1) (List.mem_of_getElem? (i := 18) rfl)) ⟨rfl, rfl⟩ (by decide) r0 ?_
  refine y_putf (f := (0, -2147483648, 2147483647)) q2.1.I th0_p.2.2.2.2.2.2.1 (e_43 (32, .putfield 148, 3) (List.mem_of_getElem? (i := 19) rfl)) u_3_148 ⟨rfl, rfl, by decide, rfl, rfl⟩ ⟨_, rfl, (x_i32 _).1, (x_i32 _).2⟩ (fun Gp up => ?_)
  have hp : CS f n lim nx2 tk2 pl2 num2 nm2 ft fp (fun j => if j = 10 then num1 else cc j) np nt nl nn (oc + Int32.ofInt 1) (fun j => if j = oc.toInt.toNat then tk0 else ot j) tn ln mn Gp := ⟨q2.1.other up (by decide) (by decide) (q2.1.I.upd up th0_p.2.2.2.2.2.2.1 (y_okA rfl)), q2.2.u33_2 (fun c i => by rw [up.2.1])⟩
  refine y_st (e_43 (35, .iconst 1, 1) (List.mem_of_getElem? (i := 20) rfl)) ⟨rfl, rfl, rfl, rfl⟩ ?_
  exact y_ret (e_43 (36, .ireturn, 1) (List.mem_of_getElem? (i := 21) rfl)) ⟨rfl, y_rb (Or.inr rfl)⟩ ⟨rfl, hp⟩
set_option maxHeartbeats 2000000 in
set_option maxRecDepth 100000 in
theorem c_fade_0 (h : CS f n lim nx0 tk0 pl0 num0 nm0 ft fp cc np nt nl nn oc ot tn ln mn G) (hno : ∃ i : Nat, (i : Int) < oc.toInt ∧ ot i = tk0) : x_Gd xs L J (d + 2) m_44 (fun r G' => r = some (.int 0) ∧ x_sl G' 1 9 = some (.int pl0) ∧ x_sl G' 1 8 = some (.int (Int32.ofInt 3))) 0 (lv_args 0 [.ref 3, .ref 1, .ref 33]) [] G := by
  have g0 : pm_get (lv_args 0 [.ref 3, .ref 1, .ref 33]) 0 = some (.ref 3) := rfl
  have g1 : pm_get (lv_args 0 [.ref 3, .ref 1, .ref 33]) 1 = some (.ref 1) := rfl
  have g2 : pm_get (lv_args 0 [.ref 3, .ref 1, .ref 33]) 2 = some (.ref 33) := rfl
  generalize (lv_args 0 [.ref 3, .ref 1, .ref 33]) = lv at g0 g1 g2 ⊢
  refine y_aln (e_44 (0, .aload_n 0, 1) (List.mem_of_getElem? (i := 0) rfl)) g0 ?_
  refine y_aln (e_44 (1, .aload_n 1, 1) (List.mem_of_getElem? (i := 1) rfl)) g1 ?_
  refine y_c2 (K' := _) (e_44 (2, .invokevirtual 137, 3) (List.mem_of_getElem? (i := 2) rfl)) ⟨rfl, rfl, rfl⟩ t_3_137 ⟨by decide, by decide, by decide, by decide⟩ m_40_ok rfl (by decide) (y_recv h.1.I th0_p.2.2.1 ⟨rfl, rfl⟩) (Nat.le_of_ble_eq_true rfl) (Nat.le_of_ble_eq_true rfl) (k_once_no h hno) (fun r1 Gc hc1 => ?_)
  obtain ⟨rfl, hz⟩ := hc1
  simp only [Option.toList_some, Option.toList_none, List.cons_append, List.nil_append]
  refine y_ifc (e_44 (5, .ifCond .eq 18, 3) (List.mem_of_getElem? (i := 3) rfl)) rfl (fun _ => ?_) (fun hc => absurd hc (by decide))
  refine y_st (e_44 (23, .iconst 0, 1) (List.mem_of_getElem? (i := 12) rfl)) ⟨rfl, rfl, rfl, rfl⟩ ?_
  exact y_ret (e_44 (24, .ireturn, 1) (List.mem_of_getElem? (i := 13) rfl)) ⟨rfl, y_rb (Or.inl rfl)⟩ ⟨rfl, hz⟩
set_option maxHeartbeats 2000000 in
set_option maxRecDepth 100000 in
theorem c_fade_1 (h : CS f n lim nx0 tk0 pl0 num0 nm0 ft fp cc np nt nl nn oc ot tn ln mn G) (hno0 : ∀ i : Nat, (i : Int) < oc.toInt → ot i ≠ tk0) (h5 : oc.toInt < 5) (hN1 : NXc f n lim nx0 num0 nm0 nx1 tk1 pl1 num1 nm1) (hno : tk1 ≠ 2 ∨ num1.toInt < 1 ∨ 20 < num1.toInt) : x_Gd xs L J (d + 4) m_44 (fun r G' => r = some (.int 0) ∧ x_sl G' 1 9 = some (.int pl1) ∧ x_sl G' 1 8 = some (.int (t_kd tk1))) 0 (lv_args 0 [.ref 3, .ref 1, .ref 33]) [] G := by
  have g0 : pm_get (lv_args 0 [.ref 3, .ref 1, .ref 33]) 0 = some (.ref 3) := rfl
  have g1 : pm_get (lv_args 0 [.ref 3, .ref 1, .ref 33]) 1 = some (.ref 1) := rfl
  have g2 : pm_get (lv_args 0 [.ref 3, .ref 1, .ref 33]) 2 = some (.ref 33) := rfl
  generalize (lv_args 0 [.ref 3, .ref 1, .ref 33]) = lv at g0 g1 g2 ⊢
  refine y_aln (e_44 (0, .aload_n 0, 1) (List.mem_of_getElem? (i := 0) rfl)) g0 ?_
  refine y_aln (e_44 (1, .aload_n 1, 1) (List.mem_of_getElem? (i := 1) rfl)) g1 ?_
  refine y_c2 (K' := _) (e_44 (2, .invokevirtual 137, 3) (List.mem_of_getElem? (i := 2) rfl)) ⟨rfl, rfl, rfl⟩ t_3_137 ⟨by decide, by decide, by decide, by decide⟩ m_40_ok rfl (by decide) (y_recv h.1.I th0_p.2.2.1 ⟨rfl, rfl⟩) (Nat.le_of_ble_eq_true rfl) (Nat.le_of_ble_eq_true rfl) (k_once_yes h hno0 h5 hN1) (fun r1 Gc hc1 => ?_)
  obtain ⟨rfl, q1⟩ := hc1
  simp only [Option.toList_some, Option.toList_none, List.cons_append, List.nil_append]
  refine y_ifc (e_44 (5, .ifCond .eq 18, 3) (List.mem_of_getElem? (i := 3) rfl)) rfl (fun hc => absurd hc (by decide)) (fun _ => ?_)
  refine y_aln (e_44 (8, .aload_n 1, 1) (List.mem_of_getElem? (i := 4) rfl)) g1 ?_
  refine y_st (e_44 (9, .iconst 1, 1) (List.mem_of_getElem? (i := 5) rfl)) ⟨rfl, rfl, rfl, rfl⟩ ?_
  refine y_st (e_44 (10, .bipush 20, 2) (List.mem_of_getElem? (i := 6) rfl)) ⟨rfl, rfl, rfl, rfl⟩ ?_
  refine y_aln (e_44 (12, .aload_n 0, 1) (List.mem_of_getElem? (i := 7) rfl)) g0 ?_
  refine y_getf q1.1.I th0_p.2.2.1 (e_44 (13, .getfield 9, 3) (List.mem_of_getElem? (i := 8) rfl)) u_3_9 ⟨rfl, rfl⟩ q1.2.a3_0 ?_
  refine y_st (e_44 (16, .iconst 0, 1) (List.mem_of_getElem? (i := 9) rfl)) ⟨rfl, rfl, rfl, rfl⟩ ?_
  refine y_c5 (K' := _) (e_44 (17, .invokevirtual 141, 3) (List.mem_of_getElem? (i := 10) rfl)) ⟨rfl, rfl, rfl⟩ t_3_141 ⟨by decide, by decide, by decide, by decide⟩ m_28_ok rfl (by decide) (y_recv q1.1.I q1.1.t ⟨rfl, rfl⟩) (Nat.le_of_ble_eq_true rfl) (Nat.le_of_ble_eq_true rfl) (k_takeN_no q1.1 hno) (fun r1 Gc hc1 => ?_)
  obtain ⟨rfl, hz⟩ := hc1
  simp only [Option.toList_some, Option.toList_none, List.cons_append, List.nil_append]
  refine y_ifc (e_44 (20, .ifCond .ne 5, 3) (List.mem_of_getElem? (i := 11) rfl)) rfl (fun hc => absurd hc (by decide)) (fun _ => ?_)
  refine y_st (e_44 (23, .iconst 0, 1) (List.mem_of_getElem? (i := 12) rfl)) ⟨rfl, rfl, rfl, rfl⟩ ?_
  exact y_ret (e_44 (24, .ireturn, 1) (List.mem_of_getElem? (i := 13) rfl)) ⟨rfl, y_rb (Or.inl rfl)⟩ ⟨rfl, hz.s9, hz.s8⟩
set_option maxHeartbeats 2000000 in
set_option maxRecDepth 100000 in
theorem c_fade_ok (h : CS f n lim nx0 tk0 pl0 num0 nm0 ft fp cc np nt nl nn oc ot tn ln mn G) (hno0 : ∀ i : Nat, (i : Int) < oc.toInt → ot i ≠ tk0) (h5 : oc.toInt < 5) (hN1 : NXc f n lim nx0 num0 nm0 nx1 tk1 pl1 num1 nm1) (htk1 : tk1 = 2) (a1 : 1 ≤ num1.toInt) (b1 : num1.toInt ≤ 20) (hN2 : NXc f n lim nx1 num1 nm1 nx2 tk2 pl2 num2 nm2) : x_Gd xs L J (d + 4) m_44 (fun r G' => r = some (.int 1) ∧ CS f n lim nx2 tk2 pl2 num2 nm2 ft fp (fun j => if j = 11 then num1 else cc j) np nt nl nn (oc + Int32.ofInt 1) (fun j => if j = oc.toInt.toNat then tk0 else ot j) tn ln mn G') 0 (lv_args 0 [.ref 3, .ref 1, .ref 33]) [] G := by
  have g0 : pm_get (lv_args 0 [.ref 3, .ref 1, .ref 33]) 0 = some (.ref 3) := rfl
  have g1 : pm_get (lv_args 0 [.ref 3, .ref 1, .ref 33]) 1 = some (.ref 1) := rfl
  have g2 : pm_get (lv_args 0 [.ref 3, .ref 1, .ref 33]) 2 = some (.ref 33) := rfl
  generalize (lv_args 0 [.ref 3, .ref 1, .ref 33]) = lv at g0 g1 g2 ⊢
  refine y_aln (e_44 (0, .aload_n 0, 1) (List.mem_of_getElem? (i := 0) rfl)) g0 ?_
  refine y_aln (e_44 (1, .aload_n 1, 1) (List.mem_of_getElem? (i := 1) rfl)) g1 ?_
  refine y_c2 (K' := _) (e_44 (2, .invokevirtual 137, 3) (List.mem_of_getElem? (i := 2) rfl)) ⟨rfl, rfl, rfl⟩ t_3_137 ⟨by decide, by decide, by decide, by decide⟩ m_40_ok rfl (by decide) (y_recv h.1.I th0_p.2.2.1 ⟨rfl, rfl⟩) (Nat.le_of_ble_eq_true rfl) (Nat.le_of_ble_eq_true rfl) (k_once_yes h hno0 h5 hN1) (fun r1 Gc hc1 => ?_)
  obtain ⟨rfl, q1⟩ := hc1
  simp only [Option.toList_some, Option.toList_none, List.cons_append, List.nil_append]
  refine y_ifc (e_44 (5, .ifCond .eq 18, 3) (List.mem_of_getElem? (i := 3) rfl)) rfl (fun hc => absurd hc (by decide)) (fun _ => ?_)
  refine y_aln (e_44 (8, .aload_n 1, 1) (List.mem_of_getElem? (i := 4) rfl)) g1 ?_
  refine y_st (e_44 (9, .iconst 1, 1) (List.mem_of_getElem? (i := 5) rfl)) ⟨rfl, rfl, rfl, rfl⟩ ?_
  refine y_st (e_44 (10, .bipush 20, 2) (List.mem_of_getElem? (i := 6) rfl)) ⟨rfl, rfl, rfl, rfl⟩ ?_
  refine y_aln (e_44 (12, .aload_n 0, 1) (List.mem_of_getElem? (i := 7) rfl)) g0 ?_
  refine y_getf q1.1.I th0_p.2.2.1 (e_44 (13, .getfield 9, 3) (List.mem_of_getElem? (i := 8) rfl)) u_3_9 ⟨rfl, rfl⟩ q1.2.a3_0 ?_
  refine y_st (e_44 (16, .iconst 0, 1) (List.mem_of_getElem? (i := 9) rfl)) ⟨rfl, rfl, rfl, rfl⟩ ?_
  refine y_c5 (K' := _) (e_44 (17, .invokevirtual 141, 3) (List.mem_of_getElem? (i := 10) rfl)) ⟨rfl, rfl, rfl⟩ t_3_141 ⟨by decide, by decide, by decide, by decide⟩ m_28_ok rfl (by decide) (y_recv q1.1.I q1.1.t ⟨rfl, rfl⟩) (Nat.le_of_ble_eq_true rfl) (Nat.le_of_ble_eq_true rfl) (k_takeN_yes q1.1 htk1 a1 b1 th0_p.2.2.2.1 ⟨rfl, rfl⟩ (by decide) ⟨by decide, by decide⟩ (y_okA (by rw [show (x_tb 19).2.2.2 = [(4, ((0 : Nat), (-2147483648 : Int), (2147483647 : Int)))] from rfl]; exact y_one (by decide))) (by decide) (by decide) hN2) (fun r1 Gc hc1 => ?_)
  obtain ⟨rfl, Gr2, ur2, hz2⟩ := hc1
  simp only [Option.toList_some, Option.toList_none, List.cons_append, List.nil_append]
  have hI2 := q1.1.I.upd ur2 th0_p.2.2.2.1 (y_okA (by rw [show (x_tb 19).2.2.2 = [(4, ((0 : Nat), (-2147483648 : Int), (2147483647 : Int)))] from rfl]; exact y_one (by decide)))
  have q2 := (q1.oth ur2 hI2 (by decide) (by decide) rfl).nxt hz2
  refine y_ifc (e_44 (20, .ifCond .ne 5, 3) (List.mem_of_getElem? (i := 11) rfl)) rfl (fun _ => ?_) (fun hc => absurd hc (by decide))
  have r0 : x_sl Gc 4 0 = some (.int num1) := by rw [hz2.ot 4 0 (by decide), ur2.2.1, if_pos ⟨rfl, rfl⟩]
  refine y_aln (e_44 (25, .aload_n 2, 1) (List.mem_of_getElem? (i := 14) rfl)) g2 ?_
  refine y_aln (e_44 (26, .aload_n 0, 1) (List.mem_of_getElem? (i := 15) rfl)) g0 ?_
  refine y_getf q2.1.I th0_p.2.2.1 (e_44 (27, .getfield 9, 3) (List.mem_of_getElem? (i := 16) rfl)) u_3_9 ⟨rfl, rfl⟩ q2.2.a3_0 ?_
  refine y_st (e_44 (30, .iconst 0, 1) (List.mem_of_getElem? (i := 17) rfl)) ⟨rfl, rfl, rfl, rfl⟩ ?_
  refine y_iald q2.1.I th0_p.2.2.2.1 (e_44 (31, .iaload, 1) (List.mem_of_getElem? (i := 18) rfl)) ⟨rfl, rfl⟩ (by decide) r0 ?_
  refine y_putf (f := (0, -2147483648, 2147483647)) q2.1.I th0_p.2.2.2.2.2.2.1 (e_44 (32, .putfield 151, 3) (List.mem_of_getElem? (i := 19) rfl)) u_3_151 ⟨rfl, rfl, by decide, rfl, rfl⟩ ⟨_, rfl, (x_i32 _).1, (x_i32 _).2⟩ (fun Gp up => ?_)
  have hp : CS f n lim nx2 tk2 pl2 num2 nm2 ft fp (fun j => if j = 11 then num1 else cc j) np nt nl nn (oc + Int32.ofInt 1) (fun j => if j = oc.toInt.toNat then tk0 else ot j) tn ln mn Gp := ⟨q2.1.other up (by decide) (by decide) (q2.1.I.upd up th0_p.2.2.2.2.2.2.1 (y_okA rfl)), q2.2.u33_3 (fun c i => by rw [up.2.1])⟩
  refine y_st (e_44 (35, .iconst 1, 1) (List.mem_of_getElem? (i := 20) rfl)) ⟨rfl, rfl, rfl, rfl⟩ ?_
  exact y_ret (e_44 (36, .ireturn, 1) (List.mem_of_getElem? (i := 21) rfl)) ⟨rfl, y_rb (Or.inr rfl)⟩ ⟨rfl, hp⟩
set_option maxHeartbeats 2000000 in
set_option maxRecDepth 100000 in
theorem c_held_0 (h : CS f n lim nx0 tk0 pl0 num0 nm0 ft fp cc np nt nl nn oc ot tn ln mn G) (hno : ∃ i : Nat, (i : Int) < oc.toInt ∧ ot i = tk0) : x_Gd xs L J (d + 2) m_45 (fun r G' => r = some (.int 0) ∧ x_sl G' 1 9 = some (.int pl0) ∧ x_sl G' 1 8 = some (.int (Int32.ofInt 3))) 0 (lv_args 0 [.ref 3, .ref 1, .ref 33]) [] G := by
  have g0 : pm_get (lv_args 0 [.ref 3, .ref 1, .ref 33]) 0 = some (.ref 3) := rfl
  have g1 : pm_get (lv_args 0 [.ref 3, .ref 1, .ref 33]) 1 = some (.ref 1) := rfl
  have g2 : pm_get (lv_args 0 [.ref 3, .ref 1, .ref 33]) 2 = some (.ref 33) := rfl
  generalize (lv_args 0 [.ref 3, .ref 1, .ref 33]) = lv at g0 g1 g2 ⊢
  refine y_aln (e_45 (0, .aload_n 0, 1) (List.mem_of_getElem? (i := 0) rfl)) g0 ?_
  refine y_aln (e_45 (1, .aload_n 1, 1) (List.mem_of_getElem? (i := 1) rfl)) g1 ?_
  refine y_c2 (K' := _) (e_45 (2, .invokevirtual 137, 3) (List.mem_of_getElem? (i := 2) rfl)) ⟨rfl, rfl, rfl⟩ t_3_137 ⟨by decide, by decide, by decide, by decide⟩ m_40_ok rfl (by decide) (y_recv h.1.I th0_p.2.2.1 ⟨rfl, rfl⟩) (Nat.le_of_ble_eq_true rfl) (Nat.le_of_ble_eq_true rfl) (k_once_no h hno) (fun r1 Gc hc1 => ?_)
  obtain ⟨rfl, hz⟩ := hc1
  simp only [Option.toList_some, Option.toList_none, List.cons_append, List.nil_append]
  refine y_ifc (e_45 (5, .ifCond .eq 18, 3) (List.mem_of_getElem? (i := 3) rfl)) rfl (fun _ => ?_) (fun hc => absurd hc (by decide))
  refine y_st (e_45 (23, .iconst 0, 1) (List.mem_of_getElem? (i := 12) rfl)) ⟨rfl, rfl, rfl, rfl⟩ ?_
  exact y_ret (e_45 (24, .ireturn, 1) (List.mem_of_getElem? (i := 13) rfl)) ⟨rfl, y_rb (Or.inl rfl)⟩ ⟨rfl, hz⟩
set_option maxHeartbeats 2000000 in
set_option maxRecDepth 100000 in
theorem c_held_1 (h : CS f n lim nx0 tk0 pl0 num0 nm0 ft fp cc np nt nl nn oc ot tn ln mn G) (hno0 : ∀ i : Nat, (i : Int) < oc.toInt → ot i ≠ tk0) (h5 : oc.toInt < 5) (hN1 : NXc f n lim nx0 num0 nm0 nx1 tk1 pl1 num1 nm1) (hno : tk1 ≠ 2 ∨ num1.toInt < 0 ∨ 99 < num1.toInt) : x_Gd xs L J (d + 4) m_45 (fun r G' => r = some (.int 0) ∧ x_sl G' 1 9 = some (.int pl1) ∧ x_sl G' 1 8 = some (.int (t_kd tk1))) 0 (lv_args 0 [.ref 3, .ref 1, .ref 33]) [] G := by
  have g0 : pm_get (lv_args 0 [.ref 3, .ref 1, .ref 33]) 0 = some (.ref 3) := rfl
  have g1 : pm_get (lv_args 0 [.ref 3, .ref 1, .ref 33]) 1 = some (.ref 1) := rfl
  have g2 : pm_get (lv_args 0 [.ref 3, .ref 1, .ref 33]) 2 = some (.ref 33) := rfl
  generalize (lv_args 0 [.ref 3, .ref 1, .ref 33]) = lv at g0 g1 g2 ⊢
  refine y_aln (e_45 (0, .aload_n 0, 1) (List.mem_of_getElem? (i := 0) rfl)) g0 ?_
  refine y_aln (e_45 (1, .aload_n 1, 1) (List.mem_of_getElem? (i := 1) rfl)) g1 ?_
  refine y_c2 (K' := _) (e_45 (2, .invokevirtual 137, 3) (List.mem_of_getElem? (i := 2) rfl)) ⟨rfl, rfl, rfl⟩ t_3_137 ⟨by decide, by decide, by decide, by decide⟩ m_40_ok rfl (by decide) (y_recv h.1.I th0_p.2.2.1 ⟨rfl, rfl⟩) (Nat.le_of_ble_eq_true rfl) (Nat.le_of_ble_eq_true rfl) (k_once_yes h hno0 h5 hN1) (fun r1 Gc hc1 => ?_)
  obtain ⟨rfl, q1⟩ := hc1
  simp only [Option.toList_some, Option.toList_none, List.cons_append, List.nil_append]
  refine y_ifc (e_45 (5, .ifCond .eq 18, 3) (List.mem_of_getElem? (i := 3) rfl)) rfl (fun hc => absurd hc (by decide)) (fun _ => ?_)
  refine y_aln (e_45 (8, .aload_n 1, 1) (List.mem_of_getElem? (i := 4) rfl)) g1 ?_
  refine y_st (e_45 (9, .iconst 0, 1) (List.mem_of_getElem? (i := 5) rfl)) ⟨rfl, rfl, rfl, rfl⟩ ?_
  refine y_st (e_45 (10, .bipush 99, 2) (List.mem_of_getElem? (i := 6) rfl)) ⟨rfl, rfl, rfl, rfl⟩ ?_
  refine y_aln (e_45 (12, .aload_n 0, 1) (List.mem_of_getElem? (i := 7) rfl)) g0 ?_
  refine y_getf q1.1.I th0_p.2.2.1 (e_45 (13, .getfield 9, 3) (List.mem_of_getElem? (i := 8) rfl)) u_3_9 ⟨rfl, rfl⟩ q1.2.a3_0 ?_
  refine y_st (e_45 (16, .iconst 0, 1) (List.mem_of_getElem? (i := 9) rfl)) ⟨rfl, rfl, rfl, rfl⟩ ?_
  refine y_c5 (K' := _) (e_45 (17, .invokevirtual 141, 3) (List.mem_of_getElem? (i := 10) rfl)) ⟨rfl, rfl, rfl⟩ t_3_141 ⟨by decide, by decide, by decide, by decide⟩ m_28_ok rfl (by decide) (y_recv q1.1.I q1.1.t ⟨rfl, rfl⟩) (Nat.le_of_ble_eq_true rfl) (Nat.le_of_ble_eq_true rfl) (k_takeN_no q1.1 hno) (fun r1 Gc hc1 => ?_)
  obtain ⟨rfl, hz⟩ := hc1
  simp only [Option.toList_some, Option.toList_none, List.cons_append, List.nil_append]
  refine y_ifc (e_45 (20, .ifCond .ne 5, 3) (List.mem_of_getElem? (i := 11) rfl)) rfl (fun hc => absurd hc (by decide)) (fun _ => ?_)
  refine y_st (e_45 (23, .iconst 0, 1) (List.mem_of_getElem? (i := 12) rfl)) ⟨rfl, rfl, rfl, rfl⟩ ?_
  exact y_ret (e_45 (24, .ireturn, 1) (List.mem_of_getElem? (i := 13) rfl)) ⟨rfl, y_rb (Or.inl rfl)⟩ ⟨rfl, hz.s9, hz.s8⟩
set_option maxHeartbeats 2000000 in
set_option maxRecDepth 100000 in
theorem c_held_ok (h : CS f n lim nx0 tk0 pl0 num0 nm0 ft fp cc np nt nl nn oc ot tn ln mn G) (hno0 : ∀ i : Nat, (i : Int) < oc.toInt → ot i ≠ tk0) (h5 : oc.toInt < 5) (hN1 : NXc f n lim nx0 num0 nm0 nx1 tk1 pl1 num1 nm1) (htk1 : tk1 = 2) (a1 : 0 ≤ num1.toInt) (b1 : num1.toInt ≤ 99) (hN2 : NXc f n lim nx1 num1 nm1 nx2 tk2 pl2 num2 nm2) : x_Gd xs L J (d + 4) m_45 (fun r G' => r = some (.int 1) ∧ CS f n lim nx2 tk2 pl2 num2 nm2 ft fp (fun j => if j = 12 then num1 else cc j) np nt nl nn (oc + Int32.ofInt 1) (fun j => if j = oc.toInt.toNat then tk0 else ot j) tn ln mn G') 0 (lv_args 0 [.ref 3, .ref 1, .ref 33]) [] G := by
  have g0 : pm_get (lv_args 0 [.ref 3, .ref 1, .ref 33]) 0 = some (.ref 3) := rfl
  have g1 : pm_get (lv_args 0 [.ref 3, .ref 1, .ref 33]) 1 = some (.ref 1) := rfl
  have g2 : pm_get (lv_args 0 [.ref 3, .ref 1, .ref 33]) 2 = some (.ref 33) := rfl
  generalize (lv_args 0 [.ref 3, .ref 1, .ref 33]) = lv at g0 g1 g2 ⊢
  refine y_aln (e_45 (0, .aload_n 0, 1) (List.mem_of_getElem? (i := 0) rfl)) g0 ?_
  refine y_aln (e_45 (1, .aload_n 1, 1) (List.mem_of_getElem? (i := 1) rfl)) g1 ?_
  refine y_c2 (K' := _) (e_45 (2, .invokevirtual 137, 3) (List.mem_of_getElem? (i := 2) rfl)) ⟨rfl, rfl, rfl⟩ t_3_137 ⟨by decide, by decide, by decide, by decide⟩ m_40_ok rfl (by decide) (y_recv h.1.I th0_p.2.2.1 ⟨rfl, rfl⟩) (Nat.le_of_ble_eq_true rfl) (Nat.le_of_ble_eq_true rfl) (k_once_yes h hno0 h5 hN1) (fun r1 Gc hc1 => ?_)
  obtain ⟨rfl, q1⟩ := hc1
  simp only [Option.toList_some, Option.toList_none, List.cons_append, List.nil_append]
  refine y_ifc (e_45 (5, .ifCond .eq 18, 3) (List.mem_of_getElem? (i := 3) rfl)) rfl (fun hc => absurd hc (by decide)) (fun _ => ?_)
  refine y_aln (e_45 (8, .aload_n 1, 1) (List.mem_of_getElem? (i := 4) rfl)) g1 ?_
  refine y_st (e_45 (9, .iconst 0, 1) (List.mem_of_getElem? (i := 5) rfl)) ⟨rfl, rfl, rfl, rfl⟩ ?_
  refine y_st (e_45 (10, .bipush 99, 2) (List.mem_of_getElem? (i := 6) rfl)) ⟨rfl, rfl, rfl, rfl⟩ ?_
  refine y_aln (e_45 (12, .aload_n 0, 1) (List.mem_of_getElem? (i := 7) rfl)) g0 ?_
  refine y_getf q1.1.I th0_p.2.2.1 (e_45 (13, .getfield 9, 3) (List.mem_of_getElem? (i := 8) rfl)) u_3_9 ⟨rfl, rfl⟩ q1.2.a3_0 ?_
  refine y_st (e_45 (16, .iconst 0, 1) (List.mem_of_getElem? (i := 9) rfl)) ⟨rfl, rfl, rfl, rfl⟩ ?_
  refine y_c5 (K' := _) (e_45 (17, .invokevirtual 141, 3) (List.mem_of_getElem? (i := 10) rfl)) ⟨rfl, rfl, rfl⟩ t_3_141 ⟨by decide, by decide, by decide, by decide⟩ m_28_ok rfl (by decide) (y_recv q1.1.I q1.1.t ⟨rfl, rfl⟩) (Nat.le_of_ble_eq_true rfl) (Nat.le_of_ble_eq_true rfl) (k_takeN_yes q1.1 htk1 a1 b1 th0_p.2.2.2.1 ⟨rfl, rfl⟩ (by decide) ⟨by decide, by decide⟩ (y_okA (by rw [show (x_tb 19).2.2.2 = [(4, ((0 : Nat), (-2147483648 : Int), (2147483647 : Int)))] from rfl]; exact y_one (by decide))) (by decide) (by decide) hN2) (fun r1 Gc hc1 => ?_)
  obtain ⟨rfl, Gr2, ur2, hz2⟩ := hc1
  simp only [Option.toList_some, Option.toList_none, List.cons_append, List.nil_append]
  have hI2 := q1.1.I.upd ur2 th0_p.2.2.2.1 (y_okA (by rw [show (x_tb 19).2.2.2 = [(4, ((0 : Nat), (-2147483648 : Int), (2147483647 : Int)))] from rfl]; exact y_one (by decide)))
  have q2 := (q1.oth ur2 hI2 (by decide) (by decide) rfl).nxt hz2
  refine y_ifc (e_45 (20, .ifCond .ne 5, 3) (List.mem_of_getElem? (i := 11) rfl)) rfl (fun _ => ?_) (fun hc => absurd hc (by decide))
  have r0 : x_sl Gc 4 0 = some (.int num1) := by rw [hz2.ot 4 0 (by decide), ur2.2.1, if_pos ⟨rfl, rfl⟩]
  refine y_aln (e_45 (25, .aload_n 2, 1) (List.mem_of_getElem? (i := 14) rfl)) g2 ?_
  refine y_aln (e_45 (26, .aload_n 0, 1) (List.mem_of_getElem? (i := 15) rfl)) g0 ?_
  refine y_getf q2.1.I th0_p.2.2.1 (e_45 (27, .getfield 9, 3) (List.mem_of_getElem? (i := 16) rfl)) u_3_9 ⟨rfl, rfl⟩ q2.2.a3_0 ?_
  refine y_st (e_45 (30, .iconst 0, 1) (List.mem_of_getElem? (i := 17) rfl)) ⟨rfl, rfl, rfl, rfl⟩ ?_
  refine y_iald q2.1.I th0_p.2.2.2.1 (e_45 (31, .iaload, 1) (List.mem_of_getElem? (i := 18) rfl)) ⟨rfl, rfl⟩ (by decide) r0 ?_
  refine y_putf (f := (0, -2147483648, 2147483647)) q2.1.I th0_p.2.2.2.2.2.2.1 (e_45 (32, .putfield 154, 3) (List.mem_of_getElem? (i := 19) rfl)) u_3_154 ⟨rfl, rfl, by decide, rfl, rfl⟩ ⟨_, rfl, (x_i32 _).1, (x_i32 _).2⟩ (fun Gp up => ?_)
  have hp : CS f n lim nx2 tk2 pl2 num2 nm2 ft fp (fun j => if j = 12 then num1 else cc j) np nt nl nn (oc + Int32.ofInt 1) (fun j => if j = oc.toInt.toNat then tk0 else ot j) tn ln mn Gp := ⟨q2.1.other up (by decide) (by decide) (q2.1.I.upd up th0_p.2.2.2.2.2.2.1 (y_okA rfl)), q2.2.u33_4 (fun c i => by rw [up.2.1])⟩
  refine y_st (e_45 (35, .iconst 1, 1) (List.mem_of_getElem? (i := 20) rfl)) ⟨rfl, rfl, rfl, rfl⟩ ?_
  exact y_ret (e_45 (36, .ireturn, 1) (List.mem_of_getElem? (i := 21) rfl)) ⟨rfl, y_rb (Or.inr rfl)⟩ ⟨rfl, hp⟩
set_option maxHeartbeats 2000000 in
set_option maxRecDepth 100000 in
theorem c_breath_0 (h : CS f n lim nx0 tk0 pl0 num0 nm0 ft fp cc np nt nl nn oc ot tn ln mn G) (hno : ∃ i : Nat, (i : Int) < oc.toInt ∧ ot i = tk0) : x_Gd xs L J (d + 2) m_41 (fun r G' => r = some (.int 0) ∧ x_sl G' 1 9 = some (.int pl0) ∧ x_sl G' 1 8 = some (.int (Int32.ofInt 3))) 0 (lv_args 0 [.ref 3, .ref 1, .ref 33]) [] G := by
  have g0 : pm_get (lv_args 0 [.ref 3, .ref 1, .ref 33]) 0 = some (.ref 3) := rfl
  have g1 : pm_get (lv_args 0 [.ref 3, .ref 1, .ref 33]) 1 = some (.ref 1) := rfl
  have g2 : pm_get (lv_args 0 [.ref 3, .ref 1, .ref 33]) 2 = some (.ref 33) := rfl
  generalize (lv_args 0 [.ref 3, .ref 1, .ref 33]) = lv at g0 g1 g2 ⊢
  refine y_aln (e_41 (0, .aload_n 0, 1) (List.mem_of_getElem? (i := 0) rfl)) g0 ?_
  refine y_aln (e_41 (1, .aload_n 1, 1) (List.mem_of_getElem? (i := 1) rfl)) g1 ?_
  refine y_c2 (K' := _) (e_41 (2, .invokevirtual 137, 3) (List.mem_of_getElem? (i := 2) rfl)) ⟨rfl, rfl, rfl⟩ t_3_137 ⟨by decide, by decide, by decide, by decide⟩ m_40_ok rfl (by decide) (y_recv h.1.I th0_p.2.2.1 ⟨rfl, rfl⟩) (Nat.le_of_ble_eq_true rfl) (Nat.le_of_ble_eq_true rfl) (k_once_no h hno) (fun r1 Gc hc1 => ?_)
  obtain ⟨rfl, hz⟩ := hc1
  simp only [Option.toList_some, Option.toList_none, List.cons_append, List.nil_append]
  refine y_ifc (e_41 (5, .ifCond .eq 67, 3) (List.mem_of_getElem? (i := 3) rfl)) rfl (fun _ => ?_) (fun hc => absurd hc (by decide))
  refine y_st (e_41 (72, .iconst 0, 1) (List.mem_of_getElem? (i := 38) rfl)) ⟨rfl, rfl, rfl, rfl⟩ ?_
  exact y_ret (e_41 (73, .ireturn, 1) (List.mem_of_getElem? (i := 39) rfl)) ⟨rfl, y_rb (Or.inl rfl)⟩ ⟨rfl, hz⟩
set_option maxHeartbeats 2000000 in
set_option maxRecDepth 100000 in
theorem c_breath_1 (h : CS f n lim nx0 tk0 pl0 num0 nm0 ft fp cc np nt nl nn oc ot tn ln mn G) (hno0 : ∀ i : Nat, (i : Int) < oc.toInt → ot i ≠ tk0) (h5 : oc.toInt < 5) (hN1 : NXc f n lim nx0 num0 nm0 nx1 tk1 pl1 num1 nm1)  (hno : tk1 ≠ 2 ∨ num1.toInt < 1 ∨ 12 < num1.toInt) : x_Gd xs L J (d + 4) m_41 (fun r G' => r = some (.int 0) ∧ x_sl G' 1 9 = some (.int pl1) ∧ x_sl G' 1 8 = some (.int (t_kd tk1))) 0 (lv_args 0 [.ref 3, .ref 1, .ref 33]) [] G := by
  have g0 : pm_get (lv_args 0 [.ref 3, .ref 1, .ref 33]) 0 = some (.ref 3) := rfl
  have g1 : pm_get (lv_args 0 [.ref 3, .ref 1, .ref 33]) 1 = some (.ref 1) := rfl
  have g2 : pm_get (lv_args 0 [.ref 3, .ref 1, .ref 33]) 2 = some (.ref 33) := rfl
  generalize (lv_args 0 [.ref 3, .ref 1, .ref 33]) = lv at g0 g1 g2 ⊢
  refine y_aln (e_41 (0, .aload_n 0, 1) (List.mem_of_getElem? (i := 0) rfl)) g0 ?_
  refine y_aln (e_41 (1, .aload_n 1, 1) (List.mem_of_getElem? (i := 1) rfl)) g1 ?_
  refine y_c2 (K' := _) (e_41 (2, .invokevirtual 137, 3) (List.mem_of_getElem? (i := 2) rfl)) ⟨rfl, rfl, rfl⟩ t_3_137 ⟨by decide, by decide, by decide, by decide⟩ m_40_ok rfl (by decide) (y_recv h.1.I th0_p.2.2.1 ⟨rfl, rfl⟩) (Nat.le_of_ble_eq_true rfl) (Nat.le_of_ble_eq_true rfl) (k_once_yes h hno0 h5 hN1) (fun r1 Gc hc1 => ?_)
  obtain ⟨rfl, q1⟩ := hc1
  simp only [Option.toList_some, Option.toList_none, List.cons_append, List.nil_append]
  refine y_ifc (e_41 (5, .ifCond .eq 67, 3) (List.mem_of_getElem? (i := 3) rfl)) rfl (fun hc => absurd hc (by decide)) (fun _ => ?_)
  refine y_aln (e_41 (8, .aload_n 1, 1) (List.mem_of_getElem? (i := 4) rfl)) g1 ?_
  refine y_st (e_41 (9, .iconst 1, 1) (List.mem_of_getElem? (i := 5) rfl)) ⟨rfl, rfl, rfl, rfl⟩ ?_
  refine y_st (e_41 (10, .bipush 12, 2) (List.mem_of_getElem? (i := 6) rfl)) ⟨rfl, rfl, rfl, rfl⟩ ?_
  refine y_aln (e_41 (12, .aload_n 2, 1) (List.mem_of_getElem? (i := 7) rfl)) g2 ?_
  refine y_getf q1.1.I th0_p.2.2.2.2.2.2.1 (e_41 (13, .getfield 145, 3) (List.mem_of_getElem? (i := 8) rfl)) u_3_145 ⟨rfl, rfl⟩ q1.2.a33_1 ?_
  refine y_st (e_41 (16, .iconst 0, 1) (List.mem_of_getElem? (i := 9) rfl)) ⟨rfl, rfl, rfl, rfl⟩ ?_
  refine y_c5 (K' := _) (e_41 (17, .invokevirtual 141, 3) (List.mem_of_getElem? (i := 10) rfl)) ⟨rfl, rfl, rfl⟩ t_3_141 ⟨by decide, by decide, by decide, by decide⟩ m_28_ok rfl (by decide) (y_recv q1.1.I q1.1.t ⟨rfl, rfl⟩) (Nat.le_of_ble_eq_true rfl) (Nat.le_of_ble_eq_true rfl) (k_takeN_no q1.1 hno) (fun r1 Gc hc1 => ?_)
  obtain ⟨rfl, hz⟩ := hc1
  simp only [Option.toList_some, Option.toList_none, List.cons_append, List.nil_append]
  refine y_ifc (e_41 (20, .ifCond .eq 52, 3) (List.mem_of_getElem? (i := 11) rfl)) rfl (fun _ => ?_) (fun hc => absurd hc (by decide))
  refine y_st (e_41 (72, .iconst 0, 1) (List.mem_of_getElem? (i := 38) rfl)) ⟨rfl, rfl, rfl, rfl⟩ ?_
  exact y_ret (e_41 (73, .ireturn, 1) (List.mem_of_getElem? (i := 39) rfl)) ⟨rfl, y_rb (Or.inl rfl)⟩ ⟨rfl, hz.s9, hz.s8⟩
set_option maxHeartbeats 2000000 in
set_option maxRecDepth 100000 in
theorem c_breath_2 (h : CS f n lim nx0 tk0 pl0 num0 nm0 ft fp cc np nt nl nn oc ot tn ln mn G) (hno0 : ∀ i : Nat, (i : Int) < oc.toInt → ot i ≠ tk0) (h5 : oc.toInt < 5) (hN1 : NXc f n lim nx0 num0 nm0 nx1 tk1 pl1 num1 nm1) (htk1 : tk1 = 2) (a1 : 1 ≤ num1.toInt) (b1 : num1.toInt ≤ 12) (hN2 : NXc f n lim nx1 num1 nm1 nx2 tk2 pl2 num2 nm2) (hno : tk2 ≠ 2 ∨ num2.toInt < 0 ∨ 12 < num2.toInt) : x_Gd xs L J (d + 4) m_41 (fun r G' => r = some (.int 0) ∧ x_sl G' 1 9 = some (.int pl2) ∧ x_sl G' 1 8 = some (.int (t_kd tk2))) 0 (lv_args 0 [.ref 3, .ref 1, .ref 33]) [] G := by
  have g0 : pm_get (lv_args 0 [.ref 3, .ref 1, .ref 33]) 0 = some (.ref 3) := rfl
  have g1 : pm_get (lv_args 0 [.ref 3, .ref 1, .ref 33]) 1 = some (.ref 1) := rfl
  have g2 : pm_get (lv_args 0 [.ref 3, .ref 1, .ref 33]) 2 = some (.ref 33) := rfl
  generalize (lv_args 0 [.ref 3, .ref 1, .ref 33]) = lv at g0 g1 g2 ⊢
  refine y_aln (e_41 (0, .aload_n 0, 1) (List.mem_of_getElem? (i := 0) rfl)) g0 ?_
  refine y_aln (e_41 (1, .aload_n 1, 1) (List.mem_of_getElem? (i := 1) rfl)) g1 ?_
  refine y_c2 (K' := _) (e_41 (2, .invokevirtual 137, 3) (List.mem_of_getElem? (i := 2) rfl)) ⟨rfl, rfl, rfl⟩ t_3_137 ⟨by decide, by decide, by decide, by decide⟩ m_40_ok rfl (by decide) (y_recv h.1.I th0_p.2.2.1 ⟨rfl, rfl⟩) (Nat.le_of_ble_eq_true rfl) (Nat.le_of_ble_eq_true rfl) (k_once_yes h hno0 h5 hN1) (fun r1 Gc hc1 => ?_)
  obtain ⟨rfl, q1⟩ := hc1
  simp only [Option.toList_some, Option.toList_none, List.cons_append, List.nil_append]
  refine y_ifc (e_41 (5, .ifCond .eq 67, 3) (List.mem_of_getElem? (i := 3) rfl)) rfl (fun hc => absurd hc (by decide)) (fun _ => ?_)
  refine y_aln (e_41 (8, .aload_n 1, 1) (List.mem_of_getElem? (i := 4) rfl)) g1 ?_
  refine y_st (e_41 (9, .iconst 1, 1) (List.mem_of_getElem? (i := 5) rfl)) ⟨rfl, rfl, rfl, rfl⟩ ?_
  refine y_st (e_41 (10, .bipush 12, 2) (List.mem_of_getElem? (i := 6) rfl)) ⟨rfl, rfl, rfl, rfl⟩ ?_
  refine y_aln (e_41 (12, .aload_n 2, 1) (List.mem_of_getElem? (i := 7) rfl)) g2 ?_
  refine y_getf q1.1.I th0_p.2.2.2.2.2.2.1 (e_41 (13, .getfield 145, 3) (List.mem_of_getElem? (i := 8) rfl)) u_3_145 ⟨rfl, rfl⟩ q1.2.a33_1 ?_
  refine y_st (e_41 (16, .iconst 0, 1) (List.mem_of_getElem? (i := 9) rfl)) ⟨rfl, rfl, rfl, rfl⟩ ?_
  refine y_c5 (K' := _) (e_41 (17, .invokevirtual 141, 3) (List.mem_of_getElem? (i := 10) rfl)) ⟨rfl, rfl, rfl⟩ t_3_141 ⟨by decide, by decide, by decide, by decide⟩ m_28_ok rfl (by decide) (y_recv q1.1.I q1.1.t ⟨rfl, rfl⟩) (Nat.le_of_ble_eq_true rfl) (Nat.le_of_ble_eq_true rfl) (k_takeN_yes q1.1 htk1 a1 b1 th0_p.2.2.2.2.2.2.2.2.1 ⟨rfl, rfl⟩ (by decide) ⟨by decide, by decide⟩ (y_okA (by rw [show (x_tb 15).2.2.2 = [(4, ((0 : Nat), (-2147483648 : Int), (2147483647 : Int)))] from rfl]; exact y_one (by decide))) (by decide) (by decide) hN2) (fun r1 Gc hc1 => ?_)
  obtain ⟨rfl, Gr2, ur2, hz2⟩ := hc1
  simp only [Option.toList_some, Option.toList_none, List.cons_append, List.nil_append]
  have hI2 := q1.1.I.upd ur2 th0_p.2.2.2.2.2.2.2.2.1 (y_okA (by rw [show (x_tb 15).2.2.2 = [(4, ((0 : Nat), (-2147483648 : Int), (2147483647 : Int)))] from rfl]; exact y_one (by decide)))
  have p2 : CS f n lim nx1 tk1 pl1 num1 nm1 ft fp (fun j => if j = 6 then num1 else cc j) np nt nl nn (oc + Int32.ofInt 1) (fun j => if j = oc.toInt.toNat then tk0 else ot j) tn ln mn Gr2 := ⟨q1.1.other ur2 (by decide) (by decide) hI2, q1.2.ubr (k := 0) (by decide) (fun c i => by rw [ur2.2.1] <;> rfl)⟩
  have q2 := p2.nxt hz2
  refine y_ifc (e_41 (20, .ifCond .eq 52, 3) (List.mem_of_getElem? (i := 11) rfl)) rfl (fun hc => absurd hc (by decide)) (fun _ => ?_)
  refine y_aln (e_41 (23, .aload_n 1, 1) (List.mem_of_getElem? (i := 12) rfl)) g1 ?_
  refine y_st (e_41 (24, .iconst 0, 1) (List.mem_of_getElem? (i := 13) rfl)) ⟨rfl, rfl, rfl, rfl⟩ ?_
  refine y_st (e_41 (25, .bipush 12, 2) (List.mem_of_getElem? (i := 14) rfl)) ⟨rfl, rfl, rfl, rfl⟩ ?_
  refine y_aln (e_41 (27, .aload_n 2, 1) (List.mem_of_getElem? (i := 15) rfl)) g2 ?_
  refine y_getf q2.1.I th0_p.2.2.2.2.2.2.1 (e_41 (28, .getfield 145, 3) (List.mem_of_getElem? (i := 16) rfl)) u_3_145 ⟨rfl, rfl⟩ q2.2.a33_1 ?_
  refine y_st (e_41 (31, .iconst 1, 1) (List.mem_of_getElem? (i := 17) rfl)) ⟨rfl, rfl, rfl, rfl⟩ ?_
  refine y_c5 (K' := _) (e_41 (32, .invokevirtual 141, 3) (List.mem_of_getElem? (i := 18) rfl)) ⟨rfl, rfl, rfl⟩ t_3_141 ⟨by decide, by decide, by decide, by decide⟩ m_28_ok rfl (by decide) (y_recv q2.1.I q2.1.t ⟨rfl, rfl⟩) (Nat.le_of_ble_eq_true rfl) (Nat.le_of_ble_eq_true rfl) (k_takeN_no q2.1 hno) (fun r1 Gc hc1 => ?_)
  obtain ⟨rfl, hz⟩ := hc1
  simp only [Option.toList_some, Option.toList_none, List.cons_append, List.nil_append]
  refine y_ifc (e_41 (35, .ifCond .eq 37, 3) (List.mem_of_getElem? (i := 19) rfl)) rfl (fun _ => ?_) (fun hc => absurd hc (by decide))
  refine y_st (e_41 (72, .iconst 0, 1) (List.mem_of_getElem? (i := 38) rfl)) ⟨rfl, rfl, rfl, rfl⟩ ?_
  exact y_ret (e_41 (73, .ireturn, 1) (List.mem_of_getElem? (i := 39) rfl)) ⟨rfl, y_rb (Or.inl rfl)⟩ ⟨rfl, hz.s9, hz.s8⟩
set_option maxHeartbeats 2000000 in
set_option maxRecDepth 100000 in
theorem c_breath_3 (h : CS f n lim nx0 tk0 pl0 num0 nm0 ft fp cc np nt nl nn oc ot tn ln mn G) (hno0 : ∀ i : Nat, (i : Int) < oc.toInt → ot i ≠ tk0) (h5 : oc.toInt < 5) (hN1 : NXc f n lim nx0 num0 nm0 nx1 tk1 pl1 num1 nm1) (htk1 : tk1 = 2) (a1 : 1 ≤ num1.toInt) (b1 : num1.toInt ≤ 12) (hN2 : NXc f n lim nx1 num1 nm1 nx2 tk2 pl2 num2 nm2) (htk2 : tk2 = 2) (a2 : 0 ≤ num2.toInt) (b2 : num2.toInt ≤ 12) (hN3 : NXc f n lim nx2 num2 nm2 nx3 tk3 pl3 num3 nm3) (hno : tk3 ≠ 2 ∨ num3.toInt < 1 ∨ 12 < num3.toInt) : x_Gd xs L J (d + 4) m_41 (fun r G' => r = some (.int 0) ∧ x_sl G' 1 9 = some (.int pl3) ∧ x_sl G' 1 8 = some (.int (t_kd tk3))) 0 (lv_args 0 [.ref 3, .ref 1, .ref 33]) [] G := by
  have g0 : pm_get (lv_args 0 [.ref 3, .ref 1, .ref 33]) 0 = some (.ref 3) := rfl
  have g1 : pm_get (lv_args 0 [.ref 3, .ref 1, .ref 33]) 1 = some (.ref 1) := rfl
  have g2 : pm_get (lv_args 0 [.ref 3, .ref 1, .ref 33]) 2 = some (.ref 33) := rfl
  generalize (lv_args 0 [.ref 3, .ref 1, .ref 33]) = lv at g0 g1 g2 ⊢
  refine y_aln (e_41 (0, .aload_n 0, 1) (List.mem_of_getElem? (i := 0) rfl)) g0 ?_
  refine y_aln (e_41 (1, .aload_n 1, 1) (List.mem_of_getElem? (i := 1) rfl)) g1 ?_
  refine y_c2 (K' := _) (e_41 (2, .invokevirtual 137, 3) (List.mem_of_getElem? (i := 2) rfl)) ⟨rfl, rfl, rfl⟩ t_3_137 ⟨by decide, by decide, by decide, by decide⟩ m_40_ok rfl (by decide) (y_recv h.1.I th0_p.2.2.1 ⟨rfl, rfl⟩) (Nat.le_of_ble_eq_true rfl) (Nat.le_of_ble_eq_true rfl) (k_once_yes h hno0 h5 hN1) (fun r1 Gc hc1 => ?_)
  obtain ⟨rfl, q1⟩ := hc1
  simp only [Option.toList_some, Option.toList_none, List.cons_append, List.nil_append]
  refine y_ifc (e_41 (5, .ifCond .eq 67, 3) (List.mem_of_getElem? (i := 3) rfl)) rfl (fun hc => absurd hc (by decide)) (fun _ => ?_)
  refine y_aln (e_41 (8, .aload_n 1, 1) (List.mem_of_getElem? (i := 4) rfl)) g1 ?_
  refine y_st (e_41 (9, .iconst 1, 1) (List.mem_of_getElem? (i := 5) rfl)) ⟨rfl, rfl, rfl, rfl⟩ ?_
  refine y_st (e_41 (10, .bipush 12, 2) (List.mem_of_getElem? (i := 6) rfl)) ⟨rfl, rfl, rfl, rfl⟩ ?_
  refine y_aln (e_41 (12, .aload_n 2, 1) (List.mem_of_getElem? (i := 7) rfl)) g2 ?_
  refine y_getf q1.1.I th0_p.2.2.2.2.2.2.1 (e_41 (13, .getfield 145, 3) (List.mem_of_getElem? (i := 8) rfl)) u_3_145 ⟨rfl, rfl⟩ q1.2.a33_1 ?_
  refine y_st (e_41 (16, .iconst 0, 1) (List.mem_of_getElem? (i := 9) rfl)) ⟨rfl, rfl, rfl, rfl⟩ ?_
  refine y_c5 (K' := _) (e_41 (17, .invokevirtual 141, 3) (List.mem_of_getElem? (i := 10) rfl)) ⟨rfl, rfl, rfl⟩ t_3_141 ⟨by decide, by decide, by decide, by decide⟩ m_28_ok rfl (by decide) (y_recv q1.1.I q1.1.t ⟨rfl, rfl⟩) (Nat.le_of_ble_eq_true rfl) (Nat.le_of_ble_eq_true rfl) (k_takeN_yes q1.1 htk1 a1 b1 th0_p.2.2.2.2.2.2.2.2.1 ⟨rfl, rfl⟩ (by decide) ⟨by decide, by decide⟩ (y_okA (by rw [show (x_tb 15).2.2.2 = [(4, ((0 : Nat), (-2147483648 : Int), (2147483647 : Int)))] from rfl]; exact y_one (by decide))) (by decide) (by decide) hN2) (fun r1 Gc hc1 => ?_)
  obtain ⟨rfl, Gr2, ur2, hz2⟩ := hc1
  simp only [Option.toList_some, Option.toList_none, List.cons_append, List.nil_append]
  have hI2 := q1.1.I.upd ur2 th0_p.2.2.2.2.2.2.2.2.1 (y_okA (by rw [show (x_tb 15).2.2.2 = [(4, ((0 : Nat), (-2147483648 : Int), (2147483647 : Int)))] from rfl]; exact y_one (by decide)))
  have p2 : CS f n lim nx1 tk1 pl1 num1 nm1 ft fp (fun j => if j = 6 then num1 else cc j) np nt nl nn (oc + Int32.ofInt 1) (fun j => if j = oc.toInt.toNat then tk0 else ot j) tn ln mn Gr2 := ⟨q1.1.other ur2 (by decide) (by decide) hI2, q1.2.ubr (k := 0) (by decide) (fun c i => by rw [ur2.2.1] <;> rfl)⟩
  have q2 := p2.nxt hz2
  refine y_ifc (e_41 (20, .ifCond .eq 52, 3) (List.mem_of_getElem? (i := 11) rfl)) rfl (fun hc => absurd hc (by decide)) (fun _ => ?_)
  refine y_aln (e_41 (23, .aload_n 1, 1) (List.mem_of_getElem? (i := 12) rfl)) g1 ?_
  refine y_st (e_41 (24, .iconst 0, 1) (List.mem_of_getElem? (i := 13) rfl)) ⟨rfl, rfl, rfl, rfl⟩ ?_
  refine y_st (e_41 (25, .bipush 12, 2) (List.mem_of_getElem? (i := 14) rfl)) ⟨rfl, rfl, rfl, rfl⟩ ?_
  refine y_aln (e_41 (27, .aload_n 2, 1) (List.mem_of_getElem? (i := 15) rfl)) g2 ?_
  refine y_getf q2.1.I th0_p.2.2.2.2.2.2.1 (e_41 (28, .getfield 145, 3) (List.mem_of_getElem? (i := 16) rfl)) u_3_145 ⟨rfl, rfl⟩ q2.2.a33_1 ?_
  refine y_st (e_41 (31, .iconst 1, 1) (List.mem_of_getElem? (i := 17) rfl)) ⟨rfl, rfl, rfl, rfl⟩ ?_
  refine y_c5 (K' := _) (e_41 (32, .invokevirtual 141, 3) (List.mem_of_getElem? (i := 18) rfl)) ⟨rfl, rfl, rfl⟩ t_3_141 ⟨by decide, by decide, by decide, by decide⟩ m_28_ok rfl (by decide) (y_recv q2.1.I q2.1.t ⟨rfl, rfl⟩) (Nat.le_of_ble_eq_true rfl) (Nat.le_of_ble_eq_true rfl) (k_takeN_yes q2.1 htk2 a2 b2 th0_p.2.2.2.2.2.2.2.2.1 ⟨rfl, rfl⟩ (by decide) ⟨by decide, by decide⟩ (y_okA (by rw [show (x_tb 15).2.2.2 = [(4, ((0 : Nat), (-2147483648 : Int), (2147483647 : Int)))] from rfl]; exact y_one (by decide))) (by decide) (by decide) hN3) (fun r1 Gc hc1 => ?_)
  obtain ⟨rfl, Gr3, ur3, hz3⟩ := hc1
  simp only [Option.toList_some, Option.toList_none, List.cons_append, List.nil_append]
  have hI3 := q2.1.I.upd ur3 th0_p.2.2.2.2.2.2.2.2.1 (y_okA (by rw [show (x_tb 15).2.2.2 = [(4, ((0 : Nat), (-2147483648 : Int), (2147483647 : Int)))] from rfl]; exact y_one (by decide)))
  have p3 : CS f n lim nx2 tk2 pl2 num2 nm2 ft fp (fun j => if j = 7 then num2 else (fun j => if j = 6 then num1 else cc j) j) np nt nl nn (oc + Int32.ofInt 1) (fun j => if j = oc.toInt.toNat then tk0 else ot j) tn ln mn Gr3 := ⟨q2.1.other ur3 (by decide) (by decide) hI3, q2.2.ubr (k := 1) (by decide) (fun c i => by rw [ur3.2.1] <;> rfl)⟩
  have q3 := p3.nxt hz3
  refine y_ifc (e_41 (35, .ifCond .eq 37, 3) (List.mem_of_getElem? (i := 19) rfl)) rfl (fun hc => absurd hc (by decide)) (fun _ => ?_)
  refine y_aln (e_41 (38, .aload_n 1, 1) (List.mem_of_getElem? (i := 20) rfl)) g1 ?_
  refine y_st (e_41 (39, .iconst 1, 1) (List.mem_of_getElem? (i := 21) rfl)) ⟨rfl, rfl, rfl, rfl⟩ ?_
  refine y_st (e_41 (40, .bipush 12, 2) (List.mem_of_getElem? (i := 22) rfl)) ⟨rfl, rfl, rfl, rfl⟩ ?_
  refine y_aln (e_41 (42, .aload_n 2, 1) (List.mem_of_getElem? (i := 23) rfl)) g2 ?_
  refine y_getf q3.1.I th0_p.2.2.2.2.2.2.1 (e_41 (43, .getfield 145, 3) (List.mem_of_getElem? (i := 24) rfl)) u_3_145 ⟨rfl, rfl⟩ q3.2.a33_1 ?_
  refine y_st (e_41 (46, .iconst 2, 1) (List.mem_of_getElem? (i := 25) rfl)) ⟨rfl, rfl, rfl, rfl⟩ ?_
  refine y_c5 (K' := _) (e_41 (47, .invokevirtual 141, 3) (List.mem_of_getElem? (i := 26) rfl)) ⟨rfl, rfl, rfl⟩ t_3_141 ⟨by decide, by decide, by decide, by decide⟩ m_28_ok rfl (by decide) (y_recv q3.1.I q3.1.t ⟨rfl, rfl⟩) (Nat.le_of_ble_eq_true rfl) (Nat.le_of_ble_eq_true rfl) (k_takeN_no q3.1 hno) (fun r1 Gc hc1 => ?_)
  obtain ⟨rfl, hz⟩ := hc1
  simp only [Option.toList_some, Option.toList_none, List.cons_append, List.nil_append]
  refine y_ifc (e_41 (50, .ifCond .eq 22, 3) (List.mem_of_getElem? (i := 27) rfl)) rfl (fun _ => ?_) (fun hc => absurd hc (by decide))
  refine y_st (e_41 (72, .iconst 0, 1) (List.mem_of_getElem? (i := 38) rfl)) ⟨rfl, rfl, rfl, rfl⟩ ?_
  exact y_ret (e_41 (73, .ireturn, 1) (List.mem_of_getElem? (i := 39) rfl)) ⟨rfl, y_rb (Or.inl rfl)⟩ ⟨rfl, hz.s9, hz.s8⟩
set_option maxHeartbeats 2000000 in
set_option maxRecDepth 100000 in
theorem c_breath_4 (h : CS f n lim nx0 tk0 pl0 num0 nm0 ft fp cc np nt nl nn oc ot tn ln mn G) (hno0 : ∀ i : Nat, (i : Int) < oc.toInt → ot i ≠ tk0) (h5 : oc.toInt < 5) (hN1 : NXc f n lim nx0 num0 nm0 nx1 tk1 pl1 num1 nm1) (htk1 : tk1 = 2) (a1 : 1 ≤ num1.toInt) (b1 : num1.toInt ≤ 12) (hN2 : NXc f n lim nx1 num1 nm1 nx2 tk2 pl2 num2 nm2) (htk2 : tk2 = 2) (a2 : 0 ≤ num2.toInt) (b2 : num2.toInt ≤ 12) (hN3 : NXc f n lim nx2 num2 nm2 nx3 tk3 pl3 num3 nm3) (htk3 : tk3 = 2) (a3 : 1 ≤ num3.toInt) (b3 : num3.toInt ≤ 12) (hN4 : NXc f n lim nx3 num3 nm3 nx4 tk4 pl4 num4 nm4) (hno : tk4 ≠ 2 ∨ num4.toInt < 0 ∨ 12 < num4.toInt) : x_Gd xs L J (d + 4) m_41 (fun r G' => r = some (.int 0) ∧ x_sl G' 1 9 = some (.int pl4) ∧ x_sl G' 1 8 = some (.int (t_kd tk4))) 0 (lv_args 0 [.ref 3, .ref 1, .ref 33]) [] G := by
  have g0 : pm_get (lv_args 0 [.ref 3, .ref 1, .ref 33]) 0 = some (.ref 3) := rfl
  have g1 : pm_get (lv_args 0 [.ref 3, .ref 1, .ref 33]) 1 = some (.ref 1) := rfl
  have g2 : pm_get (lv_args 0 [.ref 3, .ref 1, .ref 33]) 2 = some (.ref 33) := rfl
  generalize (lv_args 0 [.ref 3, .ref 1, .ref 33]) = lv at g0 g1 g2 ⊢
  refine y_aln (e_41 (0, .aload_n 0, 1) (List.mem_of_getElem? (i := 0) rfl)) g0 ?_
  refine y_aln (e_41 (1, .aload_n 1, 1) (List.mem_of_getElem? (i := 1) rfl)) g1 ?_
  refine y_c2 (K' := _) (e_41 (2, .invokevirtual 137, 3) (List.mem_of_getElem? (i := 2) rfl)) ⟨rfl, rfl, rfl⟩ t_3_137 ⟨by decide, by decide, by decide, by decide⟩ m_40_ok rfl (by decide) (y_recv h.1.I th0_p.2.2.1 ⟨rfl, rfl⟩) (Nat.le_of_ble_eq_true rfl) (Nat.le_of_ble_eq_true rfl) (k_once_yes h hno0 h5 hN1) (fun r1 Gc hc1 => ?_)
  obtain ⟨rfl, q1⟩ := hc1
  simp only [Option.toList_some, Option.toList_none, List.cons_append, List.nil_append]
  refine y_ifc (e_41 (5, .ifCond .eq 67, 3) (List.mem_of_getElem? (i := 3) rfl)) rfl (fun hc => absurd hc (by decide)) (fun _ => ?_)
  refine y_aln (e_41 (8, .aload_n 1, 1) (List.mem_of_getElem? (i := 4) rfl)) g1 ?_
  refine y_st (e_41 (9, .iconst 1, 1) (List.mem_of_getElem? (i := 5) rfl)) ⟨rfl, rfl, rfl, rfl⟩ ?_
  refine y_st (e_41 (10, .bipush 12, 2) (List.mem_of_getElem? (i := 6) rfl)) ⟨rfl, rfl, rfl, rfl⟩ ?_
  refine y_aln (e_41 (12, .aload_n 2, 1) (List.mem_of_getElem? (i := 7) rfl)) g2 ?_
  refine y_getf q1.1.I th0_p.2.2.2.2.2.2.1 (e_41 (13, .getfield 145, 3) (List.mem_of_getElem? (i := 8) rfl)) u_3_145 ⟨rfl, rfl⟩ q1.2.a33_1 ?_
  refine y_st (e_41 (16, .iconst 0, 1) (List.mem_of_getElem? (i := 9) rfl)) ⟨rfl, rfl, rfl, rfl⟩ ?_
  refine y_c5 (K' := _) (e_41 (17, .invokevirtual 141, 3) (List.mem_of_getElem? (i := 10) rfl)) ⟨rfl, rfl, rfl⟩ t_3_141 ⟨by decide, by decide, by decide, by decide⟩ m_28_ok rfl (by decide) (y_recv q1.1.I q1.1.t ⟨rfl, rfl⟩) (Nat.le_of_ble_eq_true rfl) (Nat.le_of_ble_eq_true rfl) (k_takeN_yes q1.1 htk1 a1 b1 th0_p.2.2.2.2.2.2.2.2.1 ⟨rfl, rfl⟩ (by decide) ⟨by decide, by decide⟩ (y_okA (by rw [show (x_tb 15).2.2.2 = [(4, ((0 : Nat), (-2147483648 : Int), (2147483647 : Int)))] from rfl]; exact y_one (by decide))) (by decide) (by decide) hN2) (fun r1 Gc hc1 => ?_)
  obtain ⟨rfl, Gr2, ur2, hz2⟩ := hc1
  simp only [Option.toList_some, Option.toList_none, List.cons_append, List.nil_append]
  have hI2 := q1.1.I.upd ur2 th0_p.2.2.2.2.2.2.2.2.1 (y_okA (by rw [show (x_tb 15).2.2.2 = [(4, ((0 : Nat), (-2147483648 : Int), (2147483647 : Int)))] from rfl]; exact y_one (by decide)))
  have p2 : CS f n lim nx1 tk1 pl1 num1 nm1 ft fp (fun j => if j = 6 then num1 else cc j) np nt nl nn (oc + Int32.ofInt 1) (fun j => if j = oc.toInt.toNat then tk0 else ot j) tn ln mn Gr2 := ⟨q1.1.other ur2 (by decide) (by decide) hI2, q1.2.ubr (k := 0) (by decide) (fun c i => by rw [ur2.2.1] <;> rfl)⟩
  have q2 := p2.nxt hz2
  refine y_ifc (e_41 (20, .ifCond .eq 52, 3) (List.mem_of_getElem? (i := 11) rfl)) rfl (fun hc => absurd hc (by decide)) (fun _ => ?_)
  refine y_aln (e_41 (23, .aload_n 1, 1) (List.mem_of_getElem? (i := 12) rfl)) g1 ?_
  refine y_st (e_41 (24, .iconst 0, 1) (List.mem_of_getElem? (i := 13) rfl)) ⟨rfl, rfl, rfl, rfl⟩ ?_
  refine y_st (e_41 (25, .bipush 12, 2) (List.mem_of_getElem? (i := 14) rfl)) ⟨rfl, rfl, rfl, rfl⟩ ?_
  refine y_aln (e_41 (27, .aload_n 2, 1) (List.mem_of_getElem? (i := 15) rfl)) g2 ?_
  refine y_getf q2.1.I th0_p.2.2.2.2.2.2.1 (e_41 (28, .getfield 145, 3) (List.mem_of_getElem? (i := 16) rfl)) u_3_145 ⟨rfl, rfl⟩ q2.2.a33_1 ?_
  refine y_st (e_41 (31, .iconst 1, 1) (List.mem_of_getElem? (i := 17) rfl)) ⟨rfl, rfl, rfl, rfl⟩ ?_
  refine y_c5 (K' := _) (e_41 (32, .invokevirtual 141, 3) (List.mem_of_getElem? (i := 18) rfl)) ⟨rfl, rfl, rfl⟩ t_3_141 ⟨by decide, by decide, by decide, by decide⟩ m_28_ok rfl (by decide) (y_recv q2.1.I q2.1.t ⟨rfl, rfl⟩) (Nat.le_of_ble_eq_true rfl) (Nat.le_of_ble_eq_true rfl) (k_takeN_yes q2.1 htk2 a2 b2 th0_p.2.2.2.2.2.2.2.2.1 ⟨rfl, rfl⟩ (by decide) ⟨by decide, by decide⟩ (y_okA (by rw [show (x_tb 15).2.2.2 = [(4, ((0 : Nat), (-2147483648 : Int), (2147483647 : Int)))] from rfl]; exact y_one (by decide))) (by decide) (by decide) hN3) (fun r1 Gc hc1 => ?_)
  obtain ⟨rfl, Gr3, ur3, hz3⟩ := hc1
  simp only [Option.toList_some, Option.toList_none, List.cons_append, List.nil_append]
  have hI3 := q2.1.I.upd ur3 th0_p.2.2.2.2.2.2.2.2.1 (y_okA (by rw [show (x_tb 15).2.2.2 = [(4, ((0 : Nat), (-2147483648 : Int), (2147483647 : Int)))] from rfl]; exact y_one (by decide)))
  have p3 : CS f n lim nx2 tk2 pl2 num2 nm2 ft fp (fun j => if j = 7 then num2 else (fun j => if j = 6 then num1 else cc j) j) np nt nl nn (oc + Int32.ofInt 1) (fun j => if j = oc.toInt.toNat then tk0 else ot j) tn ln mn Gr3 := ⟨q2.1.other ur3 (by decide) (by decide) hI3, q2.2.ubr (k := 1) (by decide) (fun c i => by rw [ur3.2.1] <;> rfl)⟩
  have q3 := p3.nxt hz3
  refine y_ifc (e_41 (35, .ifCond .eq 37, 3) (List.mem_of_getElem? (i := 19) rfl)) rfl (fun hc => absurd hc (by decide)) (fun _ => ?_)
  refine y_aln (e_41 (38, .aload_n 1, 1) (List.mem_of_getElem? (i := 20) rfl)) g1 ?_
  refine y_st (e_41 (39, .iconst 1, 1) (List.mem_of_getElem? (i := 21) rfl)) ⟨rfl, rfl, rfl, rfl⟩ ?_
  refine y_st (e_41 (40, .bipush 12, 2) (List.mem_of_getElem? (i := 22) rfl)) ⟨rfl, rfl, rfl, rfl⟩ ?_
  refine y_aln (e_41 (42, .aload_n 2, 1) (List.mem_of_getElem? (i := 23) rfl)) g2 ?_
  refine y_getf q3.1.I th0_p.2.2.2.2.2.2.1 (e_41 (43, .getfield 145, 3) (List.mem_of_getElem? (i := 24) rfl)) u_3_145 ⟨rfl, rfl⟩ q3.2.a33_1 ?_
  refine y_st (e_41 (46, .iconst 2, 1) (List.mem_of_getElem? (i := 25) rfl)) ⟨rfl, rfl, rfl, rfl⟩ ?_
  refine y_c5 (K' := _) (e_41 (47, .invokevirtual 141, 3) (List.mem_of_getElem? (i := 26) rfl)) ⟨rfl, rfl, rfl⟩ t_3_141 ⟨by decide, by decide, by decide, by decide⟩ m_28_ok rfl (by decide) (y_recv q3.1.I q3.1.t ⟨rfl, rfl⟩) (Nat.le_of_ble_eq_true rfl) (Nat.le_of_ble_eq_true rfl) (k_takeN_yes q3.1 htk3 a3 b3 th0_p.2.2.2.2.2.2.2.2.1 ⟨rfl, rfl⟩ (by decide) ⟨by decide, by decide⟩ (y_okA (by rw [show (x_tb 15).2.2.2 = [(4, ((0 : Nat), (-2147483648 : Int), (2147483647 : Int)))] from rfl]; exact y_one (by decide))) (by decide) (by decide) hN4) (fun r1 Gc hc1 => ?_)
  obtain ⟨rfl, Gr4, ur4, hz4⟩ := hc1
  simp only [Option.toList_some, Option.toList_none, List.cons_append, List.nil_append]
  have hI4 := q3.1.I.upd ur4 th0_p.2.2.2.2.2.2.2.2.1 (y_okA (by rw [show (x_tb 15).2.2.2 = [(4, ((0 : Nat), (-2147483648 : Int), (2147483647 : Int)))] from rfl]; exact y_one (by decide)))
  have p4 : CS f n lim nx3 tk3 pl3 num3 nm3 ft fp (fun j => if j = 8 then num3 else (fun j => if j = 7 then num2 else (fun j => if j = 6 then num1 else cc j) j) j) np nt nl nn (oc + Int32.ofInt 1) (fun j => if j = oc.toInt.toNat then tk0 else ot j) tn ln mn Gr4 := ⟨q3.1.other ur4 (by decide) (by decide) hI4, q3.2.ubr (k := 2) (by decide) (fun c i => by rw [ur4.2.1] <;> rfl)⟩
  have q4 := p4.nxt hz4
  refine y_ifc (e_41 (50, .ifCond .eq 22, 3) (List.mem_of_getElem? (i := 27) rfl)) rfl (fun hc => absurd hc (by decide)) (fun _ => ?_)
  refine y_aln (e_41 (53, .aload_n 1, 1) (List.mem_of_getElem? (i := 28) rfl)) g1 ?_
  refine y_st (e_41 (54, .iconst 0, 1) (List.mem_of_getElem? (i := 29) rfl)) ⟨rfl, rfl, rfl, rfl⟩ ?_
  refine y_st (e_41 (55, .bipush 12, 2) (List.mem_of_getElem? (i := 30) rfl)) ⟨rfl, rfl, rfl, rfl⟩ ?_
  refine y_aln (e_41 (57, .aload_n 2, 1) (List.mem_of_getElem? (i := 31) rfl)) g2 ?_
  refine y_getf q4.1.I th0_p.2.2.2.2.2.2.1 (e_41 (58, .getfield 145, 3) (List.mem_of_getElem? (i := 32) rfl)) u_3_145 ⟨rfl, rfl⟩ q4.2.a33_1 ?_
  refine y_st (e_41 (61, .iconst 3, 1) (List.mem_of_getElem? (i := 33) rfl)) ⟨rfl, rfl, rfl, rfl⟩ ?_
  refine y_c5 (K' := _) (e_41 (62, .invokevirtual 141, 3) (List.mem_of_getElem? (i := 34) rfl)) ⟨rfl, rfl, rfl⟩ t_3_141 ⟨by decide, by decide, by decide, by decide⟩ m_28_ok rfl (by decide) (y_recv q4.1.I q4.1.t ⟨rfl, rfl⟩) (Nat.le_of_ble_eq_true rfl) (Nat.le_of_ble_eq_true rfl) (k_takeN_no q4.1 hno) (fun r1 Gc hc1 => ?_)
  obtain ⟨rfl, hz⟩ := hc1
  simp only [Option.toList_some, Option.toList_none, List.cons_append, List.nil_append]
  refine y_ifc (e_41 (65, .ifCond .eq 7, 3) (List.mem_of_getElem? (i := 35) rfl)) rfl (fun _ => ?_) (fun hc => absurd hc (by decide))
  refine y_st (e_41 (72, .iconst 0, 1) (List.mem_of_getElem? (i := 38) rfl)) ⟨rfl, rfl, rfl, rfl⟩ ?_
  exact y_ret (e_41 (73, .ireturn, 1) (List.mem_of_getElem? (i := 39) rfl)) ⟨rfl, y_rb (Or.inl rfl)⟩ ⟨rfl, hz.s9, hz.s8⟩
set_option maxHeartbeats 2000000 in
set_option maxRecDepth 100000 in
theorem c_breath_ok (h : CS f n lim nx0 tk0 pl0 num0 nm0 ft fp cc np nt nl nn oc ot tn ln mn G) (hno0 : ∀ i : Nat, (i : Int) < oc.toInt → ot i ≠ tk0) (h5 : oc.toInt < 5) (hN1 : NXc f n lim nx0 num0 nm0 nx1 tk1 pl1 num1 nm1) (htk1 : tk1 = 2) (a1 : 1 ≤ num1.toInt) (b1 : num1.toInt ≤ 12) (hN2 : NXc f n lim nx1 num1 nm1 nx2 tk2 pl2 num2 nm2) (htk2 : tk2 = 2) (a2 : 0 ≤ num2.toInt) (b2 : num2.toInt ≤ 12) (hN3 : NXc f n lim nx2 num2 nm2 nx3 tk3 pl3 num3 nm3) (htk3 : tk3 = 2) (a3 : 1 ≤ num3.toInt) (b3 : num3.toInt ≤ 12) (hN4 : NXc f n lim nx3 num3 nm3 nx4 tk4 pl4 num4 nm4) (htk4 : tk4 = 2) (a4 : 0 ≤ num4.toInt) (b4 : num4.toInt ≤ 12) (hN5 : NXc f n lim nx4 num4 nm4 nx5 tk5 pl5 num5 nm5) : x_Gd xs L J (d + 4) m_41 (fun r G' => r = some (.int 1) ∧ CS f n lim nx5 tk5 pl5 num5 nm5 ft fp (fun j => if j = 9 then num4 else (fun j => if j = 8 then num3 else (fun j => if j = 7 then num2 else (fun j => if j = 6 then num1 else cc j) j) j) j) np nt nl nn (oc + Int32.ofInt 1) (fun j => if j = oc.toInt.toNat then tk0 else ot j) tn ln mn G') 0 (lv_args 0 [.ref 3, .ref 1, .ref 33]) [] G := by
  have g0 : pm_get (lv_args 0 [.ref 3, .ref 1, .ref 33]) 0 = some (.ref 3) := rfl
  have g1 : pm_get (lv_args 0 [.ref 3, .ref 1, .ref 33]) 1 = some (.ref 1) := rfl
  have g2 : pm_get (lv_args 0 [.ref 3, .ref 1, .ref 33]) 2 = some (.ref 33) := rfl
  generalize (lv_args 0 [.ref 3, .ref 1, .ref 33]) = lv at g0 g1 g2 ⊢
  refine y_aln (e_41 (0, .aload_n 0, 1) (List.mem_of_getElem? (i := 0) rfl)) g0 ?_
  refine y_aln (e_41 (1, .aload_n 1, 1) (List.mem_of_getElem? (i := 1) rfl)) g1 ?_
  refine y_c2 (K' := _) (e_41 (2, .invokevirtual 137, 3) (List.mem_of_getElem? (i := 2) rfl)) ⟨rfl, rfl, rfl⟩ t_3_137 ⟨by decide, by decide, by decide, by decide⟩ m_40_ok rfl (by decide) (y_recv h.1.I th0_p.2.2.1 ⟨rfl, rfl⟩) (Nat.le_of_ble_eq_true rfl) (Nat.le_of_ble_eq_true rfl) (k_once_yes h hno0 h5 hN1) (fun r1 Gc hc1 => ?_)
  obtain ⟨rfl, q1⟩ := hc1
  simp only [Option.toList_some, Option.toList_none, List.cons_append, List.nil_append]
  refine y_ifc (e_41 (5, .ifCond .eq 67, 3) (List.mem_of_getElem? (i := 3) rfl)) rfl (fun hc => absurd hc (by decide)) (fun _ => ?_)
  refine y_aln (e_41 (8, .aload_n 1, 1) (List.mem_of_getElem? (i := 4) rfl)) g1 ?_
  refine y_st (e_41 (9, .iconst 1, 1) (List.mem_of_getElem? (i := 5) rfl)) ⟨rfl, rfl, rfl, rfl⟩ ?_
  refine y_st (e_41 (10, .bipush 12, 2) (List.mem_of_getElem? (i := 6) rfl)) ⟨rfl, rfl, rfl, rfl⟩ ?_
  refine y_aln (e_41 (12, .aload_n 2, 1) (List.mem_of_getElem? (i := 7) rfl)) g2 ?_
  refine y_getf q1.1.I th0_p.2.2.2.2.2.2.1 (e_41 (13, .getfield 145, 3) (List.mem_of_getElem? (i := 8) rfl)) u_3_145 ⟨rfl, rfl⟩ q1.2.a33_1 ?_
  refine y_st (e_41 (16, .iconst 0, 1) (List.mem_of_getElem? (i := 9) rfl)) ⟨rfl, rfl, rfl, rfl⟩ ?_
  refine y_c5 (K' := _) (e_41 (17, .invokevirtual 141, 3) (List.mem_of_getElem? (i := 10) rfl)) ⟨rfl, rfl, rfl⟩ t_3_141 ⟨by decide, by decide, by decide, by decide⟩ m_28_ok rfl (by decide) (y_recv q1.1.I q1.1.t ⟨rfl, rfl⟩) (Nat.le_of_ble_eq_true rfl) (Nat.le_of_ble_eq_true rfl) (k_takeN_yes q1.1 htk1 a1 b1 th0_p.2.2.2.2.2.2.2.2.1 ⟨rfl, rfl⟩ (by decide) ⟨by decide, by decide⟩ (y_okA (by rw [show (x_tb 15).2.2.2 = [(4, ((0 : Nat), (-2147483648 : Int), (2147483647 : Int)))] from rfl]; exact y_one (by decide))) (by decide) (by decide) hN2) (fun r1 Gc hc1 => ?_)
  obtain ⟨rfl, Gr2, ur2, hz2⟩ := hc1
  simp only [Option.toList_some, Option.toList_none, List.cons_append, List.nil_append]
  have hI2 := q1.1.I.upd ur2 th0_p.2.2.2.2.2.2.2.2.1 (y_okA (by rw [show (x_tb 15).2.2.2 = [(4, ((0 : Nat), (-2147483648 : Int), (2147483647 : Int)))] from rfl]; exact y_one (by decide)))
  have p2 : CS f n lim nx1 tk1 pl1 num1 nm1 ft fp (fun j => if j = 6 then num1 else cc j) np nt nl nn (oc + Int32.ofInt 1) (fun j => if j = oc.toInt.toNat then tk0 else ot j) tn ln mn Gr2 := ⟨q1.1.other ur2 (by decide) (by decide) hI2, q1.2.ubr (k := 0) (by decide) (fun c i => by rw [ur2.2.1] <;> rfl)⟩
  have q2 := p2.nxt hz2
  refine y_ifc (e_41 (20, .ifCond .eq 52, 3) (List.mem_of_getElem? (i := 11) rfl)) rfl (fun hc => absurd hc (by decide)) (fun _ => ?_)
  refine y_aln (e_41 (23, .aload_n 1, 1) (List.mem_of_getElem? (i := 12) rfl)) g1 ?_
  refine y_st (e_41 (24, .iconst 0, 1) (List.mem_of_getElem? (i := 13) rfl)) ⟨rfl, rfl, rfl, rfl⟩ ?_
  refine y_st (e_41 (25, .bipush 12, 2) (List.mem_of_getElem? (i := 14) rfl)) ⟨rfl, rfl, rfl, rfl⟩ ?_
  refine y_aln (e_41 (27, .aload_n 2, 1) (List.mem_of_getElem? (i := 15) rfl)) g2 ?_
  refine y_getf q2.1.I th0_p.2.2.2.2.2.2.1 (e_41 (28, .getfield 145, 3) (List.mem_of_getElem? (i := 16) rfl)) u_3_145 ⟨rfl, rfl⟩ q2.2.a33_1 ?_
  refine y_st (e_41 (31, .iconst 1, 1) (List.mem_of_getElem? (i := 17) rfl)) ⟨rfl, rfl, rfl, rfl⟩ ?_
  refine y_c5 (K' := _) (e_41 (32, .invokevirtual 141, 3) (List.mem_of_getElem? (i := 18) rfl)) ⟨rfl, rfl, rfl⟩ t_3_141 ⟨by decide, by decide, by decide, by decide⟩ m_28_ok rfl (by decide) (y_recv q2.1.I q2.1.t ⟨rfl, rfl⟩) (Nat.le_of_ble_eq_true rfl) (Nat.le_of_ble_eq_true rfl) (k_takeN_yes q2.1 htk2 a2 b2 th0_p.2.2.2.2.2.2.2.2.1 ⟨rfl, rfl⟩ (by decide) ⟨by decide, by decide⟩ (y_okA (by rw [show (x_tb 15).2.2.2 = [(4, ((0 : Nat), (-2147483648 : Int), (2147483647 : Int)))] from rfl]; exact y_one (by decide))) (by decide) (by decide) hN3) (fun r1 Gc hc1 => ?_)
  obtain ⟨rfl, Gr3, ur3, hz3⟩ := hc1
  simp only [Option.toList_some, Option.toList_none, List.cons_append, List.nil_append]
  have hI3 := q2.1.I.upd ur3 th0_p.2.2.2.2.2.2.2.2.1 (y_okA (by rw [show (x_tb 15).2.2.2 = [(4, ((0 : Nat), (-2147483648 : Int), (2147483647 : Int)))] from rfl]; exact y_one (by decide)))
  have p3 : CS f n lim nx2 tk2 pl2 num2 nm2 ft fp (fun j => if j = 7 then num2 else (fun j => if j = 6 then num1 else cc j) j) np nt nl nn (oc + Int32.ofInt 1) (fun j => if j = oc.toInt.toNat then tk0 else ot j) tn ln mn Gr3 := ⟨q2.1.other ur3 (by decide) (by decide) hI3, q2.2.ubr (k := 1) (by decide) (fun c i => by rw [ur3.2.1] <;> rfl)⟩
  have q3 := p3.nxt hz3
  refine y_ifc (e_41 (35, .ifCond .eq 37, 3) (List.mem_of_getElem? (i := 19) rfl)) rfl (fun hc => absurd hc (by decide)) (fun _ => ?_)
  refine y_aln (e_41 (38, .aload_n 1, 1) (List.mem_of_getElem? (i := 20) rfl)) g1 ?_
  refine y_st (e_41 (39, .iconst 1, 1) (List.mem_of_getElem? (i := 21) rfl)) ⟨rfl, rfl, rfl, rfl⟩ ?_
  refine y_st (e_41 (40, .bipush 12, 2) (List.mem_of_getElem? (i := 22) rfl)) ⟨rfl, rfl, rfl, rfl⟩ ?_
  refine y_aln (e_41 (42, .aload_n 2, 1) (List.mem_of_getElem? (i := 23) rfl)) g2 ?_
  refine y_getf q3.1.I th0_p.2.2.2.2.2.2.1 (e_41 (43, .getfield 145, 3) (List.mem_of_getElem? (i := 24) rfl)) u_3_145 ⟨rfl, rfl⟩ q3.2.a33_1 ?_
  refine y_st (e_41 (46, .iconst 2, 1) (List.mem_of_getElem? (i := 25) rfl)) ⟨rfl, rfl, rfl, rfl⟩ ?_
  refine y_c5 (K' := _) (e_41 (47, .invokevirtual 141, 3) (List.mem_of_getElem? (i := 26) rfl)) ⟨rfl, rfl, rfl⟩ t_3_141 ⟨by decide, by decide, by decide, by decide⟩ m_28_ok rfl (by decide) (y_recv q3.1.I q3.1.t ⟨rfl, rfl⟩) (Nat.le_of_ble_eq_true rfl) (Nat.le_of_ble_eq_true rfl) (k_takeN_yes q3.1 htk3 a3 b3 th0_p.2.2.2.2.2.2.2.2.1 ⟨rfl, rfl⟩ (by decide) ⟨by decide, by decide⟩ (y_okA (by rw [show (x_tb 15).2.2.2 = [(4, ((0 : Nat), (-2147483648 : Int), (2147483647 : Int)))] from rfl]; exact y_one (by decide))) (by decide) (by decide) hN4) (fun r1 Gc hc1 => ?_)
  obtain ⟨rfl, Gr4, ur4, hz4⟩ := hc1
  simp only [Option.toList_some, Option.toList_none, List.cons_append, List.nil_append]
  have hI4 := q3.1.I.upd ur4 th0_p.2.2.2.2.2.2.2.2.1 (y_okA (by rw [show (x_tb 15).2.2.2 = [(4, ((0 : Nat), (-2147483648 : Int), (2147483647 : Int)))] from rfl]; exact y_one (by decide)))
  have p4 : CS f n lim nx3 tk3 pl3 num3 nm3 ft fp (fun j => if j = 8 then num3 else (fun j => if j = 7 then num2 else (fun j => if j = 6 then num1 else cc j) j) j) np nt nl nn (oc + Int32.ofInt 1) (fun j => if j = oc.toInt.toNat then tk0 else ot j) tn ln mn Gr4 := ⟨q3.1.other ur4 (by decide) (by decide) hI4, q3.2.ubr (k := 2) (by decide) (fun c i => by rw [ur4.2.1] <;> rfl)⟩
  have q4 := p4.nxt hz4
  refine y_ifc (e_41 (50, .ifCond .eq 22, 3) (List.mem_of_getElem? (i := 27) rfl)) rfl (fun hc => absurd hc (by decide)) (fun _ => ?_)
  refine y_aln (e_41 (53, .aload_n 1, 1) (List.mem_of_getElem? (i := 28) rfl)) g1 ?_
  refine y_st (e_41 (54, .iconst 0, 1) (List.mem_of_getElem? (i := 29) rfl)) ⟨rfl, rfl, rfl, rfl⟩ ?_
  refine y_st (e_41 (55, .bipush 12, 2) (List.mem_of_getElem? (i := 30) rfl)) ⟨rfl, rfl, rfl, rfl⟩ ?_
  refine y_aln (e_41 (57, .aload_n 2, 1) (List.mem_of_getElem? (i := 31) rfl)) g2 ?_
  refine y_getf q4.1.I th0_p.2.2.2.2.2.2.1 (e_41 (58, .getfield 145, 3) (List.mem_of_getElem? (i := 32) rfl)) u_3_145 ⟨rfl, rfl⟩ q4.2.a33_1 ?_
  refine y_st (e_41 (61, .iconst 3, 1) (List.mem_of_getElem? (i := 33) rfl)) ⟨rfl, rfl, rfl, rfl⟩ ?_
  refine y_c5 (K' := _) (e_41 (62, .invokevirtual 141, 3) (List.mem_of_getElem? (i := 34) rfl)) ⟨rfl, rfl, rfl⟩ t_3_141 ⟨by decide, by decide, by decide, by decide⟩ m_28_ok rfl (by decide) (y_recv q4.1.I q4.1.t ⟨rfl, rfl⟩) (Nat.le_of_ble_eq_true rfl) (Nat.le_of_ble_eq_true rfl) (k_takeN_yes q4.1 htk4 a4 b4 th0_p.2.2.2.2.2.2.2.2.1 ⟨rfl, rfl⟩ (by decide) ⟨by decide, by decide⟩ (y_okA (by rw [show (x_tb 15).2.2.2 = [(4, ((0 : Nat), (-2147483648 : Int), (2147483647 : Int)))] from rfl]; exact y_one (by decide))) (by decide) (by decide) hN5) (fun r1 Gc hc1 => ?_)
  obtain ⟨rfl, Gr5, ur5, hz5⟩ := hc1
  simp only [Option.toList_some, Option.toList_none, List.cons_append, List.nil_append]
  have hI5 := q4.1.I.upd ur5 th0_p.2.2.2.2.2.2.2.2.1 (y_okA (by rw [show (x_tb 15).2.2.2 = [(4, ((0 : Nat), (-2147483648 : Int), (2147483647 : Int)))] from rfl]; exact y_one (by decide)))
  have p5 : CS f n lim nx4 tk4 pl4 num4 nm4 ft fp (fun j => if j = 9 then num4 else (fun j => if j = 8 then num3 else (fun j => if j = 7 then num2 else (fun j => if j = 6 then num1 else cc j) j) j) j) np nt nl nn (oc + Int32.ofInt 1) (fun j => if j = oc.toInt.toNat then tk0 else ot j) tn ln mn Gr5 := ⟨q4.1.other ur5 (by decide) (by decide) hI5, q4.2.ubr (k := 3) (by decide) (fun c i => by rw [ur5.2.1] <;> rfl)⟩
  have q5 := p5.nxt hz5
  refine y_ifc (e_41 (65, .ifCond .eq 7, 3) (List.mem_of_getElem? (i := 35) rfl)) rfl (fun hc => absurd hc (by decide)) (fun _ => ?_)
  refine y_st (e_41 (68, .iconst 1, 1) (List.mem_of_getElem? (i := 36) rfl)) ⟨rfl, rfl, rfl, rfl⟩ ?_
  refine y_st (e_41 (69, .goto 4, 3) (List.mem_of_getElem? (i := 37) rfl)) ⟨rfl, rfl, rfl, rfl⟩ ?_
  exact y_ret (e_41 (73, .ireturn, 1) (List.mem_of_getElem? (i := 39) rfl)) ⟨rfl, y_rb (Or.inr rfl)⟩ ⟨rfl, q5⟩
end CS6
