def m_25 : pM := (⟨"BreathingHill$LandReader", "readLine", "(LBreathingHill$Tape;LBreathingHill$Hill;)Z"⟩, 582, 4, some (FieldType.boolean), 3, 2, false, 2, 95, 581, 0)
set_option maxRecDepth 100000 in
theorem m_25_ok : pm_tab[25]? = some m_25 := rfl
theorem e_25 : ∀ q ∈ d_25, decode m_25.code q.1 = .ok (q.2.1, q.2.2) := y_dec d_25_ok m_25_ok
def m_42 : pM := (⟨"BreathingHill$LandReader", "readSetting", "(LBreathingHill$Tape;LBreathingHill$Land;)Z"⟩, 667, 4, some (FieldType.boolean), 3, 2, false, 2, 95, 666, 9)
set_option maxRecDepth 100000 in
theorem m_42_ok : pm_tab[42]? = some m_42 := rfl
theorem e_42 : ∀ q ∈ d_42, decode m_42.code q.1 = .ok (q.2.1, q.2.2) := y_dec d_42_ok m_42_ok
theorem t_3_61 : pm_ctab.find? (fun r => r.1 == 3 && r.2.1 == 61) = some (3, 61, 1, 26, 585) := by decide +kernel
theorem t_3_68 : pm_ctab.find? (fun r => r.1 == 3 && r.2.1 == 68) = some (3, 68, 1, 29, 601) := by decide +kernel
theorem t_3_74 : pm_ctab.find? (fun r => r.1 == 3 && r.2.1 == 74) = some (3, 74, 1, 37, 638) := by decide +kernel
theorem t_3_80 : pm_ctab.find? (fun r => r.1 == 3 && r.2.1 == 80) = some (3, 80, 1, 38, 644) := by decide +kernel
theorem t_3_86 : pm_ctab.find? (fun r => r.1 == 3 && r.2.1 == 86) = some (3, 86, 1, 39, 650) := by decide +kernel
theorem t_3_92 : pm_ctab.find? (fun r => r.1 == 3 && r.2.1 == 92) = some (3, 92, 1, 41, 660) := by decide +kernel
theorem t_3_95 : pm_ctab.find? (fun r => r.1 == 3 && r.2.1 == 95) = some (3, 95, 1, 42, 664) := by decide +kernel
theorem t_3_101 : pm_ctab.find? (fun r => r.1 == 3 && r.2.1 == 101) = some (3, 101, 1, 43, 670) := by decide +kernel
theorem t_3_107 : pm_ctab.find? (fun r => r.1 == 3 && r.2.1 == 107) = some (3, 107, 1, 44, 676) := by decide +kernel
theorem t_3_113 : pm_ctab.find? (fun r => r.1 == 3 && r.2.1 == 113) = some (3, 113, 1, 45, 682) := by decide +kernel
section CA1
variable {xs : Nat → Int32} {L J d : Nat} {K : Option Value → List pE → Prop} {f : Nat → Int32} {G G1 G' : List pE} {n lim ft fp : Int32} {lv : pL} {cc : Nat → Int32} {np nt nl nn oc : Int32} {ot : Nat → Nat} {tn ln mn : Nat → Int64} {nx0 pl0 num0 : Int32} {tk0 : Nat} {nm0 : Int64} {nx1 pl1 num1 : Int32} {tk1 : Nat} {nm1 : Int64} {nx2 pl2 num2 : Int32} {tk2 : Nat} {nm2 : Int64} {nx3 pl3 num3 : Int32} {tk3 : Nat} {nm3 : Int64} {nx4 pl4 num4 : Int32} {tk4 : Nat} {nm4 : Int64} {nx5 pl5 num5 : Int32} {tk5 : Nat} {nm5 : Int64} {nx6 pl6 num6 : Int32} {tk6 : Nat} {nm6 : Int64} {nx7 pl7 num7 : Int32} {tk7 : Nat} {nm7 : Int64} {nx8 pl8 num8 : Int32} {tk8 : Nat} {nm8 : Int64}
theorem y_retB {M : pM} {pc : Nat} {x : Int32} (hd : decode M.code pc = .ok (Instr.ireturn, 1)) (hM : M.ret = some FieldType.boolean) (hx : x = 0 ∨ x = 1) (hk : K (some (.int x)) G) : x_Gd xs L J d M K pc lv [.int x] G := y_ret hd ⟨rfl, by rw [hM]; exact y_rb hx⟩ hk
set_option maxHeartbeats 2000000 in
set_option maxRecDepth 100000 in
theorem c_set_force (h : CS f n lim nx0 tk0 pl0 num0 nm0 ft fp cc np nt nl nn oc ot tn ln mn G) (htk : tk0 = 12) (hK : ∀ r G', K r G' → ∃ x : Int32, r = some (.int x) ∧ (x = 0 ∨ x = 1)) (hm : x_Gd xs L J d m_43 K 0 (lv_args 0 [.ref 3, .ref 1, .ref 33]) [] G) : x_Gd xs L J (d + 1) m_42 K 0 (lv_args 0 [.ref 3, .ref 1, .ref 33]) [] G := by
  have g0 : pm_get (lv_args 0 [.ref 3, .ref 1, .ref 33]) 0 = some (.ref 3) := rfl
  have g1 : pm_get (lv_args 0 [.ref 3, .ref 1, .ref 33]) 1 = some (.ref 1) := rfl
  have g2 : pm_get (lv_args 0 [.ref 3, .ref 1, .ref 33]) 2 = some (.ref 33) := rfl
  generalize (lv_args 0 [.ref 3, .ref 1, .ref 33]) = lv at g0 g1 g2 ⊢
  refine y_aln (e_42 (0, .aload_n 1, 1) (List.mem_of_getElem? (i := 0) rfl)) g1 ?_
  refine y_getf h.1.I h.1.t (e_42 (1, .getfield 36, 3) (List.mem_of_getElem? (i := 1) rfl)) u_3_36 ⟨rfl, rfl⟩ h.1.s4 ?_
  refine y_asn (e_42 (4, .astore_n 3, 1) (List.mem_of_getElem? (i := 2) rfl)) (by decide) ?_
  have g3 : pm_get (pm_put1 lv 3 (.ref (pm_TB + tk0))) 3 = some (.ref (pm_TB + tk0)) := x_get_self
  have g0 : pm_get (pm_put1 lv 3 (.ref (pm_TB + tk0))) 0 = some (.ref 3) := y_gpr g0 (by decide)
  have g1 : pm_get (pm_put1 lv 3 (.ref (pm_TB + tk0))) 1 = some (.ref 1) := y_gpr g1 (by decide)
  have g2 : pm_get (pm_put1 lv 3 (.ref (pm_TB + tk0))) 2 = some (.ref 33) := y_gpr g2 (by decide)
  show x_Gd xs L J _ m_42 _ 5 (pm_put1 lv 3 (.ref (pm_TB + tk0))) [] G
  generalize pm_put1 lv 3 (.ref (pm_TB + tk0)) = lv3 at g0 g1 g2 g3 ⊢
  refine y_aln (e_42 (5, .aload_n 3, 1) (List.mem_of_getElem? (i := 3) rfl)) g3 ?_
  refine y_gst (a := pm_TB + 12) (e_42 (6, .getstatic 98, 3) (List.mem_of_getElem? (i := 4) rfl)) w_3_98 rfl ?_
  refine y_acmN (e_42 (9, .if_acmp .ne 10, 3) (List.mem_of_getElem? (i := 5) rfl)) rfl h.1.tk35 (by decide) (fun z => absurd htk z) (fun _ => ?_)
  refine y_aln (e_42 (12, .aload_n 0, 1) (List.mem_of_getElem? (i := 6) rfl)) g0 ?_
  refine y_aln (e_42 (13, .aload_n 1, 1) (List.mem_of_getElem? (i := 7) rfl)) g1 ?_
  refine y_aln (e_42 (14, .aload_n 2, 1) (List.mem_of_getElem? (i := 8) rfl)) g2 ?_
  refine y_c3 (K' := _) (e_42 (15, .invokevirtual 101, 3) (List.mem_of_getElem? (i := 9) rfl)) ⟨rfl, rfl, rfl⟩ t_3_101 ⟨by decide, by decide, by decide, by decide⟩ m_43_ok rfl (by decide) (y_recv h.1.I th0_p.2.2.1 ⟨rfl, rfl⟩) (Nat.le_of_ble_eq_true rfl) (Nat.le_of_ble_eq_true rfl) (hm) (fun r1 Gc hc1 => ?_)
  obtain ⟨x1, rfl, hx⟩ := hK _ _ hc1
  simp only [Option.toList_some, Option.toList_none, List.cons_append, List.nil_append]
  exact y_retB (e_42 (18, .ireturn, 1) (List.mem_of_getElem? (i := 10) rfl)) rfl hx hc1
set_option maxHeartbeats 2000000 in
set_option maxRecDepth 100000 in
theorem c_set_fade (h : CS f n lim nx0 tk0 pl0 num0 nm0 ft fp cc np nt nl nn oc ot tn ln mn G) (htk : tk0 = 13) (hK : ∀ r G', K r G' → ∃ x : Int32, r = some (.int x) ∧ (x = 0 ∨ x = 1)) (hm : x_Gd xs L J d m_44 K 0 (lv_args 0 [.ref 3, .ref 1, .ref 33]) [] G) : x_Gd xs L J (d + 1) m_42 K 0 (lv_args 0 [.ref 3, .ref 1, .ref 33]) [] G := by
  have g0 : pm_get (lv_args 0 [.ref 3, .ref 1, .ref 33]) 0 = some (.ref 3) := rfl
  have g1 : pm_get (lv_args 0 [.ref 3, .ref 1, .ref 33]) 1 = some (.ref 1) := rfl
  have g2 : pm_get (lv_args 0 [.ref 3, .ref 1, .ref 33]) 2 = some (.ref 33) := rfl
  generalize (lv_args 0 [.ref 3, .ref 1, .ref 33]) = lv at g0 g1 g2 ⊢
  refine y_aln (e_42 (0, .aload_n 1, 1) (List.mem_of_getElem? (i := 0) rfl)) g1 ?_
  refine y_getf h.1.I h.1.t (e_42 (1, .getfield 36, 3) (List.mem_of_getElem? (i := 1) rfl)) u_3_36 ⟨rfl, rfl⟩ h.1.s4 ?_
  refine y_asn (e_42 (4, .astore_n 3, 1) (List.mem_of_getElem? (i := 2) rfl)) (by decide) ?_
  have g3 : pm_get (pm_put1 lv 3 (.ref (pm_TB + tk0))) 3 = some (.ref (pm_TB + tk0)) := x_get_self
  have g0 : pm_get (pm_put1 lv 3 (.ref (pm_TB + tk0))) 0 = some (.ref 3) := y_gpr g0 (by decide)
  have g1 : pm_get (pm_put1 lv 3 (.ref (pm_TB + tk0))) 1 = some (.ref 1) := y_gpr g1 (by decide)
  have g2 : pm_get (pm_put1 lv 3 (.ref (pm_TB + tk0))) 2 = some (.ref 33) := y_gpr g2 (by decide)
  show x_Gd xs L J _ m_42 _ 5 (pm_put1 lv 3 (.ref (pm_TB + tk0))) [] G
  generalize pm_put1 lv 3 (.ref (pm_TB + tk0)) = lv3 at g0 g1 g2 g3 ⊢
  refine y_aln (e_42 (5, .aload_n 3, 1) (List.mem_of_getElem? (i := 3) rfl)) g3 ?_
  refine y_gst (a := pm_TB + 12) (e_42 (6, .getstatic 98, 3) (List.mem_of_getElem? (i := 4) rfl)) w_3_98 rfl ?_
  refine y_acmN (e_42 (9, .if_acmp .ne 10, 3) (List.mem_of_getElem? (i := 5) rfl)) rfl h.1.tk35 (by decide) (fun _ => ?_) (fun z => absurd (htk.symm.trans z) (by decide))
  refine y_aln (e_42 (19, .aload_n 3, 1) (List.mem_of_getElem? (i := 11) rfl)) g3 ?_
  refine y_gst (a := pm_TB + 13) (e_42 (20, .getstatic 104, 3) (List.mem_of_getElem? (i := 12) rfl)) w_3_104 rfl ?_
  refine y_acmN (e_42 (23, .if_acmp .ne 10, 3) (List.mem_of_getElem? (i := 13) rfl)) rfl h.1.tk35 (by decide) (fun z => absurd htk z) (fun _ => ?_)
  refine y_aln (e_42 (26, .aload_n 0, 1) (List.mem_of_getElem? (i := 14) rfl)) g0 ?_
  refine y_aln (e_42 (27, .aload_n 1, 1) (List.mem_of_getElem? (i := 15) rfl)) g1 ?_
  refine y_aln (e_42 (28, .aload_n 2, 1) (List.mem_of_getElem? (i := 16) rfl)) g2 ?_
  refine y_c3 (K' := _) (e_42 (29, .invokevirtual 107, 3) (List.mem_of_getElem? (i := 17) rfl)) ⟨rfl, rfl, rfl⟩ t_3_107 ⟨by decide, by decide, by decide, by decide⟩ m_44_ok rfl (by decide) (y_recv h.1.I th0_p.2.2.1 ⟨rfl, rfl⟩) (Nat.le_of_ble_eq_true rfl) (Nat.le_of_ble_eq_true rfl) (hm) (fun r1 Gc hc1 => ?_)
  obtain ⟨x1, rfl, hx⟩ := hK _ _ hc1
  simp only [Option.toList_some, Option.toList_none, List.cons_append, List.nil_append]
  exact y_retB (e_42 (32, .ireturn, 1) (List.mem_of_getElem? (i := 18) rfl)) rfl hx hc1
set_option maxHeartbeats 2000000 in
set_option maxRecDepth 100000 in
theorem c_set_held (h : CS f n lim nx0 tk0 pl0 num0 nm0 ft fp cc np nt nl nn oc ot tn ln mn G) (htk : tk0 = 14) (hK : ∀ r G', K r G' → ∃ x : Int32, r = some (.int x) ∧ (x = 0 ∨ x = 1)) (hm : x_Gd xs L J d m_45 K 0 (lv_args 0 [.ref 3, .ref 1, .ref 33]) [] G) : x_Gd xs L J (d + 1) m_42 K 0 (lv_args 0 [.ref 3, .ref 1, .ref 33]) [] G := by
  have g0 : pm_get (lv_args 0 [.ref 3, .ref 1, .ref 33]) 0 = some (.ref 3) := rfl
  have g1 : pm_get (lv_args 0 [.ref 3, .ref 1, .ref 33]) 1 = some (.ref 1) := rfl
  have g2 : pm_get (lv_args 0 [.ref 3, .ref 1, .ref 33]) 2 = some (.ref 33) := rfl
  generalize (lv_args 0 [.ref 3, .ref 1, .ref 33]) = lv at g0 g1 g2 ⊢
  refine y_aln (e_42 (0, .aload_n 1, 1) (List.mem_of_getElem? (i := 0) rfl)) g1 ?_
  refine y_getf h.1.I h.1.t (e_42 (1, .getfield 36, 3) (List.mem_of_getElem? (i := 1) rfl)) u_3_36 ⟨rfl, rfl⟩ h.1.s4 ?_
  refine y_asn (e_42 (4, .astore_n 3, 1) (List.mem_of_getElem? (i := 2) rfl)) (by decide) ?_
  have g3 : pm_get (pm_put1 lv 3 (.ref (pm_TB + tk0))) 3 = some (.ref (pm_TB + tk0)) := x_get_self
  have g0 : pm_get (pm_put1 lv 3 (.ref (pm_TB + tk0))) 0 = some (.ref 3) := y_gpr g0 (by decide)
  have g1 : pm_get (pm_put1 lv 3 (.ref (pm_TB + tk0))) 1 = some (.ref 1) := y_gpr g1 (by decide)
  have g2 : pm_get (pm_put1 lv 3 (.ref (pm_TB + tk0))) 2 = some (.ref 33) := y_gpr g2 (by decide)
  show x_Gd xs L J _ m_42 _ 5 (pm_put1 lv 3 (.ref (pm_TB + tk0))) [] G
  generalize pm_put1 lv 3 (.ref (pm_TB + tk0)) = lv3 at g0 g1 g2 g3 ⊢
  refine y_aln (e_42 (5, .aload_n 3, 1) (List.mem_of_getElem? (i := 3) rfl)) g3 ?_
  refine y_gst (a := pm_TB + 12) (e_42 (6, .getstatic 98, 3) (List.mem_of_getElem? (i := 4) rfl)) w_3_98 rfl ?_
  refine y_acmN (e_42 (9, .if_acmp .ne 10, 3) (List.mem_of_getElem? (i := 5) rfl)) rfl h.1.tk35 (by decide) (fun _ => ?_) (fun z => absurd (htk.symm.trans z) (by decide))
  refine y_aln (e_42 (19, .aload_n 3, 1) (List.mem_of_getElem? (i := 11) rfl)) g3 ?_
  refine y_gst (a := pm_TB + 13) (e_42 (20, .getstatic 104, 3) (List.mem_of_getElem? (i := 12) rfl)) w_3_104 rfl ?_
  refine y_acmN (e_42 (23, .if_acmp .ne 10, 3) (List.mem_of_getElem? (i := 13) rfl)) rfl h.1.tk35 (by decide) (fun _ => ?_) (fun z => absurd (htk.symm.trans z) (by decide))
  refine y_aln (e_42 (33, .aload_n 3, 1) (List.mem_of_getElem? (i := 19) rfl)) g3 ?_
  refine y_gst (a := pm_TB + 14) (e_42 (34, .getstatic 110, 3) (List.mem_of_getElem? (i := 20) rfl)) w_3_110 rfl ?_
  refine y_acmN (e_42 (37, .if_acmp .ne 10, 3) (List.mem_of_getElem? (i := 21) rfl)) rfl h.1.tk35 (by decide) (fun z => absurd htk z) (fun _ => ?_)
  refine y_aln (e_42 (40, .aload_n 0, 1) (List.mem_of_getElem? (i := 22) rfl)) g0 ?_
  refine y_aln (e_42 (41, .aload_n 1, 1) (List.mem_of_getElem? (i := 23) rfl)) g1 ?_
  refine y_aln (e_42 (42, .aload_n 2, 1) (List.mem_of_getElem? (i := 24) rfl)) g2 ?_
  refine y_c3 (K' := _) (e_42 (43, .invokevirtual 113, 3) (List.mem_of_getElem? (i := 25) rfl)) ⟨rfl, rfl, rfl⟩ t_3_113 ⟨by decide, by decide, by decide, by decide⟩ m_45_ok rfl (by decide) (y_recv h.1.I th0_p.2.2.1 ⟨rfl, rfl⟩) (Nat.le_of_ble_eq_true rfl) (Nat.le_of_ble_eq_true rfl) (hm) (fun r1 Gc hc1 => ?_)
  obtain ⟨x1, rfl, hx⟩ := hK _ _ hc1
  simp only [Option.toList_some, Option.toList_none, List.cons_append, List.nil_append]
  exact y_retB (e_42 (46, .ireturn, 1) (List.mem_of_getElem? (i := 26) rfl)) rfl hx hc1
set_option maxHeartbeats 2000000 in
set_option maxRecDepth 100000 in
theorem c_set_none (h : CS f n lim nx0 tk0 pl0 num0 nm0 ft fp cc np nt nl nn oc ot tn ln mn G) (hno : ∀ q, q ∈ [15, 16, 18, 19, 10, 11, 12, 13, 14] → tk0 ≠ q) : x_Gd xs L J (d + 2) m_42 (fun r G' => r = some (.int 0) ∧ x_sl G' 1 9 = some (.int pl0) ∧ x_sl G' 1 8 = some (.int (Int32.ofInt 1))) 0 (lv_args 0 [.ref 3, .ref 1, .ref 33]) [] G := by
  have g0 : pm_get (lv_args 0 [.ref 3, .ref 1, .ref 33]) 0 = some (.ref 3) := rfl
  have g1 : pm_get (lv_args 0 [.ref 3, .ref 1, .ref 33]) 1 = some (.ref 1) := rfl
  have g2 : pm_get (lv_args 0 [.ref 3, .ref 1, .ref 33]) 2 = some (.ref 33) := rfl
  generalize (lv_args 0 [.ref 3, .ref 1, .ref 33]) = lv at g0 g1 g2 ⊢
  refine y_aln (e_42 (0, .aload_n 1, 1) (List.mem_of_getElem? (i := 0) rfl)) g1 ?_
  refine y_getf h.1.I h.1.t (e_42 (1, .getfield 36, 3) (List.mem_of_getElem? (i := 1) rfl)) u_3_36 ⟨rfl, rfl⟩ h.1.s4 ?_
  refine y_asn (e_42 (4, .astore_n 3, 1) (List.mem_of_getElem? (i := 2) rfl)) (by decide) ?_
  have g3 : pm_get (pm_put1 lv 3 (.ref (pm_TB + tk0))) 3 = some (.ref (pm_TB + tk0)) := x_get_self
  have g0 : pm_get (pm_put1 lv 3 (.ref (pm_TB + tk0))) 0 = some (.ref 3) := y_gpr g0 (by decide)
  have g1 : pm_get (pm_put1 lv 3 (.ref (pm_TB + tk0))) 1 = some (.ref 1) := y_gpr g1 (by decide)
  have g2 : pm_get (pm_put1 lv 3 (.ref (pm_TB + tk0))) 2 = some (.ref 33) := y_gpr g2 (by decide)
  show x_Gd xs L J _ m_42 _ 5 (pm_put1 lv 3 (.ref (pm_TB + tk0))) [] G
  generalize pm_put1 lv 3 (.ref (pm_TB + tk0)) = lv3 at g0 g1 g2 g3 ⊢
  refine y_aln (e_42 (5, .aload_n 3, 1) (List.mem_of_getElem? (i := 3) rfl)) g3 ?_
  refine y_gst (a := pm_TB + 12) (e_42 (6, .getstatic 98, 3) (List.mem_of_getElem? (i := 4) rfl)) w_3_98 rfl ?_
  refine y_acmN (e_42 (9, .if_acmp .ne 10, 3) (List.mem_of_getElem? (i := 5) rfl)) rfl h.1.tk35 (by decide) (fun _ => ?_) (fun z => absurd z (hno 12 (by decide)))
  refine y_aln (e_42 (19, .aload_n 3, 1) (List.mem_of_getElem? (i := 11) rfl)) g3 ?_
  refine y_gst (a := pm_TB + 13) (e_42 (20, .getstatic 104, 3) (List.mem_of_getElem? (i := 12) rfl)) w_3_104 rfl ?_
  refine y_acmN (e_42 (23, .if_acmp .ne 10, 3) (List.mem_of_getElem? (i := 13) rfl)) rfl h.1.tk35 (by decide) (fun _ => ?_) (fun z => absurd z (hno 13 (by decide)))
  refine y_aln (e_42 (33, .aload_n 3, 1) (List.mem_of_getElem? (i := 19) rfl)) g3 ?_
  refine y_gst (a := pm_TB + 14) (e_42 (34, .getstatic 110, 3) (List.mem_of_getElem? (i := 20) rfl)) w_3_110 rfl ?_
  refine y_acmN (e_42 (37, .if_acmp .ne 10, 3) (List.mem_of_getElem? (i := 21) rfl)) rfl h.1.tk35 (by decide) (fun _ => ?_) (fun z => absurd z (hno 14 (by decide)))
  refine y_aln (e_42 (47, .aload_n 1, 1) (List.mem_of_getElem? (i := 27) rfl)) g1 ?_
  refine y_st (e_42 (48, .iconst 1, 1) (List.mem_of_getElem? (i := 28) rfl)) ⟨rfl, rfl, rfl, rfl⟩ ?_
  refine y_c2 (K' := _) (e_42 (49, .invokevirtual 116, 3) (List.mem_of_getElem? (i := 29) rfl)) ⟨rfl, rfl, rfl⟩ t_3_116 ⟨by decide, by decide, by decide, by decide⟩ m_27_ok rfl (by decide) (y_recv h.1.I h.1.t ⟨rfl, rfl⟩) (Nat.le_of_ble_eq_true rfl) (Nat.le_of_ble_eq_true rfl) (k_refuse h.1 _) (fun r1 Gc hc1 => ?_)
  obtain ⟨rfl, hc2⟩ := hc1
  simp only [Option.toList_some, Option.toList_none, List.cons_append, List.nil_append]
  exact y_ret (e_42 (52, .ireturn, 1) (List.mem_of_getElem? (i := 30) rfl)) ⟨rfl, y_rb (Or.inl rfl)⟩ ⟨rfl, hc2.s9, hc2.s8⟩
set_option maxHeartbeats 2000000 in
set_option maxRecDepth 100000 in
theorem c_to_passage (h : CS f n lim nx0 tk0 pl0 num0 nm0 ft fp cc np nt nl nn oc ot tn ln mn G) (htk : tk0 = 15) (hK : ∀ r G', K r G' → ∃ x : Int32, r = some (.int x) ∧ (x = 0 ∨ x = 1)) (hm : x_Gd xs L J d m_26 K 0 (lv_args 0 [.ref 3, .ref 1, .ref 33]) [] G) : x_Gd xs L J (d + 1) m_25 K 0 (lv_args 0 [.ref 3, .ref 1, .ref 32]) [] G := by
  have g0 : pm_get (lv_args 0 [.ref 3, .ref 1, .ref 32]) 0 = some (.ref 3) := rfl
  have g1 : pm_get (lv_args 0 [.ref 3, .ref 1, .ref 32]) 1 = some (.ref 1) := rfl
  have g2 : pm_get (lv_args 0 [.ref 3, .ref 1, .ref 32]) 2 = some (.ref 32) := rfl
  generalize (lv_args 0 [.ref 3, .ref 1, .ref 32]) = lv at g0 g1 g2 ⊢
  refine y_aln (e_25 (0, .aload_n 1, 1) (List.mem_of_getElem? (i := 0) rfl)) g1 ?_
  refine y_getf h.1.I h.1.t (e_25 (1, .getfield 36, 3) (List.mem_of_getElem? (i := 1) rfl)) u_3_36 ⟨rfl, rfl⟩ h.1.s4 ?_
  refine y_asn (e_25 (4, .astore_n 3, 1) (List.mem_of_getElem? (i := 2) rfl)) (by decide) ?_
  have g3 : pm_get (pm_put1 lv 3 (.ref (pm_TB + tk0))) 3 = some (.ref (pm_TB + tk0)) := x_get_self
  have g0 : pm_get (pm_put1 lv 3 (.ref (pm_TB + tk0))) 0 = some (.ref 3) := y_gpr g0 (by decide)
  have g1 : pm_get (pm_put1 lv 3 (.ref (pm_TB + tk0))) 1 = some (.ref 1) := y_gpr g1 (by decide)
  have g2 : pm_get (pm_put1 lv 3 (.ref (pm_TB + tk0))) 2 = some (.ref 32) := y_gpr g2 (by decide)
  show x_Gd xs L J _ m_25 _ 5 (pm_put1 lv 3 (.ref (pm_TB + tk0))) [] G
  generalize pm_put1 lv 3 (.ref (pm_TB + tk0)) = lv3 at g0 g1 g2 g3 ⊢
  refine y_aln (e_25 (5, .aload_n 3, 1) (List.mem_of_getElem? (i := 3) rfl)) g3 ?_
  refine y_gst (a := pm_TB + 15) (e_25 (6, .getstatic 54, 3) (List.mem_of_getElem? (i := 4) rfl)) w_3_54 rfl ?_
  refine y_acmN (e_25 (9, .if_acmp .ne 13, 3) (List.mem_of_getElem? (i := 5) rfl)) rfl h.1.tk35 (by decide) (fun z => absurd htk z) (fun _ => ?_)
  refine y_aln (e_25 (12, .aload_n 0, 1) (List.mem_of_getElem? (i := 6) rfl)) g0 ?_
  refine y_aln (e_25 (13, .aload_n 1, 1) (List.mem_of_getElem? (i := 7) rfl)) g1 ?_
  refine y_aln (e_25 (14, .aload_n 2, 1) (List.mem_of_getElem? (i := 8) rfl)) g2 ?_
  refine y_getf h.1.I th0_p.2.2.2.2.2.1 (e_25 (15, .getfield 57, 3) (List.mem_of_getElem? (i := 9) rfl)) u_3_57 ⟨rfl, rfl⟩ h.2.a32_0 ?_
  refine y_c3 (K' := _) (e_25 (18, .invokevirtual 61, 3) (List.mem_of_getElem? (i := 10) rfl)) ⟨rfl, rfl, rfl⟩ t_3_61 ⟨by decide, by decide, by decide, by decide⟩ m_26_ok rfl (by decide) (y_recv h.1.I th0_p.2.2.1 ⟨rfl, rfl⟩) (Nat.le_of_ble_eq_true rfl) (Nat.le_of_ble_eq_true rfl) (hm) (fun r1 Gc hc1 => ?_)
  obtain ⟨x1, rfl, hx⟩ := hK _ _ hc1
  simp only [Option.toList_some, Option.toList_none, List.cons_append, List.nil_append]
  exact y_retB (e_25 (21, .ireturn, 1) (List.mem_of_getElem? (i := 11) rfl)) rfl hx hc1
set_option maxHeartbeats 2000000 in
set_option maxRecDepth 100000 in
theorem c_to_thing (h : CS f n lim nx0 tk0 pl0 num0 nm0 ft fp cc np nt nl nn oc ot tn ln mn G) (htk : tk0 = 16) (hK : ∀ r G', K r G' → ∃ x : Int32, r = some (.int x) ∧ (x = 0 ∨ x = 1)) (hm : x_Gd xs L J d m_29 K 0 (lv_args 0 [.ref 3, .ref 1, .ref 32]) [] G) : x_Gd xs L J (d + 1) m_25 K 0 (lv_args 0 [.ref 3, .ref 1, .ref 32]) [] G := by
  have g0 : pm_get (lv_args 0 [.ref 3, .ref 1, .ref 32]) 0 = some (.ref 3) := rfl
  have g1 : pm_get (lv_args 0 [.ref 3, .ref 1, .ref 32]) 1 = some (.ref 1) := rfl
  have g2 : pm_get (lv_args 0 [.ref 3, .ref 1, .ref 32]) 2 = some (.ref 32) := rfl
  generalize (lv_args 0 [.ref 3, .ref 1, .ref 32]) = lv at g0 g1 g2 ⊢
  refine y_aln (e_25 (0, .aload_n 1, 1) (List.mem_of_getElem? (i := 0) rfl)) g1 ?_
  refine y_getf h.1.I h.1.t (e_25 (1, .getfield 36, 3) (List.mem_of_getElem? (i := 1) rfl)) u_3_36 ⟨rfl, rfl⟩ h.1.s4 ?_
  refine y_asn (e_25 (4, .astore_n 3, 1) (List.mem_of_getElem? (i := 2) rfl)) (by decide) ?_
  have g3 : pm_get (pm_put1 lv 3 (.ref (pm_TB + tk0))) 3 = some (.ref (pm_TB + tk0)) := x_get_self
  have g0 : pm_get (pm_put1 lv 3 (.ref (pm_TB + tk0))) 0 = some (.ref 3) := y_gpr g0 (by decide)
  have g1 : pm_get (pm_put1 lv 3 (.ref (pm_TB + tk0))) 1 = some (.ref 1) := y_gpr g1 (by decide)
  have g2 : pm_get (pm_put1 lv 3 (.ref (pm_TB + tk0))) 2 = some (.ref 32) := y_gpr g2 (by decide)
  show x_Gd xs L J _ m_25 _ 5 (pm_put1 lv 3 (.ref (pm_TB + tk0))) [] G
  generalize pm_put1 lv 3 (.ref (pm_TB + tk0)) = lv3 at g0 g1 g2 g3 ⊢
  refine y_aln (e_25 (5, .aload_n 3, 1) (List.mem_of_getElem? (i := 3) rfl)) g3 ?_
  refine y_gst (a := pm_TB + 15) (e_25 (6, .getstatic 54, 3) (List.mem_of_getElem? (i := 4) rfl)) w_3_54 rfl ?_
  refine y_acmN (e_25 (9, .if_acmp .ne 13, 3) (List.mem_of_getElem? (i := 5) rfl)) rfl h.1.tk35 (by decide) (fun _ => ?_) (fun z => absurd (htk.symm.trans z) (by decide))
  refine y_aln (e_25 (22, .aload_n 3, 1) (List.mem_of_getElem? (i := 12) rfl)) g3 ?_
  refine y_gst (a := pm_TB + 16) (e_25 (23, .getstatic 65, 3) (List.mem_of_getElem? (i := 13) rfl)) w_3_65 rfl ?_
  refine y_acmN (e_25 (26, .if_acmp .ne 10, 3) (List.mem_of_getElem? (i := 14) rfl)) rfl h.1.tk35 (by decide) (fun z => absurd htk z) (fun _ => ?_)
  refine y_aln (e_25 (29, .aload_n 0, 1) (List.mem_of_getElem? (i := 15) rfl)) g0 ?_
  refine y_aln (e_25 (30, .aload_n 1, 1) (List.mem_of_getElem? (i := 16) rfl)) g1 ?_
  refine y_aln (e_25 (31, .aload_n 2, 1) (List.mem_of_getElem? (i := 17) rfl)) g2 ?_
  refine y_c3 (K' := _) (e_25 (32, .invokevirtual 68, 3) (List.mem_of_getElem? (i := 18) rfl)) ⟨rfl, rfl, rfl⟩ t_3_68 ⟨by decide, by decide, by decide, by decide⟩ m_29_ok rfl (by decide) (y_recv h.1.I th0_p.2.2.1 ⟨rfl, rfl⟩) (Nat.le_of_ble_eq_true rfl) (Nat.le_of_ble_eq_true rfl) (hm) (fun r1 Gc hc1 => ?_)
  obtain ⟨x1, rfl, hx⟩ := hK _ _ hc1
  simp only [Option.toList_some, Option.toList_none, List.cons_append, List.nil_append]
  exact y_retB (e_25 (35, .ireturn, 1) (List.mem_of_getElem? (i := 19) rfl)) rfl hx hc1
set_option maxHeartbeats 2000000 in
set_option maxRecDepth 100000 in
theorem c_to_mill (h : CS f n lim nx0 tk0 pl0 num0 nm0 ft fp cc np nt nl nn oc ot tn ln mn G) (htk : tk0 = 18) (hK : ∀ r G', K r G' → ∃ x : Int32, r = some (.int x) ∧ (x = 0 ∨ x = 1)) (hm : x_Gd xs L J d m_37 K 0 (lv_args 0 [.ref 3, .ref 1, .ref 32]) [] G) : x_Gd xs L J (d + 1) m_25 K 0 (lv_args 0 [.ref 3, .ref 1, .ref 32]) [] G := by
  have g0 : pm_get (lv_args 0 [.ref 3, .ref 1, .ref 32]) 0 = some (.ref 3) := rfl
  have g1 : pm_get (lv_args 0 [.ref 3, .ref 1, .ref 32]) 1 = some (.ref 1) := rfl
  have g2 : pm_get (lv_args 0 [.ref 3, .ref 1, .ref 32]) 2 = some (.ref 32) := rfl
  generalize (lv_args 0 [.ref 3, .ref 1, .ref 32]) = lv at g0 g1 g2 ⊢
  refine y_aln (e_25 (0, .aload_n 1, 1) (List.mem_of_getElem? (i := 0) rfl)) g1 ?_
  refine y_getf h.1.I h.1.t (e_25 (1, .getfield 36, 3) (List.mem_of_getElem? (i := 1) rfl)) u_3_36 ⟨rfl, rfl⟩ h.1.s4 ?_
  refine y_asn (e_25 (4, .astore_n 3, 1) (List.mem_of_getElem? (i := 2) rfl)) (by decide) ?_
  have g3 : pm_get (pm_put1 lv 3 (.ref (pm_TB + tk0))) 3 = some (.ref (pm_TB + tk0)) := x_get_self
  have g0 : pm_get (pm_put1 lv 3 (.ref (pm_TB + tk0))) 0 = some (.ref 3) := y_gpr g0 (by decide)
  have g1 : pm_get (pm_put1 lv 3 (.ref (pm_TB + tk0))) 1 = some (.ref 1) := y_gpr g1 (by decide)
  have g2 : pm_get (pm_put1 lv 3 (.ref (pm_TB + tk0))) 2 = some (.ref 32) := y_gpr g2 (by decide)
  show x_Gd xs L J _ m_25 _ 5 (pm_put1 lv 3 (.ref (pm_TB + tk0))) [] G
  generalize pm_put1 lv 3 (.ref (pm_TB + tk0)) = lv3 at g0 g1 g2 g3 ⊢
  refine y_aln (e_25 (5, .aload_n 3, 1) (List.mem_of_getElem? (i := 3) rfl)) g3 ?_
  refine y_gst (a := pm_TB + 15) (e_25 (6, .getstatic 54, 3) (List.mem_of_getElem? (i := 4) rfl)) w_3_54 rfl ?_
  refine y_acmN (e_25 (9, .if_acmp .ne 13, 3) (List.mem_of_getElem? (i := 5) rfl)) rfl h.1.tk35 (by decide) (fun _ => ?_) (fun z => absurd (htk.symm.trans z) (by decide))
  refine y_aln (e_25 (22, .aload_n 3, 1) (List.mem_of_getElem? (i := 12) rfl)) g3 ?_
  refine y_gst (a := pm_TB + 16) (e_25 (23, .getstatic 65, 3) (List.mem_of_getElem? (i := 13) rfl)) w_3_65 rfl ?_
  refine y_acmN (e_25 (26, .if_acmp .ne 10, 3) (List.mem_of_getElem? (i := 14) rfl)) rfl h.1.tk35 (by decide) (fun _ => ?_) (fun z => absurd (htk.symm.trans z) (by decide))
  refine y_aln (e_25 (36, .aload_n 3, 1) (List.mem_of_getElem? (i := 20) rfl)) g3 ?_
  refine y_gst (a := pm_TB + 18) (e_25 (37, .getstatic 71, 3) (List.mem_of_getElem? (i := 21) rfl)) w_3_71 rfl ?_
  refine y_acmN (e_25 (40, .if_acmp .ne 10, 3) (List.mem_of_getElem? (i := 22) rfl)) rfl h.1.tk35 (by decide) (fun z => absurd htk z) (fun _ => ?_)
  refine y_aln (e_25 (43, .aload_n 0, 1) (List.mem_of_getElem? (i := 23) rfl)) g0 ?_
  refine y_aln (e_25 (44, .aload_n 1, 1) (List.mem_of_getElem? (i := 24) rfl)) g1 ?_
  refine y_aln (e_25 (45, .aload_n 2, 1) (List.mem_of_getElem? (i := 25) rfl)) g2 ?_
  refine y_c3 (K' := _) (e_25 (46, .invokevirtual 74, 3) (List.mem_of_getElem? (i := 26) rfl)) ⟨rfl, rfl, rfl⟩ t_3_74 ⟨by decide, by decide, by decide, by decide⟩ m_37_ok rfl (by decide) (y_recv h.1.I th0_p.2.2.1 ⟨rfl, rfl⟩) (Nat.le_of_ble_eq_true rfl) (Nat.le_of_ble_eq_true rfl) (hm) (fun r1 Gc hc1 => ?_)
  obtain ⟨x1, rfl, hx⟩ := hK _ _ hc1
  simp only [Option.toList_some, Option.toList_none, List.cons_append, List.nil_append]
  exact y_retB (e_25 (49, .ireturn, 1) (List.mem_of_getElem? (i := 27) rfl)) rfl hx hc1
set_option maxHeartbeats 2000000 in
set_option maxRecDepth 100000 in
theorem c_to_man (h : CS f n lim nx0 tk0 pl0 num0 nm0 ft fp cc np nt nl nn oc ot tn ln mn G) (htk : tk0 = 19) (hK : ∀ r G', K r G' → ∃ x : Int32, r = some (.int x) ∧ (x = 0 ∨ x = 1)) (hm : x_Gd xs L J d m_38 K 0 (lv_args 0 [.ref 3, .ref 1, .ref 32]) [] G) : x_Gd xs L J (d + 1) m_25 K 0 (lv_args 0 [.ref 3, .ref 1, .ref 32]) [] G := by
  have g0 : pm_get (lv_args 0 [.ref 3, .ref 1, .ref 32]) 0 = some (.ref 3) := rfl
  have g1 : pm_get (lv_args 0 [.ref 3, .ref 1, .ref 32]) 1 = some (.ref 1) := rfl
  have g2 : pm_get (lv_args 0 [.ref 3, .ref 1, .ref 32]) 2 = some (.ref 32) := rfl
  generalize (lv_args 0 [.ref 3, .ref 1, .ref 32]) = lv at g0 g1 g2 ⊢
  refine y_aln (e_25 (0, .aload_n 1, 1) (List.mem_of_getElem? (i := 0) rfl)) g1 ?_
  refine y_getf h.1.I h.1.t (e_25 (1, .getfield 36, 3) (List.mem_of_getElem? (i := 1) rfl)) u_3_36 ⟨rfl, rfl⟩ h.1.s4 ?_
  refine y_asn (e_25 (4, .astore_n 3, 1) (List.mem_of_getElem? (i := 2) rfl)) (by decide) ?_
  have g3 : pm_get (pm_put1 lv 3 (.ref (pm_TB + tk0))) 3 = some (.ref (pm_TB + tk0)) := x_get_self
  have g0 : pm_get (pm_put1 lv 3 (.ref (pm_TB + tk0))) 0 = some (.ref 3) := y_gpr g0 (by decide)
  have g1 : pm_get (pm_put1 lv 3 (.ref (pm_TB + tk0))) 1 = some (.ref 1) := y_gpr g1 (by decide)
  have g2 : pm_get (pm_put1 lv 3 (.ref (pm_TB + tk0))) 2 = some (.ref 32) := y_gpr g2 (by decide)
  show x_Gd xs L J _ m_25 _ 5 (pm_put1 lv 3 (.ref (pm_TB + tk0))) [] G
  generalize pm_put1 lv 3 (.ref (pm_TB + tk0)) = lv3 at g0 g1 g2 g3 ⊢
  refine y_aln (e_25 (5, .aload_n 3, 1) (List.mem_of_getElem? (i := 3) rfl)) g3 ?_
  refine y_gst (a := pm_TB + 15) (e_25 (6, .getstatic 54, 3) (List.mem_of_getElem? (i := 4) rfl)) w_3_54 rfl ?_
  refine y_acmN (e_25 (9, .if_acmp .ne 13, 3) (List.mem_of_getElem? (i := 5) rfl)) rfl h.1.tk35 (by decide) (fun _ => ?_) (fun z => absurd (htk.symm.trans z) (by decide))
  refine y_aln (e_25 (22, .aload_n 3, 1) (List.mem_of_getElem? (i := 12) rfl)) g3 ?_
  refine y_gst (a := pm_TB + 16) (e_25 (23, .getstatic 65, 3) (List.mem_of_getElem? (i := 13) rfl)) w_3_65 rfl ?_
  refine y_acmN (e_25 (26, .if_acmp .ne 10, 3) (List.mem_of_getElem? (i := 14) rfl)) rfl h.1.tk35 (by decide) (fun _ => ?_) (fun z => absurd (htk.symm.trans z) (by decide))
  refine y_aln (e_25 (36, .aload_n 3, 1) (List.mem_of_getElem? (i := 20) rfl)) g3 ?_
  refine y_gst (a := pm_TB + 18) (e_25 (37, .getstatic 71, 3) (List.mem_of_getElem? (i := 21) rfl)) w_3_71 rfl ?_
  refine y_acmN (e_25 (40, .if_acmp .ne 10, 3) (List.mem_of_getElem? (i := 22) rfl)) rfl h.1.tk35 (by decide) (fun _ => ?_) (fun z => absurd (htk.symm.trans z) (by decide))
  refine y_aln (e_25 (50, .aload_n 3, 1) (List.mem_of_getElem? (i := 28) rfl)) g3 ?_
  refine y_gst (a := pm_TB + 19) (e_25 (51, .getstatic 77, 3) (List.mem_of_getElem? (i := 29) rfl)) w_3_77 rfl ?_
  refine y_acmN (e_25 (54, .if_acmp .ne 10, 3) (List.mem_of_getElem? (i := 30) rfl)) rfl h.1.tk35 (by decide) (fun z => absurd htk z) (fun _ => ?_)
  refine y_aln (e_25 (57, .aload_n 0, 1) (List.mem_of_getElem? (i := 31) rfl)) g0 ?_
  refine y_aln (e_25 (58, .aload_n 1, 1) (List.mem_of_getElem? (i := 32) rfl)) g1 ?_
  refine y_aln (e_25 (59, .aload_n 2, 1) (List.mem_of_getElem? (i := 33) rfl)) g2 ?_
  refine y_c3 (K' := _) (e_25 (60, .invokevirtual 80, 3) (List.mem_of_getElem? (i := 34) rfl)) ⟨rfl, rfl, rfl⟩ t_3_80 ⟨by decide, by decide, by decide, by decide⟩ m_38_ok rfl (by decide) (y_recv h.1.I th0_p.2.2.1 ⟨rfl, rfl⟩) (Nat.le_of_ble_eq_true rfl) (Nat.le_of_ble_eq_true rfl) (hm) (fun r1 Gc hc1 => ?_)
  obtain ⟨x1, rfl, hx⟩ := hK _ _ hc1
  simp only [Option.toList_some, Option.toList_none, List.cons_append, List.nil_append]
  exact y_retB (e_25 (63, .ireturn, 1) (List.mem_of_getElem? (i := 35) rfl)) rfl hx hc1
set_option maxHeartbeats 2000000 in
set_option maxRecDepth 100000 in
theorem c_to_long (h : CS f n lim nx0 tk0 pl0 num0 nm0 ft fp cc np nt nl nn oc ot tn ln mn G) (htk : tk0 = 10) (hK : ∀ r G', K r G' → ∃ x : Int32, r = some (.int x) ∧ (x = 0 ∨ x = 1)) (hm : x_Gd xs L J d m_39 K 0 (lv_args 0 [.ref 3, .ref 1, .ref 32]) [] G) : x_Gd xs L J (d + 1) m_25 K 0 (lv_args 0 [.ref 3, .ref 1, .ref 32]) [] G := by
  have g0 : pm_get (lv_args 0 [.ref 3, .ref 1, .ref 32]) 0 = some (.ref 3) := rfl
  have g1 : pm_get (lv_args 0 [.ref 3, .ref 1, .ref 32]) 1 = some (.ref 1) := rfl
  have g2 : pm_get (lv_args 0 [.ref 3, .ref 1, .ref 32]) 2 = some (.ref 32) := rfl
  generalize (lv_args 0 [.ref 3, .ref 1, .ref 32]) = lv at g0 g1 g2 ⊢
  refine y_aln (e_25 (0, .aload_n 1, 1) (List.mem_of_getElem? (i := 0) rfl)) g1 ?_
  refine y_getf h.1.I h.1.t (e_25 (1, .getfield 36, 3) (List.mem_of_getElem? (i := 1) rfl)) u_3_36 ⟨rfl, rfl⟩ h.1.s4 ?_
  refine y_asn (e_25 (4, .astore_n 3, 1) (List.mem_of_getElem? (i := 2) rfl)) (by decide) ?_
  have g3 : pm_get (pm_put1 lv 3 (.ref (pm_TB + tk0))) 3 = some (.ref (pm_TB + tk0)) := x_get_self
  have g0 : pm_get (pm_put1 lv 3 (.ref (pm_TB + tk0))) 0 = some (.ref 3) := y_gpr g0 (by decide)
  have g1 : pm_get (pm_put1 lv 3 (.ref (pm_TB + tk0))) 1 = some (.ref 1) := y_gpr g1 (by decide)
  have g2 : pm_get (pm_put1 lv 3 (.ref (pm_TB + tk0))) 2 = some (.ref 32) := y_gpr g2 (by decide)
  show x_Gd xs L J _ m_25 _ 5 (pm_put1 lv 3 (.ref (pm_TB + tk0))) [] G
  generalize pm_put1 lv 3 (.ref (pm_TB + tk0)) = lv3 at g0 g1 g2 g3 ⊢
  refine y_aln (e_25 (5, .aload_n 3, 1) (List.mem_of_getElem? (i := 3) rfl)) g3 ?_
  refine y_gst (a := pm_TB + 15) (e_25 (6, .getstatic 54, 3) (List.mem_of_getElem? (i := 4) rfl)) w_3_54 rfl ?_
  refine y_acmN (e_25 (9, .if_acmp .ne 13, 3) (List.mem_of_getElem? (i := 5) rfl)) rfl h.1.tk35 (by decide) (fun _ => ?_) (fun z => absurd (htk.symm.trans z) (by decide))
  refine y_aln (e_25 (22, .aload_n 3, 1) (List.mem_of_getElem? (i := 12) rfl)) g3 ?_
  refine y_gst (a := pm_TB + 16) (e_25 (23, .getstatic 65, 3) (List.mem_of_getElem? (i := 13) rfl)) w_3_65 rfl ?_
  refine y_acmN (e_25 (26, .if_acmp .ne 10, 3) (List.mem_of_getElem? (i := 14) rfl)) rfl h.1.tk35 (by decide) (fun _ => ?_) (fun z => absurd (htk.symm.trans z) (by decide))
  refine y_aln (e_25 (36, .aload_n 3, 1) (List.mem_of_getElem? (i := 20) rfl)) g3 ?_
  refine y_gst (a := pm_TB + 18) (e_25 (37, .getstatic 71, 3) (List.mem_of_getElem? (i := 21) rfl)) w_3_71 rfl ?_
  refine y_acmN (e_25 (40, .if_acmp .ne 10, 3) (List.mem_of_getElem? (i := 22) rfl)) rfl h.1.tk35 (by decide) (fun _ => ?_) (fun z => absurd (htk.symm.trans z) (by decide))
  refine y_aln (e_25 (50, .aload_n 3, 1) (List.mem_of_getElem? (i := 28) rfl)) g3 ?_
  refine y_gst (a := pm_TB + 19) (e_25 (51, .getstatic 77, 3) (List.mem_of_getElem? (i := 29) rfl)) w_3_77 rfl ?_
  refine y_acmN (e_25 (54, .if_acmp .ne 10, 3) (List.mem_of_getElem? (i := 30) rfl)) rfl h.1.tk35 (by decide) (fun _ => ?_) (fun z => absurd (htk.symm.trans z) (by decide))
  refine y_aln (e_25 (64, .aload_n 3, 1) (List.mem_of_getElem? (i := 36) rfl)) g3 ?_
  refine y_gst (a := pm_TB + 10) (e_25 (65, .getstatic 83, 3) (List.mem_of_getElem? (i := 37) rfl)) w_3_83 rfl ?_
  refine y_acmN (e_25 (68, .if_acmp .ne 10, 3) (List.mem_of_getElem? (i := 38) rfl)) rfl h.1.tk35 (by decide) (fun z => absurd htk z) (fun _ => ?_)
  refine y_aln (e_25 (71, .aload_n 0, 1) (List.mem_of_getElem? (i := 39) rfl)) g0 ?_
  refine y_aln (e_25 (72, .aload_n 1, 1) (List.mem_of_getElem? (i := 40) rfl)) g1 ?_
  refine y_aln (e_25 (73, .aload_n 2, 1) (List.mem_of_getElem? (i := 41) rfl)) g2 ?_
  refine y_c3 (K' := _) (e_25 (74, .invokevirtual 86, 3) (List.mem_of_getElem? (i := 42) rfl)) ⟨rfl, rfl, rfl⟩ t_3_86 ⟨by decide, by decide, by decide, by decide⟩ m_39_ok rfl (by decide) (y_recv h.1.I th0_p.2.2.1 ⟨rfl, rfl⟩) (Nat.le_of_ble_eq_true rfl) (Nat.le_of_ble_eq_true rfl) (hm) (fun r1 Gc hc1 => ?_)
  obtain ⟨x1, rfl, hx⟩ := hK _ _ hc1
  simp only [Option.toList_some, Option.toList_none, List.cons_append, List.nil_append]
  exact y_retB (e_25 (77, .ireturn, 1) (List.mem_of_getElem? (i := 43) rfl)) rfl hx hc1
set_option maxHeartbeats 2000000 in
set_option maxRecDepth 100000 in
theorem c_to_breath (h : CS f n lim nx0 tk0 pl0 num0 nm0 ft fp cc np nt nl nn oc ot tn ln mn G) (htk : tk0 = 11) (hK : ∀ r G', K r G' → ∃ x : Int32, r = some (.int x) ∧ (x = 0 ∨ x = 1)) (hm : x_Gd xs L J d m_41 K 0 (lv_args 0 [.ref 3, .ref 1, .ref 33]) [] G) : x_Gd xs L J (d + 1) m_25 K 0 (lv_args 0 [.ref 3, .ref 1, .ref 32]) [] G := by
  have g0 : pm_get (lv_args 0 [.ref 3, .ref 1, .ref 32]) 0 = some (.ref 3) := rfl
  have g1 : pm_get (lv_args 0 [.ref 3, .ref 1, .ref 32]) 1 = some (.ref 1) := rfl
  have g2 : pm_get (lv_args 0 [.ref 3, .ref 1, .ref 32]) 2 = some (.ref 32) := rfl
  generalize (lv_args 0 [.ref 3, .ref 1, .ref 32]) = lv at g0 g1 g2 ⊢
  refine y_aln (e_25 (0, .aload_n 1, 1) (List.mem_of_getElem? (i := 0) rfl)) g1 ?_
  refine y_getf h.1.I h.1.t (e_25 (1, .getfield 36, 3) (List.mem_of_getElem? (i := 1) rfl)) u_3_36 ⟨rfl, rfl⟩ h.1.s4 ?_
  refine y_asn (e_25 (4, .astore_n 3, 1) (List.mem_of_getElem? (i := 2) rfl)) (by decide) ?_
  have g3 : pm_get (pm_put1 lv 3 (.ref (pm_TB + tk0))) 3 = some (.ref (pm_TB + tk0)) := x_get_self
  have g0 : pm_get (pm_put1 lv 3 (.ref (pm_TB + tk0))) 0 = some (.ref 3) := y_gpr g0 (by decide)
  have g1 : pm_get (pm_put1 lv 3 (.ref (pm_TB + tk0))) 1 = some (.ref 1) := y_gpr g1 (by decide)
  have g2 : pm_get (pm_put1 lv 3 (.ref (pm_TB + tk0))) 2 = some (.ref 32) := y_gpr g2 (by decide)
  show x_Gd xs L J _ m_25 _ 5 (pm_put1 lv 3 (.ref (pm_TB + tk0))) [] G
  generalize pm_put1 lv 3 (.ref (pm_TB + tk0)) = lv3 at g0 g1 g2 g3 ⊢
  refine y_aln (e_25 (5, .aload_n 3, 1) (List.mem_of_getElem? (i := 3) rfl)) g3 ?_
  refine y_gst (a := pm_TB + 15) (e_25 (6, .getstatic 54, 3) (List.mem_of_getElem? (i := 4) rfl)) w_3_54 rfl ?_
  refine y_acmN (e_25 (9, .if_acmp .ne 13, 3) (List.mem_of_getElem? (i := 5) rfl)) rfl h.1.tk35 (by decide) (fun _ => ?_) (fun z => absurd (htk.symm.trans z) (by decide))
  refine y_aln (e_25 (22, .aload_n 3, 1) (List.mem_of_getElem? (i := 12) rfl)) g3 ?_
  refine y_gst (a := pm_TB + 16) (e_25 (23, .getstatic 65, 3) (List.mem_of_getElem? (i := 13) rfl)) w_3_65 rfl ?_
  refine y_acmN (e_25 (26, .if_acmp .ne 10, 3) (List.mem_of_getElem? (i := 14) rfl)) rfl h.1.tk35 (by decide) (fun _ => ?_) (fun z => absurd (htk.symm.trans z) (by decide))
  refine y_aln (e_25 (36, .aload_n 3, 1) (List.mem_of_getElem? (i := 20) rfl)) g3 ?_
  refine y_gst (a := pm_TB + 18) (e_25 (37, .getstatic 71, 3) (List.mem_of_getElem? (i := 21) rfl)) w_3_71 rfl ?_
  refine y_acmN (e_25 (40, .if_acmp .ne 10, 3) (List.mem_of_getElem? (i := 22) rfl)) rfl h.1.tk35 (by decide) (fun _ => ?_) (fun z => absurd (htk.symm.trans z) (by decide))
  refine y_aln (e_25 (50, .aload_n 3, 1) (List.mem_of_getElem? (i := 28) rfl)) g3 ?_
  refine y_gst (a := pm_TB + 19) (e_25 (51, .getstatic 77, 3) (List.mem_of_getElem? (i := 29) rfl)) w_3_77 rfl ?_
  refine y_acmN (e_25 (54, .if_acmp .ne 10, 3) (List.mem_of_getElem? (i := 30) rfl)) rfl h.1.tk35 (by decide) (fun _ => ?_) (fun z => absurd (htk.symm.trans z) (by decide))
  refine y_aln (e_25 (64, .aload_n 3, 1) (List.mem_of_getElem? (i := 36) rfl)) g3 ?_
  refine y_gst (a := pm_TB + 10) (e_25 (65, .getstatic 83, 3) (List.mem_of_getElem? (i := 37) rfl)) w_3_83 rfl ?_
  refine y_acmN (e_25 (68, .if_acmp .ne 10, 3) (List.mem_of_getElem? (i := 38) rfl)) rfl h.1.tk35 (by decide) (fun _ => ?_) (fun z => absurd (htk.symm.trans z) (by decide))
  refine y_aln (e_25 (78, .aload_n 3, 1) (List.mem_of_getElem? (i := 44) rfl)) g3 ?_
  refine y_gst (a := pm_TB + 11) (e_25 (79, .getstatic 89, 3) (List.mem_of_getElem? (i := 45) rfl)) w_3_89 rfl ?_
  refine y_acmN (e_25 (82, .if_acmp .ne 13, 3) (List.mem_of_getElem? (i := 46) rfl)) rfl h.1.tk35 (by decide) (fun z => absurd htk z) (fun _ => ?_)
  refine y_aln (e_25 (85, .aload_n 0, 1) (List.mem_of_getElem? (i := 47) rfl)) g0 ?_
  refine y_aln (e_25 (86, .aload_n 1, 1) (List.mem_of_getElem? (i := 48) rfl)) g1 ?_
  refine y_aln (e_25 (87, .aload_n 2, 1) (List.mem_of_getElem? (i := 49) rfl)) g2 ?_
  refine y_getf h.1.I th0_p.2.2.2.2.2.1 (e_25 (88, .getfield 57, 3) (List.mem_of_getElem? (i := 50) rfl)) u_3_57 ⟨rfl, rfl⟩ h.2.a32_0 ?_
  refine y_c3 (K' := _) (e_25 (91, .invokevirtual 92, 3) (List.mem_of_getElem? (i := 51) rfl)) ⟨rfl, rfl, rfl⟩ t_3_92 ⟨by decide, by decide, by decide, by decide⟩ m_41_ok rfl (by decide) (y_recv h.1.I th0_p.2.2.1 ⟨rfl, rfl⟩) (Nat.le_of_ble_eq_true rfl) (Nat.le_of_ble_eq_true rfl) (hm) (fun r1 Gc hc1 => ?_)
  obtain ⟨x1, rfl, hx⟩ := hK _ _ hc1
  simp only [Option.toList_some, Option.toList_none, List.cons_append, List.nil_append]
  exact y_retB (e_25 (94, .ireturn, 1) (List.mem_of_getElem? (i := 52) rfl)) rfl hx hc1
set_option maxHeartbeats 2000000 in
set_option maxRecDepth 100000 in
theorem c_to_force (h : CS f n lim nx0 tk0 pl0 num0 nm0 ft fp cc np nt nl nn oc ot tn ln mn G) (htk : tk0 = 12) (hK : ∀ r G', K r G' → ∃ x : Int32, r = some (.int x) ∧ (x = 0 ∨ x = 1)) (hm : x_Gd xs L J d m_43 K 0 (lv_args 0 [.ref 3, .ref 1, .ref 33]) [] G) : x_Gd xs L J (d + 2) m_25 K 0 (lv_args 0 [.ref 3, .ref 1, .ref 32]) [] G := by
  have g0 : pm_get (lv_args 0 [.ref 3, .ref 1, .ref 32]) 0 = some (.ref 3) := rfl
  have g1 : pm_get (lv_args 0 [.ref 3, .ref 1, .ref 32]) 1 = some (.ref 1) := rfl
  have g2 : pm_get (lv_args 0 [.ref 3, .ref 1, .ref 32]) 2 = some (.ref 32) := rfl
  generalize (lv_args 0 [.ref 3, .ref 1, .ref 32]) = lv at g0 g1 g2 ⊢
  refine y_aln (e_25 (0, .aload_n 1, 1) (List.mem_of_getElem? (i := 0) rfl)) g1 ?_
  refine y_getf h.1.I h.1.t (e_25 (1, .getfield 36, 3) (List.mem_of_getElem? (i := 1) rfl)) u_3_36 ⟨rfl, rfl⟩ h.1.s4 ?_
  refine y_asn (e_25 (4, .astore_n 3, 1) (List.mem_of_getElem? (i := 2) rfl)) (by decide) ?_
  have g3 : pm_get (pm_put1 lv 3 (.ref (pm_TB + tk0))) 3 = some (.ref (pm_TB + tk0)) := x_get_self
  have g0 : pm_get (pm_put1 lv 3 (.ref (pm_TB + tk0))) 0 = some (.ref 3) := y_gpr g0 (by decide)
  have g1 : pm_get (pm_put1 lv 3 (.ref (pm_TB + tk0))) 1 = some (.ref 1) := y_gpr g1 (by decide)
  have g2 : pm_get (pm_put1 lv 3 (.ref (pm_TB + tk0))) 2 = some (.ref 32) := y_gpr g2 (by decide)
  show x_Gd xs L J _ m_25 _ 5 (pm_put1 lv 3 (.ref (pm_TB + tk0))) [] G
  generalize pm_put1 lv 3 (.ref (pm_TB + tk0)) = lv3 at g0 g1 g2 g3 ⊢
  refine y_aln (e_25 (5, .aload_n 3, 1) (List.mem_of_getElem? (i := 3) rfl)) g3 ?_
  refine y_gst (a := pm_TB + 15) (e_25 (6, .getstatic 54, 3) (List.mem_of_getElem? (i := 4) rfl)) w_3_54 rfl ?_
  refine y_acmN (e_25 (9, .if_acmp .ne 13, 3) (List.mem_of_getElem? (i := 5) rfl)) rfl h.1.tk35 (by decide) (fun _ => ?_) (fun z => absurd (htk.symm.trans z) (by decide))
  refine y_aln (e_25 (22, .aload_n 3, 1) (List.mem_of_getElem? (i := 12) rfl)) g3 ?_
  refine y_gst (a := pm_TB + 16) (e_25 (23, .getstatic 65, 3) (List.mem_of_getElem? (i := 13) rfl)) w_3_65 rfl ?_
  refine y_acmN (e_25 (26, .if_acmp .ne 10, 3) (List.mem_of_getElem? (i := 14) rfl)) rfl h.1.tk35 (by decide) (fun _ => ?_) (fun z => absurd (htk.symm.trans z) (by decide))
  refine y_aln (e_25 (36, .aload_n 3, 1) (List.mem_of_getElem? (i := 20) rfl)) g3 ?_
  refine y_gst (a := pm_TB + 18) (e_25 (37, .getstatic 71, 3) (List.mem_of_getElem? (i := 21) rfl)) w_3_71 rfl ?_
  refine y_acmN (e_25 (40, .if_acmp .ne 10, 3) (List.mem_of_getElem? (i := 22) rfl)) rfl h.1.tk35 (by decide) (fun _ => ?_) (fun z => absurd (htk.symm.trans z) (by decide))
  refine y_aln (e_25 (50, .aload_n 3, 1) (List.mem_of_getElem? (i := 28) rfl)) g3 ?_
  refine y_gst (a := pm_TB + 19) (e_25 (51, .getstatic 77, 3) (List.mem_of_getElem? (i := 29) rfl)) w_3_77 rfl ?_
  refine y_acmN (e_25 (54, .if_acmp .ne 10, 3) (List.mem_of_getElem? (i := 30) rfl)) rfl h.1.tk35 (by decide) (fun _ => ?_) (fun z => absurd (htk.symm.trans z) (by decide))
  refine y_aln (e_25 (64, .aload_n 3, 1) (List.mem_of_getElem? (i := 36) rfl)) g3 ?_
  refine y_gst (a := pm_TB + 10) (e_25 (65, .getstatic 83, 3) (List.mem_of_getElem? (i := 37) rfl)) w_3_83 rfl ?_
  refine y_acmN (e_25 (68, .if_acmp .ne 10, 3) (List.mem_of_getElem? (i := 38) rfl)) rfl h.1.tk35 (by decide) (fun _ => ?_) (fun z => absurd (htk.symm.trans z) (by decide))
  refine y_aln (e_25 (78, .aload_n 3, 1) (List.mem_of_getElem? (i := 44) rfl)) g3 ?_
  refine y_gst (a := pm_TB + 11) (e_25 (79, .getstatic 89, 3) (List.mem_of_getElem? (i := 45) rfl)) w_3_89 rfl ?_
  refine y_acmN (e_25 (82, .if_acmp .ne 13, 3) (List.mem_of_getElem? (i := 46) rfl)) rfl h.1.tk35 (by decide) (fun _ => ?_) (fun z => absurd (htk.symm.trans z) (by decide))
  refine y_aln (e_25 (95, .aload_n 0, 1) (List.mem_of_getElem? (i := 53) rfl)) g0 ?_
  refine y_aln (e_25 (96, .aload_n 1, 1) (List.mem_of_getElem? (i := 54) rfl)) g1 ?_
  refine y_aln (e_25 (97, .aload_n 2, 1) (List.mem_of_getElem? (i := 55) rfl)) g2 ?_
  refine y_getf h.1.I th0_p.2.2.2.2.2.1 (e_25 (98, .getfield 57, 3) (List.mem_of_getElem? (i := 56) rfl)) u_3_57 ⟨rfl, rfl⟩ h.2.a32_0 ?_
  refine y_c3 (K' := _) (e_25 (101, .invokevirtual 95, 3) (List.mem_of_getElem? (i := 57) rfl)) ⟨rfl, rfl, rfl⟩ t_3_95 ⟨by decide, by decide, by decide, by decide⟩ m_42_ok rfl (by decide) (y_recv h.1.I th0_p.2.2.1 ⟨rfl, rfl⟩) (Nat.le_of_ble_eq_true rfl) (Nat.le_of_ble_eq_true rfl) (c_set_force h htk hK hm) (fun r1 Gc hc1 => ?_)
  obtain ⟨x1, rfl, hx⟩ := hK _ _ hc1
  simp only [Option.toList_some, Option.toList_none, List.cons_append, List.nil_append]
  exact y_retB (e_25 (104, .ireturn, 1) (List.mem_of_getElem? (i := 58) rfl)) rfl hx hc1
set_option maxHeartbeats 2000000 in
set_option maxRecDepth 100000 in
theorem c_to_fade (h : CS f n lim nx0 tk0 pl0 num0 nm0 ft fp cc np nt nl nn oc ot tn ln mn G) (htk : tk0 = 13) (hK : ∀ r G', K r G' → ∃ x : Int32, r = some (.int x) ∧ (x = 0 ∨ x = 1)) (hm : x_Gd xs L J d m_44 K 0 (lv_args 0 [.ref 3, .ref 1, .ref 33]) [] G) : x_Gd xs L J (d + 2) m_25 K 0 (lv_args 0 [.ref 3, .ref 1, .ref 32]) [] G := by
  have g0 : pm_get (lv_args 0 [.ref 3, .ref 1, .ref 32]) 0 = some (.ref 3) := rfl
  have g1 : pm_get (lv_args 0 [.ref 3, .ref 1, .ref 32]) 1 = some (.ref 1) := rfl
  have g2 : pm_get (lv_args 0 [.ref 3, .ref 1, .ref 32]) 2 = some (.ref 32) := rfl
  generalize (lv_args 0 [.ref 3, .ref 1, .ref 32]) = lv at g0 g1 g2 ⊢
  refine y_aln (e_25 (0, .aload_n 1, 1) (List.mem_of_getElem? (i := 0) rfl)) g1 ?_
  refine y_getf h.1.I h.1.t (e_25 (1, .getfield 36, 3) (List.mem_of_getElem? (i := 1) rfl)) u_3_36 ⟨rfl, rfl⟩ h.1.s4 ?_
  refine y_asn (e_25 (4, .astore_n 3, 1) (List.mem_of_getElem? (i := 2) rfl)) (by decide) ?_
  have g3 : pm_get (pm_put1 lv 3 (.ref (pm_TB + tk0))) 3 = some (.ref (pm_TB + tk0)) := x_get_self
  have g0 : pm_get (pm_put1 lv 3 (.ref (pm_TB + tk0))) 0 = some (.ref 3) := y_gpr g0 (by decide)
  have g1 : pm_get (pm_put1 lv 3 (.ref (pm_TB + tk0))) 1 = some (.ref 1) := y_gpr g1 (by decide)
  have g2 : pm_get (pm_put1 lv 3 (.ref (pm_TB + tk0))) 2 = some (.ref 32) := y_gpr g2 (by decide)
  show x_Gd xs L J _ m_25 _ 5 (pm_put1 lv 3 (.ref (pm_TB + tk0))) [] G
  generalize pm_put1 lv 3 (.ref (pm_TB + tk0)) = lv3 at g0 g1 g2 g3 ⊢
  refine y_aln (e_25 (5, .aload_n 3, 1) (List.mem_of_getElem? (i := 3) rfl)) g3 ?_
  refine y_gst (a := pm_TB + 15) (e_25 (6, .getstatic 54, 3) (List.mem_of_getElem? (i := 4) rfl)) w_3_54 rfl ?_
  refine y_acmN (e_25 (9, .if_acmp .ne 13, 3) (List.mem_of_getElem? (i := 5) rfl)) rfl h.1.tk35 (by decide) (fun _ => ?_) (fun z => absurd (htk.symm.trans z) (by decide))
  refine y_aln (e_25 (22, .aload_n 3, 1) (List.mem_of_getElem? (i := 12) rfl)) g3 ?_
  refine y_gst (a := pm_TB + 16) (e_25 (23, .getstatic 65, 3) (List.mem_of_getElem? (i := 13) rfl)) w_3_65 rfl ?_
  refine y_acmN (e_25 (26, .if_acmp .ne 10, 3) (List.mem_of_getElem? (i := 14) rfl)) rfl h.1.tk35 (by decide) (fun _ => ?_) (fun z => absurd (htk.symm.trans z) (by decide))
  refine y_aln (e_25 (36, .aload_n 3, 1) (List.mem_of_getElem? (i := 20) rfl)) g3 ?_
  refine y_gst (a := pm_TB + 18) (e_25 (37, .getstatic 71, 3) (List.mem_of_getElem? (i := 21) rfl)) w_3_71 rfl ?_
  refine y_acmN (e_25 (40, .if_acmp .ne 10, 3) (List.mem_of_getElem? (i := 22) rfl)) rfl h.1.tk35 (by decide) (fun _ => ?_) (fun z => absurd (htk.symm.trans z) (by decide))
  refine y_aln (e_25 (50, .aload_n 3, 1) (List.mem_of_getElem? (i := 28) rfl)) g3 ?_
  refine y_gst (a := pm_TB + 19) (e_25 (51, .getstatic 77, 3) (List.mem_of_getElem? (i := 29) rfl)) w_3_77 rfl ?_
  refine y_acmN (e_25 (54, .if_acmp .ne 10, 3) (List.mem_of_getElem? (i := 30) rfl)) rfl h.1.tk35 (by decide) (fun _ => ?_) (fun z => absurd (htk.symm.trans z) (by decide))
  refine y_aln (e_25 (64, .aload_n 3, 1) (List.mem_of_getElem? (i := 36) rfl)) g3 ?_
  refine y_gst (a := pm_TB + 10) (e_25 (65, .getstatic 83, 3) (List.mem_of_getElem? (i := 37) rfl)) w_3_83 rfl ?_
  refine y_acmN (e_25 (68, .if_acmp .ne 10, 3) (List.mem_of_getElem? (i := 38) rfl)) rfl h.1.tk35 (by decide) (fun _ => ?_) (fun z => absurd (htk.symm.trans z) (by decide))
  refine y_aln (e_25 (78, .aload_n 3, 1) (List.mem_of_getElem? (i := 44) rfl)) g3 ?_
  refine y_gst (a := pm_TB + 11) (e_25 (79, .getstatic 89, 3) (List.mem_of_getElem? (i := 45) rfl)) w_3_89 rfl ?_
  refine y_acmN (e_25 (82, .if_acmp .ne 13, 3) (List.mem_of_getElem? (i := 46) rfl)) rfl h.1.tk35 (by decide) (fun _ => ?_) (fun z => absurd (htk.symm.trans z) (by decide))
  refine y_aln (e_25 (95, .aload_n 0, 1) (List.mem_of_getElem? (i := 53) rfl)) g0 ?_
  refine y_aln (e_25 (96, .aload_n 1, 1) (List.mem_of_getElem? (i := 54) rfl)) g1 ?_
  refine y_aln (e_25 (97, .aload_n 2, 1) (List.mem_of_getElem? (i := 55) rfl)) g2 ?_
  refine y_getf h.1.I th0_p.2.2.2.2.2.1 (e_25 (98, .getfield 57, 3) (List.mem_of_getElem? (i := 56) rfl)) u_3_57 ⟨rfl, rfl⟩ h.2.a32_0 ?_
  refine y_c3 (K' := _) (e_25 (101, .invokevirtual 95, 3) (List.mem_of_getElem? (i := 57) rfl)) ⟨rfl, rfl, rfl⟩ t_3_95 ⟨by decide, by decide, by decide, by decide⟩ m_42_ok rfl (by decide) (y_recv h.1.I th0_p.2.2.1 ⟨rfl, rfl⟩) (Nat.le_of_ble_eq_true rfl) (Nat.le_of_ble_eq_true rfl) (c_set_fade h htk hK hm) (fun r1 Gc hc1 => ?_)
  obtain ⟨x1, rfl, hx⟩ := hK _ _ hc1
  simp only [Option.toList_some, Option.toList_none, List.cons_append, List.nil_append]
  exact y_retB (e_25 (104, .ireturn, 1) (List.mem_of_getElem? (i := 58) rfl)) rfl hx hc1
set_option maxHeartbeats 2000000 in
set_option maxRecDepth 100000 in
theorem c_to_held (h : CS f n lim nx0 tk0 pl0 num0 nm0 ft fp cc np nt nl nn oc ot tn ln mn G) (htk : tk0 = 14) (hK : ∀ r G', K r G' → ∃ x : Int32, r = some (.int x) ∧ (x = 0 ∨ x = 1)) (hm : x_Gd xs L J d m_45 K 0 (lv_args 0 [.ref 3, .ref 1, .ref 33]) [] G) : x_Gd xs L J (d + 2) m_25 K 0 (lv_args 0 [.ref 3, .ref 1, .ref 32]) [] G := by
  have g0 : pm_get (lv_args 0 [.ref 3, .ref 1, .ref 32]) 0 = some (.ref 3) := rfl
  have g1 : pm_get (lv_args 0 [.ref 3, .ref 1, .ref 32]) 1 = some (.ref 1) := rfl
  have g2 : pm_get (lv_args 0 [.ref 3, .ref 1, .ref 32]) 2 = some (.ref 32) := rfl
  generalize (lv_args 0 [.ref 3, .ref 1, .ref 32]) = lv at g0 g1 g2 ⊢
  refine y_aln (e_25 (0, .aload_n 1, 1) (List.mem_of_getElem? (i := 0) rfl)) g1 ?_
  refine y_getf h.1.I h.1.t (e_25 (1, .getfield 36, 3) (List.mem_of_getElem? (i := 1) rfl)) u_3_36 ⟨rfl, rfl⟩ h.1.s4 ?_
  refine y_asn (e_25 (4, .astore_n 3, 1) (List.mem_of_getElem? (i := 2) rfl)) (by decide) ?_
  have g3 : pm_get (pm_put1 lv 3 (.ref (pm_TB + tk0))) 3 = some (.ref (pm_TB + tk0)) := x_get_self
  have g0 : pm_get (pm_put1 lv 3 (.ref (pm_TB + tk0))) 0 = some (.ref 3) := y_gpr g0 (by decide)
  have g1 : pm_get (pm_put1 lv 3 (.ref (pm_TB + tk0))) 1 = some (.ref 1) := y_gpr g1 (by decide)
  have g2 : pm_get (pm_put1 lv 3 (.ref (pm_TB + tk0))) 2 = some (.ref 32) := y_gpr g2 (by decide)
  show x_Gd xs L J _ m_25 _ 5 (pm_put1 lv 3 (.ref (pm_TB + tk0))) [] G
  generalize pm_put1 lv 3 (.ref (pm_TB + tk0)) = lv3 at g0 g1 g2 g3 ⊢
  refine y_aln (e_25 (5, .aload_n 3, 1) (List.mem_of_getElem? (i := 3) rfl)) g3 ?_
  refine y_gst (a := pm_TB + 15) (e_25 (6, .getstatic 54, 3) (List.mem_of_getElem? (i := 4) rfl)) w_3_54 rfl ?_
  refine y_acmN (e_25 (9, .if_acmp .ne 13, 3) (List.mem_of_getElem? (i := 5) rfl)) rfl h.1.tk35 (by decide) (fun _ => ?_) (fun z => absurd (htk.symm.trans z) (by decide))
  refine y_aln (e_25 (22, .aload_n 3, 1) (List.mem_of_getElem? (i := 12) rfl)) g3 ?_
  refine y_gst (a := pm_TB + 16) (e_25 (23, .getstatic 65, 3) (List.mem_of_getElem? (i := 13) rfl)) w_3_65 rfl ?_
  refine y_acmN (e_25 (26, .if_acmp .ne 10, 3) (List.mem_of_getElem? (i := 14) rfl)) rfl h.1.tk35 (by decide) (fun _ => ?_) (fun z => absurd (htk.symm.trans z) (by decide))
  refine y_aln (e_25 (36, .aload_n 3, 1) (List.mem_of_getElem? (i := 20) rfl)) g3 ?_
  refine y_gst (a := pm_TB + 18) (e_25 (37, .getstatic 71, 3) (List.mem_of_getElem? (i := 21) rfl)) w_3_71 rfl ?_
  refine y_acmN (e_25 (40, .if_acmp .ne 10, 3) (List.mem_of_getElem? (i := 22) rfl)) rfl h.1.tk35 (by decide) (fun _ => ?_) (fun z => absurd (htk.symm.trans z) (by decide))
  refine y_aln (e_25 (50, .aload_n 3, 1) (List.mem_of_getElem? (i := 28) rfl)) g3 ?_
  refine y_gst (a := pm_TB + 19) (e_25 (51, .getstatic 77, 3) (List.mem_of_getElem? (i := 29) rfl)) w_3_77 rfl ?_
  refine y_acmN (e_25 (54, .if_acmp .ne 10, 3) (List.mem_of_getElem? (i := 30) rfl)) rfl h.1.tk35 (by decide) (fun _ => ?_) (fun z => absurd (htk.symm.trans z) (by decide))
  refine y_aln (e_25 (64, .aload_n 3, 1) (List.mem_of_getElem? (i := 36) rfl)) g3 ?_
  refine y_gst (a := pm_TB + 10) (e_25 (65, .getstatic 83, 3) (List.mem_of_getElem? (i := 37) rfl)) w_3_83 rfl ?_
  refine y_acmN (e_25 (68, .if_acmp .ne 10, 3) (List.mem_of_getElem? (i := 38) rfl)) rfl h.1.tk35 (by decide) (fun _ => ?_) (fun z => absurd (htk.symm.trans z) (by decide))
  refine y_aln (e_25 (78, .aload_n 3, 1) (List.mem_of_getElem? (i := 44) rfl)) g3 ?_
  refine y_gst (a := pm_TB + 11) (e_25 (79, .getstatic 89, 3) (List.mem_of_getElem? (i := 45) rfl)) w_3_89 rfl ?_
  refine y_acmN (e_25 (82, .if_acmp .ne 13, 3) (List.mem_of_getElem? (i := 46) rfl)) rfl h.1.tk35 (by decide) (fun _ => ?_) (fun z => absurd (htk.symm.trans z) (by decide))
  refine y_aln (e_25 (95, .aload_n 0, 1) (List.mem_of_getElem? (i := 53) rfl)) g0 ?_
  refine y_aln (e_25 (96, .aload_n 1, 1) (List.mem_of_getElem? (i := 54) rfl)) g1 ?_
  refine y_aln (e_25 (97, .aload_n 2, 1) (List.mem_of_getElem? (i := 55) rfl)) g2 ?_
  refine y_getf h.1.I th0_p.2.2.2.2.2.1 (e_25 (98, .getfield 57, 3) (List.mem_of_getElem? (i := 56) rfl)) u_3_57 ⟨rfl, rfl⟩ h.2.a32_0 ?_
  refine y_c3 (K' := _) (e_25 (101, .invokevirtual 95, 3) (List.mem_of_getElem? (i := 57) rfl)) ⟨rfl, rfl, rfl⟩ t_3_95 ⟨by decide, by decide, by decide, by decide⟩ m_42_ok rfl (by decide) (y_recv h.1.I th0_p.2.2.1 ⟨rfl, rfl⟩) (Nat.le_of_ble_eq_true rfl) (Nat.le_of_ble_eq_true rfl) (c_set_held h htk hK hm) (fun r1 Gc hc1 => ?_)
  obtain ⟨x1, rfl, hx⟩ := hK _ _ hc1
  simp only [Option.toList_some, Option.toList_none, List.cons_append, List.nil_append]
  exact y_retB (e_25 (104, .ireturn, 1) (List.mem_of_getElem? (i := 58) rfl)) rfl hx hc1
set_option maxHeartbeats 2000000 in
set_option maxRecDepth 100000 in
theorem c_none (h : CS f n lim nx0 tk0 pl0 num0 nm0 ft fp cc np nt nl nn oc ot tn ln mn G) (hno : ∀ q, q ∈ [15, 16, 18, 19, 10, 11, 12, 13, 14] → tk0 ≠ q) : x_Gd xs L J (d + 3) m_25 (fun r G' => r = some (.int 0) ∧ x_sl G' 1 9 = some (.int pl0) ∧ x_sl G' 1 8 = some (.int (Int32.ofInt 1))) 0 (lv_args 0 [.ref 3, .ref 1, .ref 32]) [] G := by
  have g0 : pm_get (lv_args 0 [.ref 3, .ref 1, .ref 32]) 0 = some (.ref 3) := rfl
  have g1 : pm_get (lv_args 0 [.ref 3, .ref 1, .ref 32]) 1 = some (.ref 1) := rfl
  have g2 : pm_get (lv_args 0 [.ref 3, .ref 1, .ref 32]) 2 = some (.ref 32) := rfl
  generalize (lv_args 0 [.ref 3, .ref 1, .ref 32]) = lv at g0 g1 g2 ⊢
  refine y_aln (e_25 (0, .aload_n 1, 1) (List.mem_of_getElem? (i := 0) rfl)) g1 ?_
  refine y_getf h.1.I h.1.t (e_25 (1, .getfield 36, 3) (List.mem_of_getElem? (i := 1) rfl)) u_3_36 ⟨rfl, rfl⟩ h.1.s4 ?_
  refine y_asn (e_25 (4, .astore_n 3, 1) (List.mem_of_getElem? (i := 2) rfl)) (by decide) ?_
  have g3 : pm_get (pm_put1 lv 3 (.ref (pm_TB + tk0))) 3 = some (.ref (pm_TB + tk0)) := x_get_self
  have g0 : pm_get (pm_put1 lv 3 (.ref (pm_TB + tk0))) 0 = some (.ref 3) := y_gpr g0 (by decide)
  have g1 : pm_get (pm_put1 lv 3 (.ref (pm_TB + tk0))) 1 = some (.ref 1) := y_gpr g1 (by decide)
  have g2 : pm_get (pm_put1 lv 3 (.ref (pm_TB + tk0))) 2 = some (.ref 32) := y_gpr g2 (by decide)
  show x_Gd xs L J _ m_25 _ 5 (pm_put1 lv 3 (.ref (pm_TB + tk0))) [] G
  generalize pm_put1 lv 3 (.ref (pm_TB + tk0)) = lv3 at g0 g1 g2 g3 ⊢
  refine y_aln (e_25 (5, .aload_n 3, 1) (List.mem_of_getElem? (i := 3) rfl)) g3 ?_
  refine y_gst (a := pm_TB + 15) (e_25 (6, .getstatic 54, 3) (List.mem_of_getElem? (i := 4) rfl)) w_3_54 rfl ?_
  refine y_acmN (e_25 (9, .if_acmp .ne 13, 3) (List.mem_of_getElem? (i := 5) rfl)) rfl h.1.tk35 (by decide) (fun _ => ?_) (fun z => absurd z (hno 15 (by decide)))
  refine y_aln (e_25 (22, .aload_n 3, 1) (List.mem_of_getElem? (i := 12) rfl)) g3 ?_
  refine y_gst (a := pm_TB + 16) (e_25 (23, .getstatic 65, 3) (List.mem_of_getElem? (i := 13) rfl)) w_3_65 rfl ?_
  refine y_acmN (e_25 (26, .if_acmp .ne 10, 3) (List.mem_of_getElem? (i := 14) rfl)) rfl h.1.tk35 (by decide) (fun _ => ?_) (fun z => absurd z (hno 16 (by decide)))
  refine y_aln (e_25 (36, .aload_n 3, 1) (List.mem_of_getElem? (i := 20) rfl)) g3 ?_
  refine y_gst (a := pm_TB + 18) (e_25 (37, .getstatic 71, 3) (List.mem_of_getElem? (i := 21) rfl)) w_3_71 rfl ?_
  refine y_acmN (e_25 (40, .if_acmp .ne 10, 3) (List.mem_of_getElem? (i := 22) rfl)) rfl h.1.tk35 (by decide) (fun _ => ?_) (fun z => absurd z (hno 18 (by decide)))
  refine y_aln (e_25 (50, .aload_n 3, 1) (List.mem_of_getElem? (i := 28) rfl)) g3 ?_
  refine y_gst (a := pm_TB + 19) (e_25 (51, .getstatic 77, 3) (List.mem_of_getElem? (i := 29) rfl)) w_3_77 rfl ?_
  refine y_acmN (e_25 (54, .if_acmp .ne 10, 3) (List.mem_of_getElem? (i := 30) rfl)) rfl h.1.tk35 (by decide) (fun _ => ?_) (fun z => absurd z (hno 19 (by decide)))
  refine y_aln (e_25 (64, .aload_n 3, 1) (List.mem_of_getElem? (i := 36) rfl)) g3 ?_
  refine y_gst (a := pm_TB + 10) (e_25 (65, .getstatic 83, 3) (List.mem_of_getElem? (i := 37) rfl)) w_3_83 rfl ?_
  refine y_acmN (e_25 (68, .if_acmp .ne 10, 3) (List.mem_of_getElem? (i := 38) rfl)) rfl h.1.tk35 (by decide) (fun _ => ?_) (fun z => absurd z (hno 10 (by decide)))
  refine y_aln (e_25 (78, .aload_n 3, 1) (List.mem_of_getElem? (i := 44) rfl)) g3 ?_
  refine y_gst (a := pm_TB + 11) (e_25 (79, .getstatic 89, 3) (List.mem_of_getElem? (i := 45) rfl)) w_3_89 rfl ?_
  refine y_acmN (e_25 (82, .if_acmp .ne 13, 3) (List.mem_of_getElem? (i := 46) rfl)) rfl h.1.tk35 (by decide) (fun _ => ?_) (fun z => absurd z (hno 11 (by decide)))
  have hK : ∀ (r : Option Value) (G' : List pE), (r = some (.int 0) ∧ x_sl G' 1 9 = some (.int pl0) ∧ x_sl G' 1 8 = some (.int (Int32.ofInt 1))) → ∃ x : Int32, r = some (.int x) ∧ (x = 0 ∨ x = 1) := fun r G' z => ⟨0, z.1, Or.inl rfl⟩
  refine y_aln (e_25 (95, .aload_n 0, 1) (List.mem_of_getElem? (i := 53) rfl)) g0 ?_
  refine y_aln (e_25 (96, .aload_n 1, 1) (List.mem_of_getElem? (i := 54) rfl)) g1 ?_
  refine y_aln (e_25 (97, .aload_n 2, 1) (List.mem_of_getElem? (i := 55) rfl)) g2 ?_
  refine y_getf h.1.I th0_p.2.2.2.2.2.1 (e_25 (98, .getfield 57, 3) (List.mem_of_getElem? (i := 56) rfl)) u_3_57 ⟨rfl, rfl⟩ h.2.a32_0 ?_
  refine y_c3 (K' := _) (e_25 (101, .invokevirtual 95, 3) (List.mem_of_getElem? (i := 57) rfl)) ⟨rfl, rfl, rfl⟩ t_3_95 ⟨by decide, by decide, by decide, by decide⟩ m_42_ok rfl (by decide) (y_recv h.1.I th0_p.2.2.1 ⟨rfl, rfl⟩) (Nat.le_of_ble_eq_true rfl) (Nat.le_of_ble_eq_true rfl) (c_set_none h hno) (fun r1 Gc hc1 => ?_)
  obtain ⟨x1, rfl, hx⟩ := hK _ _ hc1
  simp only [Option.toList_some, Option.toList_none, List.cons_append, List.nil_append]
  exact y_retB (e_25 (104, .ireturn, 1) (List.mem_of_getElem? (i := 58) rfl)) rfl hx hc1
end CA1
