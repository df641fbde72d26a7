def m_140 : pM := (⟨"BreathingHill$Sentence", "readOne", "(LBreathingHill$Tape;I)Z"⟩, 1130, 4, some (FieldType.boolean), 9, 2, false, 6, 101, 1129, 28)
set_option maxRecDepth 100000 in
theorem m_140_ok : pm_tab[140]? = some m_140 := rfl
theorem e_140 : ∀ q ∈ d_140, decode m_140.code q.1 = .ok (q.2.1, q.2.2) := y_dec d_140_ok m_140_ok
def m_138 : pM := (⟨"BreathingHill$Sentence", "readCond", "(LBreathingHill$Tape;I)Z"⟩, 1122, 4, some (FieldType.boolean), 9, 2, false, 6, 101, 1121, 26)
set_option maxRecDepth 100000 in
theorem m_138_ok : pm_tab[138]? = some m_138 := rfl
theorem e_138 : ∀ q ∈ d_138, decode m_138.code q.1 = .ok (q.2.1, q.2.2) := y_dec d_138_ok m_138_ok
theorem w_9_77 : pm_stab.find? (fun r => r.1 == 9 && r.2.1 == 77) = some (9, 77, 27, 1131) := by decide +kernel
theorem w_9_80 : pm_stab.find? (fun r => r.1 == 9 && r.2.1 == 80) = some (9, 80, 8, 1133) := by decide +kernel
theorem t_9_83 : pm_ctab.find? (fun r => r.1 == 9 && r.2.1 == 83) = some (9, 83, 2, 141, 1135) := by decide +kernel
theorem t_9_87 : pm_ctab.find? (fun r => r.1 == 9 && r.2.1 == 87) = some (9, 87, 2, 142, 1145) := by decide +kernel
theorem t_9_43 : pm_ctab.find? (fun r => r.1 == 9 && r.2.1 == 43) = some (9, 43, 1, 138, 1119) := by decide +kernel
theorem w_9_90 : pm_stab.find? (fun r => r.1 == 9 && r.2.1 == 90) = some (9, 90, 9, 1158) := by decide +kernel
theorem t_9_93 : pm_ctab.find? (fun r => r.1 == 9 && r.2.1 == 93) = some (9, 93, 1, 46, 1160) := by decide +kernel
theorem t_9_71 : pm_ctab.find? (fun r => r.1 == 9 && r.2.1 == 71) = some (9, 71, 1, 140, 1127) := by decide +kernel
theorem w_9_51 : pm_stab.find? (fun r => r.1 == 9 && r.2.1 == 51) = some (9, 51, 0, 1161) := by decide +kernel
theorem t_9_96 : pm_ctab.find? (fun r => r.1 == 9 && r.2.1 == 96) = some (9, 96, 1, 144, 1166) := by decide +kernel
-- ===== readOne =====
def s_sta (k : Nat) : Bool := k == 27 || k == 8 || s_pln k || s_cmp k
section S3
variable {th : List Nat} {xs : Nat → Int32} {L J d tp b sc : Nat} {K : Option Value → List pE → Prop} {f : Nat → Int32} {G0 G G1 G' : List pE} {n lim nx pl num ft fp : Int32} {tk : Nat} {nm : Int64} {lv : pL} {nx' pl' num' : Int32} {tk' : Nat} {nm' : Int64} {sz on : Nat} {nx2 pl2 num2 : Int32} {tk2 : Nat} {nm2 : Int64} {nx3 pl3 num3 : Int32} {tk3 : Nat} {nm3 : Int64} {nx4 pl4 num4 : Int32} {tk4 : Nat} {nm4 : Int64} {w sz2 on2 : Nat} {q p9 : Int32}
set_option maxHeartbeats 2000000 in
set_option maxRecDepth 100000 in
theorem s_one_a (h : SC th tp b sc f n lim nx tk pl num nm ft fp sz on G) (hno : s_sta tk = false) : x_Gd xs L J (d + 1) m_140 (fun r G' => r = some (.int 0) ∧ x_sl G' tp 8 = some (.int (Int32.ofInt 1)) ∧ x_sl G' tp 9 = some (.int pl)) 0 (lv_args 0 [.ref sc, .ref tp, .int (Int32.ofNat w)]) [] G := by
  have g0 : pm_get (lv_args 0 [.ref sc, .ref tp, .int (Int32.ofNat w)]) 0 = some (.ref sc) := rfl
  have g1 : pm_get (lv_args 0 [.ref sc, .ref tp, .int (Int32.ofNat w)]) 1 = some (.ref tp) := rfl
  have g2 : pm_get (lv_args 0 [.ref sc, .ref tp, .int (Int32.ofNat w)]) 2 = some (.int (Int32.ofNat w)) := rfl
  generalize lv_args 0 [.ref sc, .ref tp, .int (Int32.ofNat w)] = lv at g0 g1 g2 ⊢
  refine y_aln (e_140 (0, .aload_n 1, 1) (List.mem_of_getElem? (i := 0) rfl)) g1 ?_
  refine y_getf h.1.I h.1.t (e_140 (1, .getfield 47, 3) (List.mem_of_getElem? (i := 1) rfl)) u_9_47 ⟨rfl, rfl⟩ h.1.s4 ?_
  refine y_asn (e_140 (4, .astore_n 3, 1) (List.mem_of_getElem? (i := 2) rfl)) (by decide) ?_
  have g0 : pm_get (pm_put1 lv 3 (.ref (pm_TB + tk))) 0 = some (.ref sc) := y_gpr g0 (by decide)
  have g1 : pm_get (pm_put1 lv 3 (.ref (pm_TB + tk))) 1 = some (.ref tp) := y_gpr g1 (by decide)
  have g2 : pm_get (pm_put1 lv 3 (.ref (pm_TB + tk))) 2 = some (.int (Int32.ofNat w)) := y_gpi g2 (by decide)
  have g3 : pm_get (pm_put1 lv 3 (.ref (pm_TB + tk))) 3 = some (.ref (pm_TB + tk)) := x_get_self
  change x_Gd _ _ _ _ _ _ _ (pm_put1 lv 3 (.ref (pm_TB + tk))) _ _
  generalize pm_put1 lv 3 (.ref (pm_TB + tk)) = lv at g0 g1 g2 g3 ⊢
  have h35 := h.1.tk35
  unfold s_sta at hno
  simp only [Bool.or_eq_false_iff, beq_eq_false_iff_ne] at hno
  obtain ⟨⟨⟨z1, z2⟩, z3⟩, z4⟩ := hno
  refine y_aln (e_140 (5, .aload_n 3, 1) (List.mem_of_getElem? (i := 3) rfl)) g3 ?_
  refine y_gst (a := pm_TB + 27) (e_140 (6, .getstatic 77, 3) (List.mem_of_getElem? (i := 4) rfl)) w_9_77 rfl ?_
  refine y_acm (e_140 (9, .if_acmp .eq 30, 3) (List.mem_of_getElem? (i := 5) rfl)) rfl h35 (by decide) (fun z => absurd z z1) (fun _ => ?_)
  refine y_aln (e_140 (12, .aload_n 3, 1) (List.mem_of_getElem? (i := 6) rfl)) g3 ?_
  refine y_gst (a := pm_TB + 8) (e_140 (13, .getstatic 80, 3) (List.mem_of_getElem? (i := 7) rfl)) w_9_80 rfl ?_
  refine y_acm (e_140 (16, .if_acmp .eq 23, 3) (List.mem_of_getElem? (i := 8) rfl)) rfl h35 (by decide) (fun z => absurd z z2) (fun _ => ?_)
  refine y_aln (e_140 (19, .aload_n 3, 1) (List.mem_of_getElem? (i := 9) rfl)) g3 ?_
  refine y_c1 (K' := _) (e_140 (20, .invokestatic 83, 3) (List.mem_of_getElem? (i := 10) rfl)) ⟨rfl, rfl, rfl⟩ t_9_83 ⟨by decide, by decide, by decide, by decide⟩ m_141_ok rfl (by decide) rfl (Nat.le_of_ble_eq_true rfl) (Nat.le_of_ble_eq_true rfl) (s_isPlain h35) (fun r1 Gc hc1 => ?_)
  obtain ⟨rfl, rfl⟩ := hc1
  simp only [Option.toList_some, Option.toList_none, List.cons_append, List.nil_append]
  rw [z3]
  refine y_ifc (e_140 (23, .ifCond .ne 16, 3) (List.mem_of_getElem? (i := 11) rfl)) rfl (fun hb => absurd hb (by decide)) (fun _ => ?_)
  refine y_aln (e_140 (26, .aload_n 3, 1) (List.mem_of_getElem? (i := 12) rfl)) g3 ?_
  refine y_c1 (K' := _) (e_140 (27, .invokestatic 87, 3) (List.mem_of_getElem? (i := 13) rfl)) ⟨rfl, rfl, rfl⟩ t_9_87 ⟨by decide, by decide, by decide, by decide⟩ m_142_ok rfl (by decide) rfl (Nat.le_of_ble_eq_true rfl) (Nat.le_of_ble_eq_true rfl) (s_isCompared h35) (fun r1 Gc hc1 => ?_)
  obtain ⟨rfl, rfl⟩ := hc1
  simp only [Option.toList_some, Option.toList_none, List.cons_append, List.nil_append]
  rw [z4]
  refine y_ifc (e_140 (30, .ifCond .ne 9, 3) (List.mem_of_getElem? (i := 14) rfl)) rfl (fun hb => absurd hb (by decide)) (fun _ => ?_)
  refine y_aln (e_140 (33, .aload_n 1, 1) (List.mem_of_getElem? (i := 15) rfl)) g1 ?_
  refine y_st (e_140 (34, .iconst 1, 1) (List.mem_of_getElem? (i := 16) rfl)) ⟨rfl, rfl, rfl, rfl⟩ ?_
  refine y_c2 (K' := _) (e_140 (35, .invokevirtual 54, 3) (List.mem_of_getElem? (i := 17) rfl)) ⟨rfl, rfl, rfl⟩ t_9_54 ⟨by decide, by decide, by decide, by decide⟩ m_27_ok rfl (by decide) (y_recv h.1.I h.1.t ⟨rfl, rfl⟩) (Nat.le_of_ble_eq_true rfl) (Nat.le_of_ble_eq_true rfl) (k_refuse h.1 _) (fun r1 Gc hc1 => ?_)
  obtain ⟨rfl, hc2⟩ := hc1
  simp only [Option.toList_some, Option.toList_none, List.cons_append, List.nil_append]
  exact y_ret (e_140 (38, .ireturn, 1) (List.mem_of_getElem? (i := 18) rfl)) ⟨rfl, y_rb (Or.inl rfl)⟩ ⟨rfl, hc2.s8, hc2.s9⟩
set_option maxHeartbeats 2000000 in
set_option maxRecDepth 100000 in
theorem s_one_s (h : SC th tp b sc f n lim nx tk pl num nm ft fp sz on G) (hst : s_sta tk = true) (hk : ∀ lv : pL, pm_get lv 0 = some (.ref sc) → pm_get lv 1 = some (.ref tp) → pm_get lv 2 = some (.int (Int32.ofNat w)) → pm_get lv 3 = some (.ref (pm_TB + tk)) → x_Gd xs L J (d + 1) m_140 K 39 lv [] G) : x_Gd xs L J (d + 1) m_140 K 0 (lv_args 0 [.ref sc, .ref tp, .int (Int32.ofNat w)]) [] G := by
  have g0 : pm_get (lv_args 0 [.ref sc, .ref tp, .int (Int32.ofNat w)]) 0 = some (.ref sc) := rfl
  have g1 : pm_get (lv_args 0 [.ref sc, .ref tp, .int (Int32.ofNat w)]) 1 = some (.ref tp) := rfl
  have g2 : pm_get (lv_args 0 [.ref sc, .ref tp, .int (Int32.ofNat w)]) 2 = some (.int (Int32.ofNat w)) := rfl
  generalize lv_args 0 [.ref sc, .ref tp, .int (Int32.ofNat w)] = lv at g0 g1 g2 ⊢
  refine y_aln (e_140 (0, .aload_n 1, 1) (List.mem_of_getElem? (i := 0) rfl)) g1 ?_
  refine y_getf h.1.I h.1.t (e_140 (1, .getfield 47, 3) (List.mem_of_getElem? (i := 1) rfl)) u_9_47 ⟨rfl, rfl⟩ h.1.s4 ?_
  refine y_asn (e_140 (4, .astore_n 3, 1) (List.mem_of_getElem? (i := 2) rfl)) (by decide) ?_
  have g0 : pm_get (pm_put1 lv 3 (.ref (pm_TB + tk))) 0 = some (.ref sc) := y_gpr g0 (by decide)
  have g1 : pm_get (pm_put1 lv 3 (.ref (pm_TB + tk))) 1 = some (.ref tp) := y_gpr g1 (by decide)
  have g2 : pm_get (pm_put1 lv 3 (.ref (pm_TB + tk))) 2 = some (.int (Int32.ofNat w)) := y_gpi g2 (by decide)
  have g3 : pm_get (pm_put1 lv 3 (.ref (pm_TB + tk))) 3 = some (.ref (pm_TB + tk)) := x_get_self
  change x_Gd _ _ _ _ _ _ _ (pm_put1 lv 3 (.ref (pm_TB + tk))) _ _
  generalize pm_put1 lv 3 (.ref (pm_TB + tk)) = lv at g0 g1 g2 g3 ⊢
  have h35 := h.1.tk35
  have at39 := hk lv g0 g1 g2 g3
  refine y_aln (e_140 (5, .aload_n 3, 1) (List.mem_of_getElem? (i := 3) rfl)) g3 ?_
  refine y_gst (a := pm_TB + 27) (e_140 (6, .getstatic 77, 3) (List.mem_of_getElem? (i := 4) rfl)) w_9_77 rfl ?_
  refine y_acm (e_140 (9, .if_acmp .eq 30, 3) (List.mem_of_getElem? (i := 5) rfl)) rfl h35 (by decide) (fun _ => at39) (fun z1 => ?_)
  refine y_aln (e_140 (12, .aload_n 3, 1) (List.mem_of_getElem? (i := 6) rfl)) g3 ?_
  refine y_gst (a := pm_TB + 8) (e_140 (13, .getstatic 80, 3) (List.mem_of_getElem? (i := 7) rfl)) w_9_80 rfl ?_
  refine y_acm (e_140 (16, .if_acmp .eq 23, 3) (List.mem_of_getElem? (i := 8) rfl)) rfl h35 (by decide) (fun _ => at39) (fun z2 => ?_)
  refine y_aln (e_140 (19, .aload_n 3, 1) (List.mem_of_getElem? (i := 9) rfl)) g3 ?_
  refine y_c1 (K' := _) (e_140 (20, .invokestatic 83, 3) (List.mem_of_getElem? (i := 10) rfl)) ⟨rfl, rfl, rfl⟩ t_9_83 ⟨by decide, by decide, by decide, by decide⟩ m_141_ok rfl (by decide) rfl (Nat.le_of_ble_eq_true rfl) (Nat.le_of_ble_eq_true rfl) (s_isPlain h35) (fun r1 Gc hc1 => ?_)
  obtain ⟨rfl, rfl⟩ := hc1
  simp only [Option.toList_some, Option.toList_none, List.cons_append, List.nil_append]
  by_cases z3 : s_pln tk = true
  · rw [z3]
    exact y_ifc (e_140 (23, .ifCond .ne 16, 3) (List.mem_of_getElem? (i := 11) rfl)) rfl (fun _ => at39) (fun hb => absurd hb (by decide))
  rw [Bool.not_eq_true] at z3
  rw [z3]
  refine y_ifc (e_140 (23, .ifCond .ne 16, 3) (List.mem_of_getElem? (i := 11) rfl)) rfl (fun hb => absurd hb (by decide)) (fun _ => ?_)
  refine y_aln (e_140 (26, .aload_n 3, 1) (List.mem_of_getElem? (i := 12) rfl)) g3 ?_
  refine y_c1 (K' := _) (e_140 (27, .invokestatic 87, 3) (List.mem_of_getElem? (i := 13) rfl)) ⟨rfl, rfl, rfl⟩ t_9_87 ⟨by decide, by decide, by decide, by decide⟩ m_142_ok rfl (by decide) rfl (Nat.le_of_ble_eq_true rfl) (Nat.le_of_ble_eq_true rfl) (s_isCompared h35) (fun r1 Gc hc1 => ?_)
  obtain ⟨rfl, rfl⟩ := hc1
  simp only [Option.toList_some, Option.toList_none, List.cons_append, List.nil_append]
  have z4 : s_cmp tk = true := by
    unfold s_sta at hst
    rw [z3, beq_eq_false_iff_ne.mpr z1, beq_eq_false_iff_ne.mpr z2] at hst
    exact hst
  rw [z4]
  exact y_ifc (e_140 (30, .ifCond .ne 9, 3) (List.mem_of_getElem? (i := 14) rfl)) rfl (fun _ => at39) (fun hb => absurd hb (by decide))
set_option maxHeartbeats 2000000 in
set_option maxRecDepth 100000 in
theorem s_one_b (h : SC th tp b sc f n lim nx tk pl num nm ft fp sz on G) (hst : s_sta tk = true) (hon : on ≤ 20) (hw : w ≤ 9) (hb9 : on = 20 ∨ 8 < w) : x_Gd xs L J (d + 1) m_140 (fun r G' => r = some (.int 0) ∧ x_sl G' tp 8 = some (.int (Int32.ofInt 4)) ∧ x_sl G' tp 9 = some (.int pl)) 0 (lv_args 0 [.ref sc, .ref tp, .int (Int32.ofNat w)]) [] G := by
  refine s_one_s h hst (fun lv g0 g1 g2 g3 => ?_)
  have e := s_toI (a := on) (by omega)
  have ew := s_toI (a := w) (by omega)
  have e20 : ((Int8.ofInt 20).toInt32).toInt = 20 := rfl
  have e8 : ((Int8.ofInt 8).toInt32).toInt = 8 := rfl
  have at54 : x_Gd xs L J (d + 1) m_140 (fun r G' => r = some (.int 0) ∧ x_sl G' tp 8 = some (.int (Int32.ofInt 4)) ∧ x_sl G' tp 9 = some (.int pl)) 54 lv [] G := by
    refine y_aln (e_140 (54, .aload_n 1, 1) (List.mem_of_getElem? (i := 26) rfl)) g1 ?_
    refine y_st (e_140 (55, .iconst 4, 1) (List.mem_of_getElem? (i := 27) rfl)) ⟨rfl, rfl, rfl, rfl⟩ ?_
    refine y_c2 (K' := _) (e_140 (56, .invokevirtual 54, 3) (List.mem_of_getElem? (i := 28) rfl)) ⟨rfl, rfl, rfl⟩ t_9_54 ⟨by decide, by decide, by decide, by decide⟩ m_27_ok rfl (by decide) (y_recv h.1.I h.1.t ⟨rfl, rfl⟩) (Nat.le_of_ble_eq_true rfl) (Nat.le_of_ble_eq_true rfl) (k_refuse h.1 _) (fun r1 Gc hc1 => ?_)
    obtain ⟨rfl, hc2⟩ := hc1
    simp only [Option.toList_some, Option.toList_none, List.cons_append, List.nil_append]
    exact y_ret (e_140 (59, .ireturn, 1) (List.mem_of_getElem? (i := 29) rfl)) ⟨rfl, y_rb (Or.inl rfl)⟩ ⟨rfl, hc2.s8, hc2.s9⟩
  refine y_aln (e_140 (39, .aload_n 0, 1) (List.mem_of_getElem? (i := 19) rfl)) g0 ?_
  refine y_getf h.1.I h.ts (e_140 (40, .getfield 31, 3) (List.mem_of_getElem? (i := 20) rfl)) u_9_31 ⟨rfl, rfl⟩ h.son ?_
  refine y_st (e_140 (43, .bipush 20, 2) (List.mem_of_getElem? (i := 21) rfl)) ⟨rfl, rfl, rfl, rfl⟩ ?_
  refine y_icm (e_140 (45, .if_icmp .ge 9, 3) (List.mem_of_getElem? (i := 22) rfl)) rfl (fun _ => at54) (fun hb => ?_)
  have c1 := y_hI.2.2.2.2.2.1 hb
  refine y_iln (e_140 (48, .iload_n 2, 1) (List.mem_of_getElem? (i := 23) rfl)) g2 ?_
  refine y_st (e_140 (49, .bipush 8, 2) (List.mem_of_getElem? (i := 24) rfl)) ⟨rfl, rfl, rfl, rfl⟩ ?_
  refine y_icm (e_140 (51, .if_icmp .le 9, 3) (List.mem_of_getElem? (i := 25) rfl)) rfl (fun hb => ?_) (fun _ => at54)
  have c2 := y_hI.2.2.2.2.2.2.1 hb
  omega
set_option maxHeartbeats 2000000 in
set_option maxRecDepth 100000 in
theorem s_one_h (h : SC th tp b sc f n lim nx tk pl num nm ft fp sz on G) (hst : s_sta tk = true) (hon : on < 20) (hw : w ≤ 8) (hN : NXc f n lim nx num nm nx2 tk2 pl2 num2 nm2) (hk : ∀ (G1 : List pE) (lv : pL), SC th tp b sc f n lim nx2 tk2 pl2 num2 nm2 ft fp sz (on + 1) G1 → pm_get lv 0 = some (.ref sc) → pm_get lv 1 = some (.ref tp) → pm_get lv 2 = some (.int (Int32.ofNat w)) → pm_get lv 3 = some (.ref (pm_TB + tk)) → x_Gd xs L J (d + 2) m_140 K 74 lv [] G1) : x_Gd xs L J (d + 2) m_140 K 0 (lv_args 0 [.ref sc, .ref tp, .int (Int32.ofNat w)]) [] G := by
  refine s_one_s h hst (fun lv g0 g1 g2 g3 => ?_)
  have e := s_toI (a := on) (by omega)
  have ew := s_toI (a := w) (by omega)
  have e20 : ((Int8.ofInt 20).toInt32).toInt = 20 := rfl
  have e8 : ((Int8.ofInt 8).toInt32).toInt = 8 := rfl
  refine y_aln (e_140 (39, .aload_n 0, 1) (List.mem_of_getElem? (i := 19) rfl)) g0 ?_
  refine y_getf h.1.I h.ts (e_140 (40, .getfield 31, 3) (List.mem_of_getElem? (i := 20) rfl)) u_9_31 ⟨rfl, rfl⟩ h.son ?_
  refine y_st (e_140 (43, .bipush 20, 2) (List.mem_of_getElem? (i := 21) rfl)) ⟨rfl, rfl, rfl, rfl⟩ ?_
  refine y_icm (e_140 (45, .if_icmp .ge 9, 3) (List.mem_of_getElem? (i := 22) rfl)) rfl (fun hb => ?_) (fun _ => ?_)
  · have c1 := y_hI.2.2.2.2.1 hb
    omega
  refine y_iln (e_140 (48, .iload_n 2, 1) (List.mem_of_getElem? (i := 23) rfl)) g2 ?_
  refine y_st (e_140 (49, .bipush 8, 2) (List.mem_of_getElem? (i := 24) rfl)) ⟨rfl, rfl, rfl, rfl⟩ ?_
  refine y_icm (e_140 (51, .if_icmp .le 9, 3) (List.mem_of_getElem? (i := 25) rfl)) rfl (fun _ => ?_) (fun hb => ?_)
  rotate_left
  · have c2 := y_hI.2.2.2.2.2.2.2.1 hb
    omega
  refine y_aln (e_140 (60, .aload_n 0, 1) (List.mem_of_getElem? (i := 30) rfl)) g0 ?_
  refine y_st (e_140 (61, .dup, 1) (List.mem_of_getElem? (i := 31) rfl)) ⟨rfl, rfl, rfl, rfl⟩ ?_
  refine y_getf h.1.I h.ts (e_140 (62, .getfield 31, 3) (List.mem_of_getElem? (i := 32) rfl)) u_9_31 ⟨rfl, rfl⟩ h.son ?_
  refine y_st (e_140 (65, .iconst 1, 1) (List.mem_of_getElem? (i := 33) rfl)) ⟨rfl, rfl, rfl, rfl⟩ ?_
  refine y_st (e_140 (66, .iadd, 1) (List.mem_of_getElem? (i := 34) rfl)) ⟨rfl, rfl, rfl, rfl⟩ ?_
  rw [s_inc]
  refine y_putf (f := (0, -2147483648, 2147483647)) h.1.I h.ts (e_140 (67, .putfield 31, 3) (List.mem_of_getElem? (i := 35) rfl)) u_9_31 ⟨rfl, rfl, by decide, rfl, rfl⟩ ⟨_, rfl, (x_i32 _).1, (x_i32 _).2⟩ (fun G1 u1 => ?_)
  have h1 := h.uon u1
  refine y_aln (e_140 (70, .aload_n 1, 1) (List.mem_of_getElem? (i := 36) rfl)) g1 ?_
  refine y_c1 (K' := _) (e_140 (71, .invokevirtual 64, 3) (List.mem_of_getElem? (i := 37) rfl)) ⟨rfl, rfl, rfl⟩ t_9_64 ⟨by decide, by decide, by decide, by decide⟩ m_21_ok rfl (by decide) (y_recv h1.1.I h1.1.t ⟨rfl, rfl⟩) (Nat.le_of_ble_eq_true rfl) (Nat.le_of_ble_eq_true rfl) (hN _ _ _ _ _ _ _ _ _ _ _ _ _ h1.1) (fun r1 Gc hc1 => ?_)
  obtain ⟨rfl, hc2⟩ := hc1
  simp only [Option.toList_some, Option.toList_none, List.cons_append, List.nil_append]
  have h2 := h1.nxt hc2
  exact hk _ _ h2 g0 g1 g2 g3
set_option maxHeartbeats 2000000 in
set_option maxRecDepth 100000 in
/-- ( COND: it fails within -/
theorem s_one_o1 (h : SC th tp b sc f n lim nx tk pl num nm ft fp sz on G) (htk : tk = 8) (hon : on < 20) (hw : w ≤ 8) (hN : NXc f n lim nx num nm nx2 tk2 pl2 num2 nm2) (hc : ∀ G1, SC th tp b sc f n lim nx2 tk2 pl2 num2 nm2 ft fp sz (on + 1) G1 → x_Gd xs L J (d + 1) m_138 (fun r G' => r = some (.int 0) ∧ x_sl G' tp 8 = some (.int q) ∧ x_sl G' tp 9 = some (.int p9)) 0 (lv_args 0 [.ref sc, .ref tp, .int (Int32.ofNat (w + 1))]) [] G1) : x_Gd xs L J (d + 2) m_140 (fun r G' => r = some (.int 0) ∧ x_sl G' tp 8 = some (.int q) ∧ x_sl G' tp 9 = some (.int p9)) 0 (lv_args 0 [.ref sc, .ref tp, .int (Int32.ofNat w)]) [] G := by
  refine s_one_h h (by rw [htk]; decide) hon hw hN (fun G1 lv h1 g0 g1 g2 g3 => ?_)
  refine y_aln (e_140 (74, .aload_n 3, 1) (List.mem_of_getElem? (i := 38) rfl)) g3 ?_
  refine y_gst (a := pm_TB + 8) (e_140 (75, .getstatic 80, 3) (List.mem_of_getElem? (i := 39) rfl)) w_9_80 rfl ?_
  refine y_acmN (e_140 (78, .if_acmp .ne 30, 3) (List.mem_of_getElem? (i := 40) rfl)) rfl h.1.tk35 (by decide) (fun z => absurd htk z) (fun _ => ?_)
  refine y_aln (e_140 (81, .aload_n 0, 1) (List.mem_of_getElem? (i := 41) rfl)) g0 ?_
  refine y_aln (e_140 (82, .aload_n 1, 1) (List.mem_of_getElem? (i := 42) rfl)) g1 ?_
  refine y_iln (e_140 (83, .iload_n 2, 1) (List.mem_of_getElem? (i := 43) rfl)) g2 ?_
  refine y_st (e_140 (84, .iconst 1, 1) (List.mem_of_getElem? (i := 44) rfl)) ⟨rfl, rfl, rfl, rfl⟩ ?_
  refine y_st (e_140 (85, .iadd, 1) (List.mem_of_getElem? (i := 45) rfl)) ⟨rfl, rfl, rfl, rfl⟩ ?_
  rw [s_inc]
  refine y_c3 (K' := _) (e_140 (86, .invokevirtual 43, 3) (List.mem_of_getElem? (i := 46) rfl)) ⟨rfl, rfl, rfl⟩ t_9_43 ⟨by decide, by decide, by decide, by decide⟩ m_138_ok rfl (by decide) (y_recv h1.1.I h1.ts ⟨rfl, rfl⟩) (Nat.le_of_ble_eq_true rfl) (Nat.le_of_ble_eq_true rfl) (hc _ h1) (fun r1 Gc hc1 => ?_)
  obtain ⟨rfl, hc2⟩ := hc1
  simp only [Option.toList_some, Option.toList_none, List.cons_append, List.nil_append]
  refine y_ifc (e_140 (89, .ifCond .eq 17, 3) (List.mem_of_getElem? (i := 47) rfl)) rfl (fun _ => ?_) (fun hb => absurd hb (by decide))
  refine y_st (e_140 (106, .iconst 0, 1) (List.mem_of_getElem? (i := 54) rfl)) ⟨rfl, rfl, rfl, rfl⟩ ?_
  exact y_ret (e_140 (107, .ireturn, 1) (List.mem_of_getElem? (i := 55) rfl)) ⟨rfl, y_rb (Or.inl rfl)⟩ ⟨rfl, hc2⟩
set_option maxHeartbeats 2000000 in
set_option maxRecDepth 100000 in
/-- no ) behind it -/
theorem s_one_o2 (h : SC th tp b sc f n lim nx tk pl num nm ft fp sz on G) (htk : tk = 8) (hon : on < 20) (hw : w ≤ 8) (hN : NXc f n lim nx num nm nx2 tk2 pl2 num2 nm2) (hc : ∀ G1, SC th tp b sc f n lim nx2 tk2 pl2 num2 nm2 ft fp sz (on + 1) G1 → x_Gd xs L J (d + 1) m_138 (fun r G' => r = some (.int 1) ∧ SC th tp b sc f n lim nx3 tk3 pl3 num3 nm3 ft fp sz2 on2 G') 0 (lv_args 0 [.ref sc, .ref tp, .int (Int32.ofNat (w + 1))]) [] G1) (hno : tk3 ≠ 9) : x_Gd xs L J (d + 2) m_140 (fun r G' => r = some (.int 0) ∧ x_sl G' tp 8 = some (.int (Int32.ofInt 1)) ∧ x_sl G' tp 9 = some (.int pl3)) 0 (lv_args 0 [.ref sc, .ref tp, .int (Int32.ofNat w)]) [] G := by
  refine s_one_h h (by rw [htk]; decide) hon hw hN (fun G1 lv h1 g0 g1 g2 g3 => ?_)
  refine y_aln (e_140 (74, .aload_n 3, 1) (List.mem_of_getElem? (i := 38) rfl)) g3 ?_
  refine y_gst (a := pm_TB + 8) (e_140 (75, .getstatic 80, 3) (List.mem_of_getElem? (i := 39) rfl)) w_9_80 rfl ?_
  refine y_acmN (e_140 (78, .if_acmp .ne 30, 3) (List.mem_of_getElem? (i := 40) rfl)) rfl h.1.tk35 (by decide) (fun z => absurd htk z) (fun _ => ?_)
  refine y_aln (e_140 (81, .aload_n 0, 1) (List.mem_of_getElem? (i := 41) rfl)) g0 ?_
  refine y_aln (e_140 (82, .aload_n 1, 1) (List.mem_of_getElem? (i := 42) rfl)) g1 ?_
  refine y_iln (e_140 (83, .iload_n 2, 1) (List.mem_of_getElem? (i := 43) rfl)) g2 ?_
  refine y_st (e_140 (84, .iconst 1, 1) (List.mem_of_getElem? (i := 44) rfl)) ⟨rfl, rfl, rfl, rfl⟩ ?_
  refine y_st (e_140 (85, .iadd, 1) (List.mem_of_getElem? (i := 45) rfl)) ⟨rfl, rfl, rfl, rfl⟩ ?_
  rw [s_inc]
  refine y_c3 (K' := _) (e_140 (86, .invokevirtual 43, 3) (List.mem_of_getElem? (i := 46) rfl)) ⟨rfl, rfl, rfl⟩ t_9_43 ⟨by decide, by decide, by decide, by decide⟩ m_138_ok rfl (by decide) (y_recv h1.1.I h1.ts ⟨rfl, rfl⟩) (Nat.le_of_ble_eq_true rfl) (Nat.le_of_ble_eq_true rfl) (hc _ h1) (fun r1 Gc hc1 => ?_)
  obtain ⟨rfl, h3⟩ := hc1
  simp only [Option.toList_some, Option.toList_none, List.cons_append, List.nil_append]
  refine y_ifc (e_140 (89, .ifCond .eq 17, 3) (List.mem_of_getElem? (i := 47) rfl)) rfl (fun hb => absurd hb (by decide)) (fun _ => ?_)
  refine y_aln (e_140 (92, .aload_n 1, 1) (List.mem_of_getElem? (i := 48) rfl)) g1 ?_
  refine y_gst (a := pm_TB + 9) (e_140 (93, .getstatic 90, 3) (List.mem_of_getElem? (i := 49) rfl)) w_9_90 rfl ?_
  refine y_c2 (K' := _) (e_140 (96, .invokevirtual 93, 3) (List.mem_of_getElem? (i := 50) rfl)) ⟨rfl, rfl, rfl⟩ t_9_93 ⟨by decide, by decide, by decide, by decide⟩ m_46_ok rfl (by decide) (y_recv h3.1.I h3.1.t ⟨rfl, rfl⟩) (Nat.le_of_ble_eq_true rfl) (Nat.le_of_ble_eq_true rfl) (s_take_no (d := d) h3.1 (q := 9) (by decide) hno) (fun r1 Gc hc1 => ?_)
  obtain ⟨rfl, hc3⟩ := hc1
  simp only [Option.toList_some, Option.toList_none, List.cons_append, List.nil_append]
  refine y_ifc (e_140 (99, .ifCond .eq 7, 3) (List.mem_of_getElem? (i := 51) rfl)) rfl (fun _ => ?_) (fun hb => absurd hb (by decide))
  refine y_st (e_140 (106, .iconst 0, 1) (List.mem_of_getElem? (i := 54) rfl)) ⟨rfl, rfl, rfl, rfl⟩ ?_
  exact y_ret (e_140 (107, .ireturn, 1) (List.mem_of_getElem? (i := 55) rfl)) ⟨rfl, y_rb (Or.inl rfl)⟩ ⟨rfl, hc3.s8, hc3.s9⟩
set_option maxHeartbeats 2000000 in
set_option maxRecDepth 100000 in
theorem s_one_o3 (h : SC th tp b sc f n lim nx tk pl num nm ft fp sz on G) (htk : tk = 8) (hon : on < 20) (hw : w ≤ 8) (hN : NXc f n lim nx num nm nx2 tk2 pl2 num2 nm2) (hc : ∀ G1, SC th tp b sc f n lim nx2 tk2 pl2 num2 nm2 ft fp sz (on + 1) G1 → x_Gd xs L J (d + 2) m_138 (fun r G' => r = some (.int 1) ∧ SC th tp b sc f n lim nx3 tk3 pl3 num3 nm3 ft fp sz2 on2 G') 0 (lv_args 0 [.ref sc, .ref tp, .int (Int32.ofNat (w + 1))]) [] G1) (h9 : tk3 = 9) (hN3 : NXc f n lim nx3 num3 nm3 nx4 tk4 pl4 num4 nm4) : x_Gd xs L J (d + 3) m_140 (fun r G' => r = some (.int 1) ∧ SC th tp b sc f n lim nx4 tk4 pl4 num4 nm4 ft fp sz2 on2 G') 0 (lv_args 0 [.ref sc, .ref tp, .int (Int32.ofNat w)]) [] G := by
  refine s_one_h h (by rw [htk]; decide) hon hw hN (fun G1 lv h1 g0 g1 g2 g3 => ?_)
  refine y_aln (e_140 (74, .aload_n 3, 1) (List.mem_of_getElem? (i := 38) rfl)) g3 ?_
  refine y_gst (a := pm_TB + 8) (e_140 (75, .getstatic 80, 3) (List.mem_of_getElem? (i := 39) rfl)) w_9_80 rfl ?_
  refine y_acmN (e_140 (78, .if_acmp .ne 30, 3) (List.mem_of_getElem? (i := 40) rfl)) rfl h.1.tk35 (by decide) (fun z => absurd htk z) (fun _ => ?_)
  refine y_aln (e_140 (81, .aload_n 0, 1) (List.mem_of_getElem? (i := 41) rfl)) g0 ?_
  refine y_aln (e_140 (82, .aload_n 1, 1) (List.mem_of_getElem? (i := 42) rfl)) g1 ?_
  refine y_iln (e_140 (83, .iload_n 2, 1) (List.mem_of_getElem? (i := 43) rfl)) g2 ?_
  refine y_st (e_140 (84, .iconst 1, 1) (List.mem_of_getElem? (i := 44) rfl)) ⟨rfl, rfl, rfl, rfl⟩ ?_
  refine y_st (e_140 (85, .iadd, 1) (List.mem_of_getElem? (i := 45) rfl)) ⟨rfl, rfl, rfl, rfl⟩ ?_
  rw [s_inc]
  refine y_c3 (K' := _) (e_140 (86, .invokevirtual 43, 3) (List.mem_of_getElem? (i := 46) rfl)) ⟨rfl, rfl, rfl⟩ t_9_43 ⟨by decide, by decide, by decide, by decide⟩ m_138_ok rfl (by decide) (y_recv h1.1.I h1.ts ⟨rfl, rfl⟩) (Nat.le_of_ble_eq_true rfl) (Nat.le_of_ble_eq_true rfl) (hc _ h1) (fun r1 Gc hc1 => ?_)
  obtain ⟨rfl, h3⟩ := hc1
  simp only [Option.toList_some, Option.toList_none, List.cons_append, List.nil_append]
  refine y_ifc (e_140 (89, .ifCond .eq 17, 3) (List.mem_of_getElem? (i := 47) rfl)) rfl (fun hb => absurd hb (by decide)) (fun _ => ?_)
  refine y_aln (e_140 (92, .aload_n 1, 1) (List.mem_of_getElem? (i := 48) rfl)) g1 ?_
  refine y_gst (a := pm_TB + 9) (e_140 (93, .getstatic 90, 3) (List.mem_of_getElem? (i := 49) rfl)) w_9_90 rfl ?_
  refine y_c2 (K' := _) (e_140 (96, .invokevirtual 93, 3) (List.mem_of_getElem? (i := 50) rfl)) ⟨rfl, rfl, rfl⟩ t_9_93 ⟨by decide, by decide, by decide, by decide⟩ m_46_ok rfl (by decide) (y_recv h3.1.I h3.1.t ⟨rfl, rfl⟩) (Nat.le_of_ble_eq_true rfl) (Nat.le_of_ble_eq_true rfl) (k_take_yes (d := d) h3.1 (q := 9) (by decide) h9 hN3) (fun r1 Gc hc1 => ?_)
  obtain ⟨rfl, hc3⟩ := hc1
  simp only [Option.toList_some, Option.toList_none, List.cons_append, List.nil_append]
  have h4 := h3.nxt hc3
  refine y_ifc (e_140 (99, .ifCond .eq 7, 3) (List.mem_of_getElem? (i := 51) rfl)) rfl (fun hb => absurd hb (by decide)) (fun _ => ?_)
  refine y_st (e_140 (102, .iconst 1, 1) (List.mem_of_getElem? (i := 52) rfl)) ⟨rfl, rfl, rfl, rfl⟩ ?_
  refine y_st (e_140 (103, .goto 4, 3) (List.mem_of_getElem? (i := 53) rfl)) ⟨rfl, rfl, rfl, rfl⟩ ?_
  exact y_ret (e_140 (107, .ireturn, 1) (List.mem_of_getElem? (i := 55) rfl)) ⟨rfl, y_rb (Or.inr rfl)⟩ ⟨rfl, h4⟩
set_option maxHeartbeats 2000000 in
set_option maxRecDepth 100000 in
/-- not ONE -/
theorem s_one_n1 (h : SC th tp b sc f n lim nx tk pl num nm ft fp sz on G) (htk : tk = 27) (hon : on < 20) (hw : w ≤ 8) (hN : NXc f n lim nx num nm nx2 tk2 pl2 num2 nm2) (hc : ∀ G1, SC th tp b sc f n lim nx2 tk2 pl2 num2 nm2 ft fp sz (on + 1) G1 → x_Gd xs L J (d + 1) m_140 (fun r G' => r = some (.int 0) ∧ x_sl G' tp 8 = some (.int q) ∧ x_sl G' tp 9 = some (.int p9)) 0 (lv_args 0 [.ref sc, .ref tp, .int (Int32.ofNat (w + 1))]) [] G1) : x_Gd xs L J (d + 2) m_140 (fun r G' => r = some (.int 0) ∧ x_sl G' tp 8 = some (.int q) ∧ x_sl G' tp 9 = some (.int p9)) 0 (lv_args 0 [.ref sc, .ref tp, .int (Int32.ofNat w)]) [] G := by
  refine s_one_h h (by rw [htk]; decide) hon hw hN (fun G1 lv h1 g0 g1 g2 g3 => ?_)
  refine y_aln (e_140 (74, .aload_n 3, 1) (List.mem_of_getElem? (i := 38) rfl)) g3 ?_
  refine y_gst (a := pm_TB + 8) (e_140 (75, .getstatic 80, 3) (List.mem_of_getElem? (i := 39) rfl)) w_9_80 rfl ?_
  refine y_acmN (e_140 (78, .if_acmp .ne 30, 3) (List.mem_of_getElem? (i := 40) rfl)) rfl h.1.tk35 (by decide) (fun _ => ?_) (fun z => absurd (htk.symm.trans z) (by decide))
  refine y_aln (e_140 (108, .aload_n 3, 1) (List.mem_of_getElem? (i := 56) rfl)) g3 ?_
  refine y_gst (a := pm_TB + 27) (e_140 (109, .getstatic 77, 3) (List.mem_of_getElem? (i := 57) rfl)) w_9_77 rfl ?_
  refine y_acmN (e_140 (112, .if_acmp .ne 33, 3) (List.mem_of_getElem? (i := 58) rfl)) rfl h.1.tk35 (by decide) (fun z => absurd htk z) (fun _ => ?_)
  refine y_aln (e_140 (115, .aload_n 0, 1) (List.mem_of_getElem? (i := 59) rfl)) g0 ?_
  refine y_aln (e_140 (116, .aload_n 1, 1) (List.mem_of_getElem? (i := 60) rfl)) g1 ?_
  refine y_iln (e_140 (117, .iload_n 2, 1) (List.mem_of_getElem? (i := 61) rfl)) g2 ?_
  refine y_st (e_140 (118, .iconst 1, 1) (List.mem_of_getElem? (i := 62) rfl)) ⟨rfl, rfl, rfl, rfl⟩ ?_
  refine y_st (e_140 (119, .iadd, 1) (List.mem_of_getElem? (i := 63) rfl)) ⟨rfl, rfl, rfl, rfl⟩ ?_
  rw [s_inc]
  refine y_c3 (K' := _) (e_140 (120, .invokevirtual 71, 3) (List.mem_of_getElem? (i := 64) rfl)) ⟨rfl, rfl, rfl⟩ t_9_71 ⟨by decide, by decide, by decide, by decide⟩ m_140_ok rfl (by decide) (y_recv h1.1.I h1.ts ⟨rfl, rfl⟩) (Nat.le_of_ble_eq_true rfl) (Nat.le_of_ble_eq_true rfl) (hc _ h1) (fun r1 Gc hc1 => ?_)
  obtain ⟨rfl, hc2⟩ := hc1
  simp only [Option.toList_some, Option.toList_none, List.cons_append, List.nil_append]
  refine y_ifc (e_140 (123, .ifCond .eq 20, 3) (List.mem_of_getElem? (i := 65) rfl)) rfl (fun _ => ?_) (fun hb => absurd hb (by decide))
  refine y_st (e_140 (143, .iconst 0, 1) (List.mem_of_getElem? (i := 73) rfl)) ⟨rfl, rfl, rfl, rfl⟩ ?_
  exact y_ret (e_140 (144, .ireturn, 1) (List.mem_of_getElem? (i := 74) rfl)) ⟨rfl, y_rb (Or.inl rfl)⟩ ⟨rfl, hc2⟩
set_option maxHeartbeats 2000000 in
set_option maxRecDepth 100000 in
theorem s_one_n2 (h : SC th tp b sc f n lim nx tk pl num nm ft fp sz on G) (htk : tk = 27) (hon : on < 20) (hw : w ≤ 8) (hN : NXc f n lim nx num nm nx2 tk2 pl2 num2 nm2) (hc : ∀ G1, SC th tp b sc f n lim nx2 tk2 pl2 num2 nm2 ft fp sz (on + 1) G1 → x_Gd xs L J (d + 1) m_140 (fun r G' => r = some (.int 1) ∧ SC th tp b sc f n lim nx3 tk3 pl3 num3 nm3 ft fp sz2 on2 G') 0 (lv_args 0 [.ref sc, .ref tp, .int (Int32.ofNat (w + 1))]) [] G1) (hsz : sz2 < 40) : x_Gd xs L J (d + 2) m_140 (fun r G' => r = some (.int 1) ∧ SC th tp b sc f n lim nx3 tk3 pl3 num3 nm3 ft fp (sz2 + 1) on2 G') 0 (lv_args 0 [.ref sc, .ref tp, .int (Int32.ofNat w)]) [] G := by
  refine s_one_h h (by rw [htk]; decide) hon hw hN (fun G1 lv h1 g0 g1 g2 g3 => ?_)
  refine y_aln (e_140 (74, .aload_n 3, 1) (List.mem_of_getElem? (i := 38) rfl)) g3 ?_
  refine y_gst (a := pm_TB + 8) (e_140 (75, .getstatic 80, 3) (List.mem_of_getElem? (i := 39) rfl)) w_9_80 rfl ?_
  refine y_acmN (e_140 (78, .if_acmp .ne 30, 3) (List.mem_of_getElem? (i := 40) rfl)) rfl h.1.tk35 (by decide) (fun _ => ?_) (fun z => absurd (htk.symm.trans z) (by decide))
  refine y_aln (e_140 (108, .aload_n 3, 1) (List.mem_of_getElem? (i := 56) rfl)) g3 ?_
  refine y_gst (a := pm_TB + 27) (e_140 (109, .getstatic 77, 3) (List.mem_of_getElem? (i := 57) rfl)) w_9_77 rfl ?_
  refine y_acmN (e_140 (112, .if_acmp .ne 33, 3) (List.mem_of_getElem? (i := 58) rfl)) rfl h.1.tk35 (by decide) (fun z => absurd htk z) (fun _ => ?_)
  refine y_aln (e_140 (115, .aload_n 0, 1) (List.mem_of_getElem? (i := 59) rfl)) g0 ?_
  refine y_aln (e_140 (116, .aload_n 1, 1) (List.mem_of_getElem? (i := 60) rfl)) g1 ?_
  refine y_iln (e_140 (117, .iload_n 2, 1) (List.mem_of_getElem? (i := 61) rfl)) g2 ?_
  refine y_st (e_140 (118, .iconst 1, 1) (List.mem_of_getElem? (i := 62) rfl)) ⟨rfl, rfl, rfl, rfl⟩ ?_
  refine y_st (e_140 (119, .iadd, 1) (List.mem_of_getElem? (i := 63) rfl)) ⟨rfl, rfl, rfl, rfl⟩ ?_
  rw [s_inc]
  refine y_c3 (K' := _) (e_140 (120, .invokevirtual 71, 3) (List.mem_of_getElem? (i := 64) rfl)) ⟨rfl, rfl, rfl⟩ t_9_71 ⟨by decide, by decide, by decide, by decide⟩ m_140_ok rfl (by decide) (y_recv h1.1.I h1.ts ⟨rfl, rfl⟩) (Nat.le_of_ble_eq_true rfl) (Nat.le_of_ble_eq_true rfl) (hc _ h1) (fun r1 Gc hc1 => ?_)
  obtain ⟨rfl, h3⟩ := hc1
  simp only [Option.toList_some, Option.toList_none, List.cons_append, List.nil_append]
  refine y_ifc (e_140 (123, .ifCond .eq 20, 3) (List.mem_of_getElem? (i := 65) rfl)) rfl (fun hb => absurd hb (by decide)) (fun _ => ?_)
  refine y_aln (e_140 (126, .aload_n 0, 1) (List.mem_of_getElem? (i := 66) rfl)) g0 ?_
  refine y_gst (a := pm_TB + 27) (e_140 (127, .getstatic 77, 3) (List.mem_of_getElem? (i := 67) rfl)) w_9_77 rfl ?_
  refine y_gst (a := pm_TB + 0) (e_140 (130, .getstatic 51, 3) (List.mem_of_getElem? (i := 68) rfl)) w_9_51 rfl ?_
  refine y_c3 (K' := _) (e_140 (133, .invokevirtual 67, 3) (List.mem_of_getElem? (i := 69) rfl)) ⟨rfl, rfl, rfl⟩ t_9_67 ⟨by decide, by decide, by decide, by decide⟩ m_143_ok rfl (by decide) (y_recv h3.1.I h3.ts ⟨rfl, rfl⟩) (Nat.le_of_ble_eq_true rfl) (Nat.le_of_ble_eq_true rfl) (s_addStep (a := 27) (c := 0) h3 hsz (by decide) (by decide)) (fun r1 Gc hc1 => ?_)
  obtain ⟨rfl, h4⟩ := hc1
  simp only [Option.toList_some, Option.toList_none, List.cons_append, List.nil_append]
  refine y_ifc (e_140 (136, .ifCond .eq 7, 3) (List.mem_of_getElem? (i := 70) rfl)) rfl (fun hb => absurd hb (by decide)) (fun _ => ?_)
  refine y_st (e_140 (139, .iconst 1, 1) (List.mem_of_getElem? (i := 71) rfl)) ⟨rfl, rfl, rfl, rfl⟩ ?_
  refine y_st (e_140 (140, .goto 4, 3) (List.mem_of_getElem? (i := 72) rfl)) ⟨rfl, rfl, rfl, rfl⟩ ?_
  exact y_ret (e_140 (144, .ireturn, 1) (List.mem_of_getElem? (i := 74) rfl)) ⟨rfl, y_rb (Or.inr rfl)⟩ ⟨rfl, h4⟩
theorem s_cp {k : Nat} (h : s_cmp k = true) : s_pln k = false := by
  unfold s_cmp at h
  simp only [Bool.or_eq_true, beq_iff_eq] at h
  rcases h with ((rfl | rfl) | rfl) | rfl <;> rfl
set_option maxHeartbeats 2000000 in
set_option maxRecDepth 100000 in
theorem s_one_p (h : SC th tp b sc f n lim nx tk pl num nm ft fp sz on G) (hl : s_pln tk = true) (hon : on < 20) (hw : w ≤ 8) (hN : NXc f n lim nx num nm nx2 tk2 pl2 num2 nm2) (hsz : sz < 40) : x_Gd xs L J (d + 2) m_140 (fun r G' => r = some (.int 1) ∧ SC th tp b sc f n lim nx2 tk2 pl2 num2 nm2 ft fp (sz + 1) (on + 1) G') 0 (lv_args 0 [.ref sc, .ref tp, .int (Int32.ofNat w)]) [] G := by
  refine s_one_h h (by unfold s_sta; rw [hl]; simp) hon hw hN (fun G1 lv h1 g0 g1 g2 g3 => ?_)
  refine y_aln (e_140 (74, .aload_n 3, 1) (List.mem_of_getElem? (i := 38) rfl)) g3 ?_
  refine y_gst (a := pm_TB + 8) (e_140 (75, .getstatic 80, 3) (List.mem_of_getElem? (i := 39) rfl)) w_9_80 rfl ?_
  refine y_acmN (e_140 (78, .if_acmp .ne 30, 3) (List.mem_of_getElem? (i := 40) rfl)) rfl h.1.tk35 (by decide) (fun _ => ?_) (fun z => absurd hl (by rw [z]; decide))
  refine y_aln (e_140 (108, .aload_n 3, 1) (List.mem_of_getElem? (i := 56) rfl)) g3 ?_
  refine y_gst (a := pm_TB + 27) (e_140 (109, .getstatic 77, 3) (List.mem_of_getElem? (i := 57) rfl)) w_9_77 rfl ?_
  refine y_acmN (e_140 (112, .if_acmp .ne 33, 3) (List.mem_of_getElem? (i := 58) rfl)) rfl h.1.tk35 (by decide) (fun _ => ?_) (fun z => absurd hl (by rw [z]; decide))
  refine y_aln (e_140 (145, .aload_n 3, 1) (List.mem_of_getElem? (i := 75) rfl)) g3 ?_
  refine y_c1 (K' := _) (e_140 (146, .invokestatic 83, 3) (List.mem_of_getElem? (i := 76) rfl)) ⟨rfl, rfl, rfl⟩ t_9_83 ⟨by decide, by decide, by decide, by decide⟩ m_141_ok rfl (by decide) rfl (Nat.le_of_ble_eq_true rfl) (Nat.le_of_ble_eq_true rfl) (s_isPlain h.1.tk35) (fun r1 Gc hc1 => ?_)
  obtain ⟨rfl, rfl⟩ := hc1
  simp only [Option.toList_some, Option.toList_none, List.cons_append, List.nil_append]
  rw [hl]
  refine y_ifc (e_140 (149, .ifCond .eq 14, 3) (List.mem_of_getElem? (i := 77) rfl)) rfl (fun hb => absurd hb (by decide)) (fun _ => ?_)
  refine y_aln (e_140 (152, .aload_n 0, 1) (List.mem_of_getElem? (i := 78) rfl)) g0 ?_
  refine y_aln (e_140 (153, .aload_n 3, 1) (List.mem_of_getElem? (i := 79) rfl)) g3 ?_
  refine y_gst (a := pm_TB + 0) (e_140 (154, .getstatic 51, 3) (List.mem_of_getElem? (i := 80) rfl)) w_9_51 rfl ?_
  refine y_c3 (K' := _) (e_140 (157, .invokevirtual 67, 3) (List.mem_of_getElem? (i := 81) rfl)) ⟨rfl, rfl, rfl⟩ t_9_67 ⟨by decide, by decide, by decide, by decide⟩ m_143_ok rfl (by decide) (y_recv h1.1.I h1.ts ⟨rfl, rfl⟩) (Nat.le_of_ble_eq_true rfl) (Nat.le_of_ble_eq_true rfl) (s_addStep (c := 0) h1 hsz h.1.tk35 (by decide)) (fun r1 Gc hc1 => ?_)
  obtain ⟨rfl, h4⟩ := hc1
  simp only [Option.toList_some, Option.toList_none, List.cons_append, List.nil_append]
  refine y_st (e_140 (160, .goto 9, 3) (List.mem_of_getElem? (i := 82) rfl)) ⟨rfl, rfl, rfl, rfl⟩ ?_
  exact y_ret (e_140 (169, .ireturn, 1) (List.mem_of_getElem? (i := 87) rfl)) ⟨rfl, y_rb (Or.inr rfl)⟩ ⟨rfl, h4⟩
set_option maxHeartbeats 2000000 in
set_option maxRecDepth 100000 in
/-- what is compared -/
theorem s_one_c (h : SC th tp b sc f n lim nx tk pl num nm ft fp sz on G) (hl : s_cmp tk = true) (hon : on < 20) (hw : w ≤ 8) (hN : NXc f n lim nx num nm nx2 tk2 pl2 num2 nm2) (hc : ∀ G1, SC th tp b sc f n lim nx2 tk2 pl2 num2 nm2 ft fp sz (on + 1) G1 → x_Gd xs L J (d + 1) m_144 (fun r G' => (r = some (.int 0) ∨ r = some (.int 1)) ∧ K r G') 0 (lv_args 0 [.ref sc, .ref tp, .ref (pm_TB + tk)]) [] G1) : x_Gd xs L J (d + 2) m_140 K 0 (lv_args 0 [.ref sc, .ref tp, .int (Int32.ofNat w)]) [] G := by
  refine s_one_h h (by unfold s_sta; rw [hl]; simp) hon hw hN (fun G1 lv h1 g0 g1 g2 g3 => ?_)
  refine y_aln (e_140 (74, .aload_n 3, 1) (List.mem_of_getElem? (i := 38) rfl)) g3 ?_
  refine y_gst (a := pm_TB + 8) (e_140 (75, .getstatic 80, 3) (List.mem_of_getElem? (i := 39) rfl)) w_9_80 rfl ?_
  refine y_acmN (e_140 (78, .if_acmp .ne 30, 3) (List.mem_of_getElem? (i := 40) rfl)) rfl h.1.tk35 (by decide) (fun _ => ?_) (fun z => absurd hl (by rw [z]; decide))
  refine y_aln (e_140 (108, .aload_n 3, 1) (List.mem_of_getElem? (i := 56) rfl)) g3 ?_
  refine y_gst (a := pm_TB + 27) (e_140 (109, .getstatic 77, 3) (List.mem_of_getElem? (i := 57) rfl)) w_9_77 rfl ?_
  refine y_acmN (e_140 (112, .if_acmp .ne 33, 3) (List.mem_of_getElem? (i := 58) rfl)) rfl h.1.tk35 (by decide) (fun _ => ?_) (fun z => absurd hl (by rw [z]; decide))
  refine y_aln (e_140 (145, .aload_n 3, 1) (List.mem_of_getElem? (i := 75) rfl)) g3 ?_
  refine y_c1 (K' := _) (e_140 (146, .invokestatic 83, 3) (List.mem_of_getElem? (i := 76) rfl)) ⟨rfl, rfl, rfl⟩ t_9_83 ⟨by decide, by decide, by decide, by decide⟩ m_141_ok rfl (by decide) rfl (Nat.le_of_ble_eq_true rfl) (Nat.le_of_ble_eq_true rfl) (s_isPlain h.1.tk35) (fun r1 Gc hc1 => ?_)
  obtain ⟨rfl, rfl⟩ := hc1
  simp only [Option.toList_some, Option.toList_none, List.cons_append, List.nil_append]
  rw [s_cp hl]
  refine y_ifc (e_140 (149, .ifCond .eq 14, 3) (List.mem_of_getElem? (i := 77) rfl)) rfl (fun _ => ?_) (fun hb => absurd hb (by decide))
  refine y_aln (e_140 (163, .aload_n 0, 1) (List.mem_of_getElem? (i := 83) rfl)) g0 ?_
  refine y_aln (e_140 (164, .aload_n 1, 1) (List.mem_of_getElem? (i := 84) rfl)) g1 ?_
  refine y_aln (e_140 (165, .aload_n 3, 1) (List.mem_of_getElem? (i := 85) rfl)) g3 ?_
  refine y_c3 (K' := _) (e_140 (166, .invokevirtual 96, 3) (List.mem_of_getElem? (i := 86) rfl)) ⟨rfl, rfl, rfl⟩ t_9_96 ⟨by decide, by decide, by decide, by decide⟩ m_144_ok rfl (by decide) (y_recv h1.1.I h1.ts ⟨rfl, rfl⟩) (Nat.le_of_ble_eq_true rfl) (Nat.le_of_ble_eq_true rfl) (hc _ h1) (fun r1 Gc hc1 => ?_)
  obtain ⟨hr, hK⟩ := hc1
  rcases hr with rfl | rfl
  · simp only [Option.toList_some, List.cons_append, List.nil_append]
    exact y_ret (e_140 (169, .ireturn, 1) (List.mem_of_getElem? (i := 87) rfl)) ⟨rfl, y_rb (Or.inl rfl)⟩ hK
  · simp only [Option.toList_some, List.cons_append, List.nil_append]
    exact y_ret (e_140 (169, .ireturn, 1) (List.mem_of_getElem? (i := 87) rfl)) ⟨rfl, y_rb (Or.inr rfl)⟩ hK
end S3
