def m_139 : pM := (⟨"BreathingHill$Sentence", "readAll", "(LBreathingHill$Tape;I)Z"⟩, 1126, 4, some (FieldType.boolean), 9, 2, false, 6, 101, 1125, 27)
set_option maxRecDepth 100000 in
theorem m_139_ok : pm_tab[139]? = some m_139 := rfl
theorem e_139 : ∀ q ∈ d_139, decode m_139.code q.1 = .ok (q.2.1, q.2.2) := y_dec d_139_ok m_139_ok
def m_52 : pM := (⟨"BreathingHill$Sentence", "forget", "()V"⟩, 715, 1, none, 9, 0, false, 6, 101, 713, 714)
set_option maxRecDepth 100000 in
theorem m_52_ok : pm_tab[52]? = some m_52 := rfl
theorem e_52 : ∀ q ∈ d_52, decode m_52.code q.1 = .ok (q.2.1, q.2.2) := y_dec d_52_ok m_52_ok
def m_137 : pM := (⟨"BreathingHill$Sentence", "readSentence", "(LBreathingHill$Tape;)Z"⟩, 1116, 2, some (FieldType.boolean), 9, 1, false, 6, 101, 1114, 1115)
set_option maxRecDepth 100000 in
theorem m_137_ok : pm_tab[137]? = some m_137 := rfl
theorem e_137 : ∀ q ∈ d_137, decode m_137.code q.1 = .ok (q.2.1, q.2.2) := y_dec d_137_ok m_137_ok
theorem w_9_74 : pm_stab.find? (fun r => r.1 == 9 && r.2.1 == 74) = some (9, 74, 26, 1177) := by decide +kernel
theorem t_9_58 : pm_ctab.find? (fun r => r.1 == 9 && r.2.1 == 58) = some (9, 58, 1, 139, 1123) := by decide +kernel
theorem w_9_61 : pm_stab.find? (fun r => r.1 == 9 && r.2.1 == 61) = some (9, 61, 25, 1179) := by decide +kernel
theorem t_9_34 : pm_ctab.find? (fun r => r.1 == 9 && r.2.1 == 34) = some (9, 34, 1, 52, 1117) := by decide +kernel
theorem t_9_37 : pm_ctab.find? (fun r => r.1 == 9 && r.2.1 == 37) = some (9, 37, 1, 20, 1118) := by decide +kernel
-- ===== readAll, readCond, readSentence =====
section S4
variable {th : List Nat} {xs : Nat → Int32} {L J d tp b sc : Nat} {K : Option Value → List pE → Prop} {f : Nat → Int32} {G0 G G1 G' : List pE} {n lim nx pl num ft fp : Int32} {tk : Nat} {nm : Int64} {lv : pL} {nx' pl' num' : Int32} {tk' : Nat} {nm' : Int64} {sz on : Nat} {nx2 pl2 num2 : Int32} {tk2 : Nat} {nm2 : Int64} {nx3 pl3 num3 : Int32} {tk3 : Nat} {nm3 : Int64} {nx4 pl4 num4 : Int32} {tk4 : Nat} {nm4 : Int64} {w sz2 on2 j : Nat} {q p9 : Int32} {C : List pE → Prop}

set_option maxHeartbeats 2000000 in
set_option maxRecDepth 100000 in
theorem s_all_f0 (h : SC th tp b sc f n lim nx tk pl num nm ft fp sz on G) (hc : x_Gd xs L J d m_140 (fun r G' => r = some (.int 0) ∧ x_sl G' tp 8 = some (.int q) ∧ x_sl G' tp 9 = some (.int p9)) 0 (lv_args 0 [.ref sc, .ref tp, .int (Int32.ofNat w)]) [] G) : x_Gd xs L J (d + 1) m_139 (fun r G' => r = some (.int 0) ∧ x_sl G' tp 8 = some (.int q) ∧ x_sl G' tp 9 = some (.int p9)) 0 (lv_args 0 [.ref sc, .ref tp, .int (Int32.ofNat w)]) [] G := by
  have g0 : pm_get (lv_args 0 [.ref sc, .ref tp, .int (Int32.ofNat w)]) 0 = some (.ref sc) := rfl
  have g1 : pm_get (lv_args 0 [.ref sc, .ref tp, .int (Int32.ofNat w)]) 1 = some (.ref tp) := rfl
  have g2 : pm_get (lv_args 0 [.ref sc, .ref tp, .int (Int32.ofNat w)]) 2 = some (.int (Int32.ofNat w)) := rfl
  refine y_aln (e_139 (0, .aload_n 0, 1) (List.mem_of_getElem? (i := 0) rfl)) g0 ?_
  refine y_aln (e_139 (1, .aload_n 1, 1) (List.mem_of_getElem? (i := 1) rfl)) g1 ?_
  refine y_iln (e_139 (2, .iload_n 2, 1) (List.mem_of_getElem? (i := 2) rfl)) g2 ?_
  refine y_c3 (K' := _) (e_139 (3, .invokevirtual 71, 3) (List.mem_of_getElem? (i := 3) rfl)) ⟨rfl, rfl, rfl⟩ t_9_71 ⟨by decide, by decide, by decide, by decide⟩ m_140_ok rfl (by decide) (y_recv h.1.I h.ts ⟨rfl, rfl⟩) (Nat.le_of_ble_eq_true rfl) (Nat.le_of_ble_eq_true rfl) (hc) (fun r1 Gc hc1 => ?_)
  obtain ⟨rfl, hc2⟩ := hc1
  simp only [Option.toList_some, Option.toList_none, List.cons_append, List.nil_append]
  refine y_ifc (e_139 (6, .ifCond .ne 5, 3) (List.mem_of_getElem? (i := 4) rfl)) rfl (fun hb => absurd hb (by decide)) (fun _ => ?_)
  refine y_st (e_139 (9, .iconst 0, 1) (List.mem_of_getElem? (i := 5) rfl)) ⟨rfl, rfl, rfl, rfl⟩ ?_
  exact y_ret (e_139 (10, .ireturn, 1) (List.mem_of_getElem? (i := 6) rfl)) ⟨rfl, y_rb (Or.inl rfl)⟩ ⟨rfl, hc2⟩
set_option maxHeartbeats 2000000 in
set_option maxRecDepth 100000 in
theorem s_all_h (h : SC th tp b sc f n lim nx tk pl num nm ft fp sz on G) (hc : x_Gd xs L J d m_140 (fun r G' => r = some (.int 1) ∧ C G') 0 (lv_args 0 [.ref sc, .ref tp, .int (Int32.ofNat w)]) [] G) (hk : ∀ (G1 : List pE) (lv : pL), C G1 → pm_get lv 0 = some (.ref sc) → pm_get lv 1 = some (.ref tp) → pm_get lv 2 = some (.int (Int32.ofNat w)) → pm_get lv 3 = some (.int (Int32.ofNat 0)) → x_Gd xs L J (d + 1) m_139 K 13 lv [] G1) : x_Gd xs L J (d + 1) m_139 K 0 (lv_args 0 [.ref sc, .ref tp, .int (Int32.ofNat w)]) [] G := by
  have g0 : pm_get (lv_args 0 [.ref sc, .ref tp, .int (Int32.ofNat w)]) 0 = some (.ref sc) := rfl
  have g1 : pm_get (lv_args 0 [.ref sc, .ref tp, .int (Int32.ofNat w)]) 1 = some (.ref tp) := rfl
  have g2 : pm_get (lv_args 0 [.ref sc, .ref tp, .int (Int32.ofNat w)]) 2 = some (.int (Int32.ofNat w)) := rfl
  generalize lv_args 0 [.ref sc, .ref tp, .int (Int32.ofNat w)] = lv at g0 g1 g2 ⊢
  refine y_aln (e_139 (0, .aload_n 0, 1) (List.mem_of_getElem? (i := 0) rfl)) g0 ?_
  refine y_aln (e_139 (1, .aload_n 1, 1) (List.mem_of_getElem? (i := 1) rfl)) g1 ?_
  refine y_iln (e_139 (2, .iload_n 2, 1) (List.mem_of_getElem? (i := 2) rfl)) g2 ?_
  refine y_c3 (K' := _) (e_139 (3, .invokevirtual 71, 3) (List.mem_of_getElem? (i := 3) rfl)) ⟨rfl, rfl, rfl⟩ t_9_71 ⟨by decide, by decide, by decide, by decide⟩ m_140_ok rfl (by decide) (y_recv h.1.I h.ts ⟨rfl, rfl⟩) (Nat.le_of_ble_eq_true rfl) (Nat.le_of_ble_eq_true rfl) (hc) (fun r1 Gc hc1 => ?_)
  obtain ⟨rfl, hc2⟩ := hc1
  simp only [Option.toList_some, Option.toList_none, List.cons_append, List.nil_append]
  refine y_ifc (e_139 (6, .ifCond .ne 5, 3) (List.mem_of_getElem? (i := 4) rfl)) rfl (fun _ => ?_) (fun hb => absurd hb (by decide))
  refine y_st (e_139 (11, .iconst 0, 1) (List.mem_of_getElem? (i := 7) rfl)) ⟨rfl, rfl, rfl, rfl⟩ ?_
  refine y_isn (e_139 (12, .istore_n 3, 1) (List.mem_of_getElem? (i := 8) rfl)) (by decide) ?_
  exact hk _ _ hc2 (y_gpr g0 (by decide)) (y_gpr g1 (by decide)) (y_gpi g2 (by decide)) x_get_self
set_option maxHeartbeats 2000000 in
set_option maxRecDepth 100000 in
theorem s_all_end (h : SC th tp b sc f n lim nx tk pl num nm ft fp sz on G) (hno : tk ≠ 26) (g0 : pm_get lv 0 = some (.ref sc)) (g1 : pm_get lv 1 = some (.ref tp)) (g2 : pm_get lv 2 = some (.int (Int32.ofNat w))) (g3 : pm_get lv 3 = some (.int (Int32.ofNat j))) : x_Gd xs L J d m_139 (fun r G' => r = some (.int 1) ∧ G' = G) 13 lv [] G := by
  have fin : x_Gd xs L J d m_139 (fun r G' => r = some (.int 1) ∧ G' = G) 63 lv [] G := by
    refine y_st (e_139 (63, .iconst 1, 1) (List.mem_of_getElem? (i := 32) rfl)) ⟨rfl, rfl, rfl, rfl⟩ ?_
    exact y_ret (e_139 (64, .ireturn, 1) (List.mem_of_getElem? (i := 33) rfl)) ⟨rfl, y_rb (Or.inr rfl)⟩ ⟨rfl, rfl⟩
  refine y_iln (e_139 (13, .iload_n 3, 1) (List.mem_of_getElem? (i := 9) rfl)) g3 ?_
  refine y_st (e_139 (14, .bipush 20, 2) (List.mem_of_getElem? (i := 10) rfl)) ⟨rfl, rfl, rfl, rfl⟩ ?_
  refine y_icm (e_139 (16, .if_icmp .ge 47, 3) (List.mem_of_getElem? (i := 11) rfl)) rfl (fun _ => fin) (fun _ => ?_)
  refine y_aln (e_139 (19, .aload_n 1, 1) (List.mem_of_getElem? (i := 12) rfl)) g1 ?_
  refine y_getf h.1.I h.1.t (e_139 (20, .getfield 47, 3) (List.mem_of_getElem? (i := 13) rfl)) u_9_47 ⟨rfl, rfl⟩ h.1.s4 ?_
  refine y_gst (a := pm_TB + 26) (e_139 (23, .getstatic 74, 3) (List.mem_of_getElem? (i := 14) rfl)) w_9_74 rfl ?_
  exact y_acmN (e_139 (26, .if_acmp .ne 37, 3) (List.mem_of_getElem? (i := 15) rfl)) rfl h.1.tk35 (by decide) (fun _ => fin) (fun z => absurd z hno)
set_option maxHeartbeats 2000000 in
set_option maxRecDepth 100000 in
theorem s_all_f1 (h : SC th tp b sc f n lim nx tk pl num nm ft fp sz on G) (htk : tk = 26) (hj : j < 20) (hN : NXc f n lim nx num nm nx2 tk2 pl2 num2 nm2) (hc : ∀ G1, SC th tp b sc f n lim nx2 tk2 pl2 num2 nm2 ft fp sz on G1 → x_Gd xs L J (d + 1) m_140 (fun r G' => r = some (.int 0) ∧ x_sl G' tp 8 = some (.int q) ∧ x_sl G' tp 9 = some (.int p9)) 0 (lv_args 0 [.ref sc, .ref tp, .int (Int32.ofNat w)]) [] G1) (g0 : pm_get lv 0 = some (.ref sc)) (g1 : pm_get lv 1 = some (.ref tp)) (g2 : pm_get lv 2 = some (.int (Int32.ofNat w))) (g3 : pm_get lv 3 = some (.int (Int32.ofNat j))) : x_Gd xs L J (d + 2) m_139 (fun r G' => r = some (.int 0) ∧ x_sl G' tp 8 = some (.int q) ∧ x_sl G' tp 9 = some (.int p9)) 13 lv [] G := by
  have e := s_toI (a := j) (by omega)
  have e20 : ((Int8.ofInt 20).toInt32).toInt = 20 := rfl
  refine y_iln (e_139 (13, .iload_n 3, 1) (List.mem_of_getElem? (i := 9) rfl)) g3 ?_
  refine y_st (e_139 (14, .bipush 20, 2) (List.mem_of_getElem? (i := 10) rfl)) ⟨rfl, rfl, rfl, rfl⟩ ?_
  refine y_icm (e_139 (16, .if_icmp .ge 47, 3) (List.mem_of_getElem? (i := 11) rfl)) rfl (fun hb => ?_) (fun _ => ?_)
  · have := y_hI.2.2.2.2.1 hb
    omega
  refine y_aln (e_139 (19, .aload_n 1, 1) (List.mem_of_getElem? (i := 12) rfl)) g1 ?_
  refine y_getf h.1.I h.1.t (e_139 (20, .getfield 47, 3) (List.mem_of_getElem? (i := 13) rfl)) u_9_47 ⟨rfl, rfl⟩ h.1.s4 ?_
  refine y_gst (a := pm_TB + 26) (e_139 (23, .getstatic 74, 3) (List.mem_of_getElem? (i := 14) rfl)) w_9_74 rfl ?_
  refine y_acmN (e_139 (26, .if_acmp .ne 37, 3) (List.mem_of_getElem? (i := 15) rfl)) rfl h.1.tk35 (by decide) (fun z => absurd htk z) (fun _ => ?_)
  refine y_aln (e_139 (29, .aload_n 1, 1) (List.mem_of_getElem? (i := 16) rfl)) g1 ?_
  refine y_c1 (K' := _) (e_139 (30, .invokevirtual 64, 3) (List.mem_of_getElem? (i := 17) rfl)) ⟨rfl, rfl, rfl⟩ t_9_64 ⟨by decide, by decide, by decide, by decide⟩ m_21_ok rfl (by decide) (y_recv h.1.I h.1.t ⟨rfl, rfl⟩) (Nat.le_of_ble_eq_true rfl) (Nat.le_of_ble_eq_true rfl) (hN _ _ _ _ _ _ _ _ _ _ _ _ _ h.1) (fun r1 Gc hc1 => ?_)
  obtain ⟨rfl, hc2⟩ := hc1
  simp only [Option.toList_some, Option.toList_none, List.cons_append, List.nil_append]
  have h1 := h.nxt hc2
  refine y_aln (e_139 (33, .aload_n 0, 1) (List.mem_of_getElem? (i := 18) rfl)) g0 ?_
  refine y_aln (e_139 (34, .aload_n 1, 1) (List.mem_of_getElem? (i := 19) rfl)) g1 ?_
  refine y_iln (e_139 (35, .iload_n 2, 1) (List.mem_of_getElem? (i := 20) rfl)) g2 ?_
  refine y_c3 (K' := _) (e_139 (36, .invokevirtual 71, 3) (List.mem_of_getElem? (i := 21) rfl)) ⟨rfl, rfl, rfl⟩ t_9_71 ⟨by decide, by decide, by decide, by decide⟩ m_140_ok rfl (by decide) (y_recv h1.1.I h1.ts ⟨rfl, rfl⟩) (Nat.le_of_ble_eq_true rfl) (Nat.le_of_ble_eq_true rfl) (hc _ h1) (fun r1 Gc hc1 => ?_)
  obtain ⟨rfl, hc3⟩ := hc1
  simp only [Option.toList_some, Option.toList_none, List.cons_append, List.nil_append]
  refine y_ifc (e_139 (39, .ifCond .eq 16, 3) (List.mem_of_getElem? (i := 22) rfl)) rfl (fun _ => ?_) (fun hb => absurd hb (by decide))
  refine y_st (e_139 (55, .iconst 0, 1) (List.mem_of_getElem? (i := 28) rfl)) ⟨rfl, rfl, rfl, rfl⟩ ?_
  exact y_ret (e_139 (56, .ireturn, 1) (List.mem_of_getElem? (i := 29) rfl)) ⟨rfl, y_rb (Or.inl rfl)⟩ ⟨rfl, hc3⟩
set_option maxHeartbeats 2000000 in
set_option maxRecDepth 100000 in
theorem s_all_go (h : SC th tp b sc f n lim nx tk pl num nm ft fp sz on G) (htk : tk = 26) (hj : j < 20) (hN : NXc f n lim nx num nm nx2 tk2 pl2 num2 nm2) (hc : ∀ G1, SC th tp b sc f n lim nx2 tk2 pl2 num2 nm2 ft fp sz on G1 → x_Gd xs L J (d + 1) m_140 (fun r G' => r = some (.int 1) ∧ SC th tp b sc f n lim nx3 tk3 pl3 num3 nm3 ft fp sz2 on2 G') 0 (lv_args 0 [.ref sc, .ref tp, .int (Int32.ofNat w)]) [] G1) (hsz : sz2 < 40) (g0 : pm_get lv 0 = some (.ref sc)) (g1 : pm_get lv 1 = some (.ref tp)) (g2 : pm_get lv 2 = some (.int (Int32.ofNat w))) (g3 : pm_get lv 3 = some (.int (Int32.ofNat j))) (hk : ∀ (G1 : List pE) (lv : pL), SC th tp b sc f n lim nx3 tk3 pl3 num3 nm3 ft fp (sz2 + 1) on2 G1 → pm_get lv 0 = some (.ref sc) → pm_get lv 1 = some (.ref tp) → pm_get lv 2 = some (.int (Int32.ofNat w)) → pm_get lv 3 = some (.int (Int32.ofNat (j + 1))) → x_Gd xs L J (d + 2) m_139 K 13 lv [] G1) : x_Gd xs L J (d + 2) m_139 K 13 lv [] G := by
  have e := s_toI (a := j) (by omega)
  have e20 : ((Int8.ofInt 20).toInt32).toInt = 20 := rfl
  refine y_iln (e_139 (13, .iload_n 3, 1) (List.mem_of_getElem? (i := 9) rfl)) g3 ?_
  refine y_st (e_139 (14, .bipush 20, 2) (List.mem_of_getElem? (i := 10) rfl)) ⟨rfl, rfl, rfl, rfl⟩ ?_
  refine y_icm (e_139 (16, .if_icmp .ge 47, 3) (List.mem_of_getElem? (i := 11) rfl)) rfl (fun hb => ?_) (fun _ => ?_)
  · have := y_hI.2.2.2.2.1 hb
    omega
  refine y_aln (e_139 (19, .aload_n 1, 1) (List.mem_of_getElem? (i := 12) rfl)) g1 ?_
  refine y_getf h.1.I h.1.t (e_139 (20, .getfield 47, 3) (List.mem_of_getElem? (i := 13) rfl)) u_9_47 ⟨rfl, rfl⟩ h.1.s4 ?_
  refine y_gst (a := pm_TB + 26) (e_139 (23, .getstatic 74, 3) (List.mem_of_getElem? (i := 14) rfl)) w_9_74 rfl ?_
  refine y_acmN (e_139 (26, .if_acmp .ne 37, 3) (List.mem_of_getElem? (i := 15) rfl)) rfl h.1.tk35 (by decide) (fun z => absurd htk z) (fun _ => ?_)
  refine y_aln (e_139 (29, .aload_n 1, 1) (List.mem_of_getElem? (i := 16) rfl)) g1 ?_
  refine y_c1 (K' := _) (e_139 (30, .invokevirtual 64, 3) (List.mem_of_getElem? (i := 17) rfl)) ⟨rfl, rfl, rfl⟩ t_9_64 ⟨by decide, by decide, by decide, by decide⟩ m_21_ok rfl (by decide) (y_recv h.1.I h.1.t ⟨rfl, rfl⟩) (Nat.le_of_ble_eq_true rfl) (Nat.le_of_ble_eq_true rfl) (hN _ _ _ _ _ _ _ _ _ _ _ _ _ h.1) (fun r1 Gc hc1 => ?_)
  obtain ⟨rfl, hc2⟩ := hc1
  simp only [Option.toList_some, Option.toList_none, List.cons_append, List.nil_append]
  have h1 := h.nxt hc2
  refine y_aln (e_139 (33, .aload_n 0, 1) (List.mem_of_getElem? (i := 18) rfl)) g0 ?_
  refine y_aln (e_139 (34, .aload_n 1, 1) (List.mem_of_getElem? (i := 19) rfl)) g1 ?_
  refine y_iln (e_139 (35, .iload_n 2, 1) (List.mem_of_getElem? (i := 20) rfl)) g2 ?_
  refine y_c3 (K' := _) (e_139 (36, .invokevirtual 71, 3) (List.mem_of_getElem? (i := 21) rfl)) ⟨rfl, rfl, rfl⟩ t_9_71 ⟨by decide, by decide, by decide, by decide⟩ m_140_ok rfl (by decide) (y_recv h1.1.I h1.ts ⟨rfl, rfl⟩) (Nat.le_of_ble_eq_true rfl) (Nat.le_of_ble_eq_true rfl) (hc _ h1) (fun r1 Gc hc1 => ?_)
  obtain ⟨rfl, h3⟩ := hc1
  simp only [Option.toList_some, Option.toList_none, List.cons_append, List.nil_append]
  refine y_ifc (e_139 (39, .ifCond .eq 16, 3) (List.mem_of_getElem? (i := 22) rfl)) rfl (fun hb => absurd hb (by decide)) (fun _ => ?_)
  refine y_aln (e_139 (42, .aload_n 0, 1) (List.mem_of_getElem? (i := 23) rfl)) g0 ?_
  refine y_gst (a := pm_TB + 26) (e_139 (43, .getstatic 74, 3) (List.mem_of_getElem? (i := 24) rfl)) w_9_74 rfl ?_
  refine y_gst (a := pm_TB + 0) (e_139 (46, .getstatic 51, 3) (List.mem_of_getElem? (i := 25) rfl)) w_9_51 rfl ?_
  refine y_c3 (K' := _) (e_139 (49, .invokevirtual 67, 3) (List.mem_of_getElem? (i := 26) rfl)) ⟨rfl, rfl, rfl⟩ t_9_67 ⟨by decide, by decide, by decide, by decide⟩ m_143_ok rfl (by decide) (y_recv h3.1.I h3.ts ⟨rfl, rfl⟩) (Nat.le_of_ble_eq_true rfl) (Nat.le_of_ble_eq_true rfl) (s_addStep (a := 26) (c := 0) h3 hsz (by decide) (by decide)) (fun r1 Gc hc1 => ?_)
  obtain ⟨rfl, h4⟩ := hc1
  simp only [Option.toList_some, Option.toList_none, List.cons_append, List.nil_append]
  refine y_ifc (e_139 (52, .ifCond .ne 5, 3) (List.mem_of_getElem? (i := 27) rfl)) rfl (fun _ => ?_) (fun hb => absurd hb (by decide))
  refine y_iinc (e_139 (57, .iinc 3 1, 3) (List.mem_of_getElem? (i := 30) rfl)) g3 (by decide) ?_
  refine y_st (e_139 (60, .goto (-47), 3) (List.mem_of_getElem? (i := 31) rfl)) ⟨rfl, rfl, rfl, rfl⟩ ?_
  exact hk _ _ h4 (y_gpr g0 (by decide)) (y_gpr g1 (by decide)) (y_gpi g2 (by decide)) (by rw [x_get_self]; exact congrArg (fun v => some (Value.int v)) (s_inc j))

set_option maxHeartbeats 2000000 in
set_option maxRecDepth 100000 in
theorem s_cond_f0 (h : SC th tp b sc f n lim nx tk pl num nm ft fp sz on G) (hc : x_Gd xs L J d m_139 (fun r G' => r = some (.int 0) ∧ x_sl G' tp 8 = some (.int q) ∧ x_sl G' tp 9 = some (.int p9)) 0 (lv_args 0 [.ref sc, .ref tp, .int (Int32.ofNat w)]) [] G) : x_Gd xs L J (d + 1) m_138 (fun r G' => r = some (.int 0) ∧ x_sl G' tp 8 = some (.int q) ∧ x_sl G' tp 9 = some (.int p9)) 0 (lv_args 0 [.ref sc, .ref tp, .int (Int32.ofNat w)]) [] G := by
  have g0 : pm_get (lv_args 0 [.ref sc, .ref tp, .int (Int32.ofNat w)]) 0 = some (.ref sc) := rfl
  have g1 : pm_get (lv_args 0 [.ref sc, .ref tp, .int (Int32.ofNat w)]) 1 = some (.ref tp) := rfl
  have g2 : pm_get (lv_args 0 [.ref sc, .ref tp, .int (Int32.ofNat w)]) 2 = some (.int (Int32.ofNat w)) := rfl
  refine y_aln (e_138 (0, .aload_n 0, 1) (List.mem_of_getElem? (i := 0) rfl)) g0 ?_
  refine y_aln (e_138 (1, .aload_n 1, 1) (List.mem_of_getElem? (i := 1) rfl)) g1 ?_
  refine y_iln (e_138 (2, .iload_n 2, 1) (List.mem_of_getElem? (i := 2) rfl)) g2 ?_
  refine y_c3 (K' := _) (e_138 (3, .invokevirtual 58, 3) (List.mem_of_getElem? (i := 3) rfl)) ⟨rfl, rfl, rfl⟩ t_9_58 ⟨by decide, by decide, by decide, by decide⟩ m_139_ok rfl (by decide) (y_recv h.1.I h.ts ⟨rfl, rfl⟩) (Nat.le_of_ble_eq_true rfl) (Nat.le_of_ble_eq_true rfl) (hc) (fun r1 Gc hc1 => ?_)
  obtain ⟨rfl, hc2⟩ := hc1
  simp only [Option.toList_some, Option.toList_none, List.cons_append, List.nil_append]
  refine y_ifc (e_138 (6, .ifCond .ne 5, 3) (List.mem_of_getElem? (i := 4) rfl)) rfl (fun hb => absurd hb (by decide)) (fun _ => ?_)
  refine y_st (e_138 (9, .iconst 0, 1) (List.mem_of_getElem? (i := 5) rfl)) ⟨rfl, rfl, rfl, rfl⟩ ?_
  exact y_ret (e_138 (10, .ireturn, 1) (List.mem_of_getElem? (i := 6) rfl)) ⟨rfl, y_rb (Or.inl rfl)⟩ ⟨rfl, hc2⟩
set_option maxHeartbeats 2000000 in
set_option maxRecDepth 100000 in
theorem s_cond_h (h : SC th tp b sc f n lim nx tk pl num nm ft fp sz on G) (hc : x_Gd xs L J d m_139 (fun r G' => r = some (.int 1) ∧ C G') 0 (lv_args 0 [.ref sc, .ref tp, .int (Int32.ofNat w)]) [] G) (hk : ∀ (G1 : List pE) (lv : pL), C G1 → pm_get lv 0 = some (.ref sc) → pm_get lv 1 = some (.ref tp) → pm_get lv 2 = some (.int (Int32.ofNat w)) → pm_get lv 3 = some (.int (Int32.ofNat 0)) → x_Gd xs L J (d + 1) m_138 K 13 lv [] G1) : x_Gd xs L J (d + 1) m_138 K 0 (lv_args 0 [.ref sc, .ref tp, .int (Int32.ofNat w)]) [] G := by
  have g0 : pm_get (lv_args 0 [.ref sc, .ref tp, .int (Int32.ofNat w)]) 0 = some (.ref sc) := rfl
  have g1 : pm_get (lv_args 0 [.ref sc, .ref tp, .int (Int32.ofNat w)]) 1 = some (.ref tp) := rfl
  have g2 : pm_get (lv_args 0 [.ref sc, .ref tp, .int (Int32.ofNat w)]) 2 = some (.int (Int32.ofNat w)) := rfl
  generalize lv_args 0 [.ref sc, .ref tp, .int (Int32.ofNat w)] = lv at g0 g1 g2 ⊢
  refine y_aln (e_138 (0, .aload_n 0, 1) (List.mem_of_getElem? (i := 0) rfl)) g0 ?_
  refine y_aln (e_138 (1, .aload_n 1, 1) (List.mem_of_getElem? (i := 1) rfl)) g1 ?_
  refine y_iln (e_138 (2, .iload_n 2, 1) (List.mem_of_getElem? (i := 2) rfl)) g2 ?_
  refine y_c3 (K' := _) (e_138 (3, .invokevirtual 58, 3) (List.mem_of_getElem? (i := 3) rfl)) ⟨rfl, rfl, rfl⟩ t_9_58 ⟨by decide, by decide, by decide, by decide⟩ m_139_ok rfl (by decide) (y_recv h.1.I h.ts ⟨rfl, rfl⟩) (Nat.le_of_ble_eq_true rfl) (Nat.le_of_ble_eq_true rfl) (hc) (fun r1 Gc hc1 => ?_)
  obtain ⟨rfl, hc2⟩ := hc1
  simp only [Option.toList_some, Option.toList_none, List.cons_append, List.nil_append]
  refine y_ifc (e_138 (6, .ifCond .ne 5, 3) (List.mem_of_getElem? (i := 4) rfl)) rfl (fun _ => ?_) (fun hb => absurd hb (by decide))
  refine y_st (e_138 (11, .iconst 0, 1) (List.mem_of_getElem? (i := 7) rfl)) ⟨rfl, rfl, rfl, rfl⟩ ?_
  refine y_isn (e_138 (12, .istore_n 3, 1) (List.mem_of_getElem? (i := 8) rfl)) (by decide) ?_
  exact hk _ _ hc2 (y_gpr g0 (by decide)) (y_gpr g1 (by decide)) (y_gpi g2 (by decide)) x_get_self
set_option maxHeartbeats 2000000 in
set_option maxRecDepth 100000 in
theorem s_cond_end (h : SC th tp b sc f n lim nx tk pl num nm ft fp sz on G) (hno : tk ≠ 25) (g0 : pm_get lv 0 = some (.ref sc)) (g1 : pm_get lv 1 = some (.ref tp)) (g2 : pm_get lv 2 = some (.int (Int32.ofNat w))) (g3 : pm_get lv 3 = some (.int (Int32.ofNat j))) : x_Gd xs L J d m_138 (fun r G' => r = some (.int 1) ∧ G' = G) 13 lv [] G := by
  have fin : x_Gd xs L J d m_138 (fun r G' => r = some (.int 1) ∧ G' = G) 63 lv [] G := by
    refine y_st (e_138 (63, .iconst 1, 1) (List.mem_of_getElem? (i := 32) rfl)) ⟨rfl, rfl, rfl, rfl⟩ ?_
    exact y_ret (e_138 (64, .ireturn, 1) (List.mem_of_getElem? (i := 33) rfl)) ⟨rfl, y_rb (Or.inr rfl)⟩ ⟨rfl, rfl⟩
  refine y_iln (e_138 (13, .iload_n 3, 1) (List.mem_of_getElem? (i := 9) rfl)) g3 ?_
  refine y_st (e_138 (14, .bipush 20, 2) (List.mem_of_getElem? (i := 10) rfl)) ⟨rfl, rfl, rfl, rfl⟩ ?_
  refine y_icm (e_138 (16, .if_icmp .ge 47, 3) (List.mem_of_getElem? (i := 11) rfl)) rfl (fun _ => fin) (fun _ => ?_)
  refine y_aln (e_138 (19, .aload_n 1, 1) (List.mem_of_getElem? (i := 12) rfl)) g1 ?_
  refine y_getf h.1.I h.1.t (e_138 (20, .getfield 47, 3) (List.mem_of_getElem? (i := 13) rfl)) u_9_47 ⟨rfl, rfl⟩ h.1.s4 ?_
  refine y_gst (a := pm_TB + 25) (e_138 (23, .getstatic 61, 3) (List.mem_of_getElem? (i := 14) rfl)) w_9_61 rfl ?_
  exact y_acmN (e_138 (26, .if_acmp .ne 37, 3) (List.mem_of_getElem? (i := 15) rfl)) rfl h.1.tk35 (by decide) (fun _ => fin) (fun z => absurd z hno)
set_option maxHeartbeats 2000000 in
set_option maxRecDepth 100000 in
theorem s_cond_f1 (h : SC th tp b sc f n lim nx tk pl num nm ft fp sz on G) (htk : tk = 25) (hj : j < 20) (hN : NXc f n lim nx num nm nx2 tk2 pl2 num2 nm2) (hc : ∀ G1, SC th tp b sc f n lim nx2 tk2 pl2 num2 nm2 ft fp sz on G1 → x_Gd xs L J (d + 1) m_139 (fun r G' => r = some (.int 0) ∧ x_sl G' tp 8 = some (.int q) ∧ x_sl G' tp 9 = some (.int p9)) 0 (lv_args 0 [.ref sc, .ref tp, .int (Int32.ofNat w)]) [] G1) (g0 : pm_get lv 0 = some (.ref sc)) (g1 : pm_get lv 1 = some (.ref tp)) (g2 : pm_get lv 2 = some (.int (Int32.ofNat w))) (g3 : pm_get lv 3 = some (.int (Int32.ofNat j))) : x_Gd xs L J (d + 2) m_138 (fun r G' => r = some (.int 0) ∧ x_sl G' tp 8 = some (.int q) ∧ x_sl G' tp 9 = some (.int p9)) 13 lv [] G := by
  have e := s_toI (a := j) (by omega)
  have e20 : ((Int8.ofInt 20).toInt32).toInt = 20 := rfl
  refine y_iln (e_138 (13, .iload_n 3, 1) (List.mem_of_getElem? (i := 9) rfl)) g3 ?_
  refine y_st (e_138 (14, .bipush 20, 2) (List.mem_of_getElem? (i := 10) rfl)) ⟨rfl, rfl, rfl, rfl⟩ ?_
  refine y_icm (e_138 (16, .if_icmp .ge 47, 3) (List.mem_of_getElem? (i := 11) rfl)) rfl (fun hb => ?_) (fun _ => ?_)
  · have := y_hI.2.2.2.2.1 hb
    omega
  refine y_aln (e_138 (19, .aload_n 1, 1) (List.mem_of_getElem? (i := 12) rfl)) g1 ?_
  refine y_getf h.1.I h.1.t (e_138 (20, .getfield 47, 3) (List.mem_of_getElem? (i := 13) rfl)) u_9_47 ⟨rfl, rfl⟩ h.1.s4 ?_
  refine y_gst (a := pm_TB + 25) (e_138 (23, .getstatic 61, 3) (List.mem_of_getElem? (i := 14) rfl)) w_9_61 rfl ?_
  refine y_acmN (e_138 (26, .if_acmp .ne 37, 3) (List.mem_of_getElem? (i := 15) rfl)) rfl h.1.tk35 (by decide) (fun z => absurd htk z) (fun _ => ?_)
  refine y_aln (e_138 (29, .aload_n 1, 1) (List.mem_of_getElem? (i := 16) rfl)) g1 ?_
  refine y_c1 (K' := _) (e_138 (30, .invokevirtual 64, 3) (List.mem_of_getElem? (i := 17) rfl)) ⟨rfl, rfl, rfl⟩ t_9_64 ⟨by decide, by decide, by decide, by decide⟩ m_21_ok rfl (by decide) (y_recv h.1.I h.1.t ⟨rfl, rfl⟩) (Nat.le_of_ble_eq_true rfl) (Nat.le_of_ble_eq_true rfl) (hN _ _ _ _ _ _ _ _ _ _ _ _ _ h.1) (fun r1 Gc hc1 => ?_)
  obtain ⟨rfl, hc2⟩ := hc1
  simp only [Option.toList_some, Option.toList_none, List.cons_append, List.nil_append]
  have h1 := h.nxt hc2
  refine y_aln (e_138 (33, .aload_n 0, 1) (List.mem_of_getElem? (i := 18) rfl)) g0 ?_
  refine y_aln (e_138 (34, .aload_n 1, 1) (List.mem_of_getElem? (i := 19) rfl)) g1 ?_
  refine y_iln (e_138 (35, .iload_n 2, 1) (List.mem_of_getElem? (i := 20) rfl)) g2 ?_
  refine y_c3 (K' := _) (e_138 (36, .invokevirtual 58, 3) (List.mem_of_getElem? (i := 21) rfl)) ⟨rfl, rfl, rfl⟩ t_9_58 ⟨by decide, by decide, by decide, by decide⟩ m_139_ok rfl (by decide) (y_recv h1.1.I h1.ts ⟨rfl, rfl⟩) (Nat.le_of_ble_eq_true rfl) (Nat.le_of_ble_eq_true rfl) (hc _ h1) (fun r1 Gc hc1 => ?_)
  obtain ⟨rfl, hc3⟩ := hc1
  simp only [Option.toList_some, Option.toList_none, List.cons_append, List.nil_append]
  refine y_ifc (e_138 (39, .ifCond .eq 16, 3) (List.mem_of_getElem? (i := 22) rfl)) rfl (fun _ => ?_) (fun hb => absurd hb (by decide))
  refine y_st (e_138 (55, .iconst 0, 1) (List.mem_of_getElem? (i := 28) rfl)) ⟨rfl, rfl, rfl, rfl⟩ ?_
  exact y_ret (e_138 (56, .ireturn, 1) (List.mem_of_getElem? (i := 29) rfl)) ⟨rfl, y_rb (Or.inl rfl)⟩ ⟨rfl, hc3⟩
set_option maxHeartbeats 2000000 in
set_option maxRecDepth 100000 in
theorem s_cond_go (h : SC th tp b sc f n lim nx tk pl num nm ft fp sz on G) (htk : tk = 25) (hj : j < 20) (hN : NXc f n lim nx num nm nx2 tk2 pl2 num2 nm2) (hc : ∀ G1, SC th tp b sc f n lim nx2 tk2 pl2 num2 nm2 ft fp sz on G1 → x_Gd xs L J (d + 1) m_139 (fun r G' => r = some (.int 1) ∧ SC th tp b sc f n lim nx3 tk3 pl3 num3 nm3 ft fp sz2 on2 G') 0 (lv_args 0 [.ref sc, .ref tp, .int (Int32.ofNat w)]) [] G1) (hsz : sz2 < 40) (g0 : pm_get lv 0 = some (.ref sc)) (g1 : pm_get lv 1 = some (.ref tp)) (g2 : pm_get lv 2 = some (.int (Int32.ofNat w))) (g3 : pm_get lv 3 = some (.int (Int32.ofNat j))) (hk : ∀ (G1 : List pE) (lv : pL), SC th tp b sc f n lim nx3 tk3 pl3 num3 nm3 ft fp (sz2 + 1) on2 G1 → pm_get lv 0 = some (.ref sc) → pm_get lv 1 = some (.ref tp) → pm_get lv 2 = some (.int (Int32.ofNat w)) → pm_get lv 3 = some (.int (Int32.ofNat (j + 1))) → x_Gd xs L J (d + 2) m_138 K 13 lv [] G1) : x_Gd xs L J (d + 2) m_138 K 13 lv [] G := by
  have e := s_toI (a := j) (by omega)
  have e20 : ((Int8.ofInt 20).toInt32).toInt = 20 := rfl
  refine y_iln (e_138 (13, .iload_n 3, 1) (List.mem_of_getElem? (i := 9) rfl)) g3 ?_
  refine y_st (e_138 (14, .bipush 20, 2) (List.mem_of_getElem? (i := 10) rfl)) ⟨rfl, rfl, rfl, rfl⟩ ?_
  refine y_icm (e_138 (16, .if_icmp .ge 47, 3) (List.mem_of_getElem? (i := 11) rfl)) rfl (fun hb => ?_) (fun _ => ?_)
  · have := y_hI.2.2.2.2.1 hb
    omega
  refine y_aln (e_138 (19, .aload_n 1, 1) (List.mem_of_getElem? (i := 12) rfl)) g1 ?_
  refine y_getf h.1.I h.1.t (e_138 (20, .getfield 47, 3) (List.mem_of_getElem? (i := 13) rfl)) u_9_47 ⟨rfl, rfl⟩ h.1.s4 ?_
  refine y_gst (a := pm_TB + 25) (e_138 (23, .getstatic 61, 3) (List.mem_of_getElem? (i := 14) rfl)) w_9_61 rfl ?_
  refine y_acmN (e_138 (26, .if_acmp .ne 37, 3) (List.mem_of_getElem? (i := 15) rfl)) rfl h.1.tk35 (by decide) (fun z => absurd htk z) (fun _ => ?_)
  refine y_aln (e_138 (29, .aload_n 1, 1) (List.mem_of_getElem? (i := 16) rfl)) g1 ?_
  refine y_c1 (K' := _) (e_138 (30, .invokevirtual 64, 3) (List.mem_of_getElem? (i := 17) rfl)) ⟨rfl, rfl, rfl⟩ t_9_64 ⟨by decide, by decide, by decide, by decide⟩ m_21_ok rfl (by decide) (y_recv h.1.I h.1.t ⟨rfl, rfl⟩) (Nat.le_of_ble_eq_true rfl) (Nat.le_of_ble_eq_true rfl) (hN _ _ _ _ _ _ _ _ _ _ _ _ _ h.1) (fun r1 Gc hc1 => ?_)
  obtain ⟨rfl, hc2⟩ := hc1
  simp only [Option.toList_some, Option.toList_none, List.cons_append, List.nil_append]
  have h1 := h.nxt hc2
  refine y_aln (e_138 (33, .aload_n 0, 1) (List.mem_of_getElem? (i := 18) rfl)) g0 ?_
  refine y_aln (e_138 (34, .aload_n 1, 1) (List.mem_of_getElem? (i := 19) rfl)) g1 ?_
  refine y_iln (e_138 (35, .iload_n 2, 1) (List.mem_of_getElem? (i := 20) rfl)) g2 ?_
  refine y_c3 (K' := _) (e_138 (36, .invokevirtual 58, 3) (List.mem_of_getElem? (i := 21) rfl)) ⟨rfl, rfl, rfl⟩ t_9_58 ⟨by decide, by decide, by decide, by decide⟩ m_139_ok rfl (by decide) (y_recv h1.1.I h1.ts ⟨rfl, rfl⟩) (Nat.le_of_ble_eq_true rfl) (Nat.le_of_ble_eq_true rfl) (hc _ h1) (fun r1 Gc hc1 => ?_)
  obtain ⟨rfl, h3⟩ := hc1
  simp only [Option.toList_some, Option.toList_none, List.cons_append, List.nil_append]
  refine y_ifc (e_138 (39, .ifCond .eq 16, 3) (List.mem_of_getElem? (i := 22) rfl)) rfl (fun hb => absurd hb (by decide)) (fun _ => ?_)
  refine y_aln (e_138 (42, .aload_n 0, 1) (List.mem_of_getElem? (i := 23) rfl)) g0 ?_
  refine y_gst (a := pm_TB + 25) (e_138 (43, .getstatic 61, 3) (List.mem_of_getElem? (i := 24) rfl)) w_9_61 rfl ?_
  refine y_gst (a := pm_TB + 0) (e_138 (46, .getstatic 51, 3) (List.mem_of_getElem? (i := 25) rfl)) w_9_51 rfl ?_
  refine y_c3 (K' := _) (e_138 (49, .invokevirtual 67, 3) (List.mem_of_getElem? (i := 26) rfl)) ⟨rfl, rfl, rfl⟩ t_9_67 ⟨by decide, by decide, by decide, by decide⟩ m_143_ok rfl (by decide) (y_recv h3.1.I h3.ts ⟨rfl, rfl⟩) (Nat.le_of_ble_eq_true rfl) (Nat.le_of_ble_eq_true rfl) (s_addStep (a := 25) (c := 0) h3 hsz (by decide) (by decide)) (fun r1 Gc hc1 => ?_)
  obtain ⟨rfl, h4⟩ := hc1
  simp only [Option.toList_some, Option.toList_none, List.cons_append, List.nil_append]
  refine y_ifc (e_138 (52, .ifCond .ne 5, 3) (List.mem_of_getElem? (i := 27) rfl)) rfl (fun _ => ?_) (fun hb => absurd hb (by decide))
  refine y_iinc (e_138 (57, .iinc 3 1, 3) (List.mem_of_getElem? (i := 30) rfl)) g3 (by decide) ?_
  refine y_st (e_138 (60, .goto (-47), 3) (List.mem_of_getElem? (i := 31) rfl)) ⟨rfl, rfl, rfl, rfl⟩ ?_
  exact hk _ _ h4 (y_gpr g0 (by decide)) (y_gpr g1 (by decide)) (y_gpi g2 (by decide)) (by rw [x_get_self]; exact congrArg (fun v => some (Value.int v)) (s_inc j))

set_option maxHeartbeats 2000000 in
set_option maxRecDepth 100000 in
/-- ahead of a SENTENCE -/
theorem s_rs_h (h : TC th tp b f G0 n lim nx tk pl num nm ft fp G) (ts : th[sc]? = some 6) (hN : NXc f n (Int16.ofInt 200).toInt32 (Int32.ofInt 0) num nm nx2 tk2 pl2 num2 nm2) (hk : ∀ (G1 : List pE) (lv : pL), SC th tp b sc f n (Int16.ofInt 200).toInt32 nx2 tk2 pl2 num2 nm2 (Int32.ofInt 0) (Int32.ofInt 0) 0 0 G1 → pm_get lv 0 = some (.ref sc) → pm_get lv 1 = some (.ref tp) → x_Gd xs L J (d + 3) m_137 K 11 lv [] G1) : x_Gd xs L J (d + 3) m_137 K 0 (lv_args 0 [.ref sc, .ref tp]) [] G := by
  have g0 : pm_get (lv_args 0 [.ref sc, .ref tp]) 0 = some (.ref sc) := rfl
  have g1 : pm_get (lv_args 0 [.ref sc, .ref tp]) 1 = some (.ref tp) := rfl
  generalize lv_args 0 [.ref sc, .ref tp] = lv at g0 g1 ⊢
  have n1 : sc ≠ tp := fun z => by rw [z, h.t] at ts; cases ts
  have n2 : sc ≠ b := fun z => by rw [z, h.tb] at ts; cases ts
  have fo : x_Gd xs L J (d + 2) m_52 (fun r G' => r = none ∧ TC th tp b f G' n lim nx tk pl num nm ft fp G' ∧ x_sl G' sc 4 = some (.int (Int32.ofNat 0)) ∧ x_sl G' sc 5 = some (.int (Int32.ofNat 0))) 0 (lv_args 0 [.ref sc]) [] G := by
    have g0 : pm_get (lv_args 0 [.ref sc]) 0 = some (.ref sc) := rfl
    generalize lv_args 0 [.ref sc] = lv at g0 ⊢
    refine y_aln (e_52 (0, .aload_n 0, 1) (List.mem_of_getElem? (i := 0) rfl)) g0 ?_
    refine y_st (e_52 (1, .iconst 0, 1) (List.mem_of_getElem? (i := 1) rfl)) ⟨rfl, rfl, rfl, rfl⟩ ?_
    refine y_putf (f := (0, 0, 40)) h.I ts (e_52 (2, .putfield 27, 3) (List.mem_of_getElem? (i := 2) rfl)) u_9_27 ⟨rfl, rfl, by decide, rfl, rfl⟩ ⟨_, rfl, by decide, by decide⟩ (fun G1 u1 => ?_)
    have h1 := h.other u1 n1 n2 (h.I.upd u1 ts (y_okI (lo := 0) (hi := 40) rfl (by decide) (by decide)))
    refine y_aln (e_52 (5, .aload_n 0, 1) (List.mem_of_getElem? (i := 3) rfl)) g0 ?_
    refine y_st (e_52 (6, .iconst 0, 1) (List.mem_of_getElem? (i := 4) rfl)) ⟨rfl, rfl, rfl, rfl⟩ ?_
    refine y_putf (f := (0, -2147483648, 2147483647)) h1.I ts (e_52 (7, .putfield 31, 3) (List.mem_of_getElem? (i := 5) rfl)) u_9_31 ⟨rfl, rfl, by decide, rfl, rfl⟩ ⟨_, rfl, (x_i32 _).1, (x_i32 _).2⟩ (fun G2 u2 => ?_)
    have h2 := h1.other u2 n1 n2 (h1.I.upd u2 ts (y_okA rfl))
    exact y_ret (e_52 (10, .return_, 1) (List.mem_of_getElem? (i := 6) rfl)) ⟨rfl, rfl⟩ ⟨rfl, h2, by rw [u2.2.1, if_neg (fun z => absurd z.2 (by decide)), u1.2.1, if_pos ⟨rfl, rfl⟩]; rfl, by rw [u2.2.1, if_pos ⟨rfl, rfl⟩]; rfl⟩
  refine y_aln (e_137 (0, .aload_n 0, 1) (List.mem_of_getElem? (i := 0) rfl)) g0 ?_
  refine y_c1 (K' := _) (e_137 (1, .invokevirtual 34, 3) (List.mem_of_getElem? (i := 1) rfl)) ⟨rfl, rfl, rfl⟩ t_9_34 ⟨by decide, by decide, by decide, by decide⟩ m_52_ok rfl (by decide) (y_recv h.I ts ⟨rfl, rfl⟩) (Nat.le_of_ble_eq_true rfl) (Nat.le_of_ble_eq_true rfl) (fo) (fun r1 Ga hc1 => ?_)
  obtain ⟨rfl, h1, z4, z5⟩ := hc1
  simp only [Option.toList_some, Option.toList_none, List.cons_append, List.nil_append]
  have bt : x_Gd xs L J (d + 2) m_20 (fun r G' => r = none ∧ TC th tp b f Ga n (Int16.ofInt 200).toInt32 nx2 tk2 pl2 num2 nm2 (Int32.ofInt 0) (Int32.ofInt 0) G') 0 (lv_args 0 [.ref tp, .int (Int16.ofInt 200).toInt32]) [] Ga := by
    have g0 : pm_get (lv_args 0 [.ref tp, .int (Int16.ofInt 200).toInt32]) 0 = some (.ref tp) := rfl
    have g1 : pm_get (lv_args 0 [.ref tp, .int (Int16.ofInt 200).toInt32]) 1 = some (.int (Int16.ofInt 200).toInt32) := rfl
    generalize lv_args 0 [.ref tp, .int (Int16.ofInt 200).toInt32] = lv at g0 g1 ⊢
    refine y_aln (e_20 (0, .aload_n 0, 1) (List.mem_of_getElem? (i := 0) rfl)) g0 ?_
    refine y_iln (e_20 (1, .iload_n 1, 1) (List.mem_of_getElem? (i := 1) rfl)) g1 ?_
    refine y_putf (f := (0, -2147483648, 2147483647)) h1.I h1.t (e_20 (2, .putfield 19, 3) (List.mem_of_getElem? (i := 2) rfl)) u_2_19 ⟨rfl, rfl, by decide, rfl, rfl⟩ ⟨_, rfl, (x_i32 _).1, (x_i32 _).2⟩ (fun G1 u1 => ?_)
    have h2 := h1.u2 u1
    refine y_aln (e_20 (5, .aload_n 0, 1) (List.mem_of_getElem? (i := 3) rfl)) g0 ?_
    refine y_st (e_20 (6, .iconst 0, 1) (List.mem_of_getElem? (i := 4) rfl)) ⟨rfl, rfl, rfl, rfl⟩ ?_
    refine y_putf (f := (0, 0, 940)) h2.I h2.t (e_20 (7, .putfield 22, 3) (List.mem_of_getElem? (i := 5) rfl)) u_2_22 ⟨rfl, rfl, by decide, rfl, rfl⟩ ⟨_, rfl, by decide, by decide⟩ (fun G2 u2 => ?_)
    have h3 := h2.u3 u2 ⟨by decide, by decide⟩
    refine y_aln (e_20 (10, .aload_n 0, 1) (List.mem_of_getElem? (i := 6) rfl)) g0 ?_
    refine y_st (e_20 (11, .iconst 0, 1) (List.mem_of_getElem? (i := 7) rfl)) ⟨rfl, rfl, rfl, rfl⟩ ?_
    refine y_putf (f := (0, -2147483648, 2147483647)) h3.I h3.t (e_20 (12, .putfield 44, 3) (List.mem_of_getElem? (i := 8) rfl)) u_2_44 ⟨rfl, rfl, by decide, rfl, rfl⟩ ⟨_, rfl, (x_i32 _).1, (x_i32 _).2⟩ (fun G3 u3 => ?_)
    have h4 := h3.u8 u3
    refine y_aln (e_20 (15, .aload_n 0, 1) (List.mem_of_getElem? (i := 9) rfl)) g0 ?_
    refine y_st (e_20 (16, .iconst 0, 1) (List.mem_of_getElem? (i := 10) rfl)) ⟨rfl, rfl, rfl, rfl⟩ ?_
    refine y_putf (f := (0, -2147483648, 2147483647)) h4.I h4.t (e_20 (17, .putfield 47, 3) (List.mem_of_getElem? (i := 11) rfl)) u_2_47 ⟨rfl, rfl, by decide, rfl, rfl⟩ ⟨_, rfl, (x_i32 _).1, (x_i32 _).2⟩ (fun G4 u4 => ?_)
    have h5 := h4.u9 u4
    refine y_aln (e_20 (20, .aload_n 0, 1) (List.mem_of_getElem? (i := 12) rfl)) g0 ?_
    refine y_c1 (K' := _) (e_20 (21, .invokevirtual 50, 3) (List.mem_of_getElem? (i := 13) rfl)) ⟨rfl, rfl, rfl⟩ t_2_50 ⟨by decide, by decide, by decide, by decide⟩ m_21_ok rfl (by decide) (y_recv h5.I h5.t ⟨rfl, rfl⟩) (Nat.le_of_ble_eq_true rfl) (Nat.le_of_ble_eq_true rfl) (hN _ _ _ _ _ _ _ _ _ _ _ _ _ h5) (fun r1 Gc hc1 => ?_)
    obtain ⟨rfl, hc2⟩ := hc1
    simp only [Option.toList_some, Option.toList_none, List.cons_append, List.nil_append]
    exact y_ret (e_20 (24, .return_, 1) (List.mem_of_getElem? (i := 14) rfl)) ⟨rfl, rfl⟩ ⟨rfl, hc2⟩
  refine y_aln (e_137 (4, .aload_n 1, 1) (List.mem_of_getElem? (i := 2) rfl)) g1 ?_
  refine y_st (e_137 (5, .sipush 200, 3) (List.mem_of_getElem? (i := 3) rfl)) ⟨rfl, rfl, rfl, rfl⟩ ?_
  refine y_c2 (K' := _) (e_137 (8, .invokevirtual 37, 3) (List.mem_of_getElem? (i := 4) rfl)) ⟨rfl, rfl, rfl⟩ t_9_37 ⟨by decide, by decide, by decide, by decide⟩ m_20_ok rfl (by decide) (y_recv h1.I h1.t ⟨rfl, rfl⟩) (Nat.le_of_ble_eq_true rfl) (Nat.le_of_ble_eq_true rfl) (bt) (fun r1 Gc hc1 => ?_)
  obtain ⟨rfl, h2⟩ := hc1
  simp only [Option.toList_some, Option.toList_none, List.cons_append, List.nil_append]
  exact hk _ _ ⟨h2.self, ts, by rw [h2.ot _ _ n1]; exact z4, by rw [h2.ot _ _ n1]; exact z5⟩ g0 g1
set_option maxHeartbeats 2000000 in
set_option maxRecDepth 100000 in
theorem s_rs_f (h : SC th tp b sc f n lim nx tk pl num nm ft fp sz on G) (hc : x_Gd xs L J d m_138 (fun r G' => r = some (.int 0) ∧ x_sl G' tp 8 = some (.int q) ∧ x_sl G' tp 9 = some (.int p9)) 0 (lv_args 0 [.ref sc, .ref tp, .int (Int32.ofNat 1)]) [] G) (g0 : pm_get lv 0 = some (.ref sc)) (g1 : pm_get lv 1 = some (.ref tp)) : x_Gd xs L J (d + 1) m_137 (fun r G' => r = some (.int 0) ∧ x_sl G' tp 8 = some (.int q) ∧ x_sl G' tp 9 = some (.int p9)) 11 lv [] G := by
  refine y_aln (e_137 (11, .aload_n 0, 1) (List.mem_of_getElem? (i := 5) rfl)) g0 ?_
  refine y_aln (e_137 (12, .aload_n 1, 1) (List.mem_of_getElem? (i := 6) rfl)) g1 ?_
  refine y_st (e_137 (13, .iconst 1, 1) (List.mem_of_getElem? (i := 7) rfl)) ⟨rfl, rfl, rfl, rfl⟩ ?_
  refine y_c3 (K' := _) (e_137 (14, .invokevirtual 43, 3) (List.mem_of_getElem? (i := 8) rfl)) ⟨rfl, rfl, rfl⟩ t_9_43 ⟨by decide, by decide, by decide, by decide⟩ m_138_ok rfl (by decide) (y_recv h.1.I h.ts ⟨rfl, rfl⟩) (Nat.le_of_ble_eq_true rfl) (Nat.le_of_ble_eq_true rfl) (hc) (fun r1 Gc hc1 => ?_)
  obtain ⟨rfl, hc2⟩ := hc1
  simp only [Option.toList_some, Option.toList_none, List.cons_append, List.nil_append]
  refine y_ifc (e_137 (17, .ifCond .eq 25, 3) (List.mem_of_getElem? (i := 9) rfl)) rfl (fun _ => ?_) (fun hb => absurd hb (by decide))
  refine y_st (e_137 (42, .iconst 0, 1) (List.mem_of_getElem? (i := 20) rfl)) ⟨rfl, rfl, rfl, rfl⟩ ?_
  exact y_ret (e_137 (43, .ireturn, 1) (List.mem_of_getElem? (i := 21) rfl)) ⟨rfl, y_rb (Or.inl rfl)⟩ ⟨rfl, hc2⟩
set_option maxHeartbeats 2000000 in
set_option maxRecDepth 100000 in
theorem s_rs_n (h : SC th tp b sc f n lim nx tk pl num nm ft fp sz on G) (hc : x_Gd xs L J (d + 1) m_138 (fun r G' => r = some (.int 1) ∧ SC th tp b sc f n lim nx2 tk2 pl2 num2 nm2 ft fp sz2 on2 G') 0 (lv_args 0 [.ref sc, .ref tp, .int (Int32.ofNat 1)]) [] G) (hno : tk2 ≠ 0) (g0 : pm_get lv 0 = some (.ref sc)) (g1 : pm_get lv 1 = some (.ref tp)) : x_Gd xs L J (d + 2) m_137 (fun r G' => r = some (.int 0) ∧ x_sl G' tp 8 = some (.int (Int32.ofInt 1)) ∧ x_sl G' tp 9 = some (.int pl2)) 11 lv [] G := by
  refine y_aln (e_137 (11, .aload_n 0, 1) (List.mem_of_getElem? (i := 5) rfl)) g0 ?_
  refine y_aln (e_137 (12, .aload_n 1, 1) (List.mem_of_getElem? (i := 6) rfl)) g1 ?_
  refine y_st (e_137 (13, .iconst 1, 1) (List.mem_of_getElem? (i := 7) rfl)) ⟨rfl, rfl, rfl, rfl⟩ ?_
  refine y_c3 (K' := _) (e_137 (14, .invokevirtual 43, 3) (List.mem_of_getElem? (i := 8) rfl)) ⟨rfl, rfl, rfl⟩ t_9_43 ⟨by decide, by decide, by decide, by decide⟩ m_138_ok rfl (by decide) (y_recv h.1.I h.ts ⟨rfl, rfl⟩) (Nat.le_of_ble_eq_true rfl) (Nat.le_of_ble_eq_true rfl) (hc) (fun r1 Gc hc1 => ?_)
  obtain ⟨rfl, h2⟩ := hc1
  simp only [Option.toList_some, Option.toList_none, List.cons_append, List.nil_append]
  refine y_ifc (e_137 (17, .ifCond .eq 25, 3) (List.mem_of_getElem? (i := 9) rfl)) rfl (fun hb => absurd hb (by decide)) (fun _ => ?_)
  refine y_aln (e_137 (20, .aload_n 1, 1) (List.mem_of_getElem? (i := 10) rfl)) g1 ?_
  refine y_getf h2.1.I h2.1.t (e_137 (21, .getfield 47, 3) (List.mem_of_getElem? (i := 11) rfl)) u_9_47 ⟨rfl, rfl⟩ h2.1.s4 ?_
  refine y_gst (a := pm_TB + 0) (e_137 (24, .getstatic 51, 3) (List.mem_of_getElem? (i := 12) rfl)) w_9_51 rfl ?_
  refine y_acm (e_137 (27, .if_acmp .eq 11, 3) (List.mem_of_getElem? (i := 13) rfl)) rfl h2.1.tk35 (by decide) (fun z => absurd z hno) (fun _ => ?_)
  refine y_aln (e_137 (30, .aload_n 1, 1) (List.mem_of_getElem? (i := 14) rfl)) g1 ?_
  refine y_st (e_137 (31, .iconst 1, 1) (List.mem_of_getElem? (i := 15) rfl)) ⟨rfl, rfl, rfl, rfl⟩ ?_
  refine y_c2 (K' := _) (e_137 (32, .invokevirtual 54, 3) (List.mem_of_getElem? (i := 16) rfl)) ⟨rfl, rfl, rfl⟩ t_9_54 ⟨by decide, by decide, by decide, by decide⟩ m_27_ok rfl (by decide) (y_recv h2.1.I h2.1.t ⟨rfl, rfl⟩) (Nat.le_of_ble_eq_true rfl) (Nat.le_of_ble_eq_true rfl) (k_refuse (d := d + 1) h2.1 _) (fun r1 Gc hc1 => ?_)
  obtain ⟨rfl, hc3⟩ := hc1
  simp only [Option.toList_some, Option.toList_none, List.cons_append, List.nil_append]
  refine y_ifc (e_137 (35, .ifCond .eq 7, 3) (List.mem_of_getElem? (i := 17) rfl)) rfl (fun _ => ?_) (fun hb => absurd hb (by decide))
  refine y_st (e_137 (42, .iconst 0, 1) (List.mem_of_getElem? (i := 20) rfl)) ⟨rfl, rfl, rfl, rfl⟩ ?_
  exact y_ret (e_137 (43, .ireturn, 1) (List.mem_of_getElem? (i := 21) rfl)) ⟨rfl, y_rb (Or.inl rfl)⟩ ⟨rfl, hc3.s8, hc3.s9⟩
set_option maxHeartbeats 2000000 in
set_option maxRecDepth 100000 in
theorem s_rs_y (h : SC th tp b sc f n lim nx tk pl num nm ft fp sz on G) (hc : x_Gd xs L J d m_138 (fun r G' => r = some (.int 1) ∧ SC th tp b sc f n lim nx2 tk2 pl2 num2 nm2 ft fp sz2 on2 G') 0 (lv_args 0 [.ref sc, .ref tp, .int (Int32.ofNat 1)]) [] G) (hy : tk2 = 0) (g0 : pm_get lv 0 = some (.ref sc)) (g1 : pm_get lv 1 = some (.ref tp)) : x_Gd xs L J (d + 1) m_137 (fun r G' => r = some (.int 1) ∧ SC th tp b sc f n lim nx2 tk2 pl2 num2 nm2 ft fp sz2 on2 G') 11 lv [] G := by
  refine y_aln (e_137 (11, .aload_n 0, 1) (List.mem_of_getElem? (i := 5) rfl)) g0 ?_
  refine y_aln (e_137 (12, .aload_n 1, 1) (List.mem_of_getElem? (i := 6) rfl)) g1 ?_
  refine y_st (e_137 (13, .iconst 1, 1) (List.mem_of_getElem? (i := 7) rfl)) ⟨rfl, rfl, rfl, rfl⟩ ?_
  refine y_c3 (K' := _) (e_137 (14, .invokevirtual 43, 3) (List.mem_of_getElem? (i := 8) rfl)) ⟨rfl, rfl, rfl⟩ t_9_43 ⟨by decide, by decide, by decide, by decide⟩ m_138_ok rfl (by decide) (y_recv h.1.I h.ts ⟨rfl, rfl⟩) (Nat.le_of_ble_eq_true rfl) (Nat.le_of_ble_eq_true rfl) (hc) (fun r1 Gc hc1 => ?_)
  obtain ⟨rfl, h2⟩ := hc1
  simp only [Option.toList_some, Option.toList_none, List.cons_append, List.nil_append]
  refine y_ifc (e_137 (17, .ifCond .eq 25, 3) (List.mem_of_getElem? (i := 9) rfl)) rfl (fun hb => absurd hb (by decide)) (fun _ => ?_)
  refine y_aln (e_137 (20, .aload_n 1, 1) (List.mem_of_getElem? (i := 10) rfl)) g1 ?_
  refine y_getf h2.1.I h2.1.t (e_137 (21, .getfield 47, 3) (List.mem_of_getElem? (i := 11) rfl)) u_9_47 ⟨rfl, rfl⟩ h2.1.s4 ?_
  refine y_gst (a := pm_TB + 0) (e_137 (24, .getstatic 51, 3) (List.mem_of_getElem? (i := 12) rfl)) w_9_51 rfl ?_
  refine y_acm (e_137 (27, .if_acmp .eq 11, 3) (List.mem_of_getElem? (i := 13) rfl)) rfl h2.1.tk35 (by decide) (fun _ => ?_) (fun z => absurd hy z)
  refine y_st (e_137 (38, .iconst 1, 1) (List.mem_of_getElem? (i := 18) rfl)) ⟨rfl, rfl, rfl, rfl⟩ ?_
  refine y_st (e_137 (39, .goto 4, 3) (List.mem_of_getElem? (i := 19) rfl)) ⟨rfl, rfl, rfl, rfl⟩ ?_
  exact y_ret (e_137 (43, .ireturn, 1) (List.mem_of_getElem? (i := 21) rfl)) ⟨rfl, y_rb (Or.inr rfl)⟩ ⟨rfl, h2⟩
end S4
