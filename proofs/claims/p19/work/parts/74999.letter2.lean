theorem t_0_289 : pm_ctab.find? (fun r => r.1 == 0 && r.2.1 == 289) = some (0, 289, 1, 105, 950) := by decide +kernel
theorem t_0_293 : pm_ctab.find? (fun r => r.1 == 0 && r.2.1 == 293) = some (0, 293, 1, 106, 954) := by decide +kernel
theorem t_17_318 : pm_ctab.find? (fun r => r.1 == 17 && r.2.1 == 318) = some (17, 318, 1, 218, 1698) := by decide +kernel
def m_105 : pM := (⟨"BreathingHill", "canLetGo", "(III)Z"⟩, 953, 4, some (FieldType.boolean), 0, 3, false, 9, 91, 952, 22)
set_option maxRecDepth 100000 in
theorem m_105_ok : pm_tab[105]? = some m_105 := rfl
theorem e_105 : ∀ q ∈ d_105, decode m_105.code q.1 = .ok (q.2.1, q.2.2) := y_dec d_105_ok m_105_ok
def z_lv (S : Nat → Int32) (v c w h : Int32) : Int32 := if (((v = 0 ∧ 0 ≤ c.toInt ∧ c.toInt < (S 0).toInt) ∨ (v = 1 ∧ 0 ≤ c.toInt ∧ c.toInt < (S 1).toInt)) ∧ 1 ≤ w.toInt ∧ w.toInt ≤ 9) ∧ 0 ≤ h.toInt ∧ h.toInt ≤ 999 then (l_lp S w h (min 400 (1000 - h.toInt)).toNat (Int32.ofInt 0) v c (Int32.ofInt 0) (Int32.ofInt 0)) else Int32.ofInt (-1)
section LE
variable {xs : Nat → Int32} {L J d : Nat} {S : Nat → Int32} {G : List pE}
set_option maxHeartbeats 2000000 in
set_option maxRecDepth 100000 in
theorem l_can {v c w : Int32} (HC : l_C S G) (s2 : x_sl G 0 2 = some (.ref 6)) : x_Gd xs L J (d + 2) m_105 (fun r G' => G' = G ∧ ((r = some (.int (Int32.ofInt 1)) ∧ (((v = 0 ∧ 0 ≤ c.toInt ∧ c.toInt < (S 0).toInt) ∨ (v = 1 ∧ 0 ≤ c.toInt ∧ c.toInt < (S 1).toInt)) ∧ 1 ≤ w.toInt ∧ w.toInt ≤ 9)) ∨ (r = some (.int (Int32.ofInt 0)) ∧ ¬ (((v = 0 ∧ 0 ≤ c.toInt ∧ c.toInt < (S 0).toInt) ∨ (v = 1 ∧ 0 ≤ c.toInt ∧ c.toInt < (S 1).toInt)) ∧ 1 ≤ w.toInt ∧ w.toInt ≤ 9)))) 0 (lv_args 0 [.ref 0, .int v, .int c, .int w]) [] G := by
  have g0 : pm_get (lv_args 0 [.ref 0, .int v, .int c, .int w]) 0 = some (.ref 0) := rfl
  have g1 : pm_get (lv_args 0 [.ref 0, .int v, .int c, .int w]) 1 = some (.int v) := rfl
  have g2 : pm_get (lv_args 0 [.ref 0, .int v, .int c, .int w]) 2 = some (.int c) := rfl
  have g3 : pm_get (lv_args 0 [.ref 0, .int v, .int c, .int w]) 3 = some (.int w) := rfl
  generalize lv_args 0 [.ref 0, .int v, .int c, .int w] = lv at g0 g1 g2 g3 ⊢
  refine y_aln (e_105 (0, .aload_n 0, 1) (List.mem_of_getElem? (i := 0) rfl)) g0 ?_
  refine y_getf HC.1 z_ty.1 (e_105 (1, .getfield 26, 3) (List.mem_of_getElem? (i := 1) rfl)) u_0_26 ⟨rfl, rfl⟩ s2 ?_
  refine y_getf HC.1 th0_77.2.2.2.2.2.2.2 (e_105 (4, .getfield 192, 3) (List.mem_of_getElem? (i := 2) rfl)) u_0_192 ⟨rfl, rfl⟩ HC.2.1.1 ?_
  refine y_iln (e_105 (7, .iload_n 1, 1) (List.mem_of_getElem? (i := 3) rfl)) g1 ?_
  refine y_iln (e_105 (8, .iload_n 2, 1) (List.mem_of_getElem? (i := 4) rfl)) g2 ?_
  refine y_c3 (K' := _) (e_105 (9, .invokevirtual 233, 3) (List.mem_of_getElem? (i := 5) rfl)) ⟨rfl, rfl, rfl⟩ t_0_233 ⟨by decide, by decide, by decide, by decide⟩ m_70_ok rfl (by decide) (y_recv HC.1 th0_77.2.1 ⟨rfl, rfl⟩) (Nat.le_of_ble_eq_true rfl) (Nat.le_of_ble_eq_true rfl) (z_hcl (d := d) HC.1 th0_77.2.1 th0_77.2.2.1 HC.2.1.2.1 (HC.2.2.1 0 (by decide)) (HC.2.2.1 1 (by decide))) (fun r1 G1 h1 => ?_)
  obtain ⟨rfl, h1⟩ := h1
  rcases h1 with ⟨rfl, hc⟩ | ⟨rfl, hc⟩
  rotate_left
  · simp only [Option.toList_some, Option.toList_none, List.cons_append, List.nil_append]
    refine y_ifc (e_105 (12, .ifCond .eq 18, 3) (List.mem_of_getElem? (i := 6) rfl)) rfl (fun _ => ?_) (fun z => absurd z (by decide))
    refine y_st (e_105 (30, .iconst 0, 1) (List.mem_of_getElem? (i := 15) rfl)) ⟨rfl, rfl, rfl, rfl⟩ ?_
    exact y_ret (e_105 (31, .ireturn, 1) (List.mem_of_getElem? (i := 16) rfl)) ⟨rfl, y_rb (Or.inl rfl)⟩ ⟨rfl, Or.inr ⟨rfl, fun z => hc z.1⟩⟩
  simp only [Option.toList_some, Option.toList_none, List.cons_append, List.nil_append]
  refine y_ifc (e_105 (12, .ifCond .eq 18, 3) (List.mem_of_getElem? (i := 6) rfl)) rfl (fun z => absurd z (by decide)) (fun _ => ?_)
  refine y_iln (e_105 (15, .iload_n 3, 1) (List.mem_of_getElem? (i := 7) rfl)) g3 ?_
  refine y_st (e_105 (16, .iconst 1, 1) (List.mem_of_getElem? (i := 8) rfl)) ⟨rfl, rfl, rfl, rfl⟩ ?_
  refine y_icm (e_105 (17, .if_icmp .lt 13, 3) (List.mem_of_getElem? (i := 9) rfl)) rfl (fun hc2 => ?_) (fun hc2 => ?_)
  · have z := y_hI.2.2.2.2.2.2.2.2.1 hc2
    rw [show (Int32.ofInt 1).toInt = 1 from rfl] at z
    refine y_st (e_105 (30, .iconst 0, 1) (List.mem_of_getElem? (i := 15) rfl)) ⟨rfl, rfl, rfl, rfl⟩ ?_
    exact y_ret (e_105 (31, .ireturn, 1) (List.mem_of_getElem? (i := 16) rfl)) ⟨rfl, y_rb (Or.inl rfl)⟩ ⟨rfl, Or.inr ⟨rfl, fun y => by omega⟩⟩
  have z := y_hI.2.2.2.2.2.2.2.2.2.1 hc2
  rw [show (Int32.ofInt 1).toInt = 1 from rfl] at z
  refine y_iln (e_105 (20, .iload_n 3, 1) (List.mem_of_getElem? (i := 10) rfl)) g3 ?_
  refine y_st (e_105 (21, .bipush 9, 2) (List.mem_of_getElem? (i := 11) rfl)) ⟨rfl, rfl, rfl, rfl⟩ ?_
  refine y_icm (e_105 (23, .if_icmp .gt 7, 3) (List.mem_of_getElem? (i := 12) rfl)) rfl (fun hc3 => ?_) (fun hc3 => ?_)
  · have z3 := y_hI.2.2.2.2.2.2.2.2.2.2.1 hc3
    rw [show ((Int8.ofInt 9).toInt32).toInt = 9 by decide] at z3
    refine y_st (e_105 (30, .iconst 0, 1) (List.mem_of_getElem? (i := 15) rfl)) ⟨rfl, rfl, rfl, rfl⟩ ?_
    exact y_ret (e_105 (31, .ireturn, 1) (List.mem_of_getElem? (i := 16) rfl)) ⟨rfl, y_rb (Or.inl rfl)⟩ ⟨rfl, Or.inr ⟨rfl, fun y => by omega⟩⟩
  have z3 := y_hI.2.2.2.2.2.2.2.2.2.2.2 hc3
  rw [show ((Int8.ofInt 9).toInt32).toInt = 9 by decide] at z3
  refine y_st (e_105 (26, .iconst 1, 1) (List.mem_of_getElem? (i := 13) rfl)) ⟨rfl, rfl, rfl, rfl⟩ ?_
  refine y_st (e_105 (27, .goto 4, 3) (List.mem_of_getElem? (i := 14) rfl)) ⟨rfl, rfl, rfl, rfl⟩ ?_
  exact y_ret (e_105 (31, .ireturn, 1) (List.mem_of_getElem? (i := 16) rfl)) ⟨rfl, y_rb (Or.inr rfl)⟩ ⟨rfl, Or.inl ⟨rfl, hc, z, z3⟩⟩
set_option maxHeartbeats 2000000 in
set_option maxRecDepth 100000 in
theorem l_letter {v c w h : Int32} (hd : 37 ≤ d) (HC : l_C S G) (hR : l_R S) (s14 : x_sl G 0 14 = some (.ref 77)) (s2 : x_sl G 0 2 = some (.ref 6)) : x_Gd xs L J (d + 4) m_104 (fun r G' => r = some (.int (z_lv S v c w h))) 0 (lv_args 0 [.ref 0, .int v, .int c, .int w, .int h]) [] G := by
  have g0 : pm_get (lv_args 0 [.ref 0, .int v, .int c, .int w, .int h]) 0 = some (.ref 0) := rfl
  have g1 : pm_get (lv_args 0 [.ref 0, .int v, .int c, .int w, .int h]) 1 = some (.int v) := rfl
  have g2 : pm_get (lv_args 0 [.ref 0, .int v, .int c, .int w, .int h]) 2 = some (.int c) := rfl
  have g3 : pm_get (lv_args 0 [.ref 0, .int v, .int c, .int w, .int h]) 3 = some (.int w) := rfl
  have g4 : pm_get (lv_args 0 [.ref 0, .int v, .int c, .int w, .int h]) 4 = some (.int h) := rfl
  generalize lv_args 0 [.ref 0, .int v, .int c, .int w, .int h] = lv at g0 g1 g2 g3 g4 ⊢
  refine y_aln (e_104 (0, .aload_n 0, 1) (List.mem_of_getElem? (i := 0) rfl)) g0 ?_
  refine y_iln (e_104 (1, .iload_n 1, 1) (List.mem_of_getElem? (i := 1) rfl)) g1 ?_
  refine y_iln (e_104 (2, .iload_n 2, 1) (List.mem_of_getElem? (i := 2) rfl)) g2 ?_
  refine y_iln (e_104 (3, .iload_n 3, 1) (List.mem_of_getElem? (i := 3) rfl)) g3 ?_
  refine y_c4 (K' := _) (e_104 (4, .invokevirtual 289, 3) (List.mem_of_getElem? (i := 4) rfl)) ⟨rfl, rfl, rfl⟩ t_0_289 ⟨by decide, by decide, by decide, by decide⟩ m_105_ok rfl (by decide) (y_recv HC.1 z_ty.1 ⟨rfl, rfl⟩) (Nat.le_of_ble_eq_true rfl) (Nat.le_of_ble_eq_true rfl) (l_can (d := d + 1) HC s2) (fun r1 G1 h1 => ?_)
  obtain ⟨rfl, h1⟩ := h1
  rcases h1 with ⟨rfl, hc⟩ | ⟨rfl, hno⟩
  rotate_left
  · simp only [Option.toList_some, Option.toList_none, List.cons_append, List.nil_append]
    refine y_ifc (e_104 (7, .ifCond .eq 23, 3) (List.mem_of_getElem? (i := 5) rfl)) rfl (fun _ => ?_) (fun z => absurd z (by decide))
    refine y_st (e_104 (30, .iconst (-1), 1) (List.mem_of_getElem? (i := 16) rfl)) ⟨rfl, rfl, rfl, rfl⟩ ?_
    exact y_ret (e_104 (31, .ireturn, 1) (List.mem_of_getElem? (i := 17) rfl)) ⟨rfl, y_ri⟩ (by unfold z_lv; rw [if_neg (fun z => hno z.1)])
  simp only [Option.toList_some, Option.toList_none, List.cons_append, List.nil_append]
  refine y_ifc (e_104 (7, .ifCond .eq 23, 3) (List.mem_of_getElem? (i := 5) rfl)) rfl (fun z => absurd z (by decide)) (fun _ => ?_)
  refine y_il (e_104 (10, .iload 4, 2) (List.mem_of_getElem? (i := 6) rfl)) g4 ?_
  refine y_c1 (K' := _) (e_104 (12, .invokestatic 230, 3) (List.mem_of_getElem? (i := 7) rfl)) ⟨rfl, rfl, rfl⟩ t_0_230 ⟨by decide, by decide, by decide, by decide⟩ m_65_ok rfl (by decide) rfl (Nat.le_of_ble_eq_true rfl) (Nat.le_of_ble_eq_true rfl) z_ish (fun r1 G2 h1 => ?_)
  obtain ⟨rfl, h1⟩ := h1
  rcases h1 with ⟨rfl, hh⟩ | ⟨rfl, hno⟩
  rotate_left
  · simp only [Option.toList_some, Option.toList_none, List.cons_append, List.nil_append]
    refine y_ifc (e_104 (15, .ifCond .eq 15, 3) (List.mem_of_getElem? (i := 8) rfl)) rfl (fun _ => ?_) (fun z => absurd z (by decide))
    refine y_st (e_104 (30, .iconst (-1), 1) (List.mem_of_getElem? (i := 16) rfl)) ⟨rfl, rfl, rfl, rfl⟩ ?_
    exact y_ret (e_104 (31, .ireturn, 1) (List.mem_of_getElem? (i := 17) rfl)) ⟨rfl, y_ri⟩ (by unfold z_lv; rw [if_neg (fun z => hno z.2)])
  simp only [Option.toList_some, Option.toList_none, List.cons_append, List.nil_append]
  refine y_ifc (e_104 (15, .ifCond .eq 15, 3) (List.mem_of_getElem? (i := 8) rfl)) rfl (fun z => absurd z (by decide)) (fun _ => ?_)
  have hv : v = 0 ∨ v = 1 := by
    rcases hc.1 with z | z
    · exact Or.inl z.1
    · exact Or.inr z.1
  refine y_aln (e_104 (18, .aload_n 0, 1) (List.mem_of_getElem? (i := 9) rfl)) g0 ?_
  refine y_iln (e_104 (19, .iload_n 1, 1) (List.mem_of_getElem? (i := 10) rfl)) g1 ?_
  refine y_iln (e_104 (20, .iload_n 2, 1) (List.mem_of_getElem? (i := 11) rfl)) g2 ?_
  refine y_iln (e_104 (21, .iload_n 3, 1) (List.mem_of_getElem? (i := 12) rfl)) g3 ?_
  refine y_il (e_104 (22, .iload 4, 2) (List.mem_of_getElem? (i := 13) rfl)) g4 ?_
  refine y_c5 (K' := _) (e_104 (24, .invokevirtual 293, 3) (List.mem_of_getElem? (i := 14) rfl)) ⟨rfl, rfl, rfl⟩ t_0_293 ⟨by decide, by decide, by decide, by decide⟩ m_106_ok rfl (by decide) (y_recv HC.1 z_ty.1 ⟨rfl, rfl⟩) (Nat.le_of_ble_eq_true rfl) (Nat.le_of_ble_eq_true rfl) (l_hours (d := d) hd HC hR hc.2.1 hv hh.1 hh.2 s14 s2) (fun r2 G3 h2 => ?_)
  obtain ⟨rfl, -⟩ := h2
  simp only [Option.toList_some, Option.toList_none, List.cons_append, List.nil_append]
  refine y_st (e_104 (27, .goto 4, 3) (List.mem_of_getElem? (i := 15) rfl)) ⟨rfl, rfl, rfl, rfl⟩ ?_
  exact y_ret (e_104 (31, .ireturn, 1) (List.mem_of_getElem? (i := 17) rfl)) ⟨rfl, y_ri⟩ (by unfold z_lv; rw [if_pos ⟨hc, hh⟩])
set_option maxHeartbeats 2000000 in
set_option maxRecDepth 100000 in
theorem m_letter {v c w h : Int32} (HM : l_M S G) (hR : l_R S) : x_Gd xs L J (d + 4) m_217 (fun r G' => r = some (.int (z_lv S v c w h))) 0 (lv_args 0 [.ref 349, .int v, .int c, .int w, .int h]) [] G := by
  have g0 : pm_get (lv_args 0 [.ref 349, .int v, .int c, .int w, .int h]) 0 = some (.ref 349) := rfl
  have g1 : pm_get (lv_args 0 [.ref 349, .int v, .int c, .int w, .int h]) 1 = some (.int v) := rfl
  have g2 : pm_get (lv_args 0 [.ref 349, .int v, .int c, .int w, .int h]) 2 = some (.int c) := rfl
  have g3 : pm_get (lv_args 0 [.ref 349, .int v, .int c, .int w, .int h]) 3 = some (.int w) := rfl
  have g4 : pm_get (lv_args 0 [.ref 349, .int v, .int c, .int w, .int h]) 4 = some (.int h) := rfl
  generalize lv_args 0 [.ref 349, .int v, .int c, .int w, .int h] = lv at g0 g1 g2 g3 g4 ⊢
  refine y_aln (e_217 (0, .aload_n 0, 1) (List.mem_of_getElem? (i := 0) rfl)) g0 ?_
  refine y_st (e_217 (1, .iconst 0, 1) (List.mem_of_getElem? (i := 1) rfl)) ⟨rfl, rfl, rfl, rfl⟩ ?_
  refine y_putf (f := (0, -2147483648, 2147483647)) HM.1 th0_349.1 (e_217 (2, .putfield 1, 3) (List.mem_of_getElem? (i := 2) rfl)) u_17_1 ⟨rfl, rfl, by decide, rfl, rfl⟩ ⟨_, rfl, (x_i32 _).1, (x_i32 _).2⟩ (fun G1 u1 => ?_)
  have H1 : l_M S G1 := ⟨HM.1.upd u1 th0_349.1 (y_okA rfl), by rw [u1.2.1, if_neg (fun z => absurd z.2 (by decide))]; exact HM.2.1, fun i hi => by rw [u1.2.1, if_neg (fun z => absurd z.1 (by decide))]; exact HM.2.2 i hi⟩
  refine y_aln (e_217 (5, .aload_n 0, 1) (List.mem_of_getElem? (i := 3) rfl)) g0 ?_
  refine y_iln (e_217 (6, .iload_n 1, 1) (List.mem_of_getElem? (i := 4) rfl)) g1 ?_
  refine y_iln (e_217 (7, .iload_n 2, 1) (List.mem_of_getElem? (i := 5) rfl)) g2 ?_
  refine y_c3 (K' := _) (e_217 (8, .invokevirtual 248, 3) (List.mem_of_getElem? (i := 6) rfl)) ⟨rfl, rfl, rfl⟩ t_17_248 ⟨by decide, by decide, by decide, by decide⟩ m_194_ok rfl (by decide) (y_recv H1.1 th0_349.1 ⟨rfl, rfl⟩) (Nat.le_of_ble_eq_true rfl) (Nat.le_of_ble_eq_true rfl) (z_isc (d := d + 2) H1.1 th0_349.1 th0_349.2 H1.2.1 (H1.2.2 0 (by decide)) (H1.2.2 1 (by decide))) (fun r1 G2 h1 => ?_)
  obtain ⟨rfl, h1⟩ := h1
  rcases h1 with ⟨rfl, hc⟩ | ⟨rfl, hno⟩
  rotate_left
  · simp only [Option.toList_some, Option.toList_none, List.cons_append, List.nil_append]
    refine y_ifc (e_217 (11, .ifCond .eq 37, 3) (List.mem_of_getElem? (i := 7) rfl)) rfl (fun _ => ?_) (fun z => absurd z (by decide))
    refine y_st (e_217 (48, .iconst (-1), 1) (List.mem_of_getElem? (i := 25) rfl)) ⟨rfl, rfl, rfl, rfl⟩ ?_
    exact y_ret (e_217 (49, .ireturn, 1) (List.mem_of_getElem? (i := 26) rfl)) ⟨rfl, y_ri⟩ (by unfold z_lv; rw [if_neg (fun z => hno z.1.1)])
  simp only [Option.toList_some, Option.toList_none, List.cons_append, List.nil_append]
  refine y_ifc (e_217 (11, .ifCond .eq 37, 3) (List.mem_of_getElem? (i := 7) rfl)) rfl (fun z => absurd z (by decide)) (fun _ => ?_)
  refine y_iln (e_217 (14, .iload_n 3, 1) (List.mem_of_getElem? (i := 8) rfl)) g3 ?_
  refine y_st (e_217 (15, .iconst 1, 1) (List.mem_of_getElem? (i := 9) rfl)) ⟨rfl, rfl, rfl, rfl⟩ ?_
  refine y_st (e_217 (16, .bipush 9, 2) (List.mem_of_getElem? (i := 10) rfl)) ⟨rfl, rfl, rfl, rfl⟩ ?_
  refine y_c3 (K' := _) (e_217 (18, .invokestatic 173, 3) (List.mem_of_getElem? (i := 11) rfl)) ⟨rfl, rfl, rfl⟩ t_17_173 ⟨by decide, by decide, by decide, by decide⟩ m_174_ok rfl (by decide) rfl (Nat.le_of_ble_eq_true rfl) (Nat.le_of_ble_eq_true rfl) z_isIn (fun r1 G3 h1 => ?_)
  obtain ⟨rfl, h1⟩ := h1
  rcases h1 with ⟨rfl, k0, k1⟩ | ⟨rfl, hno⟩
  rotate_left
  · simp only [Option.toList_some, Option.toList_none, List.cons_append, List.nil_append]
    rw [show (Int32.ofInt 1).toInt = 1 from rfl, show ((Int8.ofInt 9).toInt32).toInt = 9 by decide] at hno
    refine y_ifc (e_217 (21, .ifCond .eq 27, 3) (List.mem_of_getElem? (i := 12) rfl)) rfl (fun _ => ?_) (fun z => absurd z (by decide))
    refine y_st (e_217 (48, .iconst (-1), 1) (List.mem_of_getElem? (i := 25) rfl)) ⟨rfl, rfl, rfl, rfl⟩ ?_
    exact y_ret (e_217 (49, .ireturn, 1) (List.mem_of_getElem? (i := 26) rfl)) ⟨rfl, y_ri⟩ (by unfold z_lv; rw [if_neg (fun z => hno z.1.2)])
  simp only [Option.toList_some, Option.toList_none, List.cons_append, List.nil_append]
  rw [show (Int32.ofInt 1).toInt = 1 from rfl] at k0
  rw [show ((Int8.ofInt 9).toInt32).toInt = 9 by decide] at k1
  refine y_ifc (e_217 (21, .ifCond .eq 27, 3) (List.mem_of_getElem? (i := 12) rfl)) rfl (fun z => absurd z (by decide)) (fun _ => ?_)
  refine y_il (e_217 (24, .iload 4, 2) (List.mem_of_getElem? (i := 13) rfl)) g4 ?_
  refine y_st (e_217 (26, .iconst 0, 1) (List.mem_of_getElem? (i := 14) rfl)) ⟨rfl, rfl, rfl, rfl⟩ ?_
  refine y_st (e_217 (27, .sipush 999, 3) (List.mem_of_getElem? (i := 15) rfl)) ⟨rfl, rfl, rfl, rfl⟩ ?_
  refine y_c3 (K' := _) (e_217 (30, .invokestatic 173, 3) (List.mem_of_getElem? (i := 16) rfl)) ⟨rfl, rfl, rfl⟩ t_17_173 ⟨by decide, by decide, by decide, by decide⟩ m_174_ok rfl (by decide) rfl (Nat.le_of_ble_eq_true rfl) (Nat.le_of_ble_eq_true rfl) z_isIn (fun r1 G4 h1 => ?_)
  obtain ⟨rfl, h1⟩ := h1
  rcases h1 with ⟨rfl, j0, j1⟩ | ⟨rfl, hno⟩
  rotate_left
  · simp only [Option.toList_some, Option.toList_none, List.cons_append, List.nil_append]
    rw [show (Int32.ofInt 0).toInt = 0 from rfl, show ((Int16.ofInt 999).toInt32).toInt = 999 by decide] at hno
    refine y_ifc (e_217 (33, .ifCond .eq 15, 3) (List.mem_of_getElem? (i := 17) rfl)) rfl (fun _ => ?_) (fun z => absurd z (by decide))
    refine y_st (e_217 (48, .iconst (-1), 1) (List.mem_of_getElem? (i := 25) rfl)) ⟨rfl, rfl, rfl, rfl⟩ ?_
    exact y_ret (e_217 (49, .ireturn, 1) (List.mem_of_getElem? (i := 26) rfl)) ⟨rfl, y_ri⟩ (by unfold z_lv; rw [if_neg (fun z => hno z.2)])
  simp only [Option.toList_some, Option.toList_none, List.cons_append, List.nil_append]
  rw [show (Int32.ofInt 0).toInt = 0 from rfl] at j0
  rw [show ((Int16.ofInt 999).toInt32).toInt = 999 by decide] at j1
  refine y_ifc (e_217 (33, .ifCond .eq 15, 3) (List.mem_of_getElem? (i := 17) rfl)) rfl (fun z => absurd z (by decide)) (fun _ => ?_)
  have hv : v = 0 ∨ v = 1 := by
    rcases hc with z | z
    · exact Or.inl z.1
    · exact Or.inr z.1
  refine y_aln (e_217 (36, .aload_n 0, 1) (List.mem_of_getElem? (i := 18) rfl)) g0 ?_
  refine y_iln (e_217 (37, .iload_n 1, 1) (List.mem_of_getElem? (i := 19) rfl)) g1 ?_
  refine y_iln (e_217 (38, .iload_n 2, 1) (List.mem_of_getElem? (i := 20) rfl)) g2 ?_
  refine y_iln (e_217 (39, .iload_n 3, 1) (List.mem_of_getElem? (i := 21) rfl)) g3 ?_
  refine y_il (e_217 (40, .iload 4, 2) (List.mem_of_getElem? (i := 22) rfl)) g4 ?_
  refine y_c5 (K' := _) (e_217 (42, .invokevirtual 318, 3) (List.mem_of_getElem? (i := 23) rfl)) ⟨rfl, rfl, rfl⟩ t_17_318 ⟨by decide, by decide, by decide, by decide⟩ m_218_ok rfl (by decide) (y_recv H1.1 th0_349.1 ⟨rfl, rfl⟩) (Nat.le_of_ble_eq_true rfl) (Nat.le_of_ble_eq_true rfl) (m_hours (d := d) H1 hR k0 hv j0 j1) (fun r2 G5 h2 => ?_)
  obtain ⟨rfl, -⟩ := h2
  simp only [Option.toList_some, Option.toList_none, List.cons_append, List.nil_append]
  refine y_st (e_217 (45, .goto 4, 3) (List.mem_of_getElem? (i := 24) rfl)) ⟨rfl, rfl, rfl, rfl⟩ ?_
  exact y_ret (e_217 (49, .ireturn, 1) (List.mem_of_getElem? (i := 26) rfl)) ⟨rfl, y_ri⟩ (by unfold z_lv; rw [if_pos ⟨⟨hc, k0, k1⟩, j0, j1⟩])
end LE
