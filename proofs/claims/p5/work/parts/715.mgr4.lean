/-- a NAME is told: one of the things', mills', men's -/
def t_Told (hf : Nat → Int32) (nf : Nat → Int64) (wd : Int64) : Prop := (∃ i : Nat, (i : Int) < (hf 3).toInt ∧ nf (16 + i) = wd) ∨ (∃ i : Nat, (i : Int) < (hf 4).toInt ∧ nf (24 + i) = wd) ∨ (∃ i : Nat, (i : Int) < (hf 5).toInt ∧ nf (28 + i) = wd)
section MG4
variable {th : List Nat} {xs : Nat → Int32} {L J d am mb hb nb rb : Nat} {K : Option Value → List pE → Prop} {f : Nat → Int32} {G0 G G1 G' : List pE} {n lim p tok at9 sp num : Int32} {wd : Int64} {lv : pL} {p' tok' at' sp' num' : Int32} {wd' : Int64} {hf : Nat → Int32} {nf : Nat → Int64} {on : Int32}
set_option maxHeartbeats 2000000 in
set_option maxRecDepth 100000 in
theorem k_fresh_no {to : Int32} (h : MS th am mb hb nb rb f n lim p tok at9 sp num wd hf nf on G) (hno : ¬ (tok = Int32.ofInt 1 ∧ ∀ x : Nat, x < 25 → wd ≠ t_W x) ∨ t_Told hf nf wd) : x_Gd xs L J (d + 1) m_177 (fun r G' => r = some (.int 0) ∧ x_sl G' am 16 = some (.int at9) ∧ x_sl G' am 15 = some (.int (t_kf tok wd))) 0 (lv_args 0 [.ref am, .int to]) [] G := by
  have g0 : pm_get (lv_args 0 [.ref am, .int to]) 0 = some (.ref am) := rfl
  obtain ⟨T, b1, b2, b3, c1, c2, c3, c4, d1, d2, d3⟩ := id h
  refine y_aln (e_177 (0, .aload_n 0, 1) (List.mem_of_getElem? (i := 0) rfl)) g0 ?_
  refine y_c1 (K' := _) (e_177 (1, .invokevirtual 184, 3) (List.mem_of_getElem? (i := 1) rfl)) ⟨rfl, rfl, rfl⟩ t_17_184 ⟨by decide, by decide, by decide, by decide⟩ m_178_ok rfl (by decide) (y_recv T.I T.t ⟨rfl, rfl⟩) (Nat.le_of_ble_eq_true rfl) (Nat.le_of_ble_eq_true rfl) (k_isName h) (fun r1 Gc hc1 => ?_)
  obtain ⟨rfl, y, rfl, hy⟩ := hc1
  simp only [Option.toList_some, Option.toList_none, List.cons_append, List.nil_append]
  cases y
  · refine y_ifc (e_177 (4, .ifCond .ne 9, 3) (List.mem_of_getElem? (i := 2) rfl)) rfl (fun hc => absurd hc (by decide)) (fun _ => ?_)
    refine y_aln (e_177 (7, .aload_n 0, 1) (List.mem_of_getElem? (i := 3) rfl)) g0 ?_
    refine y_st (e_177 (8, .iconst 1, 1) (List.mem_of_getElem? (i := 4) rfl)) ⟨rfl, rfl, rfl, rfl⟩ ?_
    refine y_c2 (K' := _) (e_177 (9, .invokevirtual 167, 3) (List.mem_of_getElem? (i := 5) rfl)) ⟨rfl, rfl, rfl⟩ t_17_167 ⟨by decide, by decide, by decide, by decide⟩ m_171_ok rfl (by decide) (y_recv h.T.I h.T.t ⟨rfl, rfl⟩) (Nat.le_of_ble_eq_true rfl) (Nat.le_of_ble_eq_true rfl) (k_bad h _) (fun r1 Gc hc1 => ?_)
    obtain ⟨rfl, hc2⟩ := hc1
    simp only [Option.toList_some, Option.toList_none, List.cons_append, List.nil_append]
    exact y_ret (e_177 (12, .ireturn, 1) (List.mem_of_getElem? (i := 6) rfl)) ⟨rfl, y_rb (Or.inl rfl)⟩ ⟨rfl, hc2.1, by unfold t_kf; rw [if_neg (fun z => absurd (hy.mpr z) (by decide))]; exact hc2.2⟩
  refine y_ifc (e_177 (4, .ifCond .ne 9, 3) (List.mem_of_getElem? (i := 2) rfl)) rfl (fun _ => ?_) (fun hc => absurd hc (by decide))
  have zna := hy.mp rfl
  have hT : t_Told hf nf wd := hno.resolve_left (fun z => z (hy.mp rfl))
  have r3 := y_fie (i := 3) (t := 37) T.I b1 rfl (d1 3 (by decide))
  have r4 := y_fie (i := 4) (t := 37) T.I b1 rfl (d1 4 (by decide))
  have r5 := y_fie (i := 5) (t := 37) T.I b1 rfl (d1 5 (by decide))
  refine y_aln (e_177 (13, .aload_n 0, 1) (List.mem_of_getElem? (i := 7) rfl)) g0 ?_
  refine y_st (e_177 (14, .bipush 16, 2) (List.mem_of_getElem? (i := 8) rfl)) ⟨rfl, rfl, rfl, rfl⟩ ?_
  refine y_aln (e_177 (16, .aload_n 0, 1) (List.mem_of_getElem? (i := 9) rfl)) g0 ?_
  refine y_getf T.I T.t (e_177 (17, .getfield 37, 3) (List.mem_of_getElem? (i := 10) rfl)) u_17_37 ⟨rfl, rfl⟩ c1 ?_
  refine y_st (e_177 (20, .iconst 3, 1) (List.mem_of_getElem? (i := 11) rfl)) ⟨rfl, rfl, rfl, rfl⟩ ?_
  refine y_iald T.I b1 (e_177 (21, .iaload, 1) (List.mem_of_getElem? (i := 12) rfl)) ⟨rfl, rfl⟩ (by decide) (d1 3 (by decide)) ?_
  refine y_c3 (K' := _) (e_177 (22, .invokevirtual 188, 3) (List.mem_of_getElem? (i := 13) rfl)) ⟨rfl, rfl, rfl⟩ t_17_188 ⟨by decide, by decide, by decide, by decide⟩ m_179_ok rfl (by decide) (y_recv T.I T.t ⟨rfl, rfl⟩) (Nat.le_of_ble_eq_true rfl) (Nat.le_of_ble_eq_true rfl) (k_find h (fr := (Int8.ofInt 16).toInt32) (by decide) (by rw [show ((Int8.ofInt 16).toInt32).toInt = 16 from rfl]; omega)) (fun r1 Gc hc1 => ?_)
  obtain ⟨rfl, y3, rfl, hy3⟩ := hc1
  rw [show ((Int8.ofInt 16).toInt32).toInt.toNat = 16 from rfl] at hy3
  simp only [Option.toList_some, Option.toList_none, List.cons_append, List.nil_append]
  have e0 : (0 : Int32).toInt = 0 := rfl
  refine y_ifc (e_177 (25, .ifCond .ge 33, 3) (List.mem_of_getElem? (i := 14) rfl)) rfl (fun hc => ?_) (fun hc => ?_)
  · skip
    refine y_aln (e_177 (58, .aload_n 0, 1) (List.mem_of_getElem? (i := 31) rfl)) g0 ?_
    refine y_st (e_177 (59, .iconst 3, 1) (List.mem_of_getElem? (i := 32) rfl)) ⟨rfl, rfl, rfl, rfl⟩ ?_
    refine y_c2 (K' := _) (e_177 (60, .invokevirtual 167, 3) (List.mem_of_getElem? (i := 33) rfl)) ⟨rfl, rfl, rfl⟩ t_17_167 ⟨by decide, by decide, by decide, by decide⟩ m_171_ok rfl (by decide) (y_recv h.T.I h.T.t ⟨rfl, rfl⟩) (Nat.le_of_ble_eq_true rfl) (Nat.le_of_ble_eq_true rfl) (k_bad h _) (fun r1 Gc hc1 => ?_)
    obtain ⟨rfl, hc2⟩ := hc1
    simp only [Option.toList_some, Option.toList_none, List.cons_append, List.nil_append]
    exact y_ret (e_177 (63, .ireturn, 1) (List.mem_of_getElem? (i := 34) rfl)) ⟨rfl, y_rb (Or.inl rfl)⟩ ⟨rfl, hc2.1, by unfold t_kf; rw [if_pos zna]; exact hc2.2⟩
  have n3 := y_hI.2.2.2.2.2.1 hc
  refine y_aln (e_177 (28, .aload_n 0, 1) (List.mem_of_getElem? (i := 15) rfl)) g0 ?_
  refine y_st (e_177 (29, .bipush 24, 2) (List.mem_of_getElem? (i := 16) rfl)) ⟨rfl, rfl, rfl, rfl⟩ ?_
  refine y_aln (e_177 (31, .aload_n 0, 1) (List.mem_of_getElem? (i := 17) rfl)) g0 ?_
  refine y_getf T.I T.t (e_177 (32, .getfield 37, 3) (List.mem_of_getElem? (i := 18) rfl)) u_17_37 ⟨rfl, rfl⟩ c1 ?_
  refine y_st (e_177 (35, .iconst 4, 1) (List.mem_of_getElem? (i := 19) rfl)) ⟨rfl, rfl, rfl, rfl⟩ ?_
  refine y_iald T.I b1 (e_177 (36, .iaload, 1) (List.mem_of_getElem? (i := 20) rfl)) ⟨rfl, rfl⟩ (by decide) (d1 4 (by decide)) ?_
  refine y_c3 (K' := _) (e_177 (37, .invokevirtual 188, 3) (List.mem_of_getElem? (i := 21) rfl)) ⟨rfl, rfl, rfl⟩ t_17_188 ⟨by decide, by decide, by decide, by decide⟩ m_179_ok rfl (by decide) (y_recv T.I T.t ⟨rfl, rfl⟩) (Nat.le_of_ble_eq_true rfl) (Nat.le_of_ble_eq_true rfl) (k_find h (fr := (Int8.ofInt 24).toInt32) (by decide) (by rw [show ((Int8.ofInt 24).toInt32).toInt = 24 from rfl]; omega)) (fun r1 Gc hc1 => ?_)
  obtain ⟨rfl, y4, rfl, hy4⟩ := hc1
  rw [show ((Int8.ofInt 24).toInt32).toInt.toNat = 24 from rfl] at hy4
  simp only [Option.toList_some, Option.toList_none, List.cons_append, List.nil_append]
  refine y_ifc (e_177 (40, .ifCond .ge 18, 3) (List.mem_of_getElem? (i := 22) rfl)) rfl (fun hc => ?_) (fun hc => ?_)
  · skip
    refine y_aln (e_177 (58, .aload_n 0, 1) (List.mem_of_getElem? (i := 31) rfl)) g0 ?_
    refine y_st (e_177 (59, .iconst 3, 1) (List.mem_of_getElem? (i := 32) rfl)) ⟨rfl, rfl, rfl, rfl⟩ ?_
    refine y_c2 (K' := _) (e_177 (60, .invokevirtual 167, 3) (List.mem_of_getElem? (i := 33) rfl)) ⟨rfl, rfl, rfl⟩ t_17_167 ⟨by decide, by decide, by decide, by decide⟩ m_171_ok rfl (by decide) (y_recv h.T.I h.T.t ⟨rfl, rfl⟩) (Nat.le_of_ble_eq_true rfl) (Nat.le_of_ble_eq_true rfl) (k_bad h _) (fun r1 Gc hc1 => ?_)
    obtain ⟨rfl, hc2⟩ := hc1
    simp only [Option.toList_some, Option.toList_none, List.cons_append, List.nil_append]
    exact y_ret (e_177 (63, .ireturn, 1) (List.mem_of_getElem? (i := 34) rfl)) ⟨rfl, y_rb (Or.inl rfl)⟩ ⟨rfl, hc2.1, by unfold t_kf; rw [if_pos zna]; exact hc2.2⟩
  have n4 := y_hI.2.2.2.2.2.1 hc
  refine y_aln (e_177 (43, .aload_n 0, 1) (List.mem_of_getElem? (i := 23) rfl)) g0 ?_
  refine y_st (e_177 (44, .bipush 28, 2) (List.mem_of_getElem? (i := 24) rfl)) ⟨rfl, rfl, rfl, rfl⟩ ?_
  refine y_aln (e_177 (46, .aload_n 0, 1) (List.mem_of_getElem? (i := 25) rfl)) g0 ?_
  refine y_getf T.I T.t (e_177 (47, .getfield 37, 3) (List.mem_of_getElem? (i := 26) rfl)) u_17_37 ⟨rfl, rfl⟩ c1 ?_
  refine y_st (e_177 (50, .iconst 5, 1) (List.mem_of_getElem? (i := 27) rfl)) ⟨rfl, rfl, rfl, rfl⟩ ?_
  refine y_iald T.I b1 (e_177 (51, .iaload, 1) (List.mem_of_getElem? (i := 28) rfl)) ⟨rfl, rfl⟩ (by decide) (d1 5 (by decide)) ?_
  refine y_c3 (K' := _) (e_177 (52, .invokevirtual 188, 3) (List.mem_of_getElem? (i := 29) rfl)) ⟨rfl, rfl, rfl⟩ t_17_188 ⟨by decide, by decide, by decide, by decide⟩ m_179_ok rfl (by decide) (y_recv T.I T.t ⟨rfl, rfl⟩) (Nat.le_of_ble_eq_true rfl) (Nat.le_of_ble_eq_true rfl) (k_find h (fr := (Int8.ofInt 28).toInt32) (by decide) (by rw [show ((Int8.ofInt 28).toInt32).toInt = 28 from rfl]; omega)) (fun r1 Gc hc1 => ?_)
  obtain ⟨rfl, y5, rfl, hy5⟩ := hc1
  rw [show ((Int8.ofInt 28).toInt32).toInt.toNat = 28 from rfl] at hy5
  simp only [Option.toList_some, Option.toList_none, List.cons_append, List.nil_append]
  refine y_ifc (e_177 (55, .ifCond .lt 9, 3) (List.mem_of_getElem? (i := 30) rfl)) rfl (fun hc => ?_) (fun hc => ?_)
  rotate_left
  · skip
    refine y_aln (e_177 (58, .aload_n 0, 1) (List.mem_of_getElem? (i := 31) rfl)) g0 ?_
    refine y_st (e_177 (59, .iconst 3, 1) (List.mem_of_getElem? (i := 32) rfl)) ⟨rfl, rfl, rfl, rfl⟩ ?_
    refine y_c2 (K' := _) (e_177 (60, .invokevirtual 167, 3) (List.mem_of_getElem? (i := 33) rfl)) ⟨rfl, rfl, rfl⟩ t_17_167 ⟨by decide, by decide, by decide, by decide⟩ m_171_ok rfl (by decide) (y_recv h.T.I h.T.t ⟨rfl, rfl⟩) (Nat.le_of_ble_eq_true rfl) (Nat.le_of_ble_eq_true rfl) (k_bad h _) (fun r1 Gc hc1 => ?_)
    obtain ⟨rfl, hc2⟩ := hc1
    simp only [Option.toList_some, Option.toList_none, List.cons_append, List.nil_append]
    exact y_ret (e_177 (63, .ireturn, 1) (List.mem_of_getElem? (i := 34) rfl)) ⟨rfl, y_rb (Or.inl rfl)⟩ ⟨rfl, hc2.1, by unfold t_kf; rw [if_pos zna]; exact hc2.2⟩
  have n5 := y_hI.2.2.2.2.2.2.2.2.1 hc
  rw [e0] at n3 n4 n5
  rcases hT with z | z | z
  · have := hy3.mpr z
    omega
  · have := hy4.mpr z
    omega
  · have := hy5.mpr z
    omega
set_option maxHeartbeats 2000000 in
set_option maxRecDepth 100000 in
theorem k_fresh_yes {to : Int32} (h : MS th am mb hb nb rb f n lim p tok at9 sp num wd hf nf on G) (hN1 : tok = Int32.ofInt 1 ∧ ∀ x : Nat, x < 25 → wd ≠ t_W x) (hT : ¬ t_Told hf nf wd) (hto : 0 ≤ to.toInt ∧ to.toInt < 32) (hN : NXm f n lim p num wd p' tok' at' sp' num' wd') : x_Gd xs L J (d + 2) m_177 (fun r G' => r = some (.int 1) ∧ MS th am mb hb nb rb f n lim p' tok' at' sp' num' wd' hf (fun i => if i = to.toInt.toNat then wd else nf i) on G') 0 (lv_args 0 [.ref am, .int to]) [] G := by
  have g0 : pm_get (lv_args 0 [.ref am, .int to]) 0 = some (.ref am) := rfl
  obtain ⟨T, b1, b2, b3, c1, c2, c3, c4, d1, d2, d3⟩ := id h
  refine y_aln (e_177 (0, .aload_n 0, 1) (List.mem_of_getElem? (i := 0) rfl)) g0 ?_
  refine y_c1 (K' := _) (e_177 (1, .invokevirtual 184, 3) (List.mem_of_getElem? (i := 1) rfl)) ⟨rfl, rfl, rfl⟩ t_17_184 ⟨by decide, by decide, by decide, by decide⟩ m_178_ok rfl (by decide) (y_recv T.I T.t ⟨rfl, rfl⟩) (Nat.le_of_ble_eq_true rfl) (Nat.le_of_ble_eq_true rfl) (k_isName h) (fun r1 Gc hc1 => ?_)
  obtain ⟨rfl, y, rfl, hy⟩ := hc1
  simp only [Option.toList_some, Option.toList_none, List.cons_append, List.nil_append]
  obtain rfl : y = true := hy.mpr hN1
  refine y_ifc (e_177 (4, .ifCond .ne 9, 3) (List.mem_of_getElem? (i := 2) rfl)) rfl (fun _ => ?_) (fun hc => absurd hc (by decide))
  have e0 : (0 : Int32).toInt = 0 := rfl
  have r3 := y_fie (i := 3) (t := 37) T.I b1 rfl (d1 3 (by decide))
  have r4 := y_fie (i := 4) (t := 37) T.I b1 rfl (d1 4 (by decide))
  have r5 := y_fie (i := 5) (t := 37) T.I b1 rfl (d1 5 (by decide))
  refine y_aln (e_177 (13, .aload_n 0, 1) (List.mem_of_getElem? (i := 7) rfl)) g0 ?_
  refine y_st (e_177 (14, .bipush 16, 2) (List.mem_of_getElem? (i := 8) rfl)) ⟨rfl, rfl, rfl, rfl⟩ ?_
  refine y_aln (e_177 (16, .aload_n 0, 1) (List.mem_of_getElem? (i := 9) rfl)) g0 ?_
  refine y_getf T.I T.t (e_177 (17, .getfield 37, 3) (List.mem_of_getElem? (i := 10) rfl)) u_17_37 ⟨rfl, rfl⟩ c1 ?_
  refine y_st (e_177 (20, .iconst 3, 1) (List.mem_of_getElem? (i := 11) rfl)) ⟨rfl, rfl, rfl, rfl⟩ ?_
  refine y_iald T.I b1 (e_177 (21, .iaload, 1) (List.mem_of_getElem? (i := 12) rfl)) ⟨rfl, rfl⟩ (by decide) (d1 3 (by decide)) ?_
  refine y_c3 (K' := _) (e_177 (22, .invokevirtual 188, 3) (List.mem_of_getElem? (i := 13) rfl)) ⟨rfl, rfl, rfl⟩ t_17_188 ⟨by decide, by decide, by decide, by decide⟩ m_179_ok rfl (by decide) (y_recv T.I T.t ⟨rfl, rfl⟩) (Nat.le_of_ble_eq_true rfl) (Nat.le_of_ble_eq_true rfl) (k_find h (fr := (Int8.ofInt 16).toInt32) (by decide) (by rw [show ((Int8.ofInt 16).toInt32).toInt = 16 from rfl]; omega)) (fun r1 Gc hc1 => ?_)
  obtain ⟨rfl, y3, rfl, hy3⟩ := hc1
  rw [show ((Int8.ofInt 16).toInt32).toInt.toNat = 16 from rfl] at hy3
  simp only [Option.toList_some, Option.toList_none, List.cons_append, List.nil_append]
  refine y_ifc (e_177 (25, .ifCond .ge 33, 3) (List.mem_of_getElem? (i := 14) rfl)) rfl (fun hc => ?_) (fun hc => ?_)
  · have z := y_hI.2.2.2.2.1 hc
    exact absurd (Or.inl (hy3.mp (by omega))) hT
  refine y_aln (e_177 (28, .aload_n 0, 1) (List.mem_of_getElem? (i := 15) rfl)) g0 ?_
  refine y_st (e_177 (29, .bipush 24, 2) (List.mem_of_getElem? (i := 16) rfl)) ⟨rfl, rfl, rfl, rfl⟩ ?_
  refine y_aln (e_177 (31, .aload_n 0, 1) (List.mem_of_getElem? (i := 17) rfl)) g0 ?_
  refine y_getf T.I T.t (e_177 (32, .getfield 37, 3) (List.mem_of_getElem? (i := 18) rfl)) u_17_37 ⟨rfl, rfl⟩ c1 ?_
  refine y_st (e_177 (35, .iconst 4, 1) (List.mem_of_getElem? (i := 19) rfl)) ⟨rfl, rfl, rfl, rfl⟩ ?_
  refine y_iald T.I b1 (e_177 (36, .iaload, 1) (List.mem_of_getElem? (i := 20) rfl)) ⟨rfl, rfl⟩ (by decide) (d1 4 (by decide)) ?_
  refine y_c3 (K' := _) (e_177 (37, .invokevirtual 188, 3) (List.mem_of_getElem? (i := 21) rfl)) ⟨rfl, rfl, rfl⟩ t_17_188 ⟨by decide, by decide, by decide, by decide⟩ m_179_ok rfl (by decide) (y_recv T.I T.t ⟨rfl, rfl⟩) (Nat.le_of_ble_eq_true rfl) (Nat.le_of_ble_eq_true rfl) (k_find h (fr := (Int8.ofInt 24).toInt32) (by decide) (by rw [show ((Int8.ofInt 24).toInt32).toInt = 24 from rfl]; omega)) (fun r1 Gc hc1 => ?_)
  obtain ⟨rfl, y4, rfl, hy4⟩ := hc1
  rw [show ((Int8.ofInt 24).toInt32).toInt.toNat = 24 from rfl] at hy4
  simp only [Option.toList_some, Option.toList_none, List.cons_append, List.nil_append]
  refine y_ifc (e_177 (40, .ifCond .ge 18, 3) (List.mem_of_getElem? (i := 22) rfl)) rfl (fun hc => ?_) (fun hc => ?_)
  · have z := y_hI.2.2.2.2.1 hc
    exact absurd (Or.inr (Or.inl (hy4.mp (by omega)))) hT
  refine y_aln (e_177 (43, .aload_n 0, 1) (List.mem_of_getElem? (i := 23) rfl)) g0 ?_
  refine y_st (e_177 (44, .bipush 28, 2) (List.mem_of_getElem? (i := 24) rfl)) ⟨rfl, rfl, rfl, rfl⟩ ?_
  refine y_aln (e_177 (46, .aload_n 0, 1) (List.mem_of_getElem? (i := 25) rfl)) g0 ?_
  refine y_getf T.I T.t (e_177 (47, .getfield 37, 3) (List.mem_of_getElem? (i := 26) rfl)) u_17_37 ⟨rfl, rfl⟩ c1 ?_
  refine y_st (e_177 (50, .iconst 5, 1) (List.mem_of_getElem? (i := 27) rfl)) ⟨rfl, rfl, rfl, rfl⟩ ?_
  refine y_iald T.I b1 (e_177 (51, .iaload, 1) (List.mem_of_getElem? (i := 28) rfl)) ⟨rfl, rfl⟩ (by decide) (d1 5 (by decide)) ?_
  refine y_c3 (K' := _) (e_177 (52, .invokevirtual 188, 3) (List.mem_of_getElem? (i := 29) rfl)) ⟨rfl, rfl, rfl⟩ t_17_188 ⟨by decide, by decide, by decide, by decide⟩ m_179_ok rfl (by decide) (y_recv T.I T.t ⟨rfl, rfl⟩) (Nat.le_of_ble_eq_true rfl) (Nat.le_of_ble_eq_true rfl) (k_find h (fr := (Int8.ofInt 28).toInt32) (by decide) (by rw [show ((Int8.ofInt 28).toInt32).toInt = 28 from rfl]; omega)) (fun r1 Gc hc1 => ?_)
  obtain ⟨rfl, y5, rfl, hy5⟩ := hc1
  rw [show ((Int8.ofInt 28).toInt32).toInt.toNat = 28 from rfl] at hy5
  simp only [Option.toList_some, Option.toList_none, List.cons_append, List.nil_append]
  refine y_ifc (e_177 (55, .ifCond .lt 9, 3) (List.mem_of_getElem? (i := 30) rfl)) rfl (fun hc => ?_) (fun hc => ?_)
  rotate_left
  · have z := y_hI.2.2.2.2.2.2.2.2.2.1 hc
    exact absurd (Or.inr (Or.inr (hy5.mp (by omega)))) hT
  refine y_aln (e_177 (64, .aload_n 0, 1) (List.mem_of_getElem? (i := 35) rfl)) g0 ?_
  refine y_getf T.I T.t (e_177 (65, .getfield 43, 3) (List.mem_of_getElem? (i := 36) rfl)) u_17_43 ⟨rfl, rfl⟩ c2 ?_
  refine y_iln (e_177 (68, .iload_n 1, 1) (List.mem_of_getElem? (i := 37) rfl)) rfl ?_
  refine y_aln (e_177 (69, .aload_n 0, 1) (List.mem_of_getElem? (i := 38) rfl)) g0 ?_
  refine y_getf T.I T.t (e_177 (70, .getfield 154, 3) (List.mem_of_getElem? (i := 39) rfl)) u_17_154 ⟨rfl, rfl⟩ T.s17 ?_
  refine y_last T.I b2 (e_177 (73, .lastore, 1) (List.mem_of_getElem? (i := 40) rfl)) ⟨rfl, rfl⟩ ⟨hto.1, by show to.toInt < 32; exact hto.2⟩ (fun G1 u1 => ?_)
  have h1 := h.name u1 (T.I.upd u1 b2 (y_okL (by rw [show (x_tb 39).2.2.2 = [(32, ((1 : Nat), (0 : Int), (0 : Int)))] from rfl]; exact y_one (by omega))))
  refine y_aln (e_177 (74, .aload_n 0, 1) (List.mem_of_getElem? (i := 41) rfl)) g0 ?_
  refine y_c1 (K' := _) (e_177 (75, .invokevirtual 170, 3) (List.mem_of_getElem? (i := 42) rfl)) ⟨rfl, rfl, rfl⟩ t_17_170 ⟨by decide, by decide, by decide, by decide⟩ m_163_ok rfl (by decide) (y_recv h1.T.I h1.T.t ⟨rfl, rfl⟩) (Nat.le_of_ble_eq_true rfl) (Nat.le_of_ble_eq_true rfl) (hN _ _ _ _ _ _ _ _ _ _ _ _ h1.T) (fun r1 Gc hc1 => ?_)
  obtain ⟨rfl, hc2⟩ := hc1
  simp only [Option.toList_some, Option.toList_none, List.cons_append, List.nil_append]
  have hc3 := h1.nxt hc2
  refine y_st (e_177 (78, .iconst 1, 1) (List.mem_of_getElem? (i := 43) rfl)) ⟨rfl, rfl, rfl, rfl⟩ ?_
  exact y_ret (e_177 (79, .ireturn, 1) (List.mem_of_getElem? (i := 44) rfl)) ⟨rfl, y_rb (Or.inr rfl)⟩ ⟨rfl, hc3⟩
end MG4
