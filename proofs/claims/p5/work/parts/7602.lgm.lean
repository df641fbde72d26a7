
-- ===== the model reads a line of the LOG =====
theorem th0_rw : ∀ c : Nat, th0[c]? = some 38 → c ≠ 349 ∧ c ≠ 350 ∧ c ≠ 352 ∧ c ≠ 354 ∧ c ≠ 355 ∧ c ≠ 351 := by
  have q : ∀ c, (c = 349 ∨ c = 350 ∨ c = 352 ∨ c = 354 ∨ c = 355 ∨ c = 351) → th0[c]? ≠ some 38 := by
    intro c hc
    rcases hc with rfl | rfl | rfl | rfl | rfl | rfl <;> decide +kernel
  intro c h
  refine ⟨fun z => q c ?_ h, fun z => q c ?_ h, fun z => q c ?_ h, fun z => q c ?_ h, fun z => q c ?_ h, fun z => q c ?_ h⟩ <;> omega
section LGM
variable {xs : Nat → Int32} {L J d k : Nat} {K : Option Value → List pE → Prop} {f : Nat → Int32} {G G1 G' : List pE} {n lim : Int32} {lv : pL} {hf : Nat → Int32} {nf : Nat → Int64} {on nt nn t m j : Int32} {rw : Nat} {p tok at9 sp num : Int32} {wd : Int64} {p2 tok2 at2 sp2 num2 : Int32} {wd2 : Int64} {p3 tok3 at3 sp3 num3 : Int32} {wd3 : Int64} {p4 tok4 at4 sp4 num4 : Int32} {wd4 : Int64}
theorem MS.arr {c i : Nat} {v : Value} (h : MS th0 349 350 352 354 355 f n lim p tok at9 sp num wd hf nf on G) (u : x_upd G G1 c i v) (tc : th0[c]? = some 38) (hI : xI x_tb th0 G1) : MS th0 349 350 352 354 355 f n lim p tok at9 sp num wd hf nf on G1 := by
  obtain ⟨n1, n2, n3, n4, n5, -⟩ := th0_rw c tc
  obtain ⟨T, b1, b2, b3, c1, c2, c3, c4, d1, d2, d3⟩ := h
  exact ⟨T.other u n2 (Or.inl n1) hI, b1, b2, b3, by rw [u.2.1, if_neg (fun z => n1 z.1.symm)]; exact c1, by rw [u.2.1, if_neg (fun z => n1 z.1.symm)]; exact c2, by rw [u.2.1, if_neg (fun z => n1 z.1.symm)]; exact c3, by rw [u.2.1, if_neg (fun z => n1 z.1.symm)]; exact c4, fun j hj => by rw [u.2.1, if_neg (fun z => n3 z.1.symm)]; exact d1 j hj, fun j hj => by rw [u.2.1, if_neg (fun z => n4 z.1.symm)]; exact d2 j hj, fun j hj => by rw [u.2.1, if_neg (fun z => n5 z.1.symm)]; exact d3.1 j hj, by rw [u.2.1, if_neg (fun z => n1 z.1.symm)]; exact d3.2⟩
set_option maxHeartbeats 2000000 in
set_option maxRecDepth 100000 in
theorem lm_a (h : MS th0 349 350 352 354 355 f n lim p tok at9 sp num wd hf nf on G) (l32 : x_sl G 349 32 = some (.int (Int32.ofNat k))) (hk : k ≤ 40) (w14 : ¬ (tok = Int32.ofInt 1 ∧ wd = t_W 14)) (w13 : ¬ (tok = Int32.ofInt 1 ∧ wd = t_W 13)) (hn : ¬ (tok = Int32.ofInt 1 ∧ ∀ x : Nat, x < 25 → wd ≠ t_W x)) : x_Gd xs L J (d + 3) m_244 (fun r G' => r = some (.int 0) ∧ x_sl G' 349 15 = some (.int (Int32.ofInt 1))) 0 (lv_args 0 [.ref 349]) [] G := by
  have g0 : pm_get (lv_args 0 [.ref 349]) 0 = some (.ref 349) := rfl
  generalize lv_args 0 [.ref 349] = lv at g0 ⊢
  have e := s_toI (a := k) (by omega)
  have e40 : ((Int8.ofInt 40).toInt32).toInt = 40 := rfl
  obtain ⟨rw, k8, tr⟩ := y_fref (i := 8) (u := 38) h.1.I h.1.t rfl
  refine y_st (e_244 (0, .iconst 3, 1) (List.mem_of_getElem? (i := 0) rfl)) ⟨rfl, rfl, rfl, rfl⟩ ?_
  refine y_aln (e_244 (1, .aload_n 0, 1) (List.mem_of_getElem? (i := 1) rfl)) g0 ?_
  refine y_getf h.1.I h.1.t (e_244 (2, .getfield 356, 3) (List.mem_of_getElem? (i := 2) rfl)) u_17_356 ⟨rfl, rfl⟩ l32 ?_
  refine y_st (e_244 (5, .imul, 1) (List.mem_of_getElem? (i := 3) rfl)) ⟨rfl, rfl, rfl, rfl⟩ ?_
  obtain ⟨j, hj⟩ : ∃ j : Int32, j = Int32.ofInt 3 * Int32.ofNat k := ⟨_, rfl⟩
  rw [← hj]
  have ej : j.toInt = 3 * (k : Int) := by rw [hj, Int32.toInt_mul, show (Int32.ofInt 3).toInt = 3 from rfl, e, Jvm.Kit.bmod32 (by omega) (by omega)]
  clear hj
  refine y_isn (e_244 (6, .istore_n 1, 1) (List.mem_of_getElem? (i := 4) rfl)) (by decide) ?_
  have g0 : pm_get (pm_put1 lv 1 (.int j)) 0 = some (.ref 349) := y_gpr g0 (by decide)
  have g1 : pm_get (pm_put1 lv 1 (.int j)) 1 = some (.int j) := x_get_self
  change x_Gd _ _ _ _ _ _ _ (pm_put1 lv 1 (.int j)) _ _
  generalize pm_put1 lv 1 (.int j) = lv at g0 g1 ⊢
  refine y_aln (e_244 (7, .aload_n 0, 1) (List.mem_of_getElem? (i := 5) rfl)) g0 ?_
  refine y_st (e_244 (8, .ldc2_w 106, 3) (List.mem_of_getElem? (i := 6) rfl)) ⟨rfl, rfl, rfl, rfl⟩ ?_
  refine y_c2 (K' := _) (e_244 (11, .invokevirtual 198, 3) (List.mem_of_getElem? (i := 7) rfl)) ⟨rfl, rfl, rfl⟩ t_17_198 ⟨by decide, by decide, by decide, by decide⟩ m_168_ok rfl (by decide) (y_recv h.1.I h.1.t ⟨rfl, rfl⟩) (Nat.le_of_ble_eq_true rfl) (Nat.le_of_ble_eq_true rfl) (k_isWord h (t_W 14)) (fun r1 Gc hc1 => ?_)
  obtain ⟨rfl, rfl⟩ := hc1
  simp only [Option.toList_some, Option.toList_none, List.cons_append, List.nil_append]
  rw [if_neg w14]
  refine y_ifc (e_244 (14, .ifCond .ne 13, 3) (List.mem_of_getElem? (i := 8) rfl)) rfl (fun hb => absurd hb (by decide)) (fun _ => ?_)
  refine y_aln (e_244 (17, .aload_n 0, 1) (List.mem_of_getElem? (i := 9) rfl)) g0 ?_
  refine y_st (e_244 (18, .ldc2_w 104, 3) (List.mem_of_getElem? (i := 10) rfl)) ⟨rfl, rfl, rfl, rfl⟩ ?_
  refine y_c2 (K' := _) (e_244 (21, .invokevirtual 198, 3) (List.mem_of_getElem? (i := 11) rfl)) ⟨rfl, rfl, rfl⟩ t_17_198 ⟨by decide, by decide, by decide, by decide⟩ m_168_ok rfl (by decide) (y_recv h.1.I h.1.t ⟨rfl, rfl⟩) (Nat.le_of_ble_eq_true rfl) (Nat.le_of_ble_eq_true rfl) (k_isWord h (t_W 13)) (fun r1 Gc hc1 => ?_)
  obtain ⟨rfl, rfl⟩ := hc1
  simp only [Option.toList_some, Option.toList_none, List.cons_append, List.nil_append]
  rw [if_neg w13]
  refine y_ifc (e_244 (24, .ifCond .eq 81, 3) (List.mem_of_getElem? (i := 12) rfl)) rfl (fun _ => ?_) (fun hb => absurd hb (by decide))
  refine y_aln (e_244 (105, .aload_n 0, 1) (List.mem_of_getElem? (i := 59) rfl)) g0 ?_
  refine y_c1 (K' := _) (e_244 (106, .invokevirtual 184, 3) (List.mem_of_getElem? (i := 60) rfl)) ⟨rfl, rfl, rfl⟩ t_17_184 ⟨by decide, by decide, by decide, by decide⟩ m_178_ok rfl (by decide) (y_recv h.1.I h.1.t ⟨rfl, rfl⟩) (Nat.le_of_ble_eq_true rfl) (Nat.le_of_ble_eq_true rfl) (k_isName h) (fun r1 Gc hc1 => ?_)
  obtain ⟨rfl, y, rfl, hy⟩ := hc1
  simp only [Option.toList_some, Option.toList_none, List.cons_append, List.nil_append]
  cases y
  rotate_left
  · exact absurd (hy.mp rfl) hn
  refine y_ifc (e_244 (109, .ifCond .ne 9, 3) (List.mem_of_getElem? (i := 61) rfl)) rfl (fun hb => absurd hb (by decide)) (fun _ => ?_)
  refine y_aln (e_244 (112, .aload_n 0, 1) (List.mem_of_getElem? (i := 62) rfl)) g0 ?_
  refine y_st (e_244 (113, .iconst 1, 1) (List.mem_of_getElem? (i := 63) rfl)) ⟨rfl, rfl, rfl, rfl⟩ ?_
  refine y_c2 (K' := _) (e_244 (114, .invokevirtual 167, 3) (List.mem_of_getElem? (i := 64) rfl)) ⟨rfl, rfl, rfl⟩ t_17_167 ⟨by decide, by decide, by decide, by decide⟩ m_171_ok rfl (by decide) (y_recv h.1.I h.1.t ⟨rfl, rfl⟩) (Nat.le_of_ble_eq_true rfl) (Nat.le_of_ble_eq_true rfl) (k_bad h _) (fun r1 Gc hc1 => ?_)
  obtain ⟨rfl, hc2⟩ := hc1
  simp only [Option.toList_some, Option.toList_none, List.cons_append, List.nil_append]
  exact y_ret (e_244 (117, .ireturn, 1) (List.mem_of_getElem? (i := 65) rfl)) ⟨rfl, y_rb (Or.inl rfl)⟩ ⟨rfl, hc2.2⟩
set_option maxHeartbeats 2000000 in
set_option maxRecDepth 100000 in
theorem lm_w (h : MS th0 349 350 352 354 355 f n lim p tok at9 sp num wd hf nf on G) (l32 : x_sl G 349 32 = some (.int (Int32.ofNat k))) (hk : k ≤ 40) (hw : (tok = Int32.ofInt 1 ∧ wd = t_W 14) ∨ (tok = Int32.ofInt 1 ∧ wd = t_W 13)) (hk27 : ∀ (lv : pL) (j : Int32) (rw : Nat), pm_get lv 0 = some (.ref 349) → pm_get lv 1 = some (.int j) → j.toInt = 3 * (k : Int) → x_sl G 349 8 = some (.ref rw) → th0[rw]? = some 38 → x_Gd xs L J (d + 3) m_244 K 27 lv [] G) : x_Gd xs L J (d + 3) m_244 K 0 (lv_args 0 [.ref 349]) [] G := by
  have g0 : pm_get (lv_args 0 [.ref 349]) 0 = some (.ref 349) := rfl
  generalize lv_args 0 [.ref 349] = lv at g0 ⊢
  have e := s_toI (a := k) (by omega)
  have e40 : ((Int8.ofInt 40).toInt32).toInt = 40 := rfl
  obtain ⟨rw, k8, tr⟩ := y_fref (i := 8) (u := 38) h.1.I h.1.t rfl
  refine y_st (e_244 (0, .iconst 3, 1) (List.mem_of_getElem? (i := 0) rfl)) ⟨rfl, rfl, rfl, rfl⟩ ?_
  refine y_aln (e_244 (1, .aload_n 0, 1) (List.mem_of_getElem? (i := 1) rfl)) g0 ?_
  refine y_getf h.1.I h.1.t (e_244 (2, .getfield 356, 3) (List.mem_of_getElem? (i := 2) rfl)) u_17_356 ⟨rfl, rfl⟩ l32 ?_
  refine y_st (e_244 (5, .imul, 1) (List.mem_of_getElem? (i := 3) rfl)) ⟨rfl, rfl, rfl, rfl⟩ ?_
  obtain ⟨j, hj⟩ : ∃ j : Int32, j = Int32.ofInt 3 * Int32.ofNat k := ⟨_, rfl⟩
  rw [← hj]
  have ej : j.toInt = 3 * (k : Int) := by rw [hj, Int32.toInt_mul, show (Int32.ofInt 3).toInt = 3 from rfl, e, Jvm.Kit.bmod32 (by omega) (by omega)]
  clear hj
  refine y_isn (e_244 (6, .istore_n 1, 1) (List.mem_of_getElem? (i := 4) rfl)) (by decide) ?_
  have g0 : pm_get (pm_put1 lv 1 (.int j)) 0 = some (.ref 349) := y_gpr g0 (by decide)
  have g1 : pm_get (pm_put1 lv 1 (.int j)) 1 = some (.int j) := x_get_self
  change x_Gd _ _ _ _ _ _ _ (pm_put1 lv 1 (.int j)) _ _
  generalize pm_put1 lv 1 (.int j) = lv at g0 g1 ⊢
  by_cases w14 : (tok = Int32.ofInt 1 ∧ wd = t_W 14)
  · refine y_aln (e_244 (7, .aload_n 0, 1) (List.mem_of_getElem? (i := 5) rfl)) g0 ?_
    refine y_st (e_244 (8, .ldc2_w 106, 3) (List.mem_of_getElem? (i := 6) rfl)) ⟨rfl, rfl, rfl, rfl⟩ ?_
    refine y_c2 (K' := _) (e_244 (11, .invokevirtual 198, 3) (List.mem_of_getElem? (i := 7) rfl)) ⟨rfl, rfl, rfl⟩ t_17_198 ⟨by decide, by decide, by decide, by decide⟩ m_168_ok rfl (by decide) (y_recv h.1.I h.1.t ⟨rfl, rfl⟩) (Nat.le_of_ble_eq_true rfl) (Nat.le_of_ble_eq_true rfl) (k_isWord h (t_W 14)) (fun r1 Gc hc1 => ?_)
    obtain ⟨rfl, rfl⟩ := hc1
    simp only [Option.toList_some, Option.toList_none, List.cons_append, List.nil_append]
    rw [if_pos w14]
    refine y_ifc (e_244 (14, .ifCond .ne 13, 3) (List.mem_of_getElem? (i := 8) rfl)) rfl (fun _ => hk27 lv j rw g0 g1 ej k8 tr) (fun hb => absurd hb (by decide))
  have w13 : (tok = Int32.ofInt 1 ∧ wd = t_W 13) := hw.resolve_left w14
  refine y_aln (e_244 (7, .aload_n 0, 1) (List.mem_of_getElem? (i := 5) rfl)) g0 ?_
  refine y_st (e_244 (8, .ldc2_w 106, 3) (List.mem_of_getElem? (i := 6) rfl)) ⟨rfl, rfl, rfl, rfl⟩ ?_
  refine y_c2 (K' := _) (e_244 (11, .invokevirtual 198, 3) (List.mem_of_getElem? (i := 7) rfl)) ⟨rfl, rfl, rfl⟩ t_17_198 ⟨by decide, by decide, by decide, by decide⟩ m_168_ok rfl (by decide) (y_recv h.1.I h.1.t ⟨rfl, rfl⟩) (Nat.le_of_ble_eq_true rfl) (Nat.le_of_ble_eq_true rfl) (k_isWord h (t_W 14)) (fun r1 Gc hc1 => ?_)
  obtain ⟨rfl, rfl⟩ := hc1
  simp only [Option.toList_some, Option.toList_none, List.cons_append, List.nil_append]
  rw [if_neg w14]
  refine y_ifc (e_244 (14, .ifCond .ne 13, 3) (List.mem_of_getElem? (i := 8) rfl)) rfl (fun hb => absurd hb (by decide)) (fun _ => ?_)
  refine y_aln (e_244 (17, .aload_n 0, 1) (List.mem_of_getElem? (i := 9) rfl)) g0 ?_
  refine y_st (e_244 (18, .ldc2_w 104, 3) (List.mem_of_getElem? (i := 10) rfl)) ⟨rfl, rfl, rfl, rfl⟩ ?_
  refine y_c2 (K' := _) (e_244 (21, .invokevirtual 198, 3) (List.mem_of_getElem? (i := 11) rfl)) ⟨rfl, rfl, rfl⟩ t_17_198 ⟨by decide, by decide, by decide, by decide⟩ m_168_ok rfl (by decide) (y_recv h.1.I h.1.t ⟨rfl, rfl⟩) (Nat.le_of_ble_eq_true rfl) (Nat.le_of_ble_eq_true rfl) (k_isWord h (t_W 13)) (fun r1 Gc hc1 => ?_)
  obtain ⟨rfl, rfl⟩ := hc1
  simp only [Option.toList_some, Option.toList_none, List.cons_append, List.nil_append]
  rw [if_pos w13]
  exact y_ifc (e_244 (24, .ifCond .eq 81, 3) (List.mem_of_getElem? (i := 12) rfl)) rfl (fun hb => absurd hb (by decide)) (fun _ => hk27 lv j rw g0 g1 ej k8 tr)
set_option maxHeartbeats 2000000 in
set_option maxRecDepth 100000 in
theorem lm_w40 (h : MS th0 349 350 352 354 355 f n lim p tok at9 sp num wd hf nf on G) (l32 : x_sl G 349 32 = some (.int (Int32.ofNat k))) (hk : k ≤ 40) (hw : (tok = Int32.ofInt 1 ∧ wd = t_W 14) ∨ (tok = Int32.ofInt 1 ∧ wd = t_W 13)) (h40 : k = 40) : x_Gd xs L J (d + 3) m_244 (fun r G' => r = some (.int 0) ∧ x_sl G' 349 15 = some (.int (Int32.ofInt 4))) 0 (lv_args 0 [.ref 349]) [] G := by
  subst h40
  refine lm_w h l32 hk hw (fun lv j rw g0 g1 ej k8 tr => ?_)
  refine y_aln (e_244 (27, .aload_n 0, 1) (List.mem_of_getElem? (i := 13) rfl)) g0 ?_
  refine y_getf h.1.I h.1.t (e_244 (28, .getfield 356, 3) (List.mem_of_getElem? (i := 14) rfl)) u_17_356 ⟨rfl, rfl⟩ l32 ?_
  refine y_st (e_244 (31, .bipush 40, 2) (List.mem_of_getElem? (i := 15) rfl)) ⟨rfl, rfl, rfl, rfl⟩ ?_
  refine y_icm (e_244 (33, .if_icmp .ne 9, 3) (List.mem_of_getElem? (i := 16) rfl)) rfl (fun hb => absurd (show Int32.ofNat 40 = (Int8.ofInt 40).toInt32 from rfl) (y_hI.2.2.1 hb)) (fun _ => ?_)
  refine y_aln (e_244 (36, .aload_n 0, 1) (List.mem_of_getElem? (i := 17) rfl)) g0 ?_
  refine y_st (e_244 (37, .iconst 4, 1) (List.mem_of_getElem? (i := 18) rfl)) ⟨rfl, rfl, rfl, rfl⟩ ?_
  refine y_c2 (K' := _) (e_244 (38, .invokevirtual 167, 3) (List.mem_of_getElem? (i := 19) rfl)) ⟨rfl, rfl, rfl⟩ t_17_167 ⟨by decide, by decide, by decide, by decide⟩ m_171_ok rfl (by decide) (y_recv h.1.I h.1.t ⟨rfl, rfl⟩) (Nat.le_of_ble_eq_true rfl) (Nat.le_of_ble_eq_true rfl) (k_bad h _) (fun r1 Gc hc1 => ?_)
  obtain ⟨rfl, hc2⟩ := hc1
  simp only [Option.toList_some, Option.toList_none, List.cons_append, List.nil_append]
  exact y_ret (e_244 (41, .ireturn, 1) (List.mem_of_getElem? (i := 20) rfl)) ⟨rfl, y_rb (Or.inl rfl)⟩ ⟨rfl, hc2.2⟩
set_option maxHeartbeats 2000000 in
set_option maxRecDepth 100000 in
theorem lm_w67 (h : MS th0 349 350 352 354 355 f n lim p tok at9 sp num wd hf nf on G) (l32 : x_sl G 349 32 = some (.int (Int32.ofNat k))) (hk : k ≤ 40) (k40 : k < 40) (hw : (tok = Int32.ofInt 1 ∧ wd = t_W 14) ∨ (tok = Int32.ofInt 1 ∧ wd = t_W 13)) (hN : NXm f n lim p num wd p2 tok2 at2 sp2 num2 wd2) (hk67 : ∀ (G2 : List pE) (lv : pL) (j : Int32) (rw : Nat), pm_get lv 0 = some (.ref 349) → pm_get lv 1 = some (.int j) → j.toInt = 3 * (k : Int) → x_sl G2 349 8 = some (.ref rw) → th0[rw]? = some 38 → x_sl G2 rw j.toInt.toNat = some (.int (if (tok = Int32.ofInt 1 ∧ wd = t_W 13) then Int32.ofInt 4 else Int32.ofInt 3)) → MS th0 349 350 352 354 355 f n lim p2 tok2 at2 sp2 num2 wd2 hf nf on G2 → x_Gd xs L J (d + 3) m_244 K 67 lv [] G2) : x_Gd xs L J (d + 3) m_244 K 0 (lv_args 0 [.ref 349]) [] G := by
  have n40 : Int32.ofNat k ≠ (Int8.ofInt 40).toInt32 := fun z => by
    have := congrArg Int32.toInt z
    rw [s_toI (by omega), show ((Int8.ofInt 40).toInt32).toInt = 40 from rfl] at this
    omega
  refine lm_w h l32 hk hw (fun lv j rw g0 g1 ej k8 tr => ?_)
  have nrw := th0_rw rw tr
  refine y_aln (e_244 (27, .aload_n 0, 1) (List.mem_of_getElem? (i := 13) rfl)) g0 ?_
  refine y_getf h.1.I h.1.t (e_244 (28, .getfield 356, 3) (List.mem_of_getElem? (i := 14) rfl)) u_17_356 ⟨rfl, rfl⟩ l32 ?_
  refine y_st (e_244 (31, .bipush 40, 2) (List.mem_of_getElem? (i := 15) rfl)) ⟨rfl, rfl, rfl, rfl⟩ ?_
  refine y_icm (e_244 (33, .if_icmp .ne 9, 3) (List.mem_of_getElem? (i := 16) rfl)) rfl (fun _ => ?_) (fun hb => absurd (y_hI.2.2.2.1 hb) n40)
  refine y_aln (e_244 (42, .aload_n 0, 1) (List.mem_of_getElem? (i := 21) rfl)) g0 ?_
  refine y_getf h.1.I h.1.t (e_244 (43, .getfield 40, 3) (List.mem_of_getElem? (i := 22) rfl)) u_17_40 ⟨rfl, rfl⟩ k8 ?_
  refine y_iln (e_244 (46, .iload_n 1, 1) (List.mem_of_getElem? (i := 23) rfl)) g1 ?_
  have at62 : x_Gd xs L J (d + 3) m_244 K 62 lv (.int (if (tok = Int32.ofInt 1 ∧ wd = t_W 13) then Int32.ofInt 4 else Int32.ofInt 3) :: .int j :: .ref rw :: []) G := by
    refine y_iast h.1.I tr (e_244 (62, .iastore, 1) (List.mem_of_getElem? (i := 31) rfl)) ⟨rfl, rfl⟩ ⟨by omega, by show _ < (135 : Int); omega⟩ (fun G1 u1 => ?_)
    have h1 := h.arr u1 tr (h.1.I.upd u1 tr (y_okA (by rw [show (x_tb 38).2.2.2 = [(135, ((0 : Nat), (-2147483648 : Int), (2147483647 : Int)))] from rfl]; exact y_one (by omega))))
    refine y_aln (e_244 (63, .aload_n 0, 1) (List.mem_of_getElem? (i := 32) rfl)) g0 ?_
    refine y_c1 (K' := _) (e_244 (64, .invokevirtual 170, 3) (List.mem_of_getElem? (i := 33) rfl)) ⟨rfl, rfl, rfl⟩ t_17_170 ⟨by decide, by decide, by decide, by decide⟩ m_163_ok rfl (by decide) (y_recv h1.1.I h1.1.t ⟨rfl, rfl⟩) (Nat.le_of_ble_eq_true rfl) (Nat.le_of_ble_eq_true rfl) (hN _ _ _ _ _ _ _ _ _ _ _ _ h1.1) (fun r1 Gc hc1 => ?_)
    obtain ⟨rfl, hc2⟩ := hc1
    simp only [Option.toList_some, Option.toList_none, List.cons_append, List.nil_append]
    exact hk67 Gc lv j rw g0 g1 ej ((hc2.ot 349 8 (Or.inr (by decide))).trans (by rw [u1.2.1, if_neg (fun z => nrw.1 z.1.symm)]; exact k8)) tr ((hc2.ot rw _ (Or.inl nrw.1)).trans (by rw [u1.2.1, if_pos ⟨rfl, rfl⟩])) (h1.nxt hc2)
  refine y_aln (e_244 (47, .aload_n 0, 1) (List.mem_of_getElem? (i := 24) rfl)) g0 ?_
  refine y_st (e_244 (48, .ldc2_w 104, 3) (List.mem_of_getElem? (i := 25) rfl)) ⟨rfl, rfl, rfl, rfl⟩ ?_
  refine y_c2 (K' := _) (e_244 (51, .invokevirtual 198, 3) (List.mem_of_getElem? (i := 26) rfl)) ⟨rfl, rfl, rfl⟩ t_17_198 ⟨by decide, by decide, by decide, by decide⟩ m_168_ok rfl (by decide) (y_recv h.1.I h.1.t ⟨rfl, rfl⟩) (Nat.le_of_ble_eq_true rfl) (Nat.le_of_ble_eq_true rfl) (k_isWord h (t_W 13)) (fun r1 Gc hc1 => ?_)
  obtain ⟨rfl, rfl⟩ := hc1
  simp only [Option.toList_some, Option.toList_none, List.cons_append, List.nil_append]
  by_cases w13 : (tok = Int32.ofInt 1 ∧ wd = t_W 13)
  · rw [if_pos w13] at at62 ⊢
    refine y_ifc (e_244 (54, .ifCond .eq 7, 3) (List.mem_of_getElem? (i := 27) rfl)) rfl (fun hb => absurd hb (by decide)) (fun _ => ?_)
    refine y_st (e_244 (57, .iconst 4, 1) (List.mem_of_getElem? (i := 28) rfl)) ⟨rfl, rfl, rfl, rfl⟩ ?_
    refine y_st (e_244 (58, .goto 4, 3) (List.mem_of_getElem? (i := 29) rfl)) ⟨rfl, rfl, rfl, rfl⟩ ?_
    exact at62
  · rw [if_neg w13] at at62 ⊢
    refine y_ifc (e_244 (54, .ifCond .eq 7, 3) (List.mem_of_getElem? (i := 27) rfl)) rfl (fun _ => ?_) (fun hb => absurd hb (by decide))
    refine y_st (e_244 (61, .iconst 3, 1) (List.mem_of_getElem? (i := 30) rfl)) ⟨rfl, rfl, rfl, rfl⟩ ?_
    exact at62
set_option maxHeartbeats 2000000 in
set_option maxRecDepth 100000 in
theorem lm_w14 (h : MS th0 349 350 352 354 355 f n lim p tok at9 sp num wd hf nf on G) (l32 : x_sl G 349 32 = some (.int (Int32.ofNat k))) (hk : k ≤ 40) (k40 : k < 40) (hw : (tok = Int32.ofInt 1 ∧ wd = t_W 14)) (hN : NXm f n lim p num wd p2 tok2 at2 sp2 num2 wd2) : x_Gd xs L J (d + 3) m_244 (fun r G' => r = some (.int 1) ∧ MS th0 349 350 352 354 355 f n lim p2 tok2 at2 sp2 num2 wd2 hf nf on G') 0 (lv_args 0 [.ref 349]) [] G := by
  refine lm_w67 h l32 hk k40 (Or.inl hw) hN (fun G2 lv j rw g0 g1 ej k8 tr hv h2 => ?_)
  rw [if_neg (fun z => absurd (hw.2.symm.trans z.2) (by decide))] at hv
  refine y_aln (e_244 (67, .aload_n 0, 1) (List.mem_of_getElem? (i := 34) rfl)) g0 ?_
  refine y_getf h2.1.I h2.1.t (e_244 (68, .getfield 40, 3) (List.mem_of_getElem? (i := 35) rfl)) u_17_40 ⟨rfl, rfl⟩ k8 ?_
  refine y_iln (e_244 (71, .iload_n 1, 1) (List.mem_of_getElem? (i := 36) rfl)) g1 ?_
  refine y_iald h2.1.I tr (e_244 (72, .iaload, 1) (List.mem_of_getElem? (i := 37) rfl)) ⟨rfl, rfl⟩ (by omega) hv ?_
  refine y_st (e_244 (73, .iconst 3, 1) (List.mem_of_getElem? (i := 38) rfl)) ⟨rfl, rfl, rfl, rfl⟩ ?_
  refine y_icm (e_244 (74, .if_icmp .ne 5, 3) (List.mem_of_getElem? (i := 39) rfl)) rfl (fun hb => absurd rfl (y_hI.2.2.1 hb)) (fun _ => ?_)
  refine y_st (e_244 (77, .iconst 1, 1) (List.mem_of_getElem? (i := 40) rfl)) ⟨rfl, rfl, rfl, rfl⟩ ?_
  exact y_ret (e_244 (78, .ireturn, 1) (List.mem_of_getElem? (i := 41) rfl)) ⟨rfl, y_rb (Or.inr rfl)⟩ ⟨rfl, h2⟩
set_option maxHeartbeats 2000000 in
set_option maxRecDepth 100000 in
theorem lm_w13n (h : MS th0 349 350 352 354 355 f n lim p tok at9 sp num wd hf nf on G) (l32 : x_sl G 349 32 = some (.int (Int32.ofNat k))) (hk : k ≤ 40) (k40 : k < 40) (hw : (tok = Int32.ofInt 1 ∧ wd = t_W 13)) (hN : NXm f n lim p num wd p2 tok2 at2 sp2 num2 wd2) (hno : tok2 ≠ Int32.ofInt 2 ∨ num2.toInt < 1 ∨ 60 < num2.toInt) : x_Gd xs L J (d + 3) m_244 (fun r G' => r = some (.int 0) ∧ x_sl G' 349 15 = some (.int (t_km tok2))) 0 (lv_args 0 [.ref 349]) [] G := by
  refine lm_w67 h l32 hk k40 (Or.inr hw) hN (fun G2 lv j rw g0 g1 ej k8 tr hv h2 => ?_)
  rw [if_pos hw] at hv
  refine y_aln (e_244 (67, .aload_n 0, 1) (List.mem_of_getElem? (i := 34) rfl)) g0 ?_
  refine y_getf h2.1.I h2.1.t (e_244 (68, .getfield 40, 3) (List.mem_of_getElem? (i := 35) rfl)) u_17_40 ⟨rfl, rfl⟩ k8 ?_
  refine y_iln (e_244 (71, .iload_n 1, 1) (List.mem_of_getElem? (i := 36) rfl)) g1 ?_
  refine y_iald h2.1.I tr (e_244 (72, .iaload, 1) (List.mem_of_getElem? (i := 37) rfl)) ⟨rfl, rfl⟩ (by omega) hv ?_
  refine y_st (e_244 (73, .iconst 3, 1) (List.mem_of_getElem? (i := 38) rfl)) ⟨rfl, rfl, rfl, rfl⟩ ?_
  refine y_icm (e_244 (74, .if_icmp .ne 5, 3) (List.mem_of_getElem? (i := 39) rfl)) rfl (fun _ => ?_) (fun hb => absurd (y_hI.2.2.2.1 hb) (by decide))
  refine y_aln (e_244 (79, .aload_n 0, 1) (List.mem_of_getElem? (i := 42) rfl)) g0 ?_
  refine y_st (e_244 (80, .iconst 1, 1) (List.mem_of_getElem? (i := 43) rfl)) ⟨rfl, rfl, rfl, rfl⟩ ?_
  refine y_st (e_244 (81, .bipush 60, 2) (List.mem_of_getElem? (i := 44) rfl)) ⟨rfl, rfl, rfl, rfl⟩ ?_
  refine y_c3 (K' := _) (e_244 (83, .invokevirtual 180, 3) (List.mem_of_getElem? (i := 45) rfl)) ⟨rfl, rfl, rfl⟩ t_17_180 ⟨by decide, by decide, by decide, by decide⟩ m_173_ok rfl (by decide) (y_recv h2.1.I h2.1.t ⟨rfl, rfl⟩) (Nat.le_of_ble_eq_true rfl) (Nat.le_of_ble_eq_true rfl) (k_takes_no h2 hno) (fun r1 Gc hc1 => ?_)
  obtain ⟨rfl, hc3⟩ := hc1
  simp only [Option.toList_some, Option.toList_none, List.cons_append, List.nil_append]
  refine y_ifc (e_244 (86, .ifCond .ne 5, 3) (List.mem_of_getElem? (i := 46) rfl)) rfl (fun hb => absurd hb (by decide)) (fun _ => ?_)
  refine y_st (e_244 (89, .iconst 0, 1) (List.mem_of_getElem? (i := 47) rfl)) ⟨rfl, rfl, rfl, rfl⟩ ?_
  exact y_ret (e_244 (90, .ireturn, 1) (List.mem_of_getElem? (i := 48) rfl)) ⟨rfl, y_rb (Or.inl rfl)⟩ ⟨rfl, hc3.2⟩
set_option maxHeartbeats 2000000 in
set_option maxRecDepth 100000 in
theorem lm_w13y (h : MS th0 349 350 352 354 355 f n lim p tok at9 sp num wd hf nf on G) (l32 : x_sl G 349 32 = some (.int (Int32.ofNat k))) (hk : k ≤ 40) (k40 : k < 40) (hw : (tok = Int32.ofInt 1 ∧ wd = t_W 13)) (hN : NXm f n lim p num wd p2 tok2 at2 sp2 num2 wd2) (hy : tok2 = Int32.ofInt 2 ∧ 1 ≤ num2.toInt ∧ num2.toInt ≤ 60) (hN2 : NXm f n lim p2 num2 wd2 p3 tok3 at3 sp3 num3 wd3) : x_Gd xs L J (d + 3) m_244 (fun r G' => r = some (.int 1) ∧ MS th0 349 350 352 354 355 f n lim p3 tok3 at3 sp3 num3 wd3 hf nf on G') 0 (lv_args 0 [.ref 349]) [] G := by
  refine lm_w67 h l32 hk k40 (Or.inr hw) hN (fun G2 lv j rw g0 g1 ej k8 tr hv h2 => ?_)
  rw [if_pos hw] at hv
  refine y_aln (e_244 (67, .aload_n 0, 1) (List.mem_of_getElem? (i := 34) rfl)) g0 ?_
  refine y_getf h2.1.I h2.1.t (e_244 (68, .getfield 40, 3) (List.mem_of_getElem? (i := 35) rfl)) u_17_40 ⟨rfl, rfl⟩ k8 ?_
  refine y_iln (e_244 (71, .iload_n 1, 1) (List.mem_of_getElem? (i := 36) rfl)) g1 ?_
  refine y_iald h2.1.I tr (e_244 (72, .iaload, 1) (List.mem_of_getElem? (i := 37) rfl)) ⟨rfl, rfl⟩ (by omega) hv ?_
  refine y_st (e_244 (73, .iconst 3, 1) (List.mem_of_getElem? (i := 38) rfl)) ⟨rfl, rfl, rfl, rfl⟩ ?_
  refine y_icm (e_244 (74, .if_icmp .ne 5, 3) (List.mem_of_getElem? (i := 39) rfl)) rfl (fun _ => ?_) (fun hb => absurd (y_hI.2.2.2.1 hb) (by decide))
  refine y_aln (e_244 (79, .aload_n 0, 1) (List.mem_of_getElem? (i := 42) rfl)) g0 ?_
  refine y_st (e_244 (80, .iconst 1, 1) (List.mem_of_getElem? (i := 43) rfl)) ⟨rfl, rfl, rfl, rfl⟩ ?_
  refine y_st (e_244 (81, .bipush 60, 2) (List.mem_of_getElem? (i := 44) rfl)) ⟨rfl, rfl, rfl, rfl⟩ ?_
  refine y_c3 (K' := _) (e_244 (83, .invokevirtual 180, 3) (List.mem_of_getElem? (i := 45) rfl)) ⟨rfl, rfl, rfl⟩ t_17_180 ⟨by decide, by decide, by decide, by decide⟩ m_173_ok rfl (by decide) (y_recv h2.1.I h2.1.t ⟨rfl, rfl⟩) (Nat.le_of_ble_eq_true rfl) (Nat.le_of_ble_eq_true rfl) (k_takes_yes h2 hy.1 hy.2.1 hy.2.2 hN2) (fun r1 Gc hc1 => ?_)
  obtain ⟨rfl, h3, n3⟩ := hc1
  simp only [Option.toList_some, Option.toList_none, List.cons_append, List.nil_append]
  refine y_ifc (e_244 (86, .ifCond .ne 5, 3) (List.mem_of_getElem? (i := 46) rfl)) rfl (fun _ => ?_) (fun hb => absurd hb (by decide))
  obtain ⟨rw, k8, tr⟩ := y_fref (i := 8) (u := 38) h3.1.I h3.1.t rfl
  have ej1 : (j + Int32.ofInt 1).toInt = 3 * (k : Int) + 1 := by rw [y_add1 (t := j) (by omega)]; omega
  refine y_aln (e_244 (91, .aload_n 0, 1) (List.mem_of_getElem? (i := 49) rfl)) g0 ?_
  refine y_getf h3.1.I h3.1.t (e_244 (92, .getfield 40, 3) (List.mem_of_getElem? (i := 50) rfl)) u_17_40 ⟨rfl, rfl⟩ k8 ?_
  refine y_iln (e_244 (95, .iload_n 1, 1) (List.mem_of_getElem? (i := 51) rfl)) g1 ?_
  refine y_st (e_244 (96, .iconst 1, 1) (List.mem_of_getElem? (i := 52) rfl)) ⟨rfl, rfl, rfl, rfl⟩ ?_
  refine y_st (e_244 (97, .iadd, 1) (List.mem_of_getElem? (i := 53) rfl)) ⟨rfl, rfl, rfl, rfl⟩ ?_
  refine y_aln (e_244 (98, .aload_n 0, 1) (List.mem_of_getElem? (i := 54) rfl)) g0 ?_
  refine y_getf h3.1.I h3.1.t (e_244 (99, .getfield 177, 3) (List.mem_of_getElem? (i := 55) rfl)) u_17_177 ⟨rfl, rfl⟩ n3 ?_
  refine y_iast h3.1.I tr (e_244 (102, .iastore, 1) (List.mem_of_getElem? (i := 56) rfl)) ⟨rfl, rfl⟩ ⟨by omega, by show _ < (135 : Int); omega⟩ (fun G4 u4 => ?_)
  have h4 := h3.arr u4 tr (h3.1.I.upd u4 tr (y_okA (by rw [show (x_tb 38).2.2.2 = [(135, ((0 : Nat), (-2147483648 : Int), (2147483647 : Int)))] from rfl]; exact y_one (by omega))))
  refine y_st (e_244 (103, .iconst 1, 1) (List.mem_of_getElem? (i := 57) rfl)) ⟨rfl, rfl, rfl, rfl⟩ ?_
  exact y_ret (e_244 (104, .ireturn, 1) (List.mem_of_getElem? (i := 58) rfl)) ⟨rfl, y_rb (Or.inr rfl)⟩ ⟨rfl, h4⟩
set_option maxHeartbeats 2000000 in
set_option maxRecDepth 100000 in
theorem lm_n (h : MS th0 349 350 352 354 355 f n lim p tok at9 sp num wd hf nf on G) (l32 : x_sl G 349 32 = some (.int (Int32.ofNat k))) (hk : k ≤ 40) (s6 : x_sl G 349 6 = some (.ref 351)) (t36 : th0[351]? = some 36) (e3 : x_sl G 351 3 = some (.int nt)) (e5 : x_sl G 351 5 = some (.int nn)) (c0 : 0 ≤ nt.toInt ∧ nt.toInt ≤ 8) (c1 : 0 ≤ nn.toInt ∧ nn.toInt ≤ 4) (hn : (tok = Int32.ofInt 1 ∧ ∀ x : Nat, x < 25 → wd ≠ t_W x)) (hk143 : ∀ (lv : pL) (j t m : Int32) (rw : Nat), pm_get lv 0 = some (.ref 349) → pm_get lv 1 = some (.int j) → pm_get lv 2 = some (.int t) → pm_get lv 3 = some (.int m) → j.toInt = 3 * (k : Int) → x_sl G 349 8 = some (.ref rw) → th0[rw]? = some 38 → (0 ≤ t.toInt ↔ ∃ i : Nat, (i : Int) < nt.toInt ∧ nf (0 + i) = wd) → (0 ≤ m.toInt ↔ ∃ i : Nat, (i : Int) < nn.toInt ∧ nf (12 + i) = wd) → x_Gd xs L J (d + 3) m_244 K 143 lv [] G) : x_Gd xs L J (d + 3) m_244 K 0 (lv_args 0 [.ref 349]) [] G := by
  have w14 : ¬ (tok = Int32.ofInt 1 ∧ wd = t_W 14) := fun z => hn.2 14 (by decide) z.2
  have w13 : ¬ (tok = Int32.ofInt 1 ∧ wd = t_W 13) := fun z => hn.2 13 (by decide) z.2
  have g0 : pm_get (lv_args 0 [.ref 349]) 0 = some (.ref 349) := rfl
  generalize lv_args 0 [.ref 349] = lv at g0 ⊢
  have e := s_toI (a := k) (by omega)
  have e40 : ((Int8.ofInt 40).toInt32).toInt = 40 := rfl
  obtain ⟨rw, k8, tr⟩ := y_fref (i := 8) (u := 38) h.1.I h.1.t rfl
  refine y_st (e_244 (0, .iconst 3, 1) (List.mem_of_getElem? (i := 0) rfl)) ⟨rfl, rfl, rfl, rfl⟩ ?_
  refine y_aln (e_244 (1, .aload_n 0, 1) (List.mem_of_getElem? (i := 1) rfl)) g0 ?_
  refine y_getf h.1.I h.1.t (e_244 (2, .getfield 356, 3) (List.mem_of_getElem? (i := 2) rfl)) u_17_356 ⟨rfl, rfl⟩ l32 ?_
  refine y_st (e_244 (5, .imul, 1) (List.mem_of_getElem? (i := 3) rfl)) ⟨rfl, rfl, rfl, rfl⟩ ?_
  obtain ⟨j, hj⟩ : ∃ j : Int32, j = Int32.ofInt 3 * Int32.ofNat k := ⟨_, rfl⟩
  rw [← hj]
  have ej : j.toInt = 3 * (k : Int) := by rw [hj, Int32.toInt_mul, show (Int32.ofInt 3).toInt = 3 from rfl, e, Jvm.Kit.bmod32 (by omega) (by omega)]
  clear hj
  refine y_isn (e_244 (6, .istore_n 1, 1) (List.mem_of_getElem? (i := 4) rfl)) (by decide) ?_
  have g0 : pm_get (pm_put1 lv 1 (.int j)) 0 = some (.ref 349) := y_gpr g0 (by decide)
  have g1 : pm_get (pm_put1 lv 1 (.int j)) 1 = some (.int j) := x_get_self
  change x_Gd _ _ _ _ _ _ _ (pm_put1 lv 1 (.int j)) _ _
  generalize pm_put1 lv 1 (.int j) = lv at g0 g1 ⊢
  refine y_aln (e_244 (7, .aload_n 0, 1) (List.mem_of_getElem? (i := 5) rfl)) g0 ?_
  refine y_st (e_244 (8, .ldc2_w 106, 3) (List.mem_of_getElem? (i := 6) rfl)) ⟨rfl, rfl, rfl, rfl⟩ ?_
  refine y_c2 (K' := _) (e_244 (11, .invokevirtual 198, 3) (List.mem_of_getElem? (i := 7) rfl)) ⟨rfl, rfl, rfl⟩ t_17_198 ⟨by decide, by decide, by decide, by decide⟩ m_168_ok rfl (by decide) (y_recv h.1.I h.1.t ⟨rfl, rfl⟩) (Nat.le_of_ble_eq_true rfl) (Nat.le_of_ble_eq_true rfl) (k_isWord h (t_W 14)) (fun r1 Gc hc1 => ?_)
  obtain ⟨rfl, rfl⟩ := hc1
  simp only [Option.toList_some, Option.toList_none, List.cons_append, List.nil_append]
  rw [if_neg w14]
  refine y_ifc (e_244 (14, .ifCond .ne 13, 3) (List.mem_of_getElem? (i := 8) rfl)) rfl (fun hb => absurd hb (by decide)) (fun _ => ?_)
  refine y_aln (e_244 (17, .aload_n 0, 1) (List.mem_of_getElem? (i := 9) rfl)) g0 ?_
  refine y_st (e_244 (18, .ldc2_w 104, 3) (List.mem_of_getElem? (i := 10) rfl)) ⟨rfl, rfl, rfl, rfl⟩ ?_
  refine y_c2 (K' := _) (e_244 (21, .invokevirtual 198, 3) (List.mem_of_getElem? (i := 11) rfl)) ⟨rfl, rfl, rfl⟩ t_17_198 ⟨by decide, by decide, by decide, by decide⟩ m_168_ok rfl (by decide) (y_recv h.1.I h.1.t ⟨rfl, rfl⟩) (Nat.le_of_ble_eq_true rfl) (Nat.le_of_ble_eq_true rfl) (k_isWord h (t_W 13)) (fun r1 Gc hc1 => ?_)
  obtain ⟨rfl, rfl⟩ := hc1
  simp only [Option.toList_some, Option.toList_none, List.cons_append, List.nil_append]
  rw [if_neg w13]
  refine y_ifc (e_244 (24, .ifCond .eq 81, 3) (List.mem_of_getElem? (i := 12) rfl)) rfl (fun _ => ?_) (fun hb => absurd hb (by decide))
  refine y_aln (e_244 (105, .aload_n 0, 1) (List.mem_of_getElem? (i := 59) rfl)) g0 ?_
  refine y_c1 (K' := _) (e_244 (106, .invokevirtual 184, 3) (List.mem_of_getElem? (i := 60) rfl)) ⟨rfl, rfl, rfl⟩ t_17_184 ⟨by decide, by decide, by decide, by decide⟩ m_178_ok rfl (by decide) (y_recv h.1.I h.1.t ⟨rfl, rfl⟩) (Nat.le_of_ble_eq_true rfl) (Nat.le_of_ble_eq_true rfl) (k_isName h) (fun r1 Gc hc1 => ?_)
  obtain ⟨rfl, y, rfl, hy⟩ := hc1
  simp only [Option.toList_some, Option.toList_none, List.cons_append, List.nil_append]
  obtain rfl : y = true := hy.mpr hn
  refine y_ifc (e_244 (109, .ifCond .ne 9, 3) (List.mem_of_getElem? (i := 61) rfl)) rfl (fun _ => ?_) (fun hb => absurd hb (by decide))
  refine y_aln (e_244 (118, .aload_n 0, 1) (List.mem_of_getElem? (i := 66) rfl)) g0 ?_
  refine y_st (e_244 (119, .iconst 0, 1) (List.mem_of_getElem? (i := 67) rfl)) ⟨rfl, rfl, rfl, rfl⟩ ?_
  refine y_aln (e_244 (120, .aload_n 0, 1) (List.mem_of_getElem? (i := 68) rfl)) g0 ?_
  refine y_getf h.1.I h.1.t (e_244 (121, .getfield 33, 3) (List.mem_of_getElem? (i := 69) rfl)) u_17_33 ⟨rfl, rfl⟩ s6 ?_
  refine y_st (e_244 (124, .iconst 3, 1) (List.mem_of_getElem? (i := 70) rfl)) ⟨rfl, rfl, rfl, rfl⟩ ?_
  refine y_iald h.1.I t36 (e_244 (125, .iaload, 1) (List.mem_of_getElem? (i := 71) rfl)) ⟨rfl, rfl⟩ (by decide) e3 ?_
  refine y_c3 (K' := _) (e_244 (126, .invokevirtual 188, 3) (List.mem_of_getElem? (i := 72) rfl)) ⟨rfl, rfl, rfl⟩ t_17_188 ⟨by decide, by decide, by decide, by decide⟩ m_179_ok rfl (by decide) (y_recv h.1.I h.1.t ⟨rfl, rfl⟩) (Nat.le_of_ble_eq_true rfl) (Nat.le_of_ble_eq_true rfl) (k_find h (fr := Int32.ofInt 0) (mny := nt) (by decide) (by show (0 : Int) + _ ≤ 32; omega)) (fun r1 Gc hc1 => ?_)
  obtain ⟨rfl, t, rfl, ht⟩ := hc1
  simp only [Option.toList_some, Option.toList_none, List.cons_append, List.nil_append]
  refine y_isn (e_244 (129, .istore_n 2, 1) (List.mem_of_getElem? (i := 73) rfl)) (by decide) ?_
  have g0 : pm_get (pm_put1 lv 2 (.int t)) 0 = some (.ref 349) := y_gpr g0 (by decide)
  have g1 : pm_get (pm_put1 lv 2 (.int t)) 1 = some (.int j) := y_gpi g1 (by decide)
  have g2 : pm_get (pm_put1 lv 2 (.int t)) 2 = some (.int t) := x_get_self
  change x_Gd _ _ _ _ _ _ _ (pm_put1 lv 2 (.int t)) _ _
  generalize pm_put1 lv 2 (.int t) = lv at g0 g1 g2 ⊢
  refine y_aln (e_244 (130, .aload_n 0, 1) (List.mem_of_getElem? (i := 74) rfl)) g0 ?_
  refine y_st (e_244 (131, .bipush 12, 2) (List.mem_of_getElem? (i := 75) rfl)) ⟨rfl, rfl, rfl, rfl⟩ ?_
  refine y_aln (e_244 (133, .aload_n 0, 1) (List.mem_of_getElem? (i := 76) rfl)) g0 ?_
  refine y_getf h.1.I h.1.t (e_244 (134, .getfield 33, 3) (List.mem_of_getElem? (i := 77) rfl)) u_17_33 ⟨rfl, rfl⟩ s6 ?_
  refine y_st (e_244 (137, .iconst 5, 1) (List.mem_of_getElem? (i := 78) rfl)) ⟨rfl, rfl, rfl, rfl⟩ ?_
  refine y_iald h.1.I t36 (e_244 (138, .iaload, 1) (List.mem_of_getElem? (i := 79) rfl)) ⟨rfl, rfl⟩ (by decide) e5 ?_
  refine y_c3 (K' := _) (e_244 (139, .invokevirtual 188, 3) (List.mem_of_getElem? (i := 80) rfl)) ⟨rfl, rfl, rfl⟩ t_17_188 ⟨by decide, by decide, by decide, by decide⟩ m_179_ok rfl (by decide) (y_recv h.1.I h.1.t ⟨rfl, rfl⟩) (Nat.le_of_ble_eq_true rfl) (Nat.le_of_ble_eq_true rfl) (k_find h (fr := (Int8.ofInt 12).toInt32) (mny := nn) (by decide) (by show (12 : Int) + _ ≤ 32; omega)) (fun r1 Gc hc1 => ?_)
  obtain ⟨rfl, m, rfl, hm⟩ := hc1
  simp only [Option.toList_some, Option.toList_none, List.cons_append, List.nil_append]
  refine y_isn (e_244 (142, .istore_n 3, 1) (List.mem_of_getElem? (i := 81) rfl)) (by decide) ?_
  exact hk143 _ j t m rw (y_gpr g0 (by decide)) (y_gpi g1 (by decide)) (y_gpi g2 (by decide)) x_get_self ej k8 tr ht hm
set_option maxHeartbeats 2000000 in
set_option maxRecDepth 100000 in
theorem lm_n0 (h : MS th0 349 350 352 354 355 f n lim p tok at9 sp num wd hf nf on G) (l32 : x_sl G 349 32 = some (.int (Int32.ofNat k))) (hk : k ≤ 40) (s6 : x_sl G 349 6 = some (.ref 351)) (t36 : th0[351]? = some 36) (e3 : x_sl G 351 3 = some (.int nt)) (e5 : x_sl G 351 5 = some (.int nn)) (c0 : 0 ≤ nt.toInt ∧ nt.toInt ≤ 8) (c1 : 0 ≤ nn.toInt ∧ nn.toInt ≤ 4) (hn : (tok = Int32.ofInt 1 ∧ ∀ x : Nat, x < 25 → wd ≠ t_W x)) (ht0 : ¬ ∃ i : Nat, (i : Int) < nt.toInt ∧ nf (0 + i) = wd) (hm0 : ¬ ∃ i : Nat, (i : Int) < nn.toInt ∧ nf (12 + i) = wd) : x_Gd xs L J (d + 3) m_244 (fun r G' => r = some (.int 0) ∧ x_sl G' 349 15 = some (.int (Int32.ofInt 3))) 0 (lv_args 0 [.ref 349]) [] G := by
  refine lm_n h l32 hk s6 t36 e3 e5 c0 c1 hn (fun lv j t m rw g0 g1 g2 g3 ej k8 tr ht hm => ?_)
  refine y_iln (e_244 (143, .iload_n 2, 1) (List.mem_of_getElem? (i := 82) rfl)) g2 ?_
  refine y_ifc (e_244 (144, .ifCond .ge 13, 3) (List.mem_of_getElem? (i := 83) rfl)) rfl (fun hb => absurd (ht.mp (y_hI.2.2.2.2.1 hb)) ht0) (fun _ => ?_)
  refine y_iln (e_244 (147, .iload_n 3, 1) (List.mem_of_getElem? (i := 84) rfl)) g3 ?_
  refine y_ifc (e_244 (148, .ifCond .ge 9, 3) (List.mem_of_getElem? (i := 85) rfl)) rfl (fun hb => absurd (hm.mp (y_hI.2.2.2.2.1 hb)) hm0) (fun _ => ?_)
  refine y_aln (e_244 (151, .aload_n 0, 1) (List.mem_of_getElem? (i := 86) rfl)) g0 ?_
  refine y_st (e_244 (152, .iconst 3, 1) (List.mem_of_getElem? (i := 87) rfl)) ⟨rfl, rfl, rfl, rfl⟩ ?_
  refine y_c2 (K' := _) (e_244 (153, .invokevirtual 167, 3) (List.mem_of_getElem? (i := 88) rfl)) ⟨rfl, rfl, rfl⟩ t_17_167 ⟨by decide, by decide, by decide, by decide⟩ m_171_ok rfl (by decide) (y_recv h.1.I h.1.t ⟨rfl, rfl⟩) (Nat.le_of_ble_eq_true rfl) (Nat.le_of_ble_eq_true rfl) (k_bad h _) (fun r1 Gc hc1 => ?_)
  obtain ⟨rfl, hc2⟩ := hc1
  simp only [Option.toList_some, Option.toList_none, List.cons_append, List.nil_append]
  exact y_ret (e_244 (156, .ireturn, 1) (List.mem_of_getElem? (i := 89) rfl)) ⟨rfl, y_rb (Or.inl rfl)⟩ ⟨rfl, hc2.2⟩
set_option maxHeartbeats 2000000 in
set_option maxRecDepth 100000 in
theorem lm_n157 (h : MS th0 349 350 352 354 355 f n lim p tok at9 sp num wd hf nf on G) (l32 : x_sl G 349 32 = some (.int (Int32.ofNat k))) (hk : k ≤ 40) (s6 : x_sl G 349 6 = some (.ref 351)) (t36 : th0[351]? = some 36) (e3 : x_sl G 351 3 = some (.int nt)) (e5 : x_sl G 351 5 = some (.int nn)) (c0 : 0 ≤ nt.toInt ∧ nt.toInt ≤ 8) (c1 : 0 ≤ nn.toInt ∧ nn.toInt ≤ 4) (hn : (tok = Int32.ofInt 1 ∧ ∀ x : Nat, x < 25 → wd ≠ t_W x)) (hsome : (∃ i : Nat, (i : Int) < nt.toInt ∧ nf (0 + i) = wd) ∨ (∃ i : Nat, (i : Int) < nn.toInt ∧ nf (12 + i) = wd)) (hk157 : ∀ (lv : pL) (j t m : Int32) (rw : Nat), pm_get lv 0 = some (.ref 349) → pm_get lv 1 = some (.int j) → pm_get lv 2 = some (.int t) → pm_get lv 3 = some (.int m) → j.toInt = 3 * (k : Int) → x_sl G 349 8 = some (.ref rw) → th0[rw]? = some 38 → (0 ≤ t.toInt ↔ ∃ i : Nat, (i : Int) < nt.toInt ∧ nf (0 + i) = wd) → (0 ≤ m.toInt ↔ ∃ i : Nat, (i : Int) < nn.toInt ∧ nf (12 + i) = wd) → x_Gd xs L J (d + 3) m_244 K 157 lv [] G) : x_Gd xs L J (d + 3) m_244 K 0 (lv_args 0 [.ref 349]) [] G := by
  refine lm_n h l32 hk s6 t36 e3 e5 c0 c1 hn (fun lv j t m rw g0 g1 g2 g3 ej k8 tr ht hm => ?_)
  have at157 := hk157 lv j t m rw g0 g1 g2 g3 ej k8 tr ht hm
  refine y_iln (e_244 (143, .iload_n 2, 1) (List.mem_of_getElem? (i := 82) rfl)) g2 ?_
  refine y_ifc (e_244 (144, .ifCond .ge 13, 3) (List.mem_of_getElem? (i := 83) rfl)) rfl (fun _ => at157) (fun hb => ?_)
  have t0 := y_hI.2.2.2.2.2.1 hb
  refine y_iln (e_244 (147, .iload_n 3, 1) (List.mem_of_getElem? (i := 84) rfl)) g3 ?_
  refine y_ifc (e_244 (148, .ifCond .ge 9, 3) (List.mem_of_getElem? (i := 85) rfl)) rfl (fun _ => at157) (fun hb => ?_)
  have m0 := y_hI.2.2.2.2.2.1 hb
  rcases hsome with z | z
  · have := ht.mpr z
    rw [show (0 : Int32).toInt = 0 from rfl] at t0
    omega
  · have := hm.mpr z
    rw [show (0 : Int32).toInt = 0 from rfl] at m0
    omega
set_option maxHeartbeats 2000000 in
set_option maxRecDepth 100000 in
theorem lm_n40 (h : MS th0 349 350 352 354 355 f n lim p tok at9 sp num wd hf nf on G) (l32 : x_sl G 349 32 = some (.int (Int32.ofNat k))) (hk : k ≤ 40) (s6 : x_sl G 349 6 = some (.ref 351)) (t36 : th0[351]? = some 36) (e3 : x_sl G 351 3 = some (.int nt)) (e5 : x_sl G 351 5 = some (.int nn)) (c0 : 0 ≤ nt.toInt ∧ nt.toInt ≤ 8) (c1 : 0 ≤ nn.toInt ∧ nn.toInt ≤ 4) (hn : (tok = Int32.ofInt 1 ∧ ∀ x : Nat, x < 25 → wd ≠ t_W x)) (hsome : (∃ i : Nat, (i : Int) < nt.toInt ∧ nf (0 + i) = wd) ∨ (∃ i : Nat, (i : Int) < nn.toInt ∧ nf (12 + i) = wd)) (h40 : k = 40) : x_Gd xs L J (d + 3) m_244 (fun r G' => r = some (.int 0) ∧ x_sl G' 349 15 = some (.int (Int32.ofInt 4))) 0 (lv_args 0 [.ref 349]) [] G := by
  subst h40
  refine lm_n157 h l32 hk s6 t36 e3 e5 c0 c1 hn hsome (fun lv j t m rw g0 g1 g2 g3 ej k8 tr ht hm => ?_)
  refine y_aln (e_244 (157, .aload_n 0, 1) (List.mem_of_getElem? (i := 90) rfl)) g0 ?_
  refine y_getf h.1.I h.1.t (e_244 (158, .getfield 356, 3) (List.mem_of_getElem? (i := 91) rfl)) u_17_356 ⟨rfl, rfl⟩ l32 ?_
  refine y_st (e_244 (161, .bipush 40, 2) (List.mem_of_getElem? (i := 92) rfl)) ⟨rfl, rfl, rfl, rfl⟩ ?_
  refine y_icm (e_244 (163, .if_icmp .ne 9, 3) (List.mem_of_getElem? (i := 93) rfl)) rfl (fun hb => absurd (show Int32.ofNat 40 = (Int8.ofInt 40).toInt32 from rfl) (y_hI.2.2.1 hb)) (fun _ => ?_)
  refine y_aln (e_244 (166, .aload_n 0, 1) (List.mem_of_getElem? (i := 94) rfl)) g0 ?_
  refine y_st (e_244 (167, .iconst 4, 1) (List.mem_of_getElem? (i := 95) rfl)) ⟨rfl, rfl, rfl, rfl⟩ ?_
  refine y_c2 (K' := _) (e_244 (168, .invokevirtual 167, 3) (List.mem_of_getElem? (i := 96) rfl)) ⟨rfl, rfl, rfl⟩ t_17_167 ⟨by decide, by decide, by decide, by decide⟩ m_171_ok rfl (by decide) (y_recv h.1.I h.1.t ⟨rfl, rfl⟩) (Nat.le_of_ble_eq_true rfl) (Nat.le_of_ble_eq_true rfl) (k_bad h _) (fun r1 Gc hc1 => ?_)
  obtain ⟨rfl, hc2⟩ := hc1
  simp only [Option.toList_some, Option.toList_none, List.cons_append, List.nil_append]
  exact y_ret (e_244 (171, .ireturn, 1) (List.mem_of_getElem? (i := 97) rfl)) ⟨rfl, y_rb (Or.inl rfl)⟩ ⟨rfl, hc2.2⟩
set_option maxHeartbeats 2000000 in
set_option maxRecDepth 100000 in
theorem lm_n193 (h : MS th0 349 350 352 354 355 f n lim p tok at9 sp num wd hf nf on G) (l32 : x_sl G 349 32 = some (.int (Int32.ofNat k))) (hk : k ≤ 40) (s6 : x_sl G 349 6 = some (.ref 351)) (t36 : th0[351]? = some 36) (e3 : x_sl G 351 3 = some (.int nt)) (e5 : x_sl G 351 5 = some (.int nn)) (c0 : 0 ≤ nt.toInt ∧ nt.toInt ≤ 8) (c1 : 0 ≤ nn.toInt ∧ nn.toInt ≤ 4) (hn : (tok = Int32.ofInt 1 ∧ ∀ x : Nat, x < 25 → wd ≠ t_W x)) (k40 : k < 40) (hsome : (∃ i : Nat, (i : Int) < nt.toInt ∧ nf (0 + i) = wd) ∨ (∃ i : Nat, (i : Int) < nn.toInt ∧ nf (12 + i) = wd)) (hN : NXm f n lim p num wd p2 tok2 at2 sp2 num2 wd2) (hk193 : ∀ (G2 : List pE) (lv : pL) (j t m : Int32) (rw : Nat), pm_get lv 0 = some (.ref 349) → pm_get lv 1 = some (.int j) → pm_get lv 3 = some (.int m) → j.toInt = 3 * (k : Int) → x_sl G2 349 8 = some (.ref rw) → th0[rw]? = some 38 → (0 ≤ m.toInt ↔ ∃ i : Nat, (i : Int) < nn.toInt ∧ nf (12 + i) = wd) → MS th0 349 350 352 354 355 f n lim p2 tok2 at2 sp2 num2 wd2 hf nf on G2 → x_Gd xs L J (d + 3) m_244 K 193 lv [] G2) : x_Gd xs L J (d + 3) m_244 K 0 (lv_args 0 [.ref 349]) [] G := by
  have n40 : Int32.ofNat k ≠ (Int8.ofInt 40).toInt32 := fun z => by
    have := congrArg Int32.toInt z
    rw [s_toI (by omega), show ((Int8.ofInt 40).toInt32).toInt = 40 from rfl] at this
    omega
  refine lm_n157 h l32 hk s6 t36 e3 e5 c0 c1 hn hsome (fun lv j t m rw g0 g1 g2 g3 ej k8 tr ht hm => ?_)
  have nrw := th0_rw rw tr
  have ej1 : (j + Int32.ofInt 1).toInt = 3 * (k : Int) + 1 := by rw [y_add1 (t := j) (by omega)]; omega
  refine y_aln (e_244 (157, .aload_n 0, 1) (List.mem_of_getElem? (i := 90) rfl)) g0 ?_
  refine y_getf h.1.I h.1.t (e_244 (158, .getfield 356, 3) (List.mem_of_getElem? (i := 91) rfl)) u_17_356 ⟨rfl, rfl⟩ l32 ?_
  refine y_st (e_244 (161, .bipush 40, 2) (List.mem_of_getElem? (i := 92) rfl)) ⟨rfl, rfl, rfl, rfl⟩ ?_
  refine y_icm (e_244 (163, .if_icmp .ne 9, 3) (List.mem_of_getElem? (i := 93) rfl)) rfl (fun _ => ?_) (fun hb => absurd (y_hI.2.2.2.1 hb) n40)
  refine y_aln (e_244 (172, .aload_n 0, 1) (List.mem_of_getElem? (i := 98) rfl)) g0 ?_
  refine y_getf h.1.I h.1.t (e_244 (173, .getfield 40, 3) (List.mem_of_getElem? (i := 99) rfl)) u_17_40 ⟨rfl, rfl⟩ k8 ?_
  refine y_iln (e_244 (176, .iload_n 1, 1) (List.mem_of_getElem? (i := 100) rfl)) g1 ?_
  refine y_st (e_244 (177, .iconst 1, 1) (List.mem_of_getElem? (i := 101) rfl)) ⟨rfl, rfl, rfl, rfl⟩ ?_
  refine y_st (e_244 (178, .iadd, 1) (List.mem_of_getElem? (i := 102) rfl)) ⟨rfl, rfl, rfl, rfl⟩ ?_
  have at188 : ∀ x : Int32, x_Gd xs L J (d + 3) m_244 K 188 lv (.int x :: .int (j + Int32.ofInt 1) :: .ref rw :: []) G := fun x => by
    refine y_iast h.1.I tr (e_244 (188, .iastore, 1) (List.mem_of_getElem? (i := 108) rfl)) ⟨rfl, rfl⟩ ⟨by omega, by show _ < (135 : Int); omega⟩ (fun G1 u1 => ?_)
    have h1 := h.arr u1 tr (h.1.I.upd u1 tr (y_okA (by rw [show (x_tb 38).2.2.2 = [(135, ((0 : Nat), (-2147483648 : Int), (2147483647 : Int)))] from rfl]; exact y_one (by omega))))
    refine y_aln (e_244 (189, .aload_n 0, 1) (List.mem_of_getElem? (i := 109) rfl)) g0 ?_
    refine y_c1 (K' := _) (e_244 (190, .invokevirtual 170, 3) (List.mem_of_getElem? (i := 110) rfl)) ⟨rfl, rfl, rfl⟩ t_17_170 ⟨by decide, by decide, by decide, by decide⟩ m_163_ok rfl (by decide) (y_recv h1.1.I h1.1.t ⟨rfl, rfl⟩) (Nat.le_of_ble_eq_true rfl) (Nat.le_of_ble_eq_true rfl) (hN _ _ _ _ _ _ _ _ _ _ _ _ h1.1) (fun r1 Gc hc1 => ?_)
    obtain ⟨rfl, hc2⟩ := hc1
    simp only [Option.toList_some, Option.toList_none, List.cons_append, List.nil_append]
    exact hk193 Gc lv j t m rw g0 g1 g3 ej ((hc2.ot 349 8 (Or.inr (by decide))).trans (by rw [u1.2.1, if_neg (fun z => nrw.1 z.1.symm)]; exact k8)) tr hm (h1.nxt hc2)
  refine y_iln (e_244 (179, .iload_n 2, 1) (List.mem_of_getElem? (i := 103) rfl)) g2 ?_
  refine y_ifc (e_244 (180, .ifCond .ge 7, 3) (List.mem_of_getElem? (i := 104) rfl)) rfl (fun _ => ?_) (fun _ => ?_)
  · refine y_iln (e_244 (187, .iload_n 2, 1) (List.mem_of_getElem? (i := 107) rfl)) g2 ?_
    exact at188 t
  · refine y_iln (e_244 (183, .iload_n 3, 1) (List.mem_of_getElem? (i := 105) rfl)) g3 ?_
    refine y_st (e_244 (184, .goto 4, 3) (List.mem_of_getElem? (i := 106) rfl)) ⟨rfl, rfl, rfl, rfl⟩ ?_
    exact at188 m
set_option maxHeartbeats 2000000 in
set_option maxRecDepth 100000 in
theorem lm_t0 (h : MS th0 349 350 352 354 355 f n lim p tok at9 sp num wd hf nf on G) (l32 : x_sl G 349 32 = some (.int (Int32.ofNat k))) (hk : k ≤ 40) (s6 : x_sl G 349 6 = some (.ref 351)) (t36 : th0[351]? = some 36) (e3 : x_sl G 351 3 = some (.int nt)) (e5 : x_sl G 351 5 = some (.int nn)) (c0 : 0 ≤ nt.toInt ∧ nt.toInt ≤ 8) (c1 : 0 ≤ nn.toInt ∧ nn.toInt ≤ 4) (hn : (tok = Int32.ofInt 1 ∧ ∀ x : Nat, x < 25 → wd ≠ t_W x)) (hsome : (∃ i : Nat, (i : Int) < nt.toInt ∧ nf (0 + i) = wd) ∨ (∃ i : Nat, (i : Int) < nn.toInt ∧ nf (12 + i) = wd)) (k40 : k < 40) (hN : NXm f n lim p num wd p2 tok2 at2 sp2 num2 wd2) (hm0 : ¬ ∃ i : Nat, (i : Int) < nn.toInt ∧ nf (12 + i) = wd) (w10 : ¬ (tok2 = Int32.ofInt 1 ∧ wd2 = t_W 10)) (w11 : ¬ (tok2 = Int32.ofInt 1 ∧ wd2 = t_W 11)) : x_Gd xs L J (d + 3) m_244 (fun r G' => r = some (.int 0) ∧ x_sl G' 349 15 = some (.int (Int32.ofInt 1))) 0 (lv_args 0 [.ref 349]) [] G := by
  refine lm_n193 h l32 hk s6 t36 e3 e5 c0 c1 hn k40 hsome hN (fun G2 lv j t m rw g0 g1 g3 ej k8 tr hm h2 => ?_)
  refine y_iln (e_244 (193, .iload_n 3, 1) (List.mem_of_getElem? (i := 111) rfl)) g3 ?_
  refine y_ifc (e_244 (194, .ifCond .lt 56, 3) (List.mem_of_getElem? (i := 112) rfl)) rfl (fun _ => ?_) (fun hb => absurd (hm.mp (y_hI.2.2.2.2.2.2.2.2.2.1 hb)) hm0)
  refine y_aln (e_244 (250, .aload_n 0, 1) (List.mem_of_getElem? (i := 145) rfl)) g0 ?_
  refine y_st (e_244 (251, .ldc2_w 98, 3) (List.mem_of_getElem? (i := 146) rfl)) ⟨rfl, rfl, rfl, rfl⟩ ?_
  refine y_c2 (K' := _) (e_244 (254, .invokevirtual 198, 3) (List.mem_of_getElem? (i := 147) rfl)) ⟨rfl, rfl, rfl⟩ t_17_198 ⟨by decide, by decide, by decide, by decide⟩ m_168_ok rfl (by decide) (y_recv h2.1.I h2.1.t ⟨rfl, rfl⟩) (Nat.le_of_ble_eq_true rfl) (Nat.le_of_ble_eq_true rfl) (k_isWord h2 (t_W 10)) (fun r1 Gc hc1 => ?_)
  obtain ⟨rfl, rfl⟩ := hc1
  simp only [Option.toList_some, Option.toList_none, List.cons_append, List.nil_append]
  rw [if_neg w10]
  refine y_ifc (e_244 (257, .ifCond .ne 19, 3) (List.mem_of_getElem? (i := 148) rfl)) rfl (fun hb => absurd hb (by decide)) (fun _ => ?_)
  refine y_aln (e_244 (260, .aload_n 0, 1) (List.mem_of_getElem? (i := 149) rfl)) g0 ?_
  refine y_st (e_244 (261, .ldc2_w 100, 3) (List.mem_of_getElem? (i := 150) rfl)) ⟨rfl, rfl, rfl, rfl⟩ ?_
  refine y_c2 (K' := _) (e_244 (264, .invokevirtual 198, 3) (List.mem_of_getElem? (i := 151) rfl)) ⟨rfl, rfl, rfl⟩ t_17_198 ⟨by decide, by decide, by decide, by decide⟩ m_168_ok rfl (by decide) (y_recv h2.1.I h2.1.t ⟨rfl, rfl⟩) (Nat.le_of_ble_eq_true rfl) (Nat.le_of_ble_eq_true rfl) (k_isWord h2 (t_W 11)) (fun r1 Gc hc1 => ?_)
  obtain ⟨rfl, rfl⟩ := hc1
  simp only [Option.toList_some, Option.toList_none, List.cons_append, List.nil_append]
  rw [if_neg w11]
  refine y_ifc (e_244 (267, .ifCond .ne 9, 3) (List.mem_of_getElem? (i := 152) rfl)) rfl (fun hb => absurd hb (by decide)) (fun _ => ?_)
  refine y_aln (e_244 (270, .aload_n 0, 1) (List.mem_of_getElem? (i := 153) rfl)) g0 ?_
  refine y_st (e_244 (271, .iconst 1, 1) (List.mem_of_getElem? (i := 154) rfl)) ⟨rfl, rfl, rfl, rfl⟩ ?_
  refine y_c2 (K' := _) (e_244 (272, .invokevirtual 167, 3) (List.mem_of_getElem? (i := 155) rfl)) ⟨rfl, rfl, rfl⟩ t_17_167 ⟨by decide, by decide, by decide, by decide⟩ m_171_ok rfl (by decide) (y_recv h2.1.I h2.1.t ⟨rfl, rfl⟩) (Nat.le_of_ble_eq_true rfl) (Nat.le_of_ble_eq_true rfl) (k_bad h2 _) (fun r1 Gc hc1 => ?_)
  obtain ⟨rfl, hc9⟩ := hc1
  simp only [Option.toList_some, Option.toList_none, List.cons_append, List.nil_append]
  exact y_ret (e_244 (275, .ireturn, 1) (List.mem_of_getElem? (i := 156) rfl)) ⟨rfl, y_rb (Or.inl rfl)⟩ ⟨rfl, hc9.2⟩
set_option maxHeartbeats 2000000 in
set_option maxRecDepth 100000 in
theorem lm_t1 (h : MS th0 349 350 352 354 355 f n lim p tok at9 sp num wd hf nf on G) (l32 : x_sl G 349 32 = some (.int (Int32.ofNat k))) (hk : k ≤ 40) (s6 : x_sl G 349 6 = some (.ref 351)) (t36 : th0[351]? = some 36) (e3 : x_sl G 351 3 = some (.int nt)) (e5 : x_sl G 351 5 = some (.int nn)) (c0 : 0 ≤ nt.toInt ∧ nt.toInt ≤ 8) (c1 : 0 ≤ nn.toInt ∧ nn.toInt ≤ 4) (hn : (tok = Int32.ofInt 1 ∧ ∀ x : Nat, x < 25 → wd ≠ t_W x)) (hsome : (∃ i : Nat, (i : Int) < nt.toInt ∧ nf (0 + i) = wd) ∨ (∃ i : Nat, (i : Int) < nn.toInt ∧ nf (12 + i) = wd)) (k40 : k < 40) (hN : NXm f n lim p num wd p2 tok2 at2 sp2 num2 wd2) (hm0 : ¬ ∃ i : Nat, (i : Int) < nn.toInt ∧ nf (12 + i) = wd) (hw : (tok2 = Int32.ofInt 1 ∧ wd2 = t_W 10) ∨ (tok2 = Int32.ofInt 1 ∧ wd2 = t_W 11)) (hN2 : NXm f n lim p2 num2 wd2 p3 tok3 at3 sp3 num3 wd3) : x_Gd xs L J (d + 3) m_244 (fun r G' => r = some (.int 1) ∧ MS th0 349 350 352 354 355 f n lim p3 tok3 at3 sp3 num3 wd3 hf nf on G') 0 (lv_args 0 [.ref 349]) [] G := by
  refine lm_n193 h l32 hk s6 t36 e3 e5 c0 c1 hn k40 hsome hN (fun G2 lv j t m rw g0 g1 g3 ej k8 tr hm h2 => ?_)
  refine y_iln (e_244 (193, .iload_n 3, 1) (List.mem_of_getElem? (i := 111) rfl)) g3 ?_
  refine y_ifc (e_244 (194, .ifCond .lt 56, 3) (List.mem_of_getElem? (i := 112) rfl)) rfl (fun _ => ?_) (fun hb => absurd (hm.mp (y_hI.2.2.2.2.2.2.2.2.2.1 hb)) hm0)
  have at276 : x_Gd xs L J (d + 3) m_244 (fun r G' => r = some (.int 1) ∧ MS th0 349 350 352 354 355 f n lim p3 tok3 at3 sp3 num3 wd3 hf nf on G') 276 lv [] G2 := by
    refine y_aln (e_244 (276, .aload_n 0, 1) (List.mem_of_getElem? (i := 157) rfl)) g0 ?_
    refine y_getf h2.1.I h2.1.t (e_244 (277, .getfield 40, 3) (List.mem_of_getElem? (i := 158) rfl)) u_17_40 ⟨rfl, rfl⟩ k8 ?_
    refine y_iln (e_244 (280, .iload_n 1, 1) (List.mem_of_getElem? (i := 159) rfl)) g1 ?_
    have at296 : ∀ x : Int32, x_Gd xs L J (d + 3) m_244 (fun r G' => r = some (.int 1) ∧ MS th0 349 350 352 354 355 f n lim p3 tok3 at3 sp3 num3 wd3 hf nf on G') 296 lv (.int x :: .int j :: .ref rw :: []) G2 := fun x => by
      refine y_iast h2.1.I tr (e_244 (296, .iastore, 1) (List.mem_of_getElem? (i := 167) rfl)) ⟨rfl, rfl⟩ ⟨by omega, by show _ < (135 : Int); omega⟩ (fun G3 u3 => ?_)
      have h3 := h2.arr u3 tr (h2.1.I.upd u3 tr (y_okA (by rw [show (x_tb 38).2.2.2 = [(135, ((0 : Nat), (-2147483648 : Int), (2147483647 : Int)))] from rfl]; exact y_one (by omega))))
      refine y_aln (e_244 (297, .aload_n 0, 1) (List.mem_of_getElem? (i := 168) rfl)) g0 ?_
      refine y_c1 (K' := _) (e_244 (298, .invokevirtual 170, 3) (List.mem_of_getElem? (i := 169) rfl)) ⟨rfl, rfl, rfl⟩ t_17_170 ⟨by decide, by decide, by decide, by decide⟩ m_163_ok rfl (by decide) (y_recv h3.1.I h3.1.t ⟨rfl, rfl⟩) (Nat.le_of_ble_eq_true rfl) (Nat.le_of_ble_eq_true rfl) (hN2 _ _ _ _ _ _ _ _ _ _ _ _ h3.1) (fun r1 Gc hc1 => ?_)
      obtain ⟨rfl, hc2⟩ := hc1
      simp only [Option.toList_some, Option.toList_none, List.cons_append, List.nil_append]
      refine y_st (e_244 (301, .iconst 1, 1) (List.mem_of_getElem? (i := 170) rfl)) ⟨rfl, rfl, rfl, rfl⟩ ?_
      exact y_ret (e_244 (302, .ireturn, 1) (List.mem_of_getElem? (i := 171) rfl)) ⟨rfl, y_rb (Or.inr rfl)⟩ ⟨rfl, h3.nxt hc2⟩
    refine y_aln (e_244 (281, .aload_n 0, 1) (List.mem_of_getElem? (i := 160) rfl)) g0 ?_
    refine y_st (e_244 (282, .ldc2_w 98, 3) (List.mem_of_getElem? (i := 161) rfl)) ⟨rfl, rfl, rfl, rfl⟩ ?_
    refine y_c2 (K' := _) (e_244 (285, .invokevirtual 198, 3) (List.mem_of_getElem? (i := 162) rfl)) ⟨rfl, rfl, rfl⟩ t_17_198 ⟨by decide, by decide, by decide, by decide⟩ m_168_ok rfl (by decide) (y_recv h2.1.I h2.1.t ⟨rfl, rfl⟩) (Nat.le_of_ble_eq_true rfl) (Nat.le_of_ble_eq_true rfl) (k_isWord h2 (t_W 10)) (fun r1 Gc hc1 => ?_)
    obtain ⟨rfl, rfl⟩ := hc1
    simp only [Option.toList_some, Option.toList_none, List.cons_append, List.nil_append]
    by_cases w10 : (tok2 = Int32.ofInt 1 ∧ wd2 = t_W 10)
    · rw [if_pos w10]
      refine y_ifc (e_244 (288, .ifCond .eq 7, 3) (List.mem_of_getElem? (i := 163) rfl)) rfl (fun hb => absurd hb (by decide)) (fun _ => ?_)
      refine y_st (e_244 (291, .iconst 0, 1) (List.mem_of_getElem? (i := 164) rfl)) ⟨rfl, rfl, rfl, rfl⟩ ?_
      refine y_st (e_244 (292, .goto 4, 3) (List.mem_of_getElem? (i := 165) rfl)) ⟨rfl, rfl, rfl, rfl⟩ ?_
      exact at296 _
    · rw [if_neg w10]
      refine y_ifc (e_244 (288, .ifCond .eq 7, 3) (List.mem_of_getElem? (i := 163) rfl)) rfl (fun _ => ?_) (fun hb => absurd hb (by decide))
      refine y_st (e_244 (295, .iconst 1, 1) (List.mem_of_getElem? (i := 166) rfl)) ⟨rfl, rfl, rfl, rfl⟩ ?_
      exact at296 _
  by_cases w10 : (tok2 = Int32.ofInt 1 ∧ wd2 = t_W 10)
  · refine y_aln (e_244 (250, .aload_n 0, 1) (List.mem_of_getElem? (i := 145) rfl)) g0 ?_
    refine y_st (e_244 (251, .ldc2_w 98, 3) (List.mem_of_getElem? (i := 146) rfl)) ⟨rfl, rfl, rfl, rfl⟩ ?_
    refine y_c2 (K' := _) (e_244 (254, .invokevirtual 198, 3) (List.mem_of_getElem? (i := 147) rfl)) ⟨rfl, rfl, rfl⟩ t_17_198 ⟨by decide, by decide, by decide, by decide⟩ m_168_ok rfl (by decide) (y_recv h2.1.I h2.1.t ⟨rfl, rfl⟩) (Nat.le_of_ble_eq_true rfl) (Nat.le_of_ble_eq_true rfl) (k_isWord h2 (t_W 10)) (fun r1 Gc hc1 => ?_)
    obtain ⟨rfl, rfl⟩ := hc1
    simp only [Option.toList_some, Option.toList_none, List.cons_append, List.nil_append]
    rw [if_pos w10]
    exact y_ifc (e_244 (257, .ifCond .ne 19, 3) (List.mem_of_getElem? (i := 148) rfl)) rfl (fun _ => at276) (fun hb => absurd hb (by decide))
  have w11 : (tok2 = Int32.ofInt 1 ∧ wd2 = t_W 11) := hw.resolve_left w10
  refine y_aln (e_244 (250, .aload_n 0, 1) (List.mem_of_getElem? (i := 145) rfl)) g0 ?_
  refine y_st (e_244 (251, .ldc2_w 98, 3) (List.mem_of_getElem? (i := 146) rfl)) ⟨rfl, rfl, rfl, rfl⟩ ?_
  refine y_c2 (K' := _) (e_244 (254, .invokevirtual 198, 3) (List.mem_of_getElem? (i := 147) rfl)) ⟨rfl, rfl, rfl⟩ t_17_198 ⟨by decide, by decide, by decide, by decide⟩ m_168_ok rfl (by decide) (y_recv h2.1.I h2.1.t ⟨rfl, rfl⟩) (Nat.le_of_ble_eq_true rfl) (Nat.le_of_ble_eq_true rfl) (k_isWord h2 (t_W 10)) (fun r1 Gc hc1 => ?_)
  obtain ⟨rfl, rfl⟩ := hc1
  simp only [Option.toList_some, Option.toList_none, List.cons_append, List.nil_append]
  rw [if_neg w10]
  refine y_ifc (e_244 (257, .ifCond .ne 19, 3) (List.mem_of_getElem? (i := 148) rfl)) rfl (fun hb => absurd hb (by decide)) (fun _ => ?_)
  refine y_aln (e_244 (260, .aload_n 0, 1) (List.mem_of_getElem? (i := 149) rfl)) g0 ?_
  refine y_st (e_244 (261, .ldc2_w 100, 3) (List.mem_of_getElem? (i := 150) rfl)) ⟨rfl, rfl, rfl, rfl⟩ ?_
  refine y_c2 (K' := _) (e_244 (264, .invokevirtual 198, 3) (List.mem_of_getElem? (i := 151) rfl)) ⟨rfl, rfl, rfl⟩ t_17_198 ⟨by decide, by decide, by decide, by decide⟩ m_168_ok rfl (by decide) (y_recv h2.1.I h2.1.t ⟨rfl, rfl⟩) (Nat.le_of_ble_eq_true rfl) (Nat.le_of_ble_eq_true rfl) (k_isWord h2 (t_W 11)) (fun r1 Gc hc1 => ?_)
  obtain ⟨rfl, rfl⟩ := hc1
  simp only [Option.toList_some, Option.toList_none, List.cons_append, List.nil_append]
  rw [if_pos w11]
  exact y_ifc (e_244 (267, .ifCond .ne 9, 3) (List.mem_of_getElem? (i := 152) rfl)) rfl (fun _ => at276) (fun hb => absurd hb (by decide))
set_option maxHeartbeats 2000000 in
set_option maxRecDepth 100000 in
theorem lm_m0 (h : MS th0 349 350 352 354 355 f n lim p tok at9 sp num wd hf nf on G) (l32 : x_sl G 349 32 = some (.int (Int32.ofNat k))) (hk : k ≤ 40) (s6 : x_sl G 349 6 = some (.ref 351)) (t36 : th0[351]? = some 36) (e3 : x_sl G 351 3 = some (.int nt)) (e5 : x_sl G 351 5 = some (.int nn)) (c0 : 0 ≤ nt.toInt ∧ nt.toInt ≤ 8) (c1 : 0 ≤ nn.toInt ∧ nn.toInt ≤ 4) (hn : (tok = Int32.ofInt 1 ∧ ∀ x : Nat, x < 25 → wd ≠ t_W x)) (hsome : (∃ i : Nat, (i : Int) < nt.toInt ∧ nf (0 + i) = wd) ∨ (∃ i : Nat, (i : Int) < nn.toInt ∧ nf (12 + i) = wd)) (k40 : k < 40) (hN : NXm f n lim p num wd p2 tok2 at2 sp2 num2 wd2) (hm0 : ∃ i : Nat, (i : Int) < nn.toInt ∧ nf (12 + i) = wd) (w12 : ¬ (tok2 = Int32.ofInt 1 ∧ wd2 = t_W 12)) : x_Gd xs L J (d + 3) m_244 (fun r G' => r = some (.int 0) ∧ x_sl G' 349 15 = some (.int (Int32.ofInt 1))) 0 (lv_args 0 [.ref 349]) [] G := by
  refine lm_n193 h l32 hk s6 t36 e3 e5 c0 c1 hn k40 hsome hN (fun G2 lv j t m rw g0 g1 g3 ej k8 tr hm h2 => ?_)
  refine y_iln (e_244 (193, .iload_n 3, 1) (List.mem_of_getElem? (i := 111) rfl)) g3 ?_
  refine y_ifc (e_244 (194, .ifCond .lt 56, 3) (List.mem_of_getElem? (i := 112) rfl)) rfl (fun hb => ?_) (fun _ => ?_)
  · have z0 := y_hI.2.2.2.2.2.2.2.2.1 hb
    rw [show (0 : Int32).toInt = 0 from rfl] at z0
    have := hm.mpr hm0
    omega
  refine y_aln (e_244 (197, .aload_n 0, 1) (List.mem_of_getElem? (i := 113) rfl)) g0 ?_
  refine y_st (e_244 (198, .ldc2_w 102, 3) (List.mem_of_getElem? (i := 114) rfl)) ⟨rfl, rfl, rfl, rfl⟩ ?_
  refine y_c2 (K' := _) (e_244 (201, .invokevirtual 198, 3) (List.mem_of_getElem? (i := 115) rfl)) ⟨rfl, rfl, rfl⟩ t_17_198 ⟨by decide, by decide, by decide, by decide⟩ m_168_ok rfl (by decide) (y_recv h2.1.I h2.1.t ⟨rfl, rfl⟩) (Nat.le_of_ble_eq_true rfl) (Nat.le_of_ble_eq_true rfl) (k_isWord h2 (t_W 12)) (fun r1 Gc hc1 => ?_)
  obtain ⟨rfl, rfl⟩ := hc1
  simp only [Option.toList_some, Option.toList_none, List.cons_append, List.nil_append]
  rw [if_neg w12]
  refine y_ifc (e_244 (204, .ifCond .ne 9, 3) (List.mem_of_getElem? (i := 116) rfl)) rfl (fun hb => absurd hb (by decide)) (fun _ => ?_)
  refine y_aln (e_244 (207, .aload_n 0, 1) (List.mem_of_getElem? (i := 117) rfl)) g0 ?_
  refine y_st (e_244 (208, .iconst 1, 1) (List.mem_of_getElem? (i := 118) rfl)) ⟨rfl, rfl, rfl, rfl⟩ ?_
  refine y_c2 (K' := _) (e_244 (209, .invokevirtual 167, 3) (List.mem_of_getElem? (i := 119) rfl)) ⟨rfl, rfl, rfl⟩ t_17_167 ⟨by decide, by decide, by decide, by decide⟩ m_171_ok rfl (by decide) (y_recv h2.1.I h2.1.t ⟨rfl, rfl⟩) (Nat.le_of_ble_eq_true rfl) (Nat.le_of_ble_eq_true rfl) (k_bad h2 _) (fun r1 Gc hc1 => ?_)
  obtain ⟨rfl, hc9⟩ := hc1
  simp only [Option.toList_some, Option.toList_none, List.cons_append, List.nil_append]
  exact y_ret (e_244 (212, .ireturn, 1) (List.mem_of_getElem? (i := 120) rfl)) ⟨rfl, y_rb (Or.inl rfl)⟩ ⟨rfl, hc9.2⟩
set_option maxHeartbeats 2000000 in
set_option maxRecDepth 100000 in
theorem lm_m1 (h : MS th0 349 350 352 354 355 f n lim p tok at9 sp num wd hf nf on G) (l32 : x_sl G 349 32 = some (.int (Int32.ofNat k))) (hk : k ≤ 40) (s6 : x_sl G 349 6 = some (.ref 351)) (t36 : th0[351]? = some 36) (e3 : x_sl G 351 3 = some (.int nt)) (e5 : x_sl G 351 5 = some (.int nn)) (c0 : 0 ≤ nt.toInt ∧ nt.toInt ≤ 8) (c1 : 0 ≤ nn.toInt ∧ nn.toInt ≤ 4) (hn : (tok = Int32.ofInt 1 ∧ ∀ x : Nat, x < 25 → wd ≠ t_W x)) (hsome : (∃ i : Nat, (i : Int) < nt.toInt ∧ nf (0 + i) = wd) ∨ (∃ i : Nat, (i : Int) < nn.toInt ∧ nf (12 + i) = wd)) (k40 : k < 40) (hN : NXm f n lim p num wd p2 tok2 at2 sp2 num2 wd2) (hm0 : ∃ i : Nat, (i : Int) < nn.toInt ∧ nf (12 + i) = wd) (w12 : (tok2 = Int32.ofInt 1 ∧ wd2 = t_W 12)) (hN2 : NXm f n lim p2 num2 wd2 p3 tok3 at3 sp3 num3 wd3) (hno : tok3 ≠ Int32.ofInt 2 ∨ num3.toInt < 0 ∨ 19 < num3.toInt) : x_Gd xs L J (d + 3) m_244 (fun r G' => r = some (.int 0) ∧ x_sl G' 349 15 = some (.int (t_km tok3))) 0 (lv_args 0 [.ref 349]) [] G := by
  refine lm_n193 h l32 hk s6 t36 e3 e5 c0 c1 hn k40 hsome hN (fun G2 lv j t m rw g0 g1 g3 ej k8 tr hm h2 => ?_)
  refine y_iln (e_244 (193, .iload_n 3, 1) (List.mem_of_getElem? (i := 111) rfl)) g3 ?_
  refine y_ifc (e_244 (194, .ifCond .lt 56, 3) (List.mem_of_getElem? (i := 112) rfl)) rfl (fun hb => ?_) (fun _ => ?_)
  · have z0 := y_hI.2.2.2.2.2.2.2.2.1 hb
    rw [show (0 : Int32).toInt = 0 from rfl] at z0
    have := hm.mpr hm0
    omega
  refine y_aln (e_244 (197, .aload_n 0, 1) (List.mem_of_getElem? (i := 113) rfl)) g0 ?_
  refine y_st (e_244 (198, .ldc2_w 102, 3) (List.mem_of_getElem? (i := 114) rfl)) ⟨rfl, rfl, rfl, rfl⟩ ?_
  refine y_c2 (K' := _) (e_244 (201, .invokevirtual 198, 3) (List.mem_of_getElem? (i := 115) rfl)) ⟨rfl, rfl, rfl⟩ t_17_198 ⟨by decide, by decide, by decide, by decide⟩ m_168_ok rfl (by decide) (y_recv h2.1.I h2.1.t ⟨rfl, rfl⟩) (Nat.le_of_ble_eq_true rfl) (Nat.le_of_ble_eq_true rfl) (k_isWord h2 (t_W 12)) (fun r1 Gc hc1 => ?_)
  obtain ⟨rfl, rfl⟩ := hc1
  simp only [Option.toList_some, Option.toList_none, List.cons_append, List.nil_append]
  rw [if_pos w12]
  refine y_ifc (e_244 (204, .ifCond .ne 9, 3) (List.mem_of_getElem? (i := 116) rfl)) rfl (fun _ => ?_) (fun hb => absurd hb (by decide))
  refine y_aln (e_244 (213, .aload_n 0, 1) (List.mem_of_getElem? (i := 121) rfl)) g0 ?_
  refine y_getf h2.1.I h2.1.t (e_244 (214, .getfield 40, 3) (List.mem_of_getElem? (i := 122) rfl)) u_17_40 ⟨rfl, rfl⟩ k8 ?_
  refine y_iln (e_244 (217, .iload_n 1, 1) (List.mem_of_getElem? (i := 123) rfl)) g1 ?_
  refine y_st (e_244 (218, .iconst 2, 1) (List.mem_of_getElem? (i := 124) rfl)) ⟨rfl, rfl, rfl, rfl⟩ ?_
  refine y_iast h2.1.I tr (e_244 (219, .iastore, 1) (List.mem_of_getElem? (i := 125) rfl)) ⟨rfl, rfl⟩ ⟨by omega, by show _ < (135 : Int); omega⟩ (fun G3 u3 => ?_)
  have h3 := h2.arr u3 tr (h2.1.I.upd u3 tr (y_okA (by rw [show (x_tb 38).2.2.2 = [(135, ((0 : Nat), (-2147483648 : Int), (2147483647 : Int)))] from rfl]; exact y_one (by omega))))
  refine y_aln (e_244 (220, .aload_n 0, 1) (List.mem_of_getElem? (i := 126) rfl)) g0 ?_
  refine y_c1 (K' := _) (e_244 (221, .invokevirtual 170, 3) (List.mem_of_getElem? (i := 127) rfl)) ⟨rfl, rfl, rfl⟩ t_17_170 ⟨by decide, by decide, by decide, by decide⟩ m_163_ok rfl (by decide) (y_recv h3.1.I h3.1.t ⟨rfl, rfl⟩) (Nat.le_of_ble_eq_true rfl) (Nat.le_of_ble_eq_true rfl) (hN2 _ _ _ _ _ _ _ _ _ _ _ _ h3.1) (fun r1 Gc hc1 => ?_)
  obtain ⟨rfl, hc2⟩ := hc1
  simp only [Option.toList_some, Option.toList_none, List.cons_append, List.nil_append]
  have h4 := h3.nxt hc2
  refine y_aln (e_244 (224, .aload_n 0, 1) (List.mem_of_getElem? (i := 128) rfl)) g0 ?_
  refine y_st (e_244 (225, .iconst 0, 1) (List.mem_of_getElem? (i := 129) rfl)) ⟨rfl, rfl, rfl, rfl⟩ ?_
  refine y_st (e_244 (226, .bipush 19, 2) (List.mem_of_getElem? (i := 130) rfl)) ⟨rfl, rfl, rfl, rfl⟩ ?_
  refine y_c3 (K' := _) (e_244 (228, .invokevirtual 180, 3) (List.mem_of_getElem? (i := 131) rfl)) ⟨rfl, rfl, rfl⟩ t_17_180 ⟨by decide, by decide, by decide, by decide⟩ m_173_ok rfl (by decide) (y_recv h4.1.I h4.1.t ⟨rfl, rfl⟩) (Nat.le_of_ble_eq_true rfl) (Nat.le_of_ble_eq_true rfl) (k_takes_no h4 hno) (fun r1 Gc hc1 => ?_)
  obtain ⟨rfl, hc3⟩ := hc1
  simp only [Option.toList_some, Option.toList_none, List.cons_append, List.nil_append]
  refine y_ifc (e_244 (231, .ifCond .ne 5, 3) (List.mem_of_getElem? (i := 132) rfl)) rfl (fun hb => absurd hb (by decide)) (fun _ => ?_)
  refine y_st (e_244 (234, .iconst 0, 1) (List.mem_of_getElem? (i := 133) rfl)) ⟨rfl, rfl, rfl, rfl⟩ ?_
  exact y_ret (e_244 (235, .ireturn, 1) (List.mem_of_getElem? (i := 134) rfl)) ⟨rfl, y_rb (Or.inl rfl)⟩ ⟨rfl, hc3.2⟩
set_option maxHeartbeats 2000000 in
set_option maxRecDepth 100000 in
theorem lm_m2 (h : MS th0 349 350 352 354 355 f n lim p tok at9 sp num wd hf nf on G) (l32 : x_sl G 349 32 = some (.int (Int32.ofNat k))) (hk : k ≤ 40) (s6 : x_sl G 349 6 = some (.ref 351)) (t36 : th0[351]? = some 36) (e3 : x_sl G 351 3 = some (.int nt)) (e5 : x_sl G 351 5 = some (.int nn)) (c0 : 0 ≤ nt.toInt ∧ nt.toInt ≤ 8) (c1 : 0 ≤ nn.toInt ∧ nn.toInt ≤ 4) (hn : (tok = Int32.ofInt 1 ∧ ∀ x : Nat, x < 25 → wd ≠ t_W x)) (hsome : (∃ i : Nat, (i : Int) < nt.toInt ∧ nf (0 + i) = wd) ∨ (∃ i : Nat, (i : Int) < nn.toInt ∧ nf (12 + i) = wd)) (k40 : k < 40) (hN : NXm f n lim p num wd p2 tok2 at2 sp2 num2 wd2) (hm0 : ∃ i : Nat, (i : Int) < nn.toInt ∧ nf (12 + i) = wd) (w12 : (tok2 = Int32.ofInt 1 ∧ wd2 = t_W 12)) (hN2 : NXm f n lim p2 num2 wd2 p3 tok3 at3 sp3 num3 wd3) (hy : tok3 = Int32.ofInt 2 ∧ 0 ≤ num3.toInt ∧ num3.toInt ≤ 19) (hN3 : NXm f n lim p3 num3 wd3 p4 tok4 at4 sp4 num4 wd4) : x_Gd xs L J (d + 3) m_244 (fun r G' => r = some (.int 1) ∧ MS th0 349 350 352 354 355 f n lim p4 tok4 at4 sp4 num4 wd4 hf nf on G') 0 (lv_args 0 [.ref 349]) [] G := by
  refine lm_n193 h l32 hk s6 t36 e3 e5 c0 c1 hn k40 hsome hN (fun G2 lv j t m rw g0 g1 g3 ej k8 tr hm h2 => ?_)
  refine y_iln (e_244 (193, .iload_n 3, 1) (List.mem_of_getElem? (i := 111) rfl)) g3 ?_
  refine y_ifc (e_244 (194, .ifCond .lt 56, 3) (List.mem_of_getElem? (i := 112) rfl)) rfl (fun hb => ?_) (fun _ => ?_)
  · have z0 := y_hI.2.2.2.2.2.2.2.2.1 hb
    rw [show (0 : Int32).toInt = 0 from rfl] at z0
    have := hm.mpr hm0
    omega
  refine y_aln (e_244 (197, .aload_n 0, 1) (List.mem_of_getElem? (i := 113) rfl)) g0 ?_
  refine y_st (e_244 (198, .ldc2_w 102, 3) (List.mem_of_getElem? (i := 114) rfl)) ⟨rfl, rfl, rfl, rfl⟩ ?_
  refine y_c2 (K' := _) (e_244 (201, .invokevirtual 198, 3) (List.mem_of_getElem? (i := 115) rfl)) ⟨rfl, rfl, rfl⟩ t_17_198 ⟨by decide, by decide, by decide, by decide⟩ m_168_ok rfl (by decide) (y_recv h2.1.I h2.1.t ⟨rfl, rfl⟩) (Nat.le_of_ble_eq_true rfl) (Nat.le_of_ble_eq_true rfl) (k_isWord h2 (t_W 12)) (fun r1 Gc hc1 => ?_)
  obtain ⟨rfl, rfl⟩ := hc1
  simp only [Option.toList_some, Option.toList_none, List.cons_append, List.nil_append]
  rw [if_pos w12]
  refine y_ifc (e_244 (204, .ifCond .ne 9, 3) (List.mem_of_getElem? (i := 116) rfl)) rfl (fun _ => ?_) (fun hb => absurd hb (by decide))
  refine y_aln (e_244 (213, .aload_n 0, 1) (List.mem_of_getElem? (i := 121) rfl)) g0 ?_
  refine y_getf h2.1.I h2.1.t (e_244 (214, .getfield 40, 3) (List.mem_of_getElem? (i := 122) rfl)) u_17_40 ⟨rfl, rfl⟩ k8 ?_
  refine y_iln (e_244 (217, .iload_n 1, 1) (List.mem_of_getElem? (i := 123) rfl)) g1 ?_
  refine y_st (e_244 (218, .iconst 2, 1) (List.mem_of_getElem? (i := 124) rfl)) ⟨rfl, rfl, rfl, rfl⟩ ?_
  refine y_iast h2.1.I tr (e_244 (219, .iastore, 1) (List.mem_of_getElem? (i := 125) rfl)) ⟨rfl, rfl⟩ ⟨by omega, by show _ < (135 : Int); omega⟩ (fun G3 u3 => ?_)
  have h3 := h2.arr u3 tr (h2.1.I.upd u3 tr (y_okA (by rw [show (x_tb 38).2.2.2 = [(135, ((0 : Nat), (-2147483648 : Int), (2147483647 : Int)))] from rfl]; exact y_one (by omega))))
  refine y_aln (e_244 (220, .aload_n 0, 1) (List.mem_of_getElem? (i := 126) rfl)) g0 ?_
  refine y_c1 (K' := _) (e_244 (221, .invokevirtual 170, 3) (List.mem_of_getElem? (i := 127) rfl)) ⟨rfl, rfl, rfl⟩ t_17_170 ⟨by decide, by decide, by decide, by decide⟩ m_163_ok rfl (by decide) (y_recv h3.1.I h3.1.t ⟨rfl, rfl⟩) (Nat.le_of_ble_eq_true rfl) (Nat.le_of_ble_eq_true rfl) (hN2 _ _ _ _ _ _ _ _ _ _ _ _ h3.1) (fun r1 Gc hc1 => ?_)
  obtain ⟨rfl, hc2⟩ := hc1
  simp only [Option.toList_some, Option.toList_none, List.cons_append, List.nil_append]
  have h4 := h3.nxt hc2
  refine y_aln (e_244 (224, .aload_n 0, 1) (List.mem_of_getElem? (i := 128) rfl)) g0 ?_
  refine y_st (e_244 (225, .iconst 0, 1) (List.mem_of_getElem? (i := 129) rfl)) ⟨rfl, rfl, rfl, rfl⟩ ?_
  refine y_st (e_244 (226, .bipush 19, 2) (List.mem_of_getElem? (i := 130) rfl)) ⟨rfl, rfl, rfl, rfl⟩ ?_
  refine y_c3 (K' := _) (e_244 (228, .invokevirtual 180, 3) (List.mem_of_getElem? (i := 131) rfl)) ⟨rfl, rfl, rfl⟩ t_17_180 ⟨by decide, by decide, by decide, by decide⟩ m_173_ok rfl (by decide) (y_recv h4.1.I h4.1.t ⟨rfl, rfl⟩) (Nat.le_of_ble_eq_true rfl) (Nat.le_of_ble_eq_true rfl) (k_takes_yes h4 hy.1 hy.2.1 hy.2.2 hN3) (fun r1 Gc hc1 => ?_)
  obtain ⟨rfl, h5, n5⟩ := hc1
  simp only [Option.toList_some, Option.toList_none, List.cons_append, List.nil_append]
  refine y_ifc (e_244 (231, .ifCond .ne 5, 3) (List.mem_of_getElem? (i := 132) rfl)) rfl (fun _ => ?_) (fun hb => absurd hb (by decide))
  obtain ⟨rw, k8, tr⟩ := y_fref (i := 8) (u := 38) h5.1.I h5.1.t rfl
  have ej2 : (j + Int32.ofInt 2).toInt = 3 * (k : Int) + 2 := by rw [y_add (by rw [show (Int32.ofInt 2).toInt = 2 from rfl]; omega) (by rw [show (Int32.ofInt 2).toInt = 2 from rfl]; omega), show (Int32.ofInt 2).toInt = 2 from rfl]; omega
  refine y_aln (e_244 (236, .aload_n 0, 1) (List.mem_of_getElem? (i := 135) rfl)) g0 ?_
  refine y_getf h5.1.I h5.1.t (e_244 (237, .getfield 40, 3) (List.mem_of_getElem? (i := 136) rfl)) u_17_40 ⟨rfl, rfl⟩ k8 ?_
  refine y_iln (e_244 (240, .iload_n 1, 1) (List.mem_of_getElem? (i := 137) rfl)) g1 ?_
  refine y_st (e_244 (241, .iconst 2, 1) (List.mem_of_getElem? (i := 138) rfl)) ⟨rfl, rfl, rfl, rfl⟩ ?_
  refine y_st (e_244 (242, .iadd, 1) (List.mem_of_getElem? (i := 139) rfl)) ⟨rfl, rfl, rfl, rfl⟩ ?_
  refine y_aln (e_244 (243, .aload_n 0, 1) (List.mem_of_getElem? (i := 140) rfl)) g0 ?_
  refine y_getf h5.1.I h5.1.t (e_244 (244, .getfield 177, 3) (List.mem_of_getElem? (i := 141) rfl)) u_17_177 ⟨rfl, rfl⟩ n5 ?_
  refine y_iast h5.1.I tr (e_244 (247, .iastore, 1) (List.mem_of_getElem? (i := 142) rfl)) ⟨rfl, rfl⟩ ⟨by omega, by show _ < (135 : Int); omega⟩ (fun G6 u6 => ?_)
  have h6 := h5.arr u6 tr (h5.1.I.upd u6 tr (y_okA (by rw [show (x_tb 38).2.2.2 = [(135, ((0 : Nat), (-2147483648 : Int), (2147483647 : Int)))] from rfl]; exact y_one (by omega))))
  refine y_st (e_244 (248, .iconst 1, 1) (List.mem_of_getElem? (i := 143) rfl)) ⟨rfl, rfl, rfl, rfl⟩ ?_
  exact y_ret (e_244 (249, .ireturn, 1) (List.mem_of_getElem? (i := 144) rfl)) ⟨rfl, y_rb (Or.inr rfl)⟩ ⟨rfl, h6⟩
end LGM
