theorem t_17_202 : pm_ctab.find? (fun r => r.1 == 17 && r.2.1 == 202) = some (17, 202, 1, 169, 1505) := by decide +kernel
section MG6
variable {th : List Nat} {xs : Nat → Int32} {L J d am mb hb nb rb : Nat} {K : Option Value → List pE → Prop} {f : Nat → Int32} {G : List pE} {n lim : Int32} {lv : pL} {hf : Nat → Int32} {nf : Nat → Int64} {on : Int32} {p0 tok0 at0 sp0 num0 : Int32} {wd0 : Int64} {p1 tok1 at1 sp1 num1 : Int32} {wd1 : Int64} {p2 tok2 at2 sp2 num2 : Int32} {wd2 : Int64} {p3 tok3 at3 sp3 num3 : Int32} {wd3 : Int64} {p4 tok4 at4 sp4 num4 : Int32} {wd4 : Int64} {p5 tok5 at5 sp5 num5 : Int32} {wd5 : Int64} {p6 tok6 at6 sp6 num6 : Int32} {wd6 : Int64} {p7 tok7 at7 sp7 num7 : Int32} {wd7 : Int64}
theorem MS.cn (h : MS th am mb hb nb rb f n lim p0 tok0 at0 sp0 num0 wd0 hf nf on G) : (0 ≤ (hf 2).toInt ∧ (hf 2).toInt ≤ 4) ∧ (0 ≤ (hf 3).toInt ∧ (hf 3).toInt ≤ 8) ∧ (0 ≤ (hf 4).toInt ∧ (hf 4).toInt ≤ 4) ∧ (0 ≤ (hf 5).toInt ∧ (hf 5).toInt ≤ 4) :=
  ⟨y_fie (i := 2) (t := 37) h.T.I h.2.1 rfl (h.2.2.2.2.2.2.2.2.1 2 (by decide)), y_fie (i := 3) (t := 37) h.T.I h.2.1 rfl (h.2.2.2.2.2.2.2.2.1 3 (by decide)), y_fie (i := 4) (t := 37) h.T.I h.2.1 rfl (h.2.2.2.2.2.2.2.2.1 4 (by decide)), y_fie (i := 5) (t := 37) h.T.I h.2.1 rfl (h.2.2.2.2.2.2.2.2.1 5 (by decide))⟩
theorem t_37_p : ∀ i, i < 81 → 13 ≤ i ∧ i < 25 → x_at (x_tb 37).2.2.2 i = some ((0 : Nat), (-2147483648 : Int), (2147483647 : Int)) := by decide +kernel
theorem t_37_v : ∀ i, i < 81 → (25 ≤ i ∧ i < 33) ∨ (65 ≤ i ∧ i < 69) ∨ (73 ≤ i ∧ i < 77) → x_at (x_tb 37).2.2.2 i = some ((0 : Nat), (0 : Int), (1 : Int)) := by decide +kernel
theorem t_37_c : ∀ i, i < 81 → (33 ≤ i ∧ i < 41) ∨ (69 ≤ i ∧ i < 73) ∨ (77 ≤ i ∧ i < 81) → x_at (x_tb 37).2.2.2 i = some ((0 : Nat), (-2147483648 : Int), (2147483647 : Int)) := by decide +kernel
theorem t_37_w : ∀ i, i < 81 → 41 ≤ i ∧ i < 49 → x_at (x_tb 37).2.2.2 i = some ((0 : Nat), (0 : Int), (9 : Int)) := by decide +kernel
theorem t_37_k : ∀ i, i < 81 → 49 ≤ i ∧ i < 57 → x_at (x_tb 37).2.2.2 i = some ((0 : Nat), (-2147483648 : Int), (2147483647 : Int)) := by decide +kernel
theorem t_37_t : ∀ i, i < 81 → 57 ≤ i ∧ i < 65 → x_at (x_tb 37).2.2.2 i = some ((0 : Nat), (0 : Int), (1 : Int)) := by decide +kernel
set_option maxHeartbeats 2000000 in
set_option maxRecDepth 100000 in
theorem v_n_long (h : MS th am mb hb nb rb f n lim p0 tok0 at0 sp0 num0 wd0 hf nf on G) (g0 : pm_get lv 0 = some (.ref am)) (hw : ¬ (tok0 = Int32.ofInt 1 ∧ wd0 = t_W 0)) (hk : x_Gd xs L J (d + 1) m_167 K 46 lv [] G) : x_Gd xs L J (d + 1) m_167 K 0 lv [] G := by
  refine y_aln (e_167 (0, .aload_n 0, 1) (List.mem_of_getElem? (i := 0) rfl)) g0 ?_
  refine y_st (e_167 (1, .ldc2_w 78, 3) (List.mem_of_getElem? (i := 1) rfl)) ⟨rfl, rfl, rfl, rfl⟩ ?_
  refine y_c2 (K' := _) (e_167 (4, .invokevirtual 198, 3) (List.mem_of_getElem? (i := 2) rfl)) ⟨rfl, rfl, rfl⟩ t_17_198 ⟨by decide, by decide, by decide, by decide⟩ m_168_ok rfl (by decide) (y_recv h.T.I h.T.t ⟨rfl, rfl⟩) (Nat.le_of_ble_eq_true rfl) (Nat.le_of_ble_eq_true rfl) (k_isWord h (t_W 0)) (fun r1 Gc hc1 => ?_)
  obtain ⟨rfl, rfl⟩ := hc1
  simp only [Option.toList_some, Option.toList_none, List.cons_append, List.nil_append]
  rw [if_neg hw]
  refine y_ifc (e_167 (7, .ifCond .eq 39, 3) (List.mem_of_getElem? (i := 3) rfl)) rfl (fun _ => hk) (fun hc => absurd hc (by decide))
set_option maxHeartbeats 2000000 in
set_option maxRecDepth 100000 in
theorem v_y_long (h : MS th am mb hb nb rb f n lim p0 tok0 at0 sp0 num0 wd0 hf nf on G) (g0 : pm_get lv 0 = some (.ref am)) (hw : (tok0 = Int32.ofInt 1 ∧ wd0 = t_W 0)) (hk : x_Gd xs L J (d + 1) m_167 K 10 lv [] G) : x_Gd xs L J (d + 1) m_167 K 0 lv [] G := by
  refine y_aln (e_167 (0, .aload_n 0, 1) (List.mem_of_getElem? (i := 0) rfl)) g0 ?_
  refine y_st (e_167 (1, .ldc2_w 78, 3) (List.mem_of_getElem? (i := 1) rfl)) ⟨rfl, rfl, rfl, rfl⟩ ?_
  refine y_c2 (K' := _) (e_167 (4, .invokevirtual 198, 3) (List.mem_of_getElem? (i := 2) rfl)) ⟨rfl, rfl, rfl⟩ t_17_198 ⟨by decide, by decide, by decide, by decide⟩ m_168_ok rfl (by decide) (y_recv h.T.I h.T.t ⟨rfl, rfl⟩) (Nat.le_of_ble_eq_true rfl) (Nat.le_of_ble_eq_true rfl) (k_isWord h (t_W 0)) (fun r1 Gc hc1 => ?_)
  obtain ⟨rfl, rfl⟩ := hc1
  simp only [Option.toList_some, Option.toList_none, List.cons_append, List.nil_append]
  rw [if_pos hw]
  refine y_ifc (e_167 (7, .ifCond .eq 39, 3) (List.mem_of_getElem? (i := 3) rfl)) rfl (fun hc => absurd hc (by decide)) (fun _ => hk)
set_option maxHeartbeats 2000000 in
set_option maxRecDepth 100000 in
theorem v_n_breath (h : MS th am mb hb nb rb f n lim p0 tok0 at0 sp0 num0 wd0 hf nf on G) (g0 : pm_get lv 0 = some (.ref am)) (hw : ¬ (tok0 = Int32.ofInt 1 ∧ wd0 = t_W 1)) (hk : x_Gd xs L J (d + 1) m_167 K 118 lv [] G) : x_Gd xs L J (d + 1) m_167 K 46 lv [] G := by
  refine y_aln (e_167 (46, .aload_n 0, 1) (List.mem_of_getElem? (i := 24) rfl)) g0 ?_
  refine y_st (e_167 (47, .ldc2_w 80, 3) (List.mem_of_getElem? (i := 25) rfl)) ⟨rfl, rfl, rfl, rfl⟩ ?_
  refine y_c2 (K' := _) (e_167 (50, .invokevirtual 198, 3) (List.mem_of_getElem? (i := 26) rfl)) ⟨rfl, rfl, rfl⟩ t_17_198 ⟨by decide, by decide, by decide, by decide⟩ m_168_ok rfl (by decide) (y_recv h.T.I h.T.t ⟨rfl, rfl⟩) (Nat.le_of_ble_eq_true rfl) (Nat.le_of_ble_eq_true rfl) (k_isWord h (t_W 1)) (fun r1 Gc hc1 => ?_)
  obtain ⟨rfl, rfl⟩ := hc1
  simp only [Option.toList_some, Option.toList_none, List.cons_append, List.nil_append]
  rw [if_neg hw]
  refine y_ifc (e_167 (53, .ifCond .eq 65, 3) (List.mem_of_getElem? (i := 27) rfl)) rfl (fun _ => hk) (fun hc => absurd hc (by decide))
set_option maxHeartbeats 2000000 in
set_option maxRecDepth 100000 in
theorem v_y_breath (h : MS th am mb hb nb rb f n lim p0 tok0 at0 sp0 num0 wd0 hf nf on G) (g0 : pm_get lv 0 = some (.ref am)) (hw : (tok0 = Int32.ofInt 1 ∧ wd0 = t_W 1)) (hk : x_Gd xs L J (d + 1) m_167 K 56 lv [] G) : x_Gd xs L J (d + 1) m_167 K 46 lv [] G := by
  refine y_aln (e_167 (46, .aload_n 0, 1) (List.mem_of_getElem? (i := 24) rfl)) g0 ?_
  refine y_st (e_167 (47, .ldc2_w 80, 3) (List.mem_of_getElem? (i := 25) rfl)) ⟨rfl, rfl, rfl, rfl⟩ ?_
  refine y_c2 (K' := _) (e_167 (50, .invokevirtual 198, 3) (List.mem_of_getElem? (i := 26) rfl)) ⟨rfl, rfl, rfl⟩ t_17_198 ⟨by decide, by decide, by decide, by decide⟩ m_168_ok rfl (by decide) (y_recv h.T.I h.T.t ⟨rfl, rfl⟩) (Nat.le_of_ble_eq_true rfl) (Nat.le_of_ble_eq_true rfl) (k_isWord h (t_W 1)) (fun r1 Gc hc1 => ?_)
  obtain ⟨rfl, rfl⟩ := hc1
  simp only [Option.toList_some, Option.toList_none, List.cons_append, List.nil_append]
  rw [if_pos hw]
  refine y_ifc (e_167 (53, .ifCond .eq 65, 3) (List.mem_of_getElem? (i := 27) rfl)) rfl (fun hc => absurd hc (by decide)) (fun _ => hk)
set_option maxHeartbeats 2000000 in
set_option maxRecDepth 100000 in
theorem v_n_force (h : MS th am mb hb nb rb f n lim p0 tok0 at0 sp0 num0 wd0 hf nf on G) (g0 : pm_get lv 0 = some (.ref am)) (hw : ¬ (tok0 = Int32.ofInt 1 ∧ wd0 = t_W 2)) (hk : x_Gd xs L J (d + 1) m_167 K 154 lv [] G) : x_Gd xs L J (d + 1) m_167 K 118 lv [] G := by
  refine y_aln (e_167 (118, .aload_n 0, 1) (List.mem_of_getElem? (i := 60) rfl)) g0 ?_
  refine y_st (e_167 (119, .ldc2_w 82, 3) (List.mem_of_getElem? (i := 61) rfl)) ⟨rfl, rfl, rfl, rfl⟩ ?_
  refine y_c2 (K' := _) (e_167 (122, .invokevirtual 198, 3) (List.mem_of_getElem? (i := 62) rfl)) ⟨rfl, rfl, rfl⟩ t_17_198 ⟨by decide, by decide, by decide, by decide⟩ m_168_ok rfl (by decide) (y_recv h.T.I h.T.t ⟨rfl, rfl⟩) (Nat.le_of_ble_eq_true rfl) (Nat.le_of_ble_eq_true rfl) (k_isWord h (t_W 2)) (fun r1 Gc hc1 => ?_)
  obtain ⟨rfl, rfl⟩ := hc1
  simp only [Option.toList_some, Option.toList_none, List.cons_append, List.nil_append]
  rw [if_neg hw]
  refine y_ifc (e_167 (125, .ifCond .eq 29, 3) (List.mem_of_getElem? (i := 63) rfl)) rfl (fun _ => hk) (fun hc => absurd hc (by decide))
set_option maxHeartbeats 2000000 in
set_option maxRecDepth 100000 in
theorem v_y_force (h : MS th am mb hb nb rb f n lim p0 tok0 at0 sp0 num0 wd0 hf nf on G) (g0 : pm_get lv 0 = some (.ref am)) (hw : (tok0 = Int32.ofInt 1 ∧ wd0 = t_W 2)) (hk : x_Gd xs L J (d + 1) m_167 K 128 lv [] G) : x_Gd xs L J (d + 1) m_167 K 118 lv [] G := by
  refine y_aln (e_167 (118, .aload_n 0, 1) (List.mem_of_getElem? (i := 60) rfl)) g0 ?_
  refine y_st (e_167 (119, .ldc2_w 82, 3) (List.mem_of_getElem? (i := 61) rfl)) ⟨rfl, rfl, rfl, rfl⟩ ?_
  refine y_c2 (K' := _) (e_167 (122, .invokevirtual 198, 3) (List.mem_of_getElem? (i := 62) rfl)) ⟨rfl, rfl, rfl⟩ t_17_198 ⟨by decide, by decide, by decide, by decide⟩ m_168_ok rfl (by decide) (y_recv h.T.I h.T.t ⟨rfl, rfl⟩) (Nat.le_of_ble_eq_true rfl) (Nat.le_of_ble_eq_true rfl) (k_isWord h (t_W 2)) (fun r1 Gc hc1 => ?_)
  obtain ⟨rfl, rfl⟩ := hc1
  simp only [Option.toList_some, Option.toList_none, List.cons_append, List.nil_append]
  rw [if_pos hw]
  refine y_ifc (e_167 (125, .ifCond .eq 29, 3) (List.mem_of_getElem? (i := 63) rfl)) rfl (fun hc => absurd hc (by decide)) (fun _ => hk)
set_option maxHeartbeats 2000000 in
set_option maxRecDepth 100000 in
theorem v_n_fade (h : MS th am mb hb nb rb f n lim p0 tok0 at0 sp0 num0 wd0 hf nf on G) (g0 : pm_get lv 0 = some (.ref am)) (hw : ¬ (tok0 = Int32.ofInt 1 ∧ wd0 = t_W 3)) (hk : x_Gd xs L J (d + 1) m_167 K 190 lv [] G) : x_Gd xs L J (d + 1) m_167 K 154 lv [] G := by
  refine y_aln (e_167 (154, .aload_n 0, 1) (List.mem_of_getElem? (i := 78) rfl)) g0 ?_
  refine y_st (e_167 (155, .ldc2_w 84, 3) (List.mem_of_getElem? (i := 79) rfl)) ⟨rfl, rfl, rfl, rfl⟩ ?_
  refine y_c2 (K' := _) (e_167 (158, .invokevirtual 198, 3) (List.mem_of_getElem? (i := 80) rfl)) ⟨rfl, rfl, rfl⟩ t_17_198 ⟨by decide, by decide, by decide, by decide⟩ m_168_ok rfl (by decide) (y_recv h.T.I h.T.t ⟨rfl, rfl⟩) (Nat.le_of_ble_eq_true rfl) (Nat.le_of_ble_eq_true rfl) (k_isWord h (t_W 3)) (fun r1 Gc hc1 => ?_)
  obtain ⟨rfl, rfl⟩ := hc1
  simp only [Option.toList_some, Option.toList_none, List.cons_append, List.nil_append]
  rw [if_neg hw]
  refine y_ifc (e_167 (161, .ifCond .eq 29, 3) (List.mem_of_getElem? (i := 81) rfl)) rfl (fun _ => hk) (fun hc => absurd hc (by decide))
set_option maxHeartbeats 2000000 in
set_option maxRecDepth 100000 in
theorem v_y_fade (h : MS th am mb hb nb rb f n lim p0 tok0 at0 sp0 num0 wd0 hf nf on G) (g0 : pm_get lv 0 = some (.ref am)) (hw : (tok0 = Int32.ofInt 1 ∧ wd0 = t_W 3)) (hk : x_Gd xs L J (d + 1) m_167 K 164 lv [] G) : x_Gd xs L J (d + 1) m_167 K 154 lv [] G := by
  refine y_aln (e_167 (154, .aload_n 0, 1) (List.mem_of_getElem? (i := 78) rfl)) g0 ?_
  refine y_st (e_167 (155, .ldc2_w 84, 3) (List.mem_of_getElem? (i := 79) rfl)) ⟨rfl, rfl, rfl, rfl⟩ ?_
  refine y_c2 (K' := _) (e_167 (158, .invokevirtual 198, 3) (List.mem_of_getElem? (i := 80) rfl)) ⟨rfl, rfl, rfl⟩ t_17_198 ⟨by decide, by decide, by decide, by decide⟩ m_168_ok rfl (by decide) (y_recv h.T.I h.T.t ⟨rfl, rfl⟩) (Nat.le_of_ble_eq_true rfl) (Nat.le_of_ble_eq_true rfl) (k_isWord h (t_W 3)) (fun r1 Gc hc1 => ?_)
  obtain ⟨rfl, rfl⟩ := hc1
  simp only [Option.toList_some, Option.toList_none, List.cons_append, List.nil_append]
  rw [if_pos hw]
  refine y_ifc (e_167 (161, .ifCond .eq 29, 3) (List.mem_of_getElem? (i := 81) rfl)) rfl (fun hc => absurd hc (by decide)) (fun _ => hk)
set_option maxHeartbeats 2000000 in
set_option maxRecDepth 100000 in
theorem v_n_held (h : MS th am mb hb nb rb f n lim p0 tok0 at0 sp0 num0 wd0 hf nf on G) (g0 : pm_get lv 0 = some (.ref am)) (hw : ¬ (tok0 = Int32.ofInt 1 ∧ wd0 = t_W 4)) (hk : x_Gd xs L J (d + 1) m_167 K 226 lv [] G) : x_Gd xs L J (d + 1) m_167 K 190 lv [] G := by
  refine y_aln (e_167 (190, .aload_n 0, 1) (List.mem_of_getElem? (i := 96) rfl)) g0 ?_
  refine y_st (e_167 (191, .ldc2_w 86, 3) (List.mem_of_getElem? (i := 97) rfl)) ⟨rfl, rfl, rfl, rfl⟩ ?_
  refine y_c2 (K' := _) (e_167 (194, .invokevirtual 198, 3) (List.mem_of_getElem? (i := 98) rfl)) ⟨rfl, rfl, rfl⟩ t_17_198 ⟨by decide, by decide, by decide, by decide⟩ m_168_ok rfl (by decide) (y_recv h.T.I h.T.t ⟨rfl, rfl⟩) (Nat.le_of_ble_eq_true rfl) (Nat.le_of_ble_eq_true rfl) (k_isWord h (t_W 4)) (fun r1 Gc hc1 => ?_)
  obtain ⟨rfl, rfl⟩ := hc1
  simp only [Option.toList_some, Option.toList_none, List.cons_append, List.nil_append]
  rw [if_neg hw]
  refine y_ifc (e_167 (197, .ifCond .eq 29, 3) (List.mem_of_getElem? (i := 99) rfl)) rfl (fun _ => hk) (fun hc => absurd hc (by decide))
set_option maxHeartbeats 2000000 in
set_option maxRecDepth 100000 in
theorem v_y_held (h : MS th am mb hb nb rb f n lim p0 tok0 at0 sp0 num0 wd0 hf nf on G) (g0 : pm_get lv 0 = some (.ref am)) (hw : (tok0 = Int32.ofInt 1 ∧ wd0 = t_W 4)) (hk : x_Gd xs L J (d + 1) m_167 K 200 lv [] G) : x_Gd xs L J (d + 1) m_167 K 190 lv [] G := by
  refine y_aln (e_167 (190, .aload_n 0, 1) (List.mem_of_getElem? (i := 96) rfl)) g0 ?_
  refine y_st (e_167 (191, .ldc2_w 86, 3) (List.mem_of_getElem? (i := 97) rfl)) ⟨rfl, rfl, rfl, rfl⟩ ?_
  refine y_c2 (K' := _) (e_167 (194, .invokevirtual 198, 3) (List.mem_of_getElem? (i := 98) rfl)) ⟨rfl, rfl, rfl⟩ t_17_198 ⟨by decide, by decide, by decide, by decide⟩ m_168_ok rfl (by decide) (y_recv h.T.I h.T.t ⟨rfl, rfl⟩) (Nat.le_of_ble_eq_true rfl) (Nat.le_of_ble_eq_true rfl) (k_isWord h (t_W 4)) (fun r1 Gc hc1 => ?_)
  obtain ⟨rfl, rfl⟩ := hc1
  simp only [Option.toList_some, Option.toList_none, List.cons_append, List.nil_append]
  rw [if_pos hw]
  refine y_ifc (e_167 (197, .ifCond .eq 29, 3) (List.mem_of_getElem? (i := 99) rfl)) rfl (fun hc => absurd hc (by decide)) (fun _ => hk)
set_option maxHeartbeats 2000000 in
set_option maxRecDepth 100000 in
theorem v_n_passage (h : MS th am mb hb nb rb f n lim p0 tok0 at0 sp0 num0 wd0 hf nf on G) (g0 : pm_get lv 0 = some (.ref am)) (hw : ¬ (tok0 = Int32.ofInt 1 ∧ wd0 = t_W 5)) (hk : x_Gd xs L J (d + 1) m_167 K 314 lv [] G) : x_Gd xs L J (d + 1) m_167 K 226 lv [] G := by
  refine y_aln (e_167 (226, .aload_n 0, 1) (List.mem_of_getElem? (i := 114) rfl)) g0 ?_
  refine y_st (e_167 (227, .ldc2_w 88, 3) (List.mem_of_getElem? (i := 115) rfl)) ⟨rfl, rfl, rfl, rfl⟩ ?_
  refine y_c2 (K' := _) (e_167 (230, .invokevirtual 198, 3) (List.mem_of_getElem? (i := 116) rfl)) ⟨rfl, rfl, rfl⟩ t_17_198 ⟨by decide, by decide, by decide, by decide⟩ m_168_ok rfl (by decide) (y_recv h.T.I h.T.t ⟨rfl, rfl⟩) (Nat.le_of_ble_eq_true rfl) (Nat.le_of_ble_eq_true rfl) (k_isWord h (t_W 5)) (fun r1 Gc hc1 => ?_)
  obtain ⟨rfl, rfl⟩ := hc1
  simp only [Option.toList_some, Option.toList_none, List.cons_append, List.nil_append]
  rw [if_neg hw]
  refine y_ifc (e_167 (233, .ifCond .eq 81, 3) (List.mem_of_getElem? (i := 117) rfl)) rfl (fun _ => hk) (fun hc => absurd hc (by decide))
set_option maxHeartbeats 2000000 in
set_option maxRecDepth 100000 in
theorem v_y_passage (h : MS th am mb hb nb rb f n lim p0 tok0 at0 sp0 num0 wd0 hf nf on G) (g0 : pm_get lv 0 = some (.ref am)) (hw : (tok0 = Int32.ofInt 1 ∧ wd0 = t_W 5)) (hk : x_Gd xs L J (d + 1) m_167 K 236 lv [] G) : x_Gd xs L J (d + 1) m_167 K 226 lv [] G := by
  refine y_aln (e_167 (226, .aload_n 0, 1) (List.mem_of_getElem? (i := 114) rfl)) g0 ?_
  refine y_st (e_167 (227, .ldc2_w 88, 3) (List.mem_of_getElem? (i := 115) rfl)) ⟨rfl, rfl, rfl, rfl⟩ ?_
  refine y_c2 (K' := _) (e_167 (230, .invokevirtual 198, 3) (List.mem_of_getElem? (i := 116) rfl)) ⟨rfl, rfl, rfl⟩ t_17_198 ⟨by decide, by decide, by decide, by decide⟩ m_168_ok rfl (by decide) (y_recv h.T.I h.T.t ⟨rfl, rfl⟩) (Nat.le_of_ble_eq_true rfl) (Nat.le_of_ble_eq_true rfl) (k_isWord h (t_W 5)) (fun r1 Gc hc1 => ?_)
  obtain ⟨rfl, rfl⟩ := hc1
  simp only [Option.toList_some, Option.toList_none, List.cons_append, List.nil_append]
  rw [if_pos hw]
  refine y_ifc (e_167 (233, .ifCond .eq 81, 3) (List.mem_of_getElem? (i := 117) rfl)) rfl (fun hc => absurd hc (by decide)) (fun _ => hk)
set_option maxHeartbeats 2000000 in
set_option maxRecDepth 100000 in
theorem v_n_thing (h : MS th am mb hb nb rb f n lim p0 tok0 at0 sp0 num0 wd0 hf nf on G) (g0 : pm_get lv 0 = some (.ref am)) (hw : ¬ (tok0 = Int32.ofInt 1 ∧ wd0 = t_W 6)) (hk : x_Gd xs L J (d + 1) m_167 K 329 lv [] G) : x_Gd xs L J (d + 1) m_167 K 314 lv [] G := by
  refine y_aln (e_167 (314, .aload_n 0, 1) (List.mem_of_getElem? (i := 168) rfl)) g0 ?_
  refine y_st (e_167 (315, .ldc2_w 90, 3) (List.mem_of_getElem? (i := 169) rfl)) ⟨rfl, rfl, rfl, rfl⟩ ?_
  refine y_c2 (K' := _) (e_167 (318, .invokevirtual 198, 3) (List.mem_of_getElem? (i := 170) rfl)) ⟨rfl, rfl, rfl⟩ t_17_198 ⟨by decide, by decide, by decide, by decide⟩ m_168_ok rfl (by decide) (y_recv h.T.I h.T.t ⟨rfl, rfl⟩) (Nat.le_of_ble_eq_true rfl) (Nat.le_of_ble_eq_true rfl) (k_isWord h (t_W 6)) (fun r1 Gc hc1 => ?_)
  obtain ⟨rfl, rfl⟩ := hc1
  simp only [Option.toList_some, Option.toList_none, List.cons_append, List.nil_append]
  rw [if_neg hw]
  refine y_ifc (e_167 (321, .ifCond .eq 8, 3) (List.mem_of_getElem? (i := 171) rfl)) rfl (fun _ => hk) (fun hc => absurd hc (by decide))
set_option maxHeartbeats 2000000 in
set_option maxRecDepth 100000 in
theorem v_y_thing (h : MS th am mb hb nb rb f n lim p0 tok0 at0 sp0 num0 wd0 hf nf on G) (g0 : pm_get lv 0 = some (.ref am)) (hw : (tok0 = Int32.ofInt 1 ∧ wd0 = t_W 6)) (hk : x_Gd xs L J (d + 1) m_167 K 324 lv [] G) : x_Gd xs L J (d + 1) m_167 K 314 lv [] G := by
  refine y_aln (e_167 (314, .aload_n 0, 1) (List.mem_of_getElem? (i := 168) rfl)) g0 ?_
  refine y_st (e_167 (315, .ldc2_w 90, 3) (List.mem_of_getElem? (i := 169) rfl)) ⟨rfl, rfl, rfl, rfl⟩ ?_
  refine y_c2 (K' := _) (e_167 (318, .invokevirtual 198, 3) (List.mem_of_getElem? (i := 170) rfl)) ⟨rfl, rfl, rfl⟩ t_17_198 ⟨by decide, by decide, by decide, by decide⟩ m_168_ok rfl (by decide) (y_recv h.T.I h.T.t ⟨rfl, rfl⟩) (Nat.le_of_ble_eq_true rfl) (Nat.le_of_ble_eq_true rfl) (k_isWord h (t_W 6)) (fun r1 Gc hc1 => ?_)
  obtain ⟨rfl, rfl⟩ := hc1
  simp only [Option.toList_some, Option.toList_none, List.cons_append, List.nil_append]
  rw [if_pos hw]
  refine y_ifc (e_167 (321, .ifCond .eq 8, 3) (List.mem_of_getElem? (i := 171) rfl)) rfl (fun hc => absurd hc (by decide)) (fun _ => hk)
set_option maxHeartbeats 2000000 in
set_option maxRecDepth 100000 in
theorem v_n_mill (h : MS th am mb hb nb rb f n lim p0 tok0 at0 sp0 num0 wd0 hf nf on G) (g0 : pm_get lv 0 = some (.ref am)) (hw : ¬ (tok0 = Int32.ofInt 1 ∧ wd0 = t_W 8)) (hk : x_Gd xs L J (d + 1) m_167 K 390 lv [] G) : x_Gd xs L J (d + 1) m_167 K 329 lv [] G := by
  refine y_aln (e_167 (329, .aload_n 0, 1) (List.mem_of_getElem? (i := 175) rfl)) g0 ?_
  refine y_st (e_167 (330, .ldc2_w 94, 3) (List.mem_of_getElem? (i := 176) rfl)) ⟨rfl, rfl, rfl, rfl⟩ ?_
  refine y_c2 (K' := _) (e_167 (333, .invokevirtual 198, 3) (List.mem_of_getElem? (i := 177) rfl)) ⟨rfl, rfl, rfl⟩ t_17_198 ⟨by decide, by decide, by decide, by decide⟩ m_168_ok rfl (by decide) (y_recv h.T.I h.T.t ⟨rfl, rfl⟩) (Nat.le_of_ble_eq_true rfl) (Nat.le_of_ble_eq_true rfl) (k_isWord h (t_W 8)) (fun r1 Gc hc1 => ?_)
  obtain ⟨rfl, rfl⟩ := hc1
  simp only [Option.toList_some, Option.toList_none, List.cons_append, List.nil_append]
  rw [if_neg hw]
  refine y_ifc (e_167 (336, .ifCond .eq 54, 3) (List.mem_of_getElem? (i := 178) rfl)) rfl (fun _ => hk) (fun hc => absurd hc (by decide))
set_option maxHeartbeats 2000000 in
set_option maxRecDepth 100000 in
theorem v_y_mill (h : MS th am mb hb nb rb f n lim p0 tok0 at0 sp0 num0 wd0 hf nf on G) (g0 : pm_get lv 0 = some (.ref am)) (hw : (tok0 = Int32.ofInt 1 ∧ wd0 = t_W 8)) (hk : x_Gd xs L J (d + 1) m_167 K 339 lv [] G) : x_Gd xs L J (d + 1) m_167 K 329 lv [] G := by
  refine y_aln (e_167 (329, .aload_n 0, 1) (List.mem_of_getElem? (i := 175) rfl)) g0 ?_
  refine y_st (e_167 (330, .ldc2_w 94, 3) (List.mem_of_getElem? (i := 176) rfl)) ⟨rfl, rfl, rfl, rfl⟩ ?_
  refine y_c2 (K' := _) (e_167 (333, .invokevirtual 198, 3) (List.mem_of_getElem? (i := 177) rfl)) ⟨rfl, rfl, rfl⟩ t_17_198 ⟨by decide, by decide, by decide, by decide⟩ m_168_ok rfl (by decide) (y_recv h.T.I h.T.t ⟨rfl, rfl⟩) (Nat.le_of_ble_eq_true rfl) (Nat.le_of_ble_eq_true rfl) (k_isWord h (t_W 8)) (fun r1 Gc hc1 => ?_)
  obtain ⟨rfl, rfl⟩ := hc1
  simp only [Option.toList_some, Option.toList_none, List.cons_append, List.nil_append]
  rw [if_pos hw]
  refine y_ifc (e_167 (336, .ifCond .eq 54, 3) (List.mem_of_getElem? (i := 178) rfl)) rfl (fun hc => absurd hc (by decide)) (fun _ => hk)
set_option maxHeartbeats 2000000 in
set_option maxRecDepth 100000 in
theorem v_n_man (h : MS th am mb hb nb rb f n lim p0 tok0 at0 sp0 num0 wd0 hf nf on G) (g0 : pm_get lv 0 = some (.ref am)) (hw : ¬ (tok0 = Int32.ofInt 1 ∧ wd0 = t_W 9)) (hk : x_Gd xs L J (d + 1) m_167 K 400 lv [] G) : x_Gd xs L J (d + 1) m_167 K 390 lv [] G := by
  refine y_aln (e_167 (390, .aload_n 0, 1) (List.mem_of_getElem? (i := 215) rfl)) g0 ?_
  refine y_st (e_167 (391, .ldc2_w 96, 3) (List.mem_of_getElem? (i := 216) rfl)) ⟨rfl, rfl, rfl, rfl⟩ ?_
  refine y_c2 (K' := _) (e_167 (394, .invokevirtual 198, 3) (List.mem_of_getElem? (i := 217) rfl)) ⟨rfl, rfl, rfl⟩ t_17_198 ⟨by decide, by decide, by decide, by decide⟩ m_168_ok rfl (by decide) (y_recv h.T.I h.T.t ⟨rfl, rfl⟩) (Nat.le_of_ble_eq_true rfl) (Nat.le_of_ble_eq_true rfl) (k_isWord h (t_W 9)) (fun r1 Gc hc1 => ?_)
  obtain ⟨rfl, rfl⟩ := hc1
  simp only [Option.toList_some, Option.toList_none, List.cons_append, List.nil_append]
  rw [if_neg hw]
  refine y_ifc (e_167 (397, .ifCond .ne 9, 3) (List.mem_of_getElem? (i := 218) rfl)) rfl (fun hc => absurd hc (by decide)) (fun _ => hk)
set_option maxHeartbeats 2000000 in
set_option maxRecDepth 100000 in
theorem v_y_man (h : MS th am mb hb nb rb f n lim p0 tok0 at0 sp0 num0 wd0 hf nf on G) (g0 : pm_get lv 0 = some (.ref am)) (hw : (tok0 = Int32.ofInt 1 ∧ wd0 = t_W 9)) (hk : x_Gd xs L J (d + 1) m_167 K 406 lv [] G) : x_Gd xs L J (d + 1) m_167 K 390 lv [] G := by
  refine y_aln (e_167 (390, .aload_n 0, 1) (List.mem_of_getElem? (i := 215) rfl)) g0 ?_
  refine y_st (e_167 (391, .ldc2_w 96, 3) (List.mem_of_getElem? (i := 216) rfl)) ⟨rfl, rfl, rfl, rfl⟩ ?_
  refine y_c2 (K' := _) (e_167 (394, .invokevirtual 198, 3) (List.mem_of_getElem? (i := 217) rfl)) ⟨rfl, rfl, rfl⟩ t_17_198 ⟨by decide, by decide, by decide, by decide⟩ m_168_ok rfl (by decide) (y_recv h.T.I h.T.t ⟨rfl, rfl⟩) (Nat.le_of_ble_eq_true rfl) (Nat.le_of_ble_eq_true rfl) (k_isWord h (t_W 9)) (fun r1 Gc hc1 => ?_)
  obtain ⟨rfl, rfl⟩ := hc1
  simp only [Option.toList_some, Option.toList_none, List.cons_append, List.nil_append]
  rw [if_pos hw]
  refine y_ifc (e_167 (397, .ifCond .ne 9, 3) (List.mem_of_getElem? (i := 218) rfl)) rfl (fun _ => hk) (fun hc => absurd hc (by decide))
theorem v_to_long (h : MS th am mb hb nb rb f n lim p0 tok0 at0 sp0 num0 wd0 hf nf on G) (g0 : pm_get lv 0 = some (.ref am)) (hw : tok0 = Int32.ofInt 1 ∧ wd0 = t_W 0) (hk : x_Gd xs L J (d + 1) m_167 K 10 lv [] G) : x_Gd xs L J (d + 1) m_167 K 0 lv [] G := v_y_long h g0 hw hk
theorem v_to_breath (h : MS th am mb hb nb rb f n lim p0 tok0 at0 sp0 num0 wd0 hf nf on G) (g0 : pm_get lv 0 = some (.ref am)) (hw : tok0 = Int32.ofInt 1 ∧ wd0 = t_W 1) (hk : x_Gd xs L J (d + 1) m_167 K 56 lv [] G) : x_Gd xs L J (d + 1) m_167 K 0 lv [] G := v_n_long h g0 (fun z => absurd (z.2.symm.trans hw.2) (by decide +kernel)) (v_y_breath h g0 hw hk)
theorem v_to_force (h : MS th am mb hb nb rb f n lim p0 tok0 at0 sp0 num0 wd0 hf nf on G) (g0 : pm_get lv 0 = some (.ref am)) (hw : tok0 = Int32.ofInt 1 ∧ wd0 = t_W 2) (hk : x_Gd xs L J (d + 1) m_167 K 128 lv [] G) : x_Gd xs L J (d + 1) m_167 K 0 lv [] G := v_n_long h g0 (fun z => absurd (z.2.symm.trans hw.2) (by decide +kernel)) (v_n_breath h g0 (fun z => absurd (z.2.symm.trans hw.2) (by decide +kernel)) (v_y_force h g0 hw hk))
theorem v_to_fade (h : MS th am mb hb nb rb f n lim p0 tok0 at0 sp0 num0 wd0 hf nf on G) (g0 : pm_get lv 0 = some (.ref am)) (hw : tok0 = Int32.ofInt 1 ∧ wd0 = t_W 3) (hk : x_Gd xs L J (d + 1) m_167 K 164 lv [] G) : x_Gd xs L J (d + 1) m_167 K 0 lv [] G := v_n_long h g0 (fun z => absurd (z.2.symm.trans hw.2) (by decide +kernel)) (v_n_breath h g0 (fun z => absurd (z.2.symm.trans hw.2) (by decide +kernel)) (v_n_force h g0 (fun z => absurd (z.2.symm.trans hw.2) (by decide +kernel)) (v_y_fade h g0 hw hk)))
theorem v_to_held (h : MS th am mb hb nb rb f n lim p0 tok0 at0 sp0 num0 wd0 hf nf on G) (g0 : pm_get lv 0 = some (.ref am)) (hw : tok0 = Int32.ofInt 1 ∧ wd0 = t_W 4) (hk : x_Gd xs L J (d + 1) m_167 K 200 lv [] G) : x_Gd xs L J (d + 1) m_167 K 0 lv [] G := v_n_long h g0 (fun z => absurd (z.2.symm.trans hw.2) (by decide +kernel)) (v_n_breath h g0 (fun z => absurd (z.2.symm.trans hw.2) (by decide +kernel)) (v_n_force h g0 (fun z => absurd (z.2.symm.trans hw.2) (by decide +kernel)) (v_n_fade h g0 (fun z => absurd (z.2.symm.trans hw.2) (by decide +kernel)) (v_y_held h g0 hw hk))))
theorem v_to_passage (h : MS th am mb hb nb rb f n lim p0 tok0 at0 sp0 num0 wd0 hf nf on G) (g0 : pm_get lv 0 = some (.ref am)) (hw : tok0 = Int32.ofInt 1 ∧ wd0 = t_W 5) (hk : x_Gd xs L J (d + 1) m_167 K 236 lv [] G) : x_Gd xs L J (d + 1) m_167 K 0 lv [] G := v_n_long h g0 (fun z => absurd (z.2.symm.trans hw.2) (by decide +kernel)) (v_n_breath h g0 (fun z => absurd (z.2.symm.trans hw.2) (by decide +kernel)) (v_n_force h g0 (fun z => absurd (z.2.symm.trans hw.2) (by decide +kernel)) (v_n_fade h g0 (fun z => absurd (z.2.symm.trans hw.2) (by decide +kernel)) (v_n_held h g0 (fun z => absurd (z.2.symm.trans hw.2) (by decide +kernel)) (v_y_passage h g0 hw hk)))))
theorem v_to_thing (h : MS th am mb hb nb rb f n lim p0 tok0 at0 sp0 num0 wd0 hf nf on G) (g0 : pm_get lv 0 = some (.ref am)) (hw : tok0 = Int32.ofInt 1 ∧ wd0 = t_W 6) (hk : x_Gd xs L J (d + 1) m_167 K 324 lv [] G) : x_Gd xs L J (d + 1) m_167 K 0 lv [] G := v_n_long h g0 (fun z => absurd (z.2.symm.trans hw.2) (by decide +kernel)) (v_n_breath h g0 (fun z => absurd (z.2.symm.trans hw.2) (by decide +kernel)) (v_n_force h g0 (fun z => absurd (z.2.symm.trans hw.2) (by decide +kernel)) (v_n_fade h g0 (fun z => absurd (z.2.symm.trans hw.2) (by decide +kernel)) (v_n_held h g0 (fun z => absurd (z.2.symm.trans hw.2) (by decide +kernel)) (v_n_passage h g0 (fun z => absurd (z.2.symm.trans hw.2) (by decide +kernel)) (v_y_thing h g0 hw hk))))))
theorem v_to_mill (h : MS th am mb hb nb rb f n lim p0 tok0 at0 sp0 num0 wd0 hf nf on G) (g0 : pm_get lv 0 = some (.ref am)) (hw : tok0 = Int32.ofInt 1 ∧ wd0 = t_W 8) (hk : x_Gd xs L J (d + 1) m_167 K 339 lv [] G) : x_Gd xs L J (d + 1) m_167 K 0 lv [] G := v_n_long h g0 (fun z => absurd (z.2.symm.trans hw.2) (by decide +kernel)) (v_n_breath h g0 (fun z => absurd (z.2.symm.trans hw.2) (by decide +kernel)) (v_n_force h g0 (fun z => absurd (z.2.symm.trans hw.2) (by decide +kernel)) (v_n_fade h g0 (fun z => absurd (z.2.symm.trans hw.2) (by decide +kernel)) (v_n_held h g0 (fun z => absurd (z.2.symm.trans hw.2) (by decide +kernel)) (v_n_passage h g0 (fun z => absurd (z.2.symm.trans hw.2) (by decide +kernel)) (v_n_thing h g0 (fun z => absurd (z.2.symm.trans hw.2) (by decide +kernel)) (v_y_mill h g0 hw hk)))))))
theorem v_to_man (h : MS th am mb hb nb rb f n lim p0 tok0 at0 sp0 num0 wd0 hf nf on G) (g0 : pm_get lv 0 = some (.ref am)) (hw : tok0 = Int32.ofInt 1 ∧ wd0 = t_W 9) (hk : x_Gd xs L J (d + 1) m_167 K 406 lv [] G) : x_Gd xs L J (d + 1) m_167 K 0 lv [] G := v_n_long h g0 (fun z => absurd (z.2.symm.trans hw.2) (by decide +kernel)) (v_n_breath h g0 (fun z => absurd (z.2.symm.trans hw.2) (by decide +kernel)) (v_n_force h g0 (fun z => absurd (z.2.symm.trans hw.2) (by decide +kernel)) (v_n_fade h g0 (fun z => absurd (z.2.symm.trans hw.2) (by decide +kernel)) (v_n_held h g0 (fun z => absurd (z.2.symm.trans hw.2) (by decide +kernel)) (v_n_passage h g0 (fun z => absurd (z.2.symm.trans hw.2) (by decide +kernel)) (v_n_thing h g0 (fun z => absurd (z.2.symm.trans hw.2) (by decide +kernel)) (v_n_mill h g0 (fun z => absurd (z.2.symm.trans hw.2) (by decide +kernel)) (v_y_man h g0 hw hk))))))))
set_option maxHeartbeats 2000000 in
set_option maxRecDepth 100000 in
theorem v_long_0 (h : MS th am mb hb nb rb f n lim p0 tok0 at0 sp0 num0 wd0 hf nf on G) (hw : tok0 = Int32.ofInt 1 ∧ wd0 = t_W 0) (hb0 : t_bit on (Int32.ofInt 0) = true) : x_Gd xs L J (d + 6) m_167 (fun r G' => r = some (.int 0) ∧ x_sl G' am 16 = some (.int at0) ∧ x_sl G' am 15 = some (.int (Int32.ofInt 3))) 0 (lv_args 0 [.ref am]) [] G := by
  have g0 : pm_get (lv_args 0 [.ref am]) 0 = some (.ref am) := rfl
  generalize (lv_args 0 [.ref am]) = lv at g0 ⊢
  refine v_to_long h g0 hw ?_
  refine y_aln (e_167 (10, .aload_n 0, 1) (List.mem_of_getElem? (i := 4) rfl)) g0 ?_
  refine y_st (e_167 (11, .iconst 0, 1) (List.mem_of_getElem? (i := 5) rfl)) ⟨rfl, rfl, rfl, rfl⟩ ?_
  refine y_c2 (K' := _) (e_167 (12, .invokevirtual 202, 3) (List.mem_of_getElem? (i := 6) rfl)) ⟨rfl, rfl, rfl⟩ t_17_202 ⟨by decide, by decide, by decide, by decide⟩ m_169_ok rfl (by decide) (y_recv h.T.I h.T.t ⟨rfl, rfl⟩) (Nat.le_of_ble_eq_true rfl) (Nat.le_of_ble_eq_true rfl) (k_isOnce_no h hb0) (fun r1 Gc hc1 => ?_)
  obtain ⟨rfl, hz⟩ := hc1
  simp only [Option.toList_some, Option.toList_none, List.cons_append, List.nil_append]
  refine y_ifc (e_167 (15, .ifCond .eq 29, 3) (List.mem_of_getElem? (i := 7) rfl)) rfl (fun _ => ?_) (fun hc => absurd hc (by decide))
  refine y_st (e_167 (44, .iconst 0, 1) (List.mem_of_getElem? (i := 22) rfl)) ⟨rfl, rfl, rfl, rfl⟩ ?_
  exact y_ret (e_167 (45, .ireturn, 1) (List.mem_of_getElem? (i := 23) rfl)) ⟨rfl, y_rb (Or.inl rfl)⟩ ⟨rfl, hz⟩
set_option maxHeartbeats 2000000 in
set_option maxRecDepth 100000 in
theorem v_long_1 (h : MS th am mb hb nb rb f n lim p0 tok0 at0 sp0 num0 wd0 hf nf on G) (hw : tok0 = Int32.ofInt 1 ∧ wd0 = t_W 0) (hb0 : t_bit on (Int32.ofInt 0) = false) (hN1 : NXm f n lim p0 num0 wd0 p1 tok1 at1 sp1 num1 wd1)  (hno : tok1 ≠ Int32.ofInt 2 ∨ num1.toInt < 1 ∨ 20 < num1.toInt) : x_Gd xs L J (d + 6) m_167 (fun r G' => r = some (.int 0) ∧ x_sl G' am 16 = some (.int at1) ∧ x_sl G' am 15 = some (.int (t_km tok1))) 0 (lv_args 0 [.ref am]) [] G := by
  have g0 : pm_get (lv_args 0 [.ref am]) 0 = some (.ref am) := rfl
  generalize (lv_args 0 [.ref am]) = lv at g0 ⊢
  refine v_to_long h g0 hw ?_
  refine y_aln (e_167 (10, .aload_n 0, 1) (List.mem_of_getElem? (i := 4) rfl)) g0 ?_
  refine y_st (e_167 (11, .iconst 0, 1) (List.mem_of_getElem? (i := 5) rfl)) ⟨rfl, rfl, rfl, rfl⟩ ?_
  refine y_c2 (K' := _) (e_167 (12, .invokevirtual 202, 3) (List.mem_of_getElem? (i := 6) rfl)) ⟨rfl, rfl, rfl⟩ t_17_202 ⟨by decide, by decide, by decide, by decide⟩ m_169_ok rfl (by decide) (y_recv h.T.I h.T.t ⟨rfl, rfl⟩) (Nat.le_of_ble_eq_true rfl) (Nat.le_of_ble_eq_true rfl) (k_isOnce_yes h hb0 hN1) (fun r1 Gc hc1 => ?_)
  obtain ⟨rfl, q1⟩ := hc1
  simp only [Option.toList_some, Option.toList_none, List.cons_append, List.nil_append]
  refine y_ifc (e_167 (15, .ifCond .eq 29, 3) (List.mem_of_getElem? (i := 7) rfl)) rfl (fun hc => absurd hc (by decide)) (fun _ => ?_)
  refine y_aln (e_167 (18, .aload_n 0, 1) (List.mem_of_getElem? (i := 8) rfl)) g0 ?_
  refine y_st (e_167 (19, .iconst 0, 1) (List.mem_of_getElem? (i := 9) rfl)) ⟨rfl, rfl, rfl, rfl⟩ ?_
  refine y_st (e_167 (20, .iconst 1, 1) (List.mem_of_getElem? (i := 10) rfl)) ⟨rfl, rfl, rfl, rfl⟩ ?_
  refine y_st (e_167 (21, .bipush 20, 2) (List.mem_of_getElem? (i := 11) rfl)) ⟨rfl, rfl, rfl, rfl⟩ ?_
  refine y_c4 (K' := _) (e_167 (23, .invokevirtual 205, 3) (List.mem_of_getElem? (i := 12) rfl)) ⟨rfl, rfl, rfl⟩ t_17_205 ⟨by decide, by decide, by decide, by decide⟩ m_172_ok rfl (by decide) (y_recv q1.T.I q1.T.t ⟨rfl, rfl⟩) (Nat.le_of_ble_eq_true rfl) (Nat.le_of_ble_eq_true rfl) (k_puts_no q1 hno) (fun r1 Gc hc1 => ?_)
  obtain ⟨rfl, hz⟩ := hc1
  simp only [Option.toList_some, Option.toList_none, List.cons_append, List.nil_append]
  refine y_ifc (e_167 (26, .ifCond .eq 18, 3) (List.mem_of_getElem? (i := 13) rfl)) rfl (fun _ => ?_) (fun hc => absurd hc (by decide))
  refine y_st (e_167 (44, .iconst 0, 1) (List.mem_of_getElem? (i := 22) rfl)) ⟨rfl, rfl, rfl, rfl⟩ ?_
  exact y_ret (e_167 (45, .ireturn, 1) (List.mem_of_getElem? (i := 23) rfl)) ⟨rfl, y_rb (Or.inl rfl)⟩ ⟨rfl, hz⟩
set_option maxHeartbeats 2000000 in
set_option maxRecDepth 100000 in
theorem v_long_2 (h : MS th am mb hb nb rb f n lim p0 tok0 at0 sp0 num0 wd0 hf nf on G) (hw : tok0 = Int32.ofInt 1 ∧ wd0 = t_W 0) (hb0 : t_bit on (Int32.ofInt 0) = false) (hN1 : NXm f n lim p0 num0 wd0 p1 tok1 at1 sp1 num1 wd1) (htk1 : tok1 = Int32.ofInt 2) (a1 : 1 ≤ num1.toInt) (b1 : num1.toInt ≤ 20) (hN2 : NXm f n lim p1 num1 wd1 p2 tok2 at2 sp2 num2 wd2) (hno : tok2 ≠ Int32.ofInt 2 ∨ num2.toInt < 1 ∨ 20 < num2.toInt) : x_Gd xs L J (d + 6) m_167 (fun r G' => r = some (.int 0) ∧ x_sl G' am 16 = some (.int at2) ∧ x_sl G' am 15 = some (.int (t_km tok2))) 0 (lv_args 0 [.ref am]) [] G := by
  have g0 : pm_get (lv_args 0 [.ref am]) 0 = some (.ref am) := rfl
  generalize (lv_args 0 [.ref am]) = lv at g0 ⊢
  refine v_to_long h g0 hw ?_
  refine y_aln (e_167 (10, .aload_n 0, 1) (List.mem_of_getElem? (i := 4) rfl)) g0 ?_
  refine y_st (e_167 (11, .iconst 0, 1) (List.mem_of_getElem? (i := 5) rfl)) ⟨rfl, rfl, rfl, rfl⟩ ?_
  refine y_c2 (K' := _) (e_167 (12, .invokevirtual 202, 3) (List.mem_of_getElem? (i := 6) rfl)) ⟨rfl, rfl, rfl⟩ t_17_202 ⟨by decide, by decide, by decide, by decide⟩ m_169_ok rfl (by decide) (y_recv h.T.I h.T.t ⟨rfl, rfl⟩) (Nat.le_of_ble_eq_true rfl) (Nat.le_of_ble_eq_true rfl) (k_isOnce_yes h hb0 hN1) (fun r1 Gc hc1 => ?_)
  obtain ⟨rfl, q1⟩ := hc1
  simp only [Option.toList_some, Option.toList_none, List.cons_append, List.nil_append]
  refine y_ifc (e_167 (15, .ifCond .eq 29, 3) (List.mem_of_getElem? (i := 7) rfl)) rfl (fun hc => absurd hc (by decide)) (fun _ => ?_)
  refine y_aln (e_167 (18, .aload_n 0, 1) (List.mem_of_getElem? (i := 8) rfl)) g0 ?_
  refine y_st (e_167 (19, .iconst 0, 1) (List.mem_of_getElem? (i := 9) rfl)) ⟨rfl, rfl, rfl, rfl⟩ ?_
  refine y_st (e_167 (20, .iconst 1, 1) (List.mem_of_getElem? (i := 10) rfl)) ⟨rfl, rfl, rfl, rfl⟩ ?_
  refine y_st (e_167 (21, .bipush 20, 2) (List.mem_of_getElem? (i := 11) rfl)) ⟨rfl, rfl, rfl, rfl⟩ ?_
  refine y_c4 (K' := _) (e_167 (23, .invokevirtual 205, 3) (List.mem_of_getElem? (i := 12) rfl)) ⟨rfl, rfl, rfl⟩ t_17_205 ⟨by decide, by decide, by decide, by decide⟩ m_172_ok rfl (by decide) (y_recv q1.T.I q1.T.t ⟨rfl, rfl⟩) (Nat.le_of_ble_eq_true rfl) (Nat.le_of_ble_eq_true rfl) (k_puts_yes q1 htk1 a1 b1 ⟨by decide, by decide⟩ (y_okI (lo := 0) (hi := 20) rfl (by omega) (by omega)) hN2) (fun r1 Gc hc1 => ?_)
  obtain ⟨rfl, q2⟩ := hc1
  simp only [Option.toList_some, Option.toList_none, List.cons_append, List.nil_append]
  refine y_ifc (e_167 (26, .ifCond .eq 18, 3) (List.mem_of_getElem? (i := 13) rfl)) rfl (fun hc => absurd hc (by decide)) (fun _ => ?_)
  refine y_aln (e_167 (29, .aload_n 0, 1) (List.mem_of_getElem? (i := 14) rfl)) g0 ?_
  refine y_st (e_167 (30, .iconst 1, 1) (List.mem_of_getElem? (i := 15) rfl)) ⟨rfl, rfl, rfl, rfl⟩ ?_
  refine y_st (e_167 (31, .iconst 1, 1) (List.mem_of_getElem? (i := 16) rfl)) ⟨rfl, rfl, rfl, rfl⟩ ?_
  refine y_st (e_167 (32, .bipush 20, 2) (List.mem_of_getElem? (i := 17) rfl)) ⟨rfl, rfl, rfl, rfl⟩ ?_
  refine y_c4 (K' := _) (e_167 (34, .invokevirtual 205, 3) (List.mem_of_getElem? (i := 18) rfl)) ⟨rfl, rfl, rfl⟩ t_17_205 ⟨by decide, by decide, by decide, by decide⟩ m_172_ok rfl (by decide) (y_recv q2.T.I q2.T.t ⟨rfl, rfl⟩) (Nat.le_of_ble_eq_true rfl) (Nat.le_of_ble_eq_true rfl) (k_puts_no q2 hno) (fun r1 Gc hc1 => ?_)
  obtain ⟨rfl, hz⟩ := hc1
  simp only [Option.toList_some, Option.toList_none, List.cons_append, List.nil_append]
  refine y_ifc (e_167 (37, .ifCond .eq 7, 3) (List.mem_of_getElem? (i := 19) rfl)) rfl (fun _ => ?_) (fun hc => absurd hc (by decide))
  refine y_st (e_167 (44, .iconst 0, 1) (List.mem_of_getElem? (i := 22) rfl)) ⟨rfl, rfl, rfl, rfl⟩ ?_
  exact y_ret (e_167 (45, .ireturn, 1) (List.mem_of_getElem? (i := 23) rfl)) ⟨rfl, y_rb (Or.inl rfl)⟩ ⟨rfl, hz⟩
set_option maxHeartbeats 2000000 in
set_option maxRecDepth 100000 in
theorem v_long_ok (h : MS th am mb hb nb rb f n lim p0 tok0 at0 sp0 num0 wd0 hf nf on G) (hw : tok0 = Int32.ofInt 1 ∧ wd0 = t_W 0) (hb0 : t_bit on (Int32.ofInt 0) = false) (hN1 : NXm f n lim p0 num0 wd0 p1 tok1 at1 sp1 num1 wd1) (htk1 : tok1 = Int32.ofInt 2) (a1 : 1 ≤ num1.toInt) (b1 : num1.toInt ≤ 20) (hN2 : NXm f n lim p1 num1 wd1 p2 tok2 at2 sp2 num2 wd2) (htk2 : tok2 = Int32.ofInt 2) (a2 : 1 ≤ num2.toInt) (b2 : num2.toInt ≤ 20) (hN3 : NXm f n lim p2 num2 wd2 p3 tok3 at3 sp3 num3 wd3) : x_Gd xs L J (d + 6) m_167 (fun r G' => r = some (.int 1) ∧ MS th am mb hb nb rb f n lim p3 tok3 at3 sp3 num3 wd3 (fun i => if i = 1 then num2 else (fun i => if i = 0 then num1 else hf i) i) nf (on ||| (Int32.ofInt 1 <<< (Int32.ofInt 0 &&& 31))) G') 0 (lv_args 0 [.ref am]) [] G := by
  have g0 : pm_get (lv_args 0 [.ref am]) 0 = some (.ref am) := rfl
  generalize (lv_args 0 [.ref am]) = lv at g0 ⊢
  refine v_to_long h g0 hw ?_
  refine y_aln (e_167 (10, .aload_n 0, 1) (List.mem_of_getElem? (i := 4) rfl)) g0 ?_
  refine y_st (e_167 (11, .iconst 0, 1) (List.mem_of_getElem? (i := 5) rfl)) ⟨rfl, rfl, rfl, rfl⟩ ?_
  refine y_c2 (K' := _) (e_167 (12, .invokevirtual 202, 3) (List.mem_of_getElem? (i := 6) rfl)) ⟨rfl, rfl, rfl⟩ t_17_202 ⟨by decide, by decide, by decide, by decide⟩ m_169_ok rfl (by decide) (y_recv h.T.I h.T.t ⟨rfl, rfl⟩) (Nat.le_of_ble_eq_true rfl) (Nat.le_of_ble_eq_true rfl) (k_isOnce_yes h hb0 hN1) (fun r1 Gc hc1 => ?_)
  obtain ⟨rfl, q1⟩ := hc1
  simp only [Option.toList_some, Option.toList_none, List.cons_append, List.nil_append]
  refine y_ifc (e_167 (15, .ifCond .eq 29, 3) (List.mem_of_getElem? (i := 7) rfl)) rfl (fun hc => absurd hc (by decide)) (fun _ => ?_)
  refine y_aln (e_167 (18, .aload_n 0, 1) (List.mem_of_getElem? (i := 8) rfl)) g0 ?_
  refine y_st (e_167 (19, .iconst 0, 1) (List.mem_of_getElem? (i := 9) rfl)) ⟨rfl, rfl, rfl, rfl⟩ ?_
  refine y_st (e_167 (20, .iconst 1, 1) (List.mem_of_getElem? (i := 10) rfl)) ⟨rfl, rfl, rfl, rfl⟩ ?_
  refine y_st (e_167 (21, .bipush 20, 2) (List.mem_of_getElem? (i := 11) rfl)) ⟨rfl, rfl, rfl, rfl⟩ ?_
  refine y_c4 (K' := _) (e_167 (23, .invokevirtual 205, 3) (List.mem_of_getElem? (i := 12) rfl)) ⟨rfl, rfl, rfl⟩ t_17_205 ⟨by decide, by decide, by decide, by decide⟩ m_172_ok rfl (by decide) (y_recv q1.T.I q1.T.t ⟨rfl, rfl⟩) (Nat.le_of_ble_eq_true rfl) (Nat.le_of_ble_eq_true rfl) (k_puts_yes q1 htk1 a1 b1 ⟨by decide, by decide⟩ (y_okI (lo := 0) (hi := 20) rfl (by omega) (by omega)) hN2) (fun r1 Gc hc1 => ?_)
  obtain ⟨rfl, q2⟩ := hc1
  simp only [Option.toList_some, Option.toList_none, List.cons_append, List.nil_append]
  refine y_ifc (e_167 (26, .ifCond .eq 18, 3) (List.mem_of_getElem? (i := 13) rfl)) rfl (fun hc => absurd hc (by decide)) (fun _ => ?_)
  refine y_aln (e_167 (29, .aload_n 0, 1) (List.mem_of_getElem? (i := 14) rfl)) g0 ?_
  refine y_st (e_167 (30, .iconst 1, 1) (List.mem_of_getElem? (i := 15) rfl)) ⟨rfl, rfl, rfl, rfl⟩ ?_
  refine y_st (e_167 (31, .iconst 1, 1) (List.mem_of_getElem? (i := 16) rfl)) ⟨rfl, rfl, rfl, rfl⟩ ?_
  refine y_st (e_167 (32, .bipush 20, 2) (List.mem_of_getElem? (i := 17) rfl)) ⟨rfl, rfl, rfl, rfl⟩ ?_
  refine y_c4 (K' := _) (e_167 (34, .invokevirtual 205, 3) (List.mem_of_getElem? (i := 18) rfl)) ⟨rfl, rfl, rfl⟩ t_17_205 ⟨by decide, by decide, by decide, by decide⟩ m_172_ok rfl (by decide) (y_recv q2.T.I q2.T.t ⟨rfl, rfl⟩) (Nat.le_of_ble_eq_true rfl) (Nat.le_of_ble_eq_true rfl) (k_puts_yes q2 htk2 a2 b2 ⟨by decide, by decide⟩ (y_okI (lo := 0) (hi := 20) rfl (by omega) (by omega)) hN3) (fun r1 Gc hc1 => ?_)
  obtain ⟨rfl, q3⟩ := hc1
  simp only [Option.toList_some, Option.toList_none, List.cons_append, List.nil_append]
  refine y_ifc (e_167 (37, .ifCond .eq 7, 3) (List.mem_of_getElem? (i := 19) rfl)) rfl (fun hc => absurd hc (by decide)) (fun _ => ?_)
  refine y_st (e_167 (40, .iconst 1, 1) (List.mem_of_getElem? (i := 20) rfl)) ⟨rfl, rfl, rfl, rfl⟩ ?_
  refine y_st (e_167 (41, .goto 4, 3) (List.mem_of_getElem? (i := 21) rfl)) ⟨rfl, rfl, rfl, rfl⟩ ?_
  exact y_ret (e_167 (45, .ireturn, 1) (List.mem_of_getElem? (i := 23) rfl)) ⟨rfl, y_rb (Or.inr rfl)⟩ ⟨rfl, q3⟩
set_option maxHeartbeats 2000000 in
set_option maxRecDepth 100000 in
theorem v_breath_0 (h : MS th am mb hb nb rb f n lim p0 tok0 at0 sp0 num0 wd0 hf nf on G) (hw : tok0 = Int32.ofInt 1 ∧ wd0 = t_W 1) (hb0 : t_bit on (Int32.ofInt 1) = true) : x_Gd xs L J (d + 6) m_167 (fun r G' => r = some (.int 0) ∧ x_sl G' am 16 = some (.int at0) ∧ x_sl G' am 15 = some (.int (Int32.ofInt 3))) 0 (lv_args 0 [.ref am]) [] G := by
  have g0 : pm_get (lv_args 0 [.ref am]) 0 = some (.ref am) := rfl
  generalize (lv_args 0 [.ref am]) = lv at g0 ⊢
  refine v_to_breath h g0 hw ?_
  refine y_aln (e_167 (56, .aload_n 0, 1) (List.mem_of_getElem? (i := 28) rfl)) g0 ?_
  refine y_st (e_167 (57, .iconst 1, 1) (List.mem_of_getElem? (i := 29) rfl)) ⟨rfl, rfl, rfl, rfl⟩ ?_
  refine y_c2 (K' := _) (e_167 (58, .invokevirtual 202, 3) (List.mem_of_getElem? (i := 30) rfl)) ⟨rfl, rfl, rfl⟩ t_17_202 ⟨by decide, by decide, by decide, by decide⟩ m_169_ok rfl (by decide) (y_recv h.T.I h.T.t ⟨rfl, rfl⟩) (Nat.le_of_ble_eq_true rfl) (Nat.le_of_ble_eq_true rfl) (k_isOnce_no h hb0) (fun r1 Gc hc1 => ?_)
  obtain ⟨rfl, hz⟩ := hc1
  simp only [Option.toList_some, Option.toList_none, List.cons_append, List.nil_append]
  refine y_ifc (e_167 (61, .ifCond .eq 55, 3) (List.mem_of_getElem? (i := 31) rfl)) rfl (fun _ => ?_) (fun hc => absurd hc (by decide))
  refine y_st (e_167 (116, .iconst 0, 1) (List.mem_of_getElem? (i := 58) rfl)) ⟨rfl, rfl, rfl, rfl⟩ ?_
  exact y_ret (e_167 (117, .ireturn, 1) (List.mem_of_getElem? (i := 59) rfl)) ⟨rfl, y_rb (Or.inl rfl)⟩ ⟨rfl, hz⟩
set_option maxHeartbeats 2000000 in
set_option maxRecDepth 100000 in
theorem v_breath_1 (h : MS th am mb hb nb rb f n lim p0 tok0 at0 sp0 num0 wd0 hf nf on G) (hw : tok0 = Int32.ofInt 1 ∧ wd0 = t_W 1) (hb0 : t_bit on (Int32.ofInt 1) = false) (hN1 : NXm f n lim p0 num0 wd0 p1 tok1 at1 sp1 num1 wd1)  (hno : tok1 ≠ Int32.ofInt 2 ∨ num1.toInt < 1 ∨ 12 < num1.toInt) : x_Gd xs L J (d + 6) m_167 (fun r G' => r = some (.int 0) ∧ x_sl G' am 16 = some (.int at1) ∧ x_sl G' am 15 = some (.int (t_km tok1))) 0 (lv_args 0 [.ref am]) [] G := by
  have g0 : pm_get (lv_args 0 [.ref am]) 0 = some (.ref am) := rfl
  generalize (lv_args 0 [.ref am]) = lv at g0 ⊢
  refine v_to_breath h g0 hw ?_
  refine y_aln (e_167 (56, .aload_n 0, 1) (List.mem_of_getElem? (i := 28) rfl)) g0 ?_
  refine y_st (e_167 (57, .iconst 1, 1) (List.mem_of_getElem? (i := 29) rfl)) ⟨rfl, rfl, rfl, rfl⟩ ?_
  refine y_c2 (K' := _) (e_167 (58, .invokevirtual 202, 3) (List.mem_of_getElem? (i := 30) rfl)) ⟨rfl, rfl, rfl⟩ t_17_202 ⟨by decide, by decide, by decide, by decide⟩ m_169_ok rfl (by decide) (y_recv h.T.I h.T.t ⟨rfl, rfl⟩) (Nat.le_of_ble_eq_true rfl) (Nat.le_of_ble_eq_true rfl) (k_isOnce_yes h hb0 hN1) (fun r1 Gc hc1 => ?_)
  obtain ⟨rfl, q1⟩ := hc1
  simp only [Option.toList_some, Option.toList_none, List.cons_append, List.nil_append]
  refine y_ifc (e_167 (61, .ifCond .eq 55, 3) (List.mem_of_getElem? (i := 31) rfl)) rfl (fun hc => absurd hc (by decide)) (fun _ => ?_)
  refine y_aln (e_167 (64, .aload_n 0, 1) (List.mem_of_getElem? (i := 32) rfl)) g0 ?_
  refine y_st (e_167 (65, .bipush 6, 2) (List.mem_of_getElem? (i := 33) rfl)) ⟨rfl, rfl, rfl, rfl⟩ ?_
  refine y_st (e_167 (67, .iconst 1, 1) (List.mem_of_getElem? (i := 34) rfl)) ⟨rfl, rfl, rfl, rfl⟩ ?_
  refine y_st (e_167 (68, .bipush 12, 2) (List.mem_of_getElem? (i := 35) rfl)) ⟨rfl, rfl, rfl, rfl⟩ ?_
  refine y_c4 (K' := _) (e_167 (70, .invokevirtual 205, 3) (List.mem_of_getElem? (i := 36) rfl)) ⟨rfl, rfl, rfl⟩ t_17_205 ⟨by decide, by decide, by decide, by decide⟩ m_172_ok rfl (by decide) (y_recv q1.T.I q1.T.t ⟨rfl, rfl⟩) (Nat.le_of_ble_eq_true rfl) (Nat.le_of_ble_eq_true rfl) (k_puts_no q1 hno) (fun r1 Gc hc1 => ?_)
  obtain ⟨rfl, hz⟩ := hc1
  simp only [Option.toList_some, Option.toList_none, List.cons_append, List.nil_append]
  refine y_ifc (e_167 (73, .ifCond .eq 43, 3) (List.mem_of_getElem? (i := 37) rfl)) rfl (fun _ => ?_) (fun hc => absurd hc (by decide))
  refine y_st (e_167 (116, .iconst 0, 1) (List.mem_of_getElem? (i := 58) rfl)) ⟨rfl, rfl, rfl, rfl⟩ ?_
  exact y_ret (e_167 (117, .ireturn, 1) (List.mem_of_getElem? (i := 59) rfl)) ⟨rfl, y_rb (Or.inl rfl)⟩ ⟨rfl, hz⟩
set_option maxHeartbeats 2000000 in
set_option maxRecDepth 100000 in
theorem v_breath_2 (h : MS th am mb hb nb rb f n lim p0 tok0 at0 sp0 num0 wd0 hf nf on G) (hw : tok0 = Int32.ofInt 1 ∧ wd0 = t_W 1) (hb0 : t_bit on (Int32.ofInt 1) = false) (hN1 : NXm f n lim p0 num0 wd0 p1 tok1 at1 sp1 num1 wd1) (htk1 : tok1 = Int32.ofInt 2) (a1 : 1 ≤ num1.toInt) (b1 : num1.toInt ≤ 12) (hN2 : NXm f n lim p1 num1 wd1 p2 tok2 at2 sp2 num2 wd2) (hno : tok2 ≠ Int32.ofInt 2 ∨ num2.toInt < 0 ∨ 12 < num2.toInt) : x_Gd xs L J (d + 6) m_167 (fun r G' => r = some (.int 0) ∧ x_sl G' am 16 = some (.int at2) ∧ x_sl G' am 15 = some (.int (t_km tok2))) 0 (lv_args 0 [.ref am]) [] G := by
  have g0 : pm_get (lv_args 0 [.ref am]) 0 = some (.ref am) := rfl
  generalize (lv_args 0 [.ref am]) = lv at g0 ⊢
  refine v_to_breath h g0 hw ?_
  refine y_aln (e_167 (56, .aload_n 0, 1) (List.mem_of_getElem? (i := 28) rfl)) g0 ?_
  refine y_st (e_167 (57, .iconst 1, 1) (List.mem_of_getElem? (i := 29) rfl)) ⟨rfl, rfl, rfl, rfl⟩ ?_
  refine y_c2 (K' := _) (e_167 (58, .invokevirtual 202, 3) (List.mem_of_getElem? (i := 30) rfl)) ⟨rfl, rfl, rfl⟩ t_17_202 ⟨by decide, by decide, by decide, by decide⟩ m_169_ok rfl (by decide) (y_recv h.T.I h.T.t ⟨rfl, rfl⟩) (Nat.le_of_ble_eq_true rfl) (Nat.le_of_ble_eq_true rfl) (k_isOnce_yes h hb0 hN1) (fun r1 Gc hc1 => ?_)
  obtain ⟨rfl, q1⟩ := hc1
  simp only [Option.toList_some, Option.toList_none, List.cons_append, List.nil_append]
  refine y_ifc (e_167 (61, .ifCond .eq 55, 3) (List.mem_of_getElem? (i := 31) rfl)) rfl (fun hc => absurd hc (by decide)) (fun _ => ?_)
  refine y_aln (e_167 (64, .aload_n 0, 1) (List.mem_of_getElem? (i := 32) rfl)) g0 ?_
  refine y_st (e_167 (65, .bipush 6, 2) (List.mem_of_getElem? (i := 33) rfl)) ⟨rfl, rfl, rfl, rfl⟩ ?_
  refine y_st (e_167 (67, .iconst 1, 1) (List.mem_of_getElem? (i := 34) rfl)) ⟨rfl, rfl, rfl, rfl⟩ ?_
  refine y_st (e_167 (68, .bipush 12, 2) (List.mem_of_getElem? (i := 35) rfl)) ⟨rfl, rfl, rfl, rfl⟩ ?_
  refine y_c4 (K' := _) (e_167 (70, .invokevirtual 205, 3) (List.mem_of_getElem? (i := 36) rfl)) ⟨rfl, rfl, rfl⟩ t_17_205 ⟨by decide, by decide, by decide, by decide⟩ m_172_ok rfl (by decide) (y_recv q1.T.I q1.T.t ⟨rfl, rfl⟩) (Nat.le_of_ble_eq_true rfl) (Nat.le_of_ble_eq_true rfl) (k_puts_yes q1 htk1 a1 b1 ⟨by decide, by decide⟩ (y_okI (lo := 1) (hi := 12) rfl (by omega) (by omega)) hN2) (fun r1 Gc hc1 => ?_)
  obtain ⟨rfl, q2⟩ := hc1
  simp only [Option.toList_some, Option.toList_none, List.cons_append, List.nil_append]
  refine y_ifc (e_167 (73, .ifCond .eq 43, 3) (List.mem_of_getElem? (i := 37) rfl)) rfl (fun hc => absurd hc (by decide)) (fun _ => ?_)
  refine y_aln (e_167 (76, .aload_n 0, 1) (List.mem_of_getElem? (i := 38) rfl)) g0 ?_
  refine y_st (e_167 (77, .bipush 7, 2) (List.mem_of_getElem? (i := 39) rfl)) ⟨rfl, rfl, rfl, rfl⟩ ?_
  refine y_st (e_167 (79, .iconst 0, 1) (List.mem_of_getElem? (i := 40) rfl)) ⟨rfl, rfl, rfl, rfl⟩ ?_
  refine y_st (e_167 (80, .bipush 12, 2) (List.mem_of_getElem? (i := 41) rfl)) ⟨rfl, rfl, rfl, rfl⟩ ?_
  refine y_c4 (K' := _) (e_167 (82, .invokevirtual 205, 3) (List.mem_of_getElem? (i := 42) rfl)) ⟨rfl, rfl, rfl⟩ t_17_205 ⟨by decide, by decide, by decide, by decide⟩ m_172_ok rfl (by decide) (y_recv q2.T.I q2.T.t ⟨rfl, rfl⟩) (Nat.le_of_ble_eq_true rfl) (Nat.le_of_ble_eq_true rfl) (k_puts_no q2 hno) (fun r1 Gc hc1 => ?_)
  obtain ⟨rfl, hz⟩ := hc1
  simp only [Option.toList_some, Option.toList_none, List.cons_append, List.nil_append]
  refine y_ifc (e_167 (85, .ifCond .eq 31, 3) (List.mem_of_getElem? (i := 43) rfl)) rfl (fun _ => ?_) (fun hc => absurd hc (by decide))
  refine y_st (e_167 (116, .iconst 0, 1) (List.mem_of_getElem? (i := 58) rfl)) ⟨rfl, rfl, rfl, rfl⟩ ?_
  exact y_ret (e_167 (117, .ireturn, 1) (List.mem_of_getElem? (i := 59) rfl)) ⟨rfl, y_rb (Or.inl rfl)⟩ ⟨rfl, hz⟩
set_option maxHeartbeats 2000000 in
set_option maxRecDepth 100000 in
theorem v_breath_3 (h : MS th am mb hb nb rb f n lim p0 tok0 at0 sp0 num0 wd0 hf nf on G) (hw : tok0 = Int32.ofInt 1 ∧ wd0 = t_W 1) (hb0 : t_bit on (Int32.ofInt 1) = false) (hN1 : NXm f n lim p0 num0 wd0 p1 tok1 at1 sp1 num1 wd1) (htk1 : tok1 = Int32.ofInt 2) (a1 : 1 ≤ num1.toInt) (b1 : num1.toInt ≤ 12) (hN2 : NXm f n lim p1 num1 wd1 p2 tok2 at2 sp2 num2 wd2) (htk2 : tok2 = Int32.ofInt 2) (a2 : 0 ≤ num2.toInt) (b2 : num2.toInt ≤ 12) (hN3 : NXm f n lim p2 num2 wd2 p3 tok3 at3 sp3 num3 wd3) (hno : tok3 ≠ Int32.ofInt 2 ∨ num3.toInt < 1 ∨ 12 < num3.toInt) : x_Gd xs L J (d + 6) m_167 (fun r G' => r = some (.int 0) ∧ x_sl G' am 16 = some (.int at3) ∧ x_sl G' am 15 = some (.int (t_km tok3))) 0 (lv_args 0 [.ref am]) [] G := by
  have g0 : pm_get (lv_args 0 [.ref am]) 0 = some (.ref am) := rfl
  generalize (lv_args 0 [.ref am]) = lv at g0 ⊢
  refine v_to_breath h g0 hw ?_
  refine y_aln (e_167 (56, .aload_n 0, 1) (List.mem_of_getElem? (i := 28) rfl)) g0 ?_
  refine y_st (e_167 (57, .iconst 1, 1) (List.mem_of_getElem? (i := 29) rfl)) ⟨rfl, rfl, rfl, rfl⟩ ?_
  refine y_c2 (K' := _) (e_167 (58, .invokevirtual 202, 3) (List.mem_of_getElem? (i := 30) rfl)) ⟨rfl, rfl, rfl⟩ t_17_202 ⟨by decide, by decide, by decide, by decide⟩ m_169_ok rfl (by decide) (y_recv h.T.I h.T.t ⟨rfl, rfl⟩) (Nat.le_of_ble_eq_true rfl) (Nat.le_of_ble_eq_true rfl) (k_isOnce_yes h hb0 hN1) (fun r1 Gc hc1 => ?_)
  obtain ⟨rfl, q1⟩ := hc1
  simp only [Option.toList_some, Option.toList_none, List.cons_append, List.nil_append]
  refine y_ifc (e_167 (61, .ifCond .eq 55, 3) (List.mem_of_getElem? (i := 31) rfl)) rfl (fun hc => absurd hc (by decide)) (fun _ => ?_)
  refine y_aln (e_167 (64, .aload_n 0, 1) (List.mem_of_getElem? (i := 32) rfl)) g0 ?_
  refine y_st (e_167 (65, .bipush 6, 2) (List.mem_of_getElem? (i := 33) rfl)) ⟨rfl, rfl, rfl, rfl⟩ ?_
  refine y_st (e_167 (67, .iconst 1, 1) (List.mem_of_getElem? (i := 34) rfl)) ⟨rfl, rfl, rfl, rfl⟩ ?_
  refine y_st (e_167 (68, .bipush 12, 2) (List.mem_of_getElem? (i := 35) rfl)) ⟨rfl, rfl, rfl, rfl⟩ ?_
  refine y_c4 (K' := _) (e_167 (70, .invokevirtual 205, 3) (List.mem_of_getElem? (i := 36) rfl)) ⟨rfl, rfl, rfl⟩ t_17_205 ⟨by decide, by decide, by decide, by decide⟩ m_172_ok rfl (by decide) (y_recv q1.T.I q1.T.t ⟨rfl, rfl⟩) (Nat.le_of_ble_eq_true rfl) (Nat.le_of_ble_eq_true rfl) (k_puts_yes q1 htk1 a1 b1 ⟨by decide, by decide⟩ (y_okI (lo := 1) (hi := 12) rfl (by omega) (by omega)) hN2) (fun r1 Gc hc1 => ?_)
  obtain ⟨rfl, q2⟩ := hc1
  simp only [Option.toList_some, Option.toList_none, List.cons_append, List.nil_append]
  refine y_ifc (e_167 (73, .ifCond .eq 43, 3) (List.mem_of_getElem? (i := 37) rfl)) rfl (fun hc => absurd hc (by decide)) (fun _ => ?_)
  refine y_aln (e_167 (76, .aload_n 0, 1) (List.mem_of_getElem? (i := 38) rfl)) g0 ?_
  refine y_st (e_167 (77, .bipush 7, 2) (List.mem_of_getElem? (i := 39) rfl)) ⟨rfl, rfl, rfl, rfl⟩ ?_
  refine y_st (e_167 (79, .iconst 0, 1) (List.mem_of_getElem? (i := 40) rfl)) ⟨rfl, rfl, rfl, rfl⟩ ?_
  refine y_st (e_167 (80, .bipush 12, 2) (List.mem_of_getElem? (i := 41) rfl)) ⟨rfl, rfl, rfl, rfl⟩ ?_
  refine y_c4 (K' := _) (e_167 (82, .invokevirtual 205, 3) (List.mem_of_getElem? (i := 42) rfl)) ⟨rfl, rfl, rfl⟩ t_17_205 ⟨by decide, by decide, by decide, by decide⟩ m_172_ok rfl (by decide) (y_recv q2.T.I q2.T.t ⟨rfl, rfl⟩) (Nat.le_of_ble_eq_true rfl) (Nat.le_of_ble_eq_true rfl) (k_puts_yes q2 htk2 a2 b2 ⟨by decide, by decide⟩ (y_okI (lo := 0) (hi := 12) rfl (by omega) (by omega)) hN3) (fun r1 Gc hc1 => ?_)
  obtain ⟨rfl, q3⟩ := hc1
  simp only [Option.toList_some, Option.toList_none, List.cons_append, List.nil_append]
  refine y_ifc (e_167 (85, .ifCond .eq 31, 3) (List.mem_of_getElem? (i := 43) rfl)) rfl (fun hc => absurd hc (by decide)) (fun _ => ?_)
  refine y_aln (e_167 (88, .aload_n 0, 1) (List.mem_of_getElem? (i := 44) rfl)) g0 ?_
  refine y_st (e_167 (89, .bipush 8, 2) (List.mem_of_getElem? (i := 45) rfl)) ⟨rfl, rfl, rfl, rfl⟩ ?_
  refine y_st (e_167 (91, .iconst 1, 1) (List.mem_of_getElem? (i := 46) rfl)) ⟨rfl, rfl, rfl, rfl⟩ ?_
  refine y_st (e_167 (92, .bipush 12, 2) (List.mem_of_getElem? (i := 47) rfl)) ⟨rfl, rfl, rfl, rfl⟩ ?_
  refine y_c4 (K' := _) (e_167 (94, .invokevirtual 205, 3) (List.mem_of_getElem? (i := 48) rfl)) ⟨rfl, rfl, rfl⟩ t_17_205 ⟨by decide, by decide, by decide, by decide⟩ m_172_ok rfl (by decide) (y_recv q3.T.I q3.T.t ⟨rfl, rfl⟩) (Nat.le_of_ble_eq_true rfl) (Nat.le_of_ble_eq_true rfl) (k_puts_no q3 hno) (fun r1 Gc hc1 => ?_)
  obtain ⟨rfl, hz⟩ := hc1
  simp only [Option.toList_some, Option.toList_none, List.cons_append, List.nil_append]
  refine y_ifc (e_167 (97, .ifCond .eq 19, 3) (List.mem_of_getElem? (i := 49) rfl)) rfl (fun _ => ?_) (fun hc => absurd hc (by decide))
  refine y_st (e_167 (116, .iconst 0, 1) (List.mem_of_getElem? (i := 58) rfl)) ⟨rfl, rfl, rfl, rfl⟩ ?_
  exact y_ret (e_167 (117, .ireturn, 1) (List.mem_of_getElem? (i := 59) rfl)) ⟨rfl, y_rb (Or.inl rfl)⟩ ⟨rfl, hz⟩
set_option maxHeartbeats 2000000 in
set_option maxRecDepth 100000 in
theorem v_breath_4 (h : MS th am mb hb nb rb f n lim p0 tok0 at0 sp0 num0 wd0 hf nf on G) (hw : tok0 = Int32.ofInt 1 ∧ wd0 = t_W 1) (hb0 : t_bit on (Int32.ofInt 1) = false) (hN1 : NXm f n lim p0 num0 wd0 p1 tok1 at1 sp1 num1 wd1) (htk1 : tok1 = Int32.ofInt 2) (a1 : 1 ≤ num1.toInt) (b1 : num1.toInt ≤ 12) (hN2 : NXm f n lim p1 num1 wd1 p2 tok2 at2 sp2 num2 wd2) (htk2 : tok2 = Int32.ofInt 2) (a2 : 0 ≤ num2.toInt) (b2 : num2.toInt ≤ 12) (hN3 : NXm f n lim p2 num2 wd2 p3 tok3 at3 sp3 num3 wd3) (htk3 : tok3 = Int32.ofInt 2) (a3 : 1 ≤ num3.toInt) (b3 : num3.toInt ≤ 12) (hN4 : NXm f n lim p3 num3 wd3 p4 tok4 at4 sp4 num4 wd4) (hno : tok4 ≠ Int32.ofInt 2 ∨ num4.toInt < 0 ∨ 12 < num4.toInt) : x_Gd xs L J (d + 6) m_167 (fun r G' => r = some (.int 0) ∧ x_sl G' am 16 = some (.int at4) ∧ x_sl G' am 15 = some (.int (t_km tok4))) 0 (lv_args 0 [.ref am]) [] G := by
  have g0 : pm_get (lv_args 0 [.ref am]) 0 = some (.ref am) := rfl
  generalize (lv_args 0 [.ref am]) = lv at g0 ⊢
  refine v_to_breath h g0 hw ?_
  refine y_aln (e_167 (56, .aload_n 0, 1) (List.mem_of_getElem? (i := 28) rfl)) g0 ?_
  refine y_st (e_167 (57, .iconst 1, 1) (List.mem_of_getElem? (i := 29) rfl)) ⟨rfl, rfl, rfl, rfl⟩ ?_
  refine y_c2 (K' := _) (e_167 (58, .invokevirtual 202, 3) (List.mem_of_getElem? (i := 30) rfl)) ⟨rfl, rfl, rfl⟩ t_17_202 ⟨by decide, by decide, by decide, by decide⟩ m_169_ok rfl (by decide) (y_recv h.T.I h.T.t ⟨rfl, rfl⟩) (Nat.le_of_ble_eq_true rfl) (Nat.le_of_ble_eq_true rfl) (k_isOnce_yes h hb0 hN1) (fun r1 Gc hc1 => ?_)
  obtain ⟨rfl, q1⟩ := hc1
  simp only [Option.toList_some, Option.toList_none, List.cons_append, List.nil_append]
  refine y_ifc (e_167 (61, .ifCond .eq 55, 3) (List.mem_of_getElem? (i := 31) rfl)) rfl (fun hc => absurd hc (by decide)) (fun _ => ?_)
  refine y_aln (e_167 (64, .aload_n 0, 1) (List.mem_of_getElem? (i := 32) rfl)) g0 ?_
  refine y_st (e_167 (65, .bipush 6, 2) (List.mem_of_getElem? (i := 33) rfl)) ⟨rfl, rfl, rfl, rfl⟩ ?_
  refine y_st (e_167 (67, .iconst 1, 1) (List.mem_of_getElem? (i := 34) rfl)) ⟨rfl, rfl, rfl, rfl⟩ ?_
  refine y_st (e_167 (68, .bipush 12, 2) (List.mem_of_getElem? (i := 35) rfl)) ⟨rfl, rfl, rfl, rfl⟩ ?_
  refine y_c4 (K' := _) (e_167 (70, .invokevirtual 205, 3) (List.mem_of_getElem? (i := 36) rfl)) ⟨rfl, rfl, rfl⟩ t_17_205 ⟨by decide, by decide, by decide, by decide⟩ m_172_ok rfl (by decide) (y_recv q1.T.I q1.T.t ⟨rfl, rfl⟩) (Nat.le_of_ble_eq_true rfl) (Nat.le_of_ble_eq_true rfl) (k_puts_yes q1 htk1 a1 b1 ⟨by decide, by decide⟩ (y_okI (lo := 1) (hi := 12) rfl (by omega) (by omega)) hN2) (fun r1 Gc hc1 => ?_)
  obtain ⟨rfl, q2⟩ := hc1
  simp only [Option.toList_some, Option.toList_none, List.cons_append, List.nil_append]
  refine y_ifc (e_167 (73, .ifCond .eq 43, 3) (List.mem_of_getElem? (i := 37) rfl)) rfl (fun hc => absurd hc (by decide)) (fun _ => ?_)
  refine y_aln (e_167 (76, .aload_n 0, 1) (List.mem_of_getElem? (i := 38) rfl)) g0 ?_
  refine y_st (e_167 (77, .bipush 7, 2) (List.mem_of_getElem? (i := 39) rfl)) ⟨rfl, rfl, rfl, rfl⟩ ?_
  refine y_st (e_167 (79, .iconst 0, 1) (List.mem_of_getElem? (i := 40) rfl)) ⟨rfl, rfl, rfl, rfl⟩ ?_
  refine y_st (e_167 (80, .bipush 12, 2) (List.mem_of_getElem? (i := 41) rfl)) ⟨rfl, rfl, rfl, rfl⟩ ?_
  refine y_c4 (K' := _) (e_167 (82, .invokevirtual 205, 3) (List.mem_of_getElem? (i := 42) rfl)) ⟨rfl, rfl, rfl⟩ t_17_205 ⟨by decide, by decide, by decide, by decide⟩ m_172_ok rfl (by decide) (y_recv q2.T.I q2.T.t ⟨rfl, rfl⟩) (Nat.le_of_ble_eq_true rfl) (Nat.le_of_ble_eq_true rfl) (k_puts_yes q2 htk2 a2 b2 ⟨by decide, by decide⟩ (y_okI (lo := 0) (hi := 12) rfl (by omega) (by omega)) hN3) (fun r1 Gc hc1 => ?_)
  obtain ⟨rfl, q3⟩ := hc1
  simp only [Option.toList_some, Option.toList_none, List.cons_append, List.nil_append]
  refine y_ifc (e_167 (85, .ifCond .eq 31, 3) (List.mem_of_getElem? (i := 43) rfl)) rfl (fun hc => absurd hc (by decide)) (fun _ => ?_)
  refine y_aln (e_167 (88, .aload_n 0, 1) (List.mem_of_getElem? (i := 44) rfl)) g0 ?_
  refine y_st (e_167 (89, .bipush 8, 2) (List.mem_of_getElem? (i := 45) rfl)) ⟨rfl, rfl, rfl, rfl⟩ ?_
  refine y_st (e_167 (91, .iconst 1, 1) (List.mem_of_getElem? (i := 46) rfl)) ⟨rfl, rfl, rfl, rfl⟩ ?_
  refine y_st (e_167 (92, .bipush 12, 2) (List.mem_of_getElem? (i := 47) rfl)) ⟨rfl, rfl, rfl, rfl⟩ ?_
  refine y_c4 (K' := _) (e_167 (94, .invokevirtual 205, 3) (List.mem_of_getElem? (i := 48) rfl)) ⟨rfl, rfl, rfl⟩ t_17_205 ⟨by decide, by decide, by decide, by decide⟩ m_172_ok rfl (by decide) (y_recv q3.T.I q3.T.t ⟨rfl, rfl⟩) (Nat.le_of_ble_eq_true rfl) (Nat.le_of_ble_eq_true rfl) (k_puts_yes q3 htk3 a3 b3 ⟨by decide, by decide⟩ (y_okI (lo := 0) (hi := 12) rfl (by omega) (by omega)) hN4) (fun r1 Gc hc1 => ?_)
  obtain ⟨rfl, q4⟩ := hc1
  simp only [Option.toList_some, Option.toList_none, List.cons_append, List.nil_append]
  refine y_ifc (e_167 (97, .ifCond .eq 19, 3) (List.mem_of_getElem? (i := 49) rfl)) rfl (fun hc => absurd hc (by decide)) (fun _ => ?_)
  refine y_aln (e_167 (100, .aload_n 0, 1) (List.mem_of_getElem? (i := 50) rfl)) g0 ?_
  refine y_st (e_167 (101, .bipush 9, 2) (List.mem_of_getElem? (i := 51) rfl)) ⟨rfl, rfl, rfl, rfl⟩ ?_
  refine y_st (e_167 (103, .iconst 0, 1) (List.mem_of_getElem? (i := 52) rfl)) ⟨rfl, rfl, rfl, rfl⟩ ?_
  refine y_st (e_167 (104, .bipush 12, 2) (List.mem_of_getElem? (i := 53) rfl)) ⟨rfl, rfl, rfl, rfl⟩ ?_
  refine y_c4 (K' := _) (e_167 (106, .invokevirtual 205, 3) (List.mem_of_getElem? (i := 54) rfl)) ⟨rfl, rfl, rfl⟩ t_17_205 ⟨by decide, by decide, by decide, by decide⟩ m_172_ok rfl (by decide) (y_recv q4.T.I q4.T.t ⟨rfl, rfl⟩) (Nat.le_of_ble_eq_true rfl) (Nat.le_of_ble_eq_true rfl) (k_puts_no q4 hno) (fun r1 Gc hc1 => ?_)
  obtain ⟨rfl, hz⟩ := hc1
  simp only [Option.toList_some, Option.toList_none, List.cons_append, List.nil_append]
  refine y_ifc (e_167 (109, .ifCond .eq 7, 3) (List.mem_of_getElem? (i := 55) rfl)) rfl (fun _ => ?_) (fun hc => absurd hc (by decide))
  refine y_st (e_167 (116, .iconst 0, 1) (List.mem_of_getElem? (i := 58) rfl)) ⟨rfl, rfl, rfl, rfl⟩ ?_
  exact y_ret (e_167 (117, .ireturn, 1) (List.mem_of_getElem? (i := 59) rfl)) ⟨rfl, y_rb (Or.inl rfl)⟩ ⟨rfl, hz⟩
set_option maxHeartbeats 2000000 in
set_option maxRecDepth 100000 in
theorem v_breath_ok (h : MS th am mb hb nb rb f n lim p0 tok0 at0 sp0 num0 wd0 hf nf on G) (hw : tok0 = Int32.ofInt 1 ∧ wd0 = t_W 1) (hb0 : t_bit on (Int32.ofInt 1) = false) (hN1 : NXm f n lim p0 num0 wd0 p1 tok1 at1 sp1 num1 wd1) (htk1 : tok1 = Int32.ofInt 2) (a1 : 1 ≤ num1.toInt) (b1 : num1.toInt ≤ 12) (hN2 : NXm f n lim p1 num1 wd1 p2 tok2 at2 sp2 num2 wd2) (htk2 : tok2 = Int32.ofInt 2) (a2 : 0 ≤ num2.toInt) (b2 : num2.toInt ≤ 12) (hN3 : NXm f n lim p2 num2 wd2 p3 tok3 at3 sp3 num3 wd3) (htk3 : tok3 = Int32.ofInt 2) (a3 : 1 ≤ num3.toInt) (b3 : num3.toInt ≤ 12) (hN4 : NXm f n lim p3 num3 wd3 p4 tok4 at4 sp4 num4 wd4) (htk4 : tok4 = Int32.ofInt 2) (a4 : 0 ≤ num4.toInt) (b4 : num4.toInt ≤ 12) (hN5 : NXm f n lim p4 num4 wd4 p5 tok5 at5 sp5 num5 wd5) : x_Gd xs L J (d + 6) m_167 (fun r G' => r = some (.int 1) ∧ MS th am mb hb nb rb f n lim p5 tok5 at5 sp5 num5 wd5 (fun i => if i = 9 then num4 else (fun i => if i = 8 then num3 else (fun i => if i = 7 then num2 else (fun i => if i = 6 then num1 else hf i) i) i) i) nf (on ||| (Int32.ofInt 1 <<< (Int32.ofInt 1 &&& 31))) G') 0 (lv_args 0 [.ref am]) [] G := by
  have g0 : pm_get (lv_args 0 [.ref am]) 0 = some (.ref am) := rfl
  generalize (lv_args 0 [.ref am]) = lv at g0 ⊢
  refine v_to_breath h g0 hw ?_
  refine y_aln (e_167 (56, .aload_n 0, 1) (List.mem_of_getElem? (i := 28) rfl)) g0 ?_
  refine y_st (e_167 (57, .iconst 1, 1) (List.mem_of_getElem? (i := 29) rfl)) ⟨rfl, rfl, rfl, rfl⟩ ?_
  refine y_c2 (K' := _) (e_167 (58, .invokevirtual 202, 3) (List.mem_of_getElem? (i := 30) rfl)) ⟨rfl, rfl, rfl⟩ t_17_202 ⟨by decide, by decide, by decide, by decide⟩ m_169_ok rfl (by decide) (y_recv h.T.I h.T.t ⟨rfl, rfl⟩) (Nat.le_of_ble_eq_true rfl) (Nat.le_of_ble_eq_true rfl) (k_isOnce_yes h hb0 hN1) (fun r1 Gc hc1 => ?_)
  obtain ⟨rfl, q1⟩ := hc1
  simp only [Option.toList_some, Option.toList_none, List.cons_append, List.nil_append]
  refine y_ifc (e_167 (61, .ifCond .eq 55, 3) (List.mem_of_getElem? (i := 31) rfl)) rfl (fun hc => absurd hc (by decide)) (fun _ => ?_)
  refine y_aln (e_167 (64, .aload_n 0, 1) (List.mem_of_getElem? (i := 32) rfl)) g0 ?_
  refine y_st (e_167 (65, .bipush 6, 2) (List.mem_of_getElem? (i := 33) rfl)) ⟨rfl, rfl, rfl, rfl⟩ ?_
  refine y_st (e_167 (67, .iconst 1, 1) (List.mem_of_getElem? (i := 34) rfl)) ⟨rfl, rfl, rfl, rfl⟩ ?_
  refine y_st (e_167 (68, .bipush 12, 2) (List.mem_of_getElem? (i := 35) rfl)) ⟨rfl, rfl, rfl, rfl⟩ ?_
  refine y_c4 (K' := _) (e_167 (70, .invokevirtual 205, 3) (List.mem_of_getElem? (i := 36) rfl)) ⟨rfl, rfl, rfl⟩ t_17_205 ⟨by decide, by decide, by decide, by decide⟩ m_172_ok rfl (by decide) (y_recv q1.T.I q1.T.t ⟨rfl, rfl⟩) (Nat.le_of_ble_eq_true rfl) (Nat.le_of_ble_eq_true rfl) (k_puts_yes q1 htk1 a1 b1 ⟨by decide, by decide⟩ (y_okI (lo := 1) (hi := 12) rfl (by omega) (by omega)) hN2) (fun r1 Gc hc1 => ?_)
  obtain ⟨rfl, q2⟩ := hc1
  simp only [Option.toList_some, Option.toList_none, List.cons_append, List.nil_append]
  refine y_ifc (e_167 (73, .ifCond .eq 43, 3) (List.mem_of_getElem? (i := 37) rfl)) rfl (fun hc => absurd hc (by decide)) (fun _ => ?_)
  refine y_aln (e_167 (76, .aload_n 0, 1) (List.mem_of_getElem? (i := 38) rfl)) g0 ?_
  refine y_st (e_167 (77, .bipush 7, 2) (List.mem_of_getElem? (i := 39) rfl)) ⟨rfl, rfl, rfl, rfl⟩ ?_
  refine y_st (e_167 (79, .iconst 0, 1) (List.mem_of_getElem? (i := 40) rfl)) ⟨rfl, rfl, rfl, rfl⟩ ?_
  refine y_st (e_167 (80, .bipush 12, 2) (List.mem_of_getElem? (i := 41) rfl)) ⟨rfl, rfl, rfl, rfl⟩ ?_
  refine y_c4 (K' := _) (e_167 (82, .invokevirtual 205, 3) (List.mem_of_getElem? (i := 42) rfl)) ⟨rfl, rfl, rfl⟩ t_17_205 ⟨by decide, by decide, by decide, by decide⟩ m_172_ok rfl (by decide) (y_recv q2.T.I q2.T.t ⟨rfl, rfl⟩) (Nat.le_of_ble_eq_true rfl) (Nat.le_of_ble_eq_true rfl) (k_puts_yes q2 htk2 a2 b2 ⟨by decide, by decide⟩ (y_okI (lo := 0) (hi := 12) rfl (by omega) (by omega)) hN3) (fun r1 Gc hc1 => ?_)
  obtain ⟨rfl, q3⟩ := hc1
  simp only [Option.toList_some, Option.toList_none, List.cons_append, List.nil_append]
  refine y_ifc (e_167 (85, .ifCond .eq 31, 3) (List.mem_of_getElem? (i := 43) rfl)) rfl (fun hc => absurd hc (by decide)) (fun _ => ?_)
  refine y_aln (e_167 (88, .aload_n 0, 1) (List.mem_of_getElem? (i := 44) rfl)) g0 ?_
  refine y_st (e_167 (89, .bipush 8, 2) (List.mem_of_getElem? (i := 45) rfl)) ⟨rfl, rfl, rfl, rfl⟩ ?_
  refine y_st (e_167 (91, .iconst 1, 1) (List.mem_of_getElem? (i := 46) rfl)) ⟨rfl, rfl, rfl, rfl⟩ ?_
  refine y_st (e_167 (92, .bipush 12, 2) (List.mem_of_getElem? (i := 47) rfl)) ⟨rfl, rfl, rfl, rfl⟩ ?_
  refine y_c4 (K' := _) (e_167 (94, .invokevirtual 205, 3) (List.mem_of_getElem? (i := 48) rfl)) ⟨rfl, rfl, rfl⟩ t_17_205 ⟨by decide, by decide, by decide, by decide⟩ m_172_ok rfl (by decide) (y_recv q3.T.I q3.T.t ⟨rfl, rfl⟩) (Nat.le_of_ble_eq_true rfl) (Nat.le_of_ble_eq_true rfl) (k_puts_yes q3 htk3 a3 b3 ⟨by decide, by decide⟩ (y_okI (lo := 0) (hi := 12) rfl (by omega) (by omega)) hN4) (fun r1 Gc hc1 => ?_)
  obtain ⟨rfl, q4⟩ := hc1
  simp only [Option.toList_some, Option.toList_none, List.cons_append, List.nil_append]
  refine y_ifc (e_167 (97, .ifCond .eq 19, 3) (List.mem_of_getElem? (i := 49) rfl)) rfl (fun hc => absurd hc (by decide)) (fun _ => ?_)
  refine y_aln (e_167 (100, .aload_n 0, 1) (List.mem_of_getElem? (i := 50) rfl)) g0 ?_
  refine y_st (e_167 (101, .bipush 9, 2) (List.mem_of_getElem? (i := 51) rfl)) ⟨rfl, rfl, rfl, rfl⟩ ?_
  refine y_st (e_167 (103, .iconst 0, 1) (List.mem_of_getElem? (i := 52) rfl)) ⟨rfl, rfl, rfl, rfl⟩ ?_
  refine y_st (e_167 (104, .bipush 12, 2) (List.mem_of_getElem? (i := 53) rfl)) ⟨rfl, rfl, rfl, rfl⟩ ?_
  refine y_c4 (K' := _) (e_167 (106, .invokevirtual 205, 3) (List.mem_of_getElem? (i := 54) rfl)) ⟨rfl, rfl, rfl⟩ t_17_205 ⟨by decide, by decide, by decide, by decide⟩ m_172_ok rfl (by decide) (y_recv q4.T.I q4.T.t ⟨rfl, rfl⟩) (Nat.le_of_ble_eq_true rfl) (Nat.le_of_ble_eq_true rfl) (k_puts_yes q4 htk4 a4 b4 ⟨by decide, by decide⟩ (y_okI (lo := 0) (hi := 12) rfl (by omega) (by omega)) hN5) (fun r1 Gc hc1 => ?_)
  obtain ⟨rfl, q5⟩ := hc1
  simp only [Option.toList_some, Option.toList_none, List.cons_append, List.nil_append]
  refine y_ifc (e_167 (109, .ifCond .eq 7, 3) (List.mem_of_getElem? (i := 55) rfl)) rfl (fun hc => absurd hc (by decide)) (fun _ => ?_)
  refine y_st (e_167 (112, .iconst 1, 1) (List.mem_of_getElem? (i := 56) rfl)) ⟨rfl, rfl, rfl, rfl⟩ ?_
  refine y_st (e_167 (113, .goto 4, 3) (List.mem_of_getElem? (i := 57) rfl)) ⟨rfl, rfl, rfl, rfl⟩ ?_
  exact y_ret (e_167 (117, .ireturn, 1) (List.mem_of_getElem? (i := 59) rfl)) ⟨rfl, y_rb (Or.inr rfl)⟩ ⟨rfl, q5⟩
set_option maxHeartbeats 2000000 in
set_option maxRecDepth 100000 in
theorem v_force_0 (h : MS th am mb hb nb rb f n lim p0 tok0 at0 sp0 num0 wd0 hf nf on G) (hw : tok0 = Int32.ofInt 1 ∧ wd0 = t_W 2) (hb0 : t_bit on (Int32.ofInt 2) = true) : x_Gd xs L J (d + 6) m_167 (fun r G' => r = some (.int 0) ∧ x_sl G' am 16 = some (.int at0) ∧ x_sl G' am 15 = some (.int (Int32.ofInt 3))) 0 (lv_args 0 [.ref am]) [] G := by
  have g0 : pm_get (lv_args 0 [.ref am]) 0 = some (.ref am) := rfl
  generalize (lv_args 0 [.ref am]) = lv at g0 ⊢
  refine v_to_force h g0 hw ?_
  refine y_aln (e_167 (128, .aload_n 0, 1) (List.mem_of_getElem? (i := 64) rfl)) g0 ?_
  refine y_st (e_167 (129, .iconst 2, 1) (List.mem_of_getElem? (i := 65) rfl)) ⟨rfl, rfl, rfl, rfl⟩ ?_
  refine y_c2 (K' := _) (e_167 (130, .invokevirtual 202, 3) (List.mem_of_getElem? (i := 66) rfl)) ⟨rfl, rfl, rfl⟩ t_17_202 ⟨by decide, by decide, by decide, by decide⟩ m_169_ok rfl (by decide) (y_recv h.T.I h.T.t ⟨rfl, rfl⟩) (Nat.le_of_ble_eq_true rfl) (Nat.le_of_ble_eq_true rfl) (k_isOnce_no h hb0) (fun r1 Gc hc1 => ?_)
  obtain ⟨rfl, hz⟩ := hc1
  simp only [Option.toList_some, Option.toList_none, List.cons_append, List.nil_append]
  refine y_ifc (e_167 (133, .ifCond .eq 19, 3) (List.mem_of_getElem? (i := 67) rfl)) rfl (fun _ => ?_) (fun hc => absurd hc (by decide))
  refine y_st (e_167 (152, .iconst 0, 1) (List.mem_of_getElem? (i := 76) rfl)) ⟨rfl, rfl, rfl, rfl⟩ ?_
  exact y_ret (e_167 (153, .ireturn, 1) (List.mem_of_getElem? (i := 77) rfl)) ⟨rfl, y_rb (Or.inl rfl)⟩ ⟨rfl, hz⟩
set_option maxHeartbeats 2000000 in
set_option maxRecDepth 100000 in
theorem v_force_1 (h : MS th am mb hb nb rb f n lim p0 tok0 at0 sp0 num0 wd0 hf nf on G) (hw : tok0 = Int32.ofInt 1 ∧ wd0 = t_W 2) (hb0 : t_bit on (Int32.ofInt 2) = false) (hN1 : NXm f n lim p0 num0 wd0 p1 tok1 at1 sp1 num1 wd1)  (hno : tok1 ≠ Int32.ofInt 2 ∨ num1.toInt < 1 ∨ 9 < num1.toInt) : x_Gd xs L J (d + 6) m_167 (fun r G' => r = some (.int 0) ∧ x_sl G' am 16 = some (.int at1) ∧ x_sl G' am 15 = some (.int (t_km tok1))) 0 (lv_args 0 [.ref am]) [] G := by
  have g0 : pm_get (lv_args 0 [.ref am]) 0 = some (.ref am) := rfl
  generalize (lv_args 0 [.ref am]) = lv at g0 ⊢
  refine v_to_force h g0 hw ?_
  refine y_aln (e_167 (128, .aload_n 0, 1) (List.mem_of_getElem? (i := 64) rfl)) g0 ?_
  refine y_st (e_167 (129, .iconst 2, 1) (List.mem_of_getElem? (i := 65) rfl)) ⟨rfl, rfl, rfl, rfl⟩ ?_
  refine y_c2 (K' := _) (e_167 (130, .invokevirtual 202, 3) (List.mem_of_getElem? (i := 66) rfl)) ⟨rfl, rfl, rfl⟩ t_17_202 ⟨by decide, by decide, by decide, by decide⟩ m_169_ok rfl (by decide) (y_recv h.T.I h.T.t ⟨rfl, rfl⟩) (Nat.le_of_ble_eq_true rfl) (Nat.le_of_ble_eq_true rfl) (k_isOnce_yes h hb0 hN1) (fun r1 Gc hc1 => ?_)
  obtain ⟨rfl, q1⟩ := hc1
  simp only [Option.toList_some, Option.toList_none, List.cons_append, List.nil_append]
  refine y_ifc (e_167 (133, .ifCond .eq 19, 3) (List.mem_of_getElem? (i := 67) rfl)) rfl (fun hc => absurd hc (by decide)) (fun _ => ?_)
  refine y_aln (e_167 (136, .aload_n 0, 1) (List.mem_of_getElem? (i := 68) rfl)) g0 ?_
  refine y_st (e_167 (137, .bipush 10, 2) (List.mem_of_getElem? (i := 69) rfl)) ⟨rfl, rfl, rfl, rfl⟩ ?_
  refine y_st (e_167 (139, .iconst 1, 1) (List.mem_of_getElem? (i := 70) rfl)) ⟨rfl, rfl, rfl, rfl⟩ ?_
  refine y_st (e_167 (140, .bipush 9, 2) (List.mem_of_getElem? (i := 71) rfl)) ⟨rfl, rfl, rfl, rfl⟩ ?_
  refine y_c4 (K' := _) (e_167 (142, .invokevirtual 205, 3) (List.mem_of_getElem? (i := 72) rfl)) ⟨rfl, rfl, rfl⟩ t_17_205 ⟨by decide, by decide, by decide, by decide⟩ m_172_ok rfl (by decide) (y_recv q1.T.I q1.T.t ⟨rfl, rfl⟩) (Nat.le_of_ble_eq_true rfl) (Nat.le_of_ble_eq_true rfl) (k_puts_no q1 hno) (fun r1 Gc hc1 => ?_)
  obtain ⟨rfl, hz⟩ := hc1
  simp only [Option.toList_some, Option.toList_none, List.cons_append, List.nil_append]
  refine y_ifc (e_167 (145, .ifCond .eq 7, 3) (List.mem_of_getElem? (i := 73) rfl)) rfl (fun _ => ?_) (fun hc => absurd hc (by decide))
  refine y_st (e_167 (152, .iconst 0, 1) (List.mem_of_getElem? (i := 76) rfl)) ⟨rfl, rfl, rfl, rfl⟩ ?_
  exact y_ret (e_167 (153, .ireturn, 1) (List.mem_of_getElem? (i := 77) rfl)) ⟨rfl, y_rb (Or.inl rfl)⟩ ⟨rfl, hz⟩
set_option maxHeartbeats 2000000 in
set_option maxRecDepth 100000 in
theorem v_force_ok (h : MS th am mb hb nb rb f n lim p0 tok0 at0 sp0 num0 wd0 hf nf on G) (hw : tok0 = Int32.ofInt 1 ∧ wd0 = t_W 2) (hb0 : t_bit on (Int32.ofInt 2) = false) (hN1 : NXm f n lim p0 num0 wd0 p1 tok1 at1 sp1 num1 wd1) (htk1 : tok1 = Int32.ofInt 2) (a1 : 1 ≤ num1.toInt) (b1 : num1.toInt ≤ 9) (hN2 : NXm f n lim p1 num1 wd1 p2 tok2 at2 sp2 num2 wd2) : x_Gd xs L J (d + 6) m_167 (fun r G' => r = some (.int 1) ∧ MS th am mb hb nb rb f n lim p2 tok2 at2 sp2 num2 wd2 (fun i => if i = 10 then num1 else hf i) nf (on ||| (Int32.ofInt 1 <<< (Int32.ofInt 2 &&& 31))) G') 0 (lv_args 0 [.ref am]) [] G := by
  have g0 : pm_get (lv_args 0 [.ref am]) 0 = some (.ref am) := rfl
  generalize (lv_args 0 [.ref am]) = lv at g0 ⊢
  refine v_to_force h g0 hw ?_
  refine y_aln (e_167 (128, .aload_n 0, 1) (List.mem_of_getElem? (i := 64) rfl)) g0 ?_
  refine y_st (e_167 (129, .iconst 2, 1) (List.mem_of_getElem? (i := 65) rfl)) ⟨rfl, rfl, rfl, rfl⟩ ?_
  refine y_c2 (K' := _) (e_167 (130, .invokevirtual 202, 3) (List.mem_of_getElem? (i := 66) rfl)) ⟨rfl, rfl, rfl⟩ t_17_202 ⟨by decide, by decide, by decide, by decide⟩ m_169_ok rfl (by decide) (y_recv h.T.I h.T.t ⟨rfl, rfl⟩) (Nat.le_of_ble_eq_true rfl) (Nat.le_of_ble_eq_true rfl) (k_isOnce_yes h hb0 hN1) (fun r1 Gc hc1 => ?_)
  obtain ⟨rfl, q1⟩ := hc1
  simp only [Option.toList_some, Option.toList_none, List.cons_append, List.nil_append]
  refine y_ifc (e_167 (133, .ifCond .eq 19, 3) (List.mem_of_getElem? (i := 67) rfl)) rfl (fun hc => absurd hc (by decide)) (fun _ => ?_)
  refine y_aln (e_167 (136, .aload_n 0, 1) (List.mem_of_getElem? (i := 68) rfl)) g0 ?_
  refine y_st (e_167 (137, .bipush 10, 2) (List.mem_of_getElem? (i := 69) rfl)) ⟨rfl, rfl, rfl, rfl⟩ ?_
  refine y_st (e_167 (139, .iconst 1, 1) (List.mem_of_getElem? (i := 70) rfl)) ⟨rfl, rfl, rfl, rfl⟩ ?_
  refine y_st (e_167 (140, .bipush 9, 2) (List.mem_of_getElem? (i := 71) rfl)) ⟨rfl, rfl, rfl, rfl⟩ ?_
  refine y_c4 (K' := _) (e_167 (142, .invokevirtual 205, 3) (List.mem_of_getElem? (i := 72) rfl)) ⟨rfl, rfl, rfl⟩ t_17_205 ⟨by decide, by decide, by decide, by decide⟩ m_172_ok rfl (by decide) (y_recv q1.T.I q1.T.t ⟨rfl, rfl⟩) (Nat.le_of_ble_eq_true rfl) (Nat.le_of_ble_eq_true rfl) (k_puts_yes q1 htk1 a1 b1 ⟨by decide, by decide⟩ (y_okA rfl) hN2) (fun r1 Gc hc1 => ?_)
  obtain ⟨rfl, q2⟩ := hc1
  simp only [Option.toList_some, Option.toList_none, List.cons_append, List.nil_append]
  refine y_ifc (e_167 (145, .ifCond .eq 7, 3) (List.mem_of_getElem? (i := 73) rfl)) rfl (fun hc => absurd hc (by decide)) (fun _ => ?_)
  refine y_st (e_167 (148, .iconst 1, 1) (List.mem_of_getElem? (i := 74) rfl)) ⟨rfl, rfl, rfl, rfl⟩ ?_
  refine y_st (e_167 (149, .goto 4, 3) (List.mem_of_getElem? (i := 75) rfl)) ⟨rfl, rfl, rfl, rfl⟩ ?_
  exact y_ret (e_167 (153, .ireturn, 1) (List.mem_of_getElem? (i := 77) rfl)) ⟨rfl, y_rb (Or.inr rfl)⟩ ⟨rfl, q2⟩
set_option maxHeartbeats 2000000 in
set_option maxRecDepth 100000 in
theorem v_fade_0 (h : MS th am mb hb nb rb f n lim p0 tok0 at0 sp0 num0 wd0 hf nf on G) (hw : tok0 = Int32.ofInt 1 ∧ wd0 = t_W 3) (hb0 : t_bit on (Int32.ofInt 3) = true) : x_Gd xs L J (d + 6) m_167 (fun r G' => r = some (.int 0) ∧ x_sl G' am 16 = some (.int at0) ∧ x_sl G' am 15 = some (.int (Int32.ofInt 3))) 0 (lv_args 0 [.ref am]) [] G := by
  have g0 : pm_get (lv_args 0 [.ref am]) 0 = some (.ref am) := rfl
  generalize (lv_args 0 [.ref am]) = lv at g0 ⊢
  refine v_to_fade h g0 hw ?_
  refine y_aln (e_167 (164, .aload_n 0, 1) (List.mem_of_getElem? (i := 82) rfl)) g0 ?_
  refine y_st (e_167 (165, .iconst 3, 1) (List.mem_of_getElem? (i := 83) rfl)) ⟨rfl, rfl, rfl, rfl⟩ ?_
  refine y_c2 (K' := _) (e_167 (166, .invokevirtual 202, 3) (List.mem_of_getElem? (i := 84) rfl)) ⟨rfl, rfl, rfl⟩ t_17_202 ⟨by decide, by decide, by decide, by decide⟩ m_169_ok rfl (by decide) (y_recv h.T.I h.T.t ⟨rfl, rfl⟩) (Nat.le_of_ble_eq_true rfl) (Nat.le_of_ble_eq_true rfl) (k_isOnce_no h hb0) (fun r1 Gc hc1 => ?_)
  obtain ⟨rfl, hz⟩ := hc1
  simp only [Option.toList_some, Option.toList_none, List.cons_append, List.nil_append]
  refine y_ifc (e_167 (169, .ifCond .eq 19, 3) (List.mem_of_getElem? (i := 85) rfl)) rfl (fun _ => ?_) (fun hc => absurd hc (by decide))
  refine y_st (e_167 (188, .iconst 0, 1) (List.mem_of_getElem? (i := 94) rfl)) ⟨rfl, rfl, rfl, rfl⟩ ?_
  exact y_ret (e_167 (189, .ireturn, 1) (List.mem_of_getElem? (i := 95) rfl)) ⟨rfl, y_rb (Or.inl rfl)⟩ ⟨rfl, hz⟩
set_option maxHeartbeats 2000000 in
set_option maxRecDepth 100000 in
theorem v_fade_1 (h : MS th am mb hb nb rb f n lim p0 tok0 at0 sp0 num0 wd0 hf nf on G) (hw : tok0 = Int32.ofInt 1 ∧ wd0 = t_W 3) (hb0 : t_bit on (Int32.ofInt 3) = false) (hN1 : NXm f n lim p0 num0 wd0 p1 tok1 at1 sp1 num1 wd1)  (hno : tok1 ≠ Int32.ofInt 2 ∨ num1.toInt < 1 ∨ 20 < num1.toInt) : x_Gd xs L J (d + 6) m_167 (fun r G' => r = some (.int 0) ∧ x_sl G' am 16 = some (.int at1) ∧ x_sl G' am 15 = some (.int (t_km tok1))) 0 (lv_args 0 [.ref am]) [] G := by
  have g0 : pm_get (lv_args 0 [.ref am]) 0 = some (.ref am) := rfl
  generalize (lv_args 0 [.ref am]) = lv at g0 ⊢
  refine v_to_fade h g0 hw ?_
  refine y_aln (e_167 (164, .aload_n 0, 1) (List.mem_of_getElem? (i := 82) rfl)) g0 ?_
  refine y_st (e_167 (165, .iconst 3, 1) (List.mem_of_getElem? (i := 83) rfl)) ⟨rfl, rfl, rfl, rfl⟩ ?_
  refine y_c2 (K' := _) (e_167 (166, .invokevirtual 202, 3) (List.mem_of_getElem? (i := 84) rfl)) ⟨rfl, rfl, rfl⟩ t_17_202 ⟨by decide, by decide, by decide, by decide⟩ m_169_ok rfl (by decide) (y_recv h.T.I h.T.t ⟨rfl, rfl⟩) (Nat.le_of_ble_eq_true rfl) (Nat.le_of_ble_eq_true rfl) (k_isOnce_yes h hb0 hN1) (fun r1 Gc hc1 => ?_)
  obtain ⟨rfl, q1⟩ := hc1
  simp only [Option.toList_some, Option.toList_none, List.cons_append, List.nil_append]
  refine y_ifc (e_167 (169, .ifCond .eq 19, 3) (List.mem_of_getElem? (i := 85) rfl)) rfl (fun hc => absurd hc (by decide)) (fun _ => ?_)
  refine y_aln (e_167 (172, .aload_n 0, 1) (List.mem_of_getElem? (i := 86) rfl)) g0 ?_
  refine y_st (e_167 (173, .bipush 11, 2) (List.mem_of_getElem? (i := 87) rfl)) ⟨rfl, rfl, rfl, rfl⟩ ?_
  refine y_st (e_167 (175, .iconst 1, 1) (List.mem_of_getElem? (i := 88) rfl)) ⟨rfl, rfl, rfl, rfl⟩ ?_
  refine y_st (e_167 (176, .bipush 20, 2) (List.mem_of_getElem? (i := 89) rfl)) ⟨rfl, rfl, rfl, rfl⟩ ?_
  refine y_c4 (K' := _) (e_167 (178, .invokevirtual 205, 3) (List.mem_of_getElem? (i := 90) rfl)) ⟨rfl, rfl, rfl⟩ t_17_205 ⟨by decide, by decide, by decide, by decide⟩ m_172_ok rfl (by decide) (y_recv q1.T.I q1.T.t ⟨rfl, rfl⟩) (Nat.le_of_ble_eq_true rfl) (Nat.le_of_ble_eq_true rfl) (k_puts_no q1 hno) (fun r1 Gc hc1 => ?_)
  obtain ⟨rfl, hz⟩ := hc1
  simp only [Option.toList_some, Option.toList_none, List.cons_append, List.nil_append]
  refine y_ifc (e_167 (181, .ifCond .eq 7, 3) (List.mem_of_getElem? (i := 91) rfl)) rfl (fun _ => ?_) (fun hc => absurd hc (by decide))
  refine y_st (e_167 (188, .iconst 0, 1) (List.mem_of_getElem? (i := 94) rfl)) ⟨rfl, rfl, rfl, rfl⟩ ?_
  exact y_ret (e_167 (189, .ireturn, 1) (List.mem_of_getElem? (i := 95) rfl)) ⟨rfl, y_rb (Or.inl rfl)⟩ ⟨rfl, hz⟩
set_option maxHeartbeats 2000000 in
set_option maxRecDepth 100000 in
theorem v_fade_ok (h : MS th am mb hb nb rb f n lim p0 tok0 at0 sp0 num0 wd0 hf nf on G) (hw : tok0 = Int32.ofInt 1 ∧ wd0 = t_W 3) (hb0 : t_bit on (Int32.ofInt 3) = false) (hN1 : NXm f n lim p0 num0 wd0 p1 tok1 at1 sp1 num1 wd1) (htk1 : tok1 = Int32.ofInt 2) (a1 : 1 ≤ num1.toInt) (b1 : num1.toInt ≤ 20) (hN2 : NXm f n lim p1 num1 wd1 p2 tok2 at2 sp2 num2 wd2) : x_Gd xs L J (d + 6) m_167 (fun r G' => r = some (.int 1) ∧ MS th am mb hb nb rb f n lim p2 tok2 at2 sp2 num2 wd2 (fun i => if i = 11 then num1 else hf i) nf (on ||| (Int32.ofInt 1 <<< (Int32.ofInt 3 &&& 31))) G') 0 (lv_args 0 [.ref am]) [] G := by
  have g0 : pm_get (lv_args 0 [.ref am]) 0 = some (.ref am) := rfl
  generalize (lv_args 0 [.ref am]) = lv at g0 ⊢
  refine v_to_fade h g0 hw ?_
  refine y_aln (e_167 (164, .aload_n 0, 1) (List.mem_of_getElem? (i := 82) rfl)) g0 ?_
  refine y_st (e_167 (165, .iconst 3, 1) (List.mem_of_getElem? (i := 83) rfl)) ⟨rfl, rfl, rfl, rfl⟩ ?_
  refine y_c2 (K' := _) (e_167 (166, .invokevirtual 202, 3) (List.mem_of_getElem? (i := 84) rfl)) ⟨rfl, rfl, rfl⟩ t_17_202 ⟨by decide, by decide, by decide, by decide⟩ m_169_ok rfl (by decide) (y_recv h.T.I h.T.t ⟨rfl, rfl⟩) (Nat.le_of_ble_eq_true rfl) (Nat.le_of_ble_eq_true rfl) (k_isOnce_yes h hb0 hN1) (fun r1 Gc hc1 => ?_)
  obtain ⟨rfl, q1⟩ := hc1
  simp only [Option.toList_some, Option.toList_none, List.cons_append, List.nil_append]
  refine y_ifc (e_167 (169, .ifCond .eq 19, 3) (List.mem_of_getElem? (i := 85) rfl)) rfl (fun hc => absurd hc (by decide)) (fun _ => ?_)
  refine y_aln (e_167 (172, .aload_n 0, 1) (List.mem_of_getElem? (i := 86) rfl)) g0 ?_
  refine y_st (e_167 (173, .bipush 11, 2) (List.mem_of_getElem? (i := 87) rfl)) ⟨rfl, rfl, rfl, rfl⟩ ?_
  refine y_st (e_167 (175, .iconst 1, 1) (List.mem_of_getElem? (i := 88) rfl)) ⟨rfl, rfl, rfl, rfl⟩ ?_
  refine y_st (e_167 (176, .bipush 20, 2) (List.mem_of_getElem? (i := 89) rfl)) ⟨rfl, rfl, rfl, rfl⟩ ?_
  refine y_c4 (K' := _) (e_167 (178, .invokevirtual 205, 3) (List.mem_of_getElem? (i := 90) rfl)) ⟨rfl, rfl, rfl⟩ t_17_205 ⟨by decide, by decide, by decide, by decide⟩ m_172_ok rfl (by decide) (y_recv q1.T.I q1.T.t ⟨rfl, rfl⟩) (Nat.le_of_ble_eq_true rfl) (Nat.le_of_ble_eq_true rfl) (k_puts_yes q1 htk1 a1 b1 ⟨by decide, by decide⟩ (y_okI (lo := 1) (hi := 20) rfl (by omega) (by omega)) hN2) (fun r1 Gc hc1 => ?_)
  obtain ⟨rfl, q2⟩ := hc1
  simp only [Option.toList_some, Option.toList_none, List.cons_append, List.nil_append]
  refine y_ifc (e_167 (181, .ifCond .eq 7, 3) (List.mem_of_getElem? (i := 91) rfl)) rfl (fun hc => absurd hc (by decide)) (fun _ => ?_)
  refine y_st (e_167 (184, .iconst 1, 1) (List.mem_of_getElem? (i := 92) rfl)) ⟨rfl, rfl, rfl, rfl⟩ ?_
  refine y_st (e_167 (185, .goto 4, 3) (List.mem_of_getElem? (i := 93) rfl)) ⟨rfl, rfl, rfl, rfl⟩ ?_
  exact y_ret (e_167 (189, .ireturn, 1) (List.mem_of_getElem? (i := 95) rfl)) ⟨rfl, y_rb (Or.inr rfl)⟩ ⟨rfl, q2⟩
set_option maxHeartbeats 2000000 in
set_option maxRecDepth 100000 in
theorem v_held_0 (h : MS th am mb hb nb rb f n lim p0 tok0 at0 sp0 num0 wd0 hf nf on G) (hw : tok0 = Int32.ofInt 1 ∧ wd0 = t_W 4) (hb0 : t_bit on (Int32.ofInt 4) = true) : x_Gd xs L J (d + 6) m_167 (fun r G' => r = some (.int 0) ∧ x_sl G' am 16 = some (.int at0) ∧ x_sl G' am 15 = some (.int (Int32.ofInt 3))) 0 (lv_args 0 [.ref am]) [] G := by
  have g0 : pm_get (lv_args 0 [.ref am]) 0 = some (.ref am) := rfl
  generalize (lv_args 0 [.ref am]) = lv at g0 ⊢
  refine v_to_held h g0 hw ?_
  refine y_aln (e_167 (200, .aload_n 0, 1) (List.mem_of_getElem? (i := 100) rfl)) g0 ?_
  refine y_st (e_167 (201, .iconst 4, 1) (List.mem_of_getElem? (i := 101) rfl)) ⟨rfl, rfl, rfl, rfl⟩ ?_
  refine y_c2 (K' := _) (e_167 (202, .invokevirtual 202, 3) (List.mem_of_getElem? (i := 102) rfl)) ⟨rfl, rfl, rfl⟩ t_17_202 ⟨by decide, by decide, by decide, by decide⟩ m_169_ok rfl (by decide) (y_recv h.T.I h.T.t ⟨rfl, rfl⟩) (Nat.le_of_ble_eq_true rfl) (Nat.le_of_ble_eq_true rfl) (k_isOnce_no h hb0) (fun r1 Gc hc1 => ?_)
  obtain ⟨rfl, hz⟩ := hc1
  simp only [Option.toList_some, Option.toList_none, List.cons_append, List.nil_append]
  refine y_ifc (e_167 (205, .ifCond .eq 19, 3) (List.mem_of_getElem? (i := 103) rfl)) rfl (fun _ => ?_) (fun hc => absurd hc (by decide))
  refine y_st (e_167 (224, .iconst 0, 1) (List.mem_of_getElem? (i := 112) rfl)) ⟨rfl, rfl, rfl, rfl⟩ ?_
  exact y_ret (e_167 (225, .ireturn, 1) (List.mem_of_getElem? (i := 113) rfl)) ⟨rfl, y_rb (Or.inl rfl)⟩ ⟨rfl, hz⟩
set_option maxHeartbeats 2000000 in
set_option maxRecDepth 100000 in
theorem v_held_1 (h : MS th am mb hb nb rb f n lim p0 tok0 at0 sp0 num0 wd0 hf nf on G) (hw : tok0 = Int32.ofInt 1 ∧ wd0 = t_W 4) (hb0 : t_bit on (Int32.ofInt 4) = false) (hN1 : NXm f n lim p0 num0 wd0 p1 tok1 at1 sp1 num1 wd1)  (hno : tok1 ≠ Int32.ofInt 2 ∨ num1.toInt < 0 ∨ 99 < num1.toInt) : x_Gd xs L J (d + 6) m_167 (fun r G' => r = some (.int 0) ∧ x_sl G' am 16 = some (.int at1) ∧ x_sl G' am 15 = some (.int (t_km tok1))) 0 (lv_args 0 [.ref am]) [] G := by
  have g0 : pm_get (lv_args 0 [.ref am]) 0 = some (.ref am) := rfl
  generalize (lv_args 0 [.ref am]) = lv at g0 ⊢
  refine v_to_held h g0 hw ?_
  refine y_aln (e_167 (200, .aload_n 0, 1) (List.mem_of_getElem? (i := 100) rfl)) g0 ?_
  refine y_st (e_167 (201, .iconst 4, 1) (List.mem_of_getElem? (i := 101) rfl)) ⟨rfl, rfl, rfl, rfl⟩ ?_
  refine y_c2 (K' := _) (e_167 (202, .invokevirtual 202, 3) (List.mem_of_getElem? (i := 102) rfl)) ⟨rfl, rfl, rfl⟩ t_17_202 ⟨by decide, by decide, by decide, by decide⟩ m_169_ok rfl (by decide) (y_recv h.T.I h.T.t ⟨rfl, rfl⟩) (Nat.le_of_ble_eq_true rfl) (Nat.le_of_ble_eq_true rfl) (k_isOnce_yes h hb0 hN1) (fun r1 Gc hc1 => ?_)
  obtain ⟨rfl, q1⟩ := hc1
  simp only [Option.toList_some, Option.toList_none, List.cons_append, List.nil_append]
  refine y_ifc (e_167 (205, .ifCond .eq 19, 3) (List.mem_of_getElem? (i := 103) rfl)) rfl (fun hc => absurd hc (by decide)) (fun _ => ?_)
  refine y_aln (e_167 (208, .aload_n 0, 1) (List.mem_of_getElem? (i := 104) rfl)) g0 ?_
  refine y_st (e_167 (209, .bipush 12, 2) (List.mem_of_getElem? (i := 105) rfl)) ⟨rfl, rfl, rfl, rfl⟩ ?_
  refine y_st (e_167 (211, .iconst 0, 1) (List.mem_of_getElem? (i := 106) rfl)) ⟨rfl, rfl, rfl, rfl⟩ ?_
  refine y_st (e_167 (212, .bipush 99, 2) (List.mem_of_getElem? (i := 107) rfl)) ⟨rfl, rfl, rfl, rfl⟩ ?_
  refine y_c4 (K' := _) (e_167 (214, .invokevirtual 205, 3) (List.mem_of_getElem? (i := 108) rfl)) ⟨rfl, rfl, rfl⟩ t_17_205 ⟨by decide, by decide, by decide, by decide⟩ m_172_ok rfl (by decide) (y_recv q1.T.I q1.T.t ⟨rfl, rfl⟩) (Nat.le_of_ble_eq_true rfl) (Nat.le_of_ble_eq_true rfl) (k_puts_no q1 hno) (fun r1 Gc hc1 => ?_)
  obtain ⟨rfl, hz⟩ := hc1
  simp only [Option.toList_some, Option.toList_none, List.cons_append, List.nil_append]
  refine y_ifc (e_167 (217, .ifCond .eq 7, 3) (List.mem_of_getElem? (i := 109) rfl)) rfl (fun _ => ?_) (fun hc => absurd hc (by decide))
  refine y_st (e_167 (224, .iconst 0, 1) (List.mem_of_getElem? (i := 112) rfl)) ⟨rfl, rfl, rfl, rfl⟩ ?_
  exact y_ret (e_167 (225, .ireturn, 1) (List.mem_of_getElem? (i := 113) rfl)) ⟨rfl, y_rb (Or.inl rfl)⟩ ⟨rfl, hz⟩
set_option maxHeartbeats 2000000 in
set_option maxRecDepth 100000 in
theorem v_held_ok (h : MS th am mb hb nb rb f n lim p0 tok0 at0 sp0 num0 wd0 hf nf on G) (hw : tok0 = Int32.ofInt 1 ∧ wd0 = t_W 4) (hb0 : t_bit on (Int32.ofInt 4) = false) (hN1 : NXm f n lim p0 num0 wd0 p1 tok1 at1 sp1 num1 wd1) (htk1 : tok1 = Int32.ofInt 2) (a1 : 0 ≤ num1.toInt) (b1 : num1.toInt ≤ 99) (hN2 : NXm f n lim p1 num1 wd1 p2 tok2 at2 sp2 num2 wd2) : x_Gd xs L J (d + 6) m_167 (fun r G' => r = some (.int 1) ∧ MS th am mb hb nb rb f n lim p2 tok2 at2 sp2 num2 wd2 (fun i => if i = 12 then num1 else hf i) nf (on ||| (Int32.ofInt 1 <<< (Int32.ofInt 4 &&& 31))) G') 0 (lv_args 0 [.ref am]) [] G := by
  have g0 : pm_get (lv_args 0 [.ref am]) 0 = some (.ref am) := rfl
  generalize (lv_args 0 [.ref am]) = lv at g0 ⊢
  refine v_to_held h g0 hw ?_
  refine y_aln (e_167 (200, .aload_n 0, 1) (List.mem_of_getElem? (i := 100) rfl)) g0 ?_
  refine y_st (e_167 (201, .iconst 4, 1) (List.mem_of_getElem? (i := 101) rfl)) ⟨rfl, rfl, rfl, rfl⟩ ?_
  refine y_c2 (K' := _) (e_167 (202, .invokevirtual 202, 3) (List.mem_of_getElem? (i := 102) rfl)) ⟨rfl, rfl, rfl⟩ t_17_202 ⟨by decide, by decide, by decide, by decide⟩ m_169_ok rfl (by decide) (y_recv h.T.I h.T.t ⟨rfl, rfl⟩) (Nat.le_of_ble_eq_true rfl) (Nat.le_of_ble_eq_true rfl) (k_isOnce_yes h hb0 hN1) (fun r1 Gc hc1 => ?_)
  obtain ⟨rfl, q1⟩ := hc1
  simp only [Option.toList_some, Option.toList_none, List.cons_append, List.nil_append]
  refine y_ifc (e_167 (205, .ifCond .eq 19, 3) (List.mem_of_getElem? (i := 103) rfl)) rfl (fun hc => absurd hc (by decide)) (fun _ => ?_)
  refine y_aln (e_167 (208, .aload_n 0, 1) (List.mem_of_getElem? (i := 104) rfl)) g0 ?_
  refine y_st (e_167 (209, .bipush 12, 2) (List.mem_of_getElem? (i := 105) rfl)) ⟨rfl, rfl, rfl, rfl⟩ ?_
  refine y_st (e_167 (211, .iconst 0, 1) (List.mem_of_getElem? (i := 106) rfl)) ⟨rfl, rfl, rfl, rfl⟩ ?_
  refine y_st (e_167 (212, .bipush 99, 2) (List.mem_of_getElem? (i := 107) rfl)) ⟨rfl, rfl, rfl, rfl⟩ ?_
  refine y_c4 (K' := _) (e_167 (214, .invokevirtual 205, 3) (List.mem_of_getElem? (i := 108) rfl)) ⟨rfl, rfl, rfl⟩ t_17_205 ⟨by decide, by decide, by decide, by decide⟩ m_172_ok rfl (by decide) (y_recv q1.T.I q1.T.t ⟨rfl, rfl⟩) (Nat.le_of_ble_eq_true rfl) (Nat.le_of_ble_eq_true rfl) (k_puts_yes q1 htk1 a1 b1 ⟨by decide, by decide⟩ (y_okA rfl) hN2) (fun r1 Gc hc1 => ?_)
  obtain ⟨rfl, q2⟩ := hc1
  simp only [Option.toList_some, Option.toList_none, List.cons_append, List.nil_append]
  refine y_ifc (e_167 (217, .ifCond .eq 7, 3) (List.mem_of_getElem? (i := 109) rfl)) rfl (fun hc => absurd hc (by decide)) (fun _ => ?_)
  refine y_st (e_167 (220, .iconst 1, 1) (List.mem_of_getElem? (i := 110) rfl)) ⟨rfl, rfl, rfl, rfl⟩ ?_
  refine y_st (e_167 (221, .goto 4, 3) (List.mem_of_getElem? (i := 111) rfl)) ⟨rfl, rfl, rfl, rfl⟩ ?_
  exact y_ret (e_167 (225, .ireturn, 1) (List.mem_of_getElem? (i := 113) rfl)) ⟨rfl, y_rb (Or.inr rfl)⟩ ⟨rfl, q2⟩
set_option maxHeartbeats 2000000 in
set_option maxRecDepth 100000 in
theorem v_none (h : MS th am mb hb nb rb f n lim p0 tok0 at0 sp0 num0 wd0 hf nf on G) (hw : ∀ x : Nat, (x < 7 ∨ x = 8 ∨ x = 9) → ¬ (tok0 = Int32.ofInt 1 ∧ wd0 = t_W x)) : x_Gd xs L J (d + 6) m_167 (fun r G' => r = some (.int 0) ∧ x_sl G' am 16 = some (.int at0) ∧ x_sl G' am 15 = some (.int (Int32.ofInt 1))) 0 (lv_args 0 [.ref am]) [] G := by
  have g0 : pm_get (lv_args 0 [.ref am]) 0 = some (.ref am) := rfl
  generalize (lv_args 0 [.ref am]) = lv at g0 ⊢
  refine v_n_long h g0 (fun z => hw 0 (by decide) ⟨z.1, z.2⟩) ?_
  refine v_n_breath h g0 (fun z => hw 1 (by decide) ⟨z.1, z.2⟩) ?_
  refine v_n_force h g0 (fun z => hw 2 (by decide) ⟨z.1, z.2⟩) ?_
  refine v_n_fade h g0 (fun z => hw 3 (by decide) ⟨z.1, z.2⟩) ?_
  refine v_n_held h g0 (fun z => hw 4 (by decide) ⟨z.1, z.2⟩) ?_
  refine v_n_passage h g0 (fun z => hw 5 (by decide) ⟨z.1, z.2⟩) ?_
  refine v_n_thing h g0 (fun z => hw 6 (by decide) ⟨z.1, z.2⟩) ?_
  refine v_n_mill h g0 (fun z => hw 8 (by decide) ⟨z.1, z.2⟩) ?_
  refine v_n_man h g0 (fun z => hw 9 (by decide) ⟨z.1, z.2⟩) ?_
  refine y_aln (e_167 (400, .aload_n 0, 1) (List.mem_of_getElem? (i := 219) rfl)) g0 ?_
  refine y_st (e_167 (401, .iconst 1, 1) (List.mem_of_getElem? (i := 220) rfl)) ⟨rfl, rfl, rfl, rfl⟩ ?_
  refine y_c2 (K' := _) (e_167 (402, .invokevirtual 167, 3) (List.mem_of_getElem? (i := 221) rfl)) ⟨rfl, rfl, rfl⟩ t_17_167 ⟨by decide, by decide, by decide, by decide⟩ m_171_ok rfl (by decide) (y_recv h.T.I h.T.t ⟨rfl, rfl⟩) (Nat.le_of_ble_eq_true rfl) (Nat.le_of_ble_eq_true rfl) (k_bad h _) (fun r1 Gc hc1 => ?_)
  obtain ⟨rfl, hz⟩ := hc1
  simp only [Option.toList_some, Option.toList_none, List.cons_append, List.nil_append]
  exact y_ret (e_167 (405, .ireturn, 1) (List.mem_of_getElem? (i := 222) rfl)) ⟨rfl, y_rb (Or.inl rfl)⟩ ⟨rfl, hz⟩
end MG6
