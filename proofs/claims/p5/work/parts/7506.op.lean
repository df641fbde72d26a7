theorem t_17_381 : pm_ctab.find? (fun r => r.1 == 17 && r.2.1 == 381) = some (17, 381, 1, 253, 1838) := by decide +kernel
-- ===== operand() =====
theorem TR.sgn {tk : Nat} {num mu tok : Int32} {nm wd : Int64} (h : TR tk num nm tok mu wd) {j : Nat} (hj : j < 6) : tk = 4 + j ↔ tok = Int32.ofInt 3 ∧ mu.toInt = ([59, 60, 61, 62, 40, 41] : List Int).getD j 0 := by
  rcases h with ⟨rfl, rfl⟩ | ⟨rfl, rfl⟩ | ⟨rfl, rfl, rfl⟩ | ⟨i, hi, rfl, rfl, hm⟩ | ⟨rfl, hr, ⟨y, hy, rfl, rfl⟩ | ⟨rfl, hw⟩⟩
  · exact ⟨fun z => by omega, fun z => absurd z.1 (by decide)⟩
  · exact ⟨fun z => by omega, fun z => absurd z.1 (by decide)⟩
  · exact ⟨fun z => by omega, fun z => absurd z.1 (by decide)⟩
  · constructor
    · intro z
      obtain rfl : i = j := by omega
      exact ⟨rfl, hm⟩
    · rintro ⟨-, hz⟩
      have key : ∀ i, i < 6 → ∀ j, j < 6 → ([59, 60, 61, 62, 40, 41] : List Int).getD i 0 = ([59, 60, 61, 62, 40, 41] : List Int).getD j 0 → i = j := by decide +kernel
      rw [key i hi j hj (hm.symm.trans hz)]
  · exact ⟨fun z => by omega, fun z => absurd z.1 (by decide)⟩
  · exact ⟨fun z => by omega, fun z => absurd z.1 (by decide)⟩
/-- one of the SIGNS -/
theorem TR.cmp {tk : Nat} {num mu tok : Int32} {nm wd : Int64} (h : TR tk num nm tok mu wd) : (tk = 5 ∨ tk = 6 ∨ tk = 7) ↔ tok = Int32.ofInt 3 ∧ 60 ≤ mu.toInt ∧ mu.toInt ≤ 62 := by
  constructor
  · rintro (rfl | rfl | rfl)
    · obtain ⟨z1, z2⟩ := (h.sgn (j := 1) (by decide)).mp rfl
      exact ⟨z1, by rw [z2]; decide⟩
    · obtain ⟨z1, z2⟩ := (h.sgn (j := 2) (by decide)).mp rfl
      exact ⟨z1, by rw [z2]; decide⟩
    · obtain ⟨z1, z2⟩ := (h.sgn (j := 3) (by decide)).mp rfl
      exact ⟨z1, by rw [z2]; decide⟩
  · rintro ⟨z1, z2, z3⟩
    have : mu.toInt = 60 ∨ mu.toInt = 61 ∨ mu.toInt = 62 := by omega
    rcases this with z | z | z
    · exact Or.inl ((h.sgn (j := 1) (by decide)).mpr ⟨z1, z⟩)
    · exact Or.inr (Or.inl ((h.sgn (j := 2) (by decide)).mpr ⟨z1, z⟩))
    · exact Or.inr (Or.inr ((h.sgn (j := 3) (by decide)).mpr ⟨z1, z⟩))
/-- a sign by its number in the model -/
theorem TR.sg {tk : Nat} {num mu tok : Int32} {nm wd : Int64} (h : TR tk num nm tok mu wd) {j : Nat} (hj : j < 6) {v : Int32} (hv : v.toInt = ([59, 60, 61, 62, 40, 41] : List Int).getD j 0) : tk = 4 + j ↔ tok = Int32.ofInt 3 ∧ mu = v := by
  rw [h.sgn hj, ← hv]
  exact ⟨fun z => ⟨z.1, Int32.toInt_inj.mp z.2⟩, fun z => ⟨z.1, by rw [z.2]⟩⟩
theorem s_lf_p {k : Nat} (h : s_pln k = true) : 0 ≤ s_lf k ∧ s_lf k < 4 := by
  unfold s_pln at h
  simp only [Bool.or_eq_true, beq_iff_eq] at h
  rcases h with ((rfl | rfl) | rfl) | rfl <;> decide
theorem s_lf_c {k : Nat} (h : s_cmp k = true) : 4 ≤ s_lf k ∧ s_lf k < 8 := by
  unfold s_cmp at h
  simp only [Bool.or_eq_true, beq_iff_eq] at h
  rcases h with ((rfl | rfl) | rfl) | rfl <;> decide
theorem s_lf_n {k : Nat} (h1 : s_pln k = false) (h2 : s_cmp k = false) : s_lf k = -1 := by
  unfold s_pln at h1
  unfold s_cmp at h2
  simp only [Bool.or_eq_false_iff, beq_eq_false_iff_ne] at h1 h2
  obtain ⟨⟨⟨a1, a2⟩, a3⟩, a4⟩ := h1
  obtain ⟨⟨⟨b1, b2⟩, b3⟩, b4⟩ := h2
  unfold s_lf
  rw [if_neg a1, if_neg a2, if_neg a3, if_neg a4, if_neg b1, if_neg b2, if_neg b3, if_neg b4]
theorem s_lf_i (k : Nat) : (Int32.ofInt (s_lf k)).toInt = s_lf k := by
  cases h1 : s_pln k
  · cases h2 : s_cmp k
    · rw [s_lf_n h1 h2]
      rfl
    · unfold s_cmp at h2
      simp only [Bool.or_eq_true, beq_iff_eq] at h2
      rcases h2 with ((rfl | rfl) | rfl) | rfl <;> rfl
  · unfold s_pln at h1
    simp only [Bool.or_eq_true, beq_iff_eq] at h1
    rcases h1 with ((rfl | rfl) | rfl) | rfl <;> rfl
section S6
variable {th : List Nat} {xs : Nat → Int32} {L J d am mb sb : Nat} {K : Option Value → List pE → Prop} {f : Nat → Int32} {G0 G G1 G' : List pE} {n lim p tok at9 sp num : Int32} {wd : Int64} {lv : pL} {p2 tok2 at2 sp2 num2 : Int32} {wd2 : Int64} {p3 tok3 at3 sp3 num3 : Int32} {wd3 : Int64} {p4 tok4 at4 sp4 num4 : Int32} {wd4 : Int64} {cd on dp wh k v : Nat} {st : List Nat} {qf : Int32}
set_option maxHeartbeats 2000000 in
set_option maxRecDepth 100000 in
theorem s_op_h (h : SM th am mb sb f n lim p tok at9 sp num wd cd on dp wh st qf G) {tk : Nat} {n9 : Int32} {nm : Int64} (hT : TR tk n9 nm tok num wd) (hk : ∀ lv : pL, pm_get lv 0 = some (.ref am) → pm_get lv 1 = some (.int (if tk = 27 then 1 else 0)) → pm_get lv 2 = some (.int (if tk = 8 then 1 else 0)) → pm_get lv 3 = some (.int (Int32.ofInt (s_lf tk))) → x_Gd xs L J (d + 2) m_252 K 20 lv [] G) : x_Gd xs L J (d + 2) m_252 K 0 (lv_args 0 [.ref am]) [] G := by
  have g0 : pm_get (lv_args 0 [.ref am]) 0 = some (.ref am) := rfl
  generalize lv_args 0 [.ref am] = lv at g0 ⊢
  refine y_aln (e_252 (0, .aload_n 0, 1) (List.mem_of_getElem? (i := 0) rfl)) g0 ?_
  refine y_st (e_252 (1, .ldc2_w 112, 3) (List.mem_of_getElem? (i := 1) rfl)) ⟨rfl, rfl, rfl, rfl⟩ ?_
  refine y_c2 (K' := _) (e_252 (4, .invokevirtual 198, 3) (List.mem_of_getElem? (i := 2) rfl)) ⟨rfl, rfl, rfl⟩ t_17_198 ⟨by decide, by decide, by decide, by decide⟩ m_168_ok rfl (by decide) (y_recv h.1.I h.1.t ⟨rfl, rfl⟩) (Nat.le_of_ble_eq_true rfl) (Nat.le_of_ble_eq_true rfl) (s_isWord (d := d + 1) h.1 (t_W 17)) (fun r1 Gc hc1 => ?_)
  obtain ⟨rfl, rfl⟩ := hc1
  simp only [Option.toList_some, Option.toList_none, List.cons_append, List.nil_append]
  rw [show (if tok = Int32.ofInt 1 ∧ wd = t_W 17 then (1 : Int32) else 0) = (if tk = 27 then 1 else 0) from ite_congr (propext (hT.word (x := 17) (by decide)).symm) (fun _ => rfl) (fun _ => rfl)]
  refine y_isn (e_252 (7, .istore_n 1, 1) (List.mem_of_getElem? (i := 3) rfl)) (by decide) ?_
  refine y_aln (e_252 (8, .aload_n 0, 1) (List.mem_of_getElem? (i := 4) rfl)) (y_gpr g0 (by decide)) ?_
  refine y_st (e_252 (9, .bipush 40, 2) (List.mem_of_getElem? (i := 5) rfl)) ⟨rfl, rfl, rfl, rfl⟩ ?_
  refine y_c2 (K' := _) (e_252 (11, .invokevirtual 164, 3) (List.mem_of_getElem? (i := 6) rfl)) ⟨rfl, rfl, rfl⟩ t_17_164 ⟨by decide, by decide, by decide, by decide⟩ m_181_ok rfl (by decide) (y_recv h.1.I h.1.t ⟨rfl, rfl⟩) (Nat.le_of_ble_eq_true rfl) (Nat.le_of_ble_eq_true rfl) (s_isSign (d := d + 1) h.1 (Int8.ofInt 40).toInt32) (fun r1 Gc hc1 => ?_)
  obtain ⟨rfl, rfl⟩ := hc1
  simp only [Option.toList_some, Option.toList_none, List.cons_append, List.nil_append]
  rw [show (if tok = Int32.ofInt 3 ∧ num = (Int8.ofInt 40).toInt32 then (1 : Int32) else 0) = (if tk = 8 then 1 else 0) from ite_congr (propext (hT.sg (j := 4) (v := (Int8.ofInt 40).toInt32) (by decide) rfl).symm) (fun _ => rfl) (fun _ => rfl)]
  refine y_isn (e_252 (14, .istore_n 2, 1) (List.mem_of_getElem? (i := 7) rfl)) (by decide) ?_
  refine y_aln (e_252 (15, .aload_n 0, 1) (List.mem_of_getElem? (i := 8) rfl)) (y_gpr (y_gpr g0 (by decide)) (by decide)) ?_
  refine y_c1 (K' := _) (e_252 (16, .invokevirtual 381, 3) (List.mem_of_getElem? (i := 9) rfl)) ⟨rfl, rfl, rfl⟩ t_17_381 ⟨by decide, by decide, by decide, by decide⟩ m_253_ok rfl (by decide) (y_recv h.1.I h.1.t ⟨rfl, rfl⟩) (Nat.le_of_ble_eq_true rfl) (Nat.le_of_ble_eq_true rfl) (s_leafOf (d := d) h hT) (fun r1 Gc hc1 => ?_)
  obtain ⟨rfl, rfl⟩ := hc1
  simp only [Option.toList_some, Option.toList_none, List.cons_append, List.nil_append]
  refine y_isn (e_252 (19, .istore_n 3, 1) (List.mem_of_getElem? (i := 10) rfl)) (by decide) ?_
  exact hk _ (y_gpr (y_gpr (y_gpr g0 (by decide)) (by decide)) (by decide)) (y_gpi (y_gpi x_get_self (by decide)) (by decide)) (y_gpi x_get_self (by decide)) x_get_self
set_option maxHeartbeats 2000000 in
set_option maxRecDepth 100000 in
theorem s_op_a (h : SM th am mb sb f n lim p tok at9 sp num wd cd on dp wh st qf G) {tk : Nat} {n9 : Int32} {nm : Int64} (hT : TR tk n9 nm tok num wd) (hno : s_sta tk = false) : x_Gd xs L J (d + 2) m_252 (fun r G' => r = some (.int 0) ∧ x_sl G' am 16 = some (.int at9) ∧ x_sl G' am 15 = some (.int (Int32.ofInt 1)) ∧ xI x_tb th G') 0 (lv_args 0 [.ref am]) [] G := by
  refine s_op_h h hT (fun lv g0 g1 g2 g3 => ?_)
  unfold s_sta at hno
  simp only [Bool.or_eq_false_iff, beq_eq_false_iff_ne] at hno
  obtain ⟨⟨⟨z1, z2⟩, z3⟩, z4⟩ := hno
  rw [if_neg z1] at g1
  rw [if_neg z2] at g2
  rw [s_lf_n z3 z4] at g3
  refine y_iln (e_252 (20, .iload_n 1, 1) (List.mem_of_getElem? (i := 11) rfl)) g1 ?_
  refine y_ifc (e_252 (21, .ifCond .ne 17, 3) (List.mem_of_getElem? (i := 12) rfl)) rfl (fun hb => absurd hb (by decide)) (fun _ => ?_)
  refine y_iln (e_252 (24, .iload_n 2, 1) (List.mem_of_getElem? (i := 13) rfl)) g2 ?_
  refine y_ifc (e_252 (25, .ifCond .ne 13, 3) (List.mem_of_getElem? (i := 14) rfl)) rfl (fun hb => absurd hb (by decide)) (fun _ => ?_)
  refine y_iln (e_252 (28, .iload_n 3, 1) (List.mem_of_getElem? (i := 15) rfl)) g3 ?_
  refine y_ifc (e_252 (29, .ifCond .ge 9, 3) (List.mem_of_getElem? (i := 16) rfl)) rfl (fun hb => absurd hb (by decide)) (fun _ => ?_)
  refine y_aln (e_252 (32, .aload_n 0, 1) (List.mem_of_getElem? (i := 17) rfl)) g0 ?_
  refine y_st (e_252 (33, .iconst 1, 1) (List.mem_of_getElem? (i := 18) rfl)) ⟨rfl, rfl, rfl, rfl⟩ ?_
  refine y_c2 (K' := _) (e_252 (34, .invokevirtual 167, 3) (List.mem_of_getElem? (i := 19) rfl)) ⟨rfl, rfl, rfl⟩ t_17_167 ⟨by decide, by decide, by decide, by decide⟩ m_171_ok rfl (by decide) (y_recv h.1.I h.1.t ⟨rfl, rfl⟩) (Nat.le_of_ble_eq_true rfl) (Nat.le_of_ble_eq_true rfl) (s_bad h.1 _) (fun r1 Gc hc1 => ?_)
  obtain ⟨rfl, hc2⟩ := hc1
  simp only [Option.toList_some, Option.toList_none, List.cons_append, List.nil_append]
  exact y_ret (e_252 (37, .ireturn, 1) (List.mem_of_getElem? (i := 20) rfl)) ⟨rfl, y_rb (Or.inl rfl)⟩ ⟨rfl, hc2⟩
set_option maxHeartbeats 2000000 in
set_option maxRecDepth 100000 in
theorem s_op_s (h : SM th am mb sb f n lim p tok at9 sp num wd cd on dp wh st qf G) {tk : Nat} {n9 : Int32} {nm : Int64} (hT : TR tk n9 nm tok num wd) (hst : s_sta tk = true) (hk : ∀ lv : pL, pm_get lv 0 = some (.ref am) → pm_get lv 1 = some (.int (if tk = 27 then 1 else 0)) → pm_get lv 2 = some (.int (if tk = 8 then 1 else 0)) → pm_get lv 3 = some (.int (Int32.ofInt (s_lf tk))) → x_Gd xs L J (d + 2) m_252 K 38 lv [] G) : x_Gd xs L J (d + 2) m_252 K 0 (lv_args 0 [.ref am]) [] G := by
  refine s_op_h h hT (fun lv g0 g1 g2 g3 => ?_)
  have at38 := hk lv g0 g1 g2 g3
  refine y_iln (e_252 (20, .iload_n 1, 1) (List.mem_of_getElem? (i := 11) rfl)) g1 ?_
  by_cases z1 : tk = 27
  · rw [if_pos z1]
    exact y_ifc (e_252 (21, .ifCond .ne 17, 3) (List.mem_of_getElem? (i := 12) rfl)) rfl (fun _ => at38) (fun hb => absurd hb (by decide))
  rw [if_neg z1]
  refine y_ifc (e_252 (21, .ifCond .ne 17, 3) (List.mem_of_getElem? (i := 12) rfl)) rfl (fun hb => absurd hb (by decide)) (fun _ => ?_)
  refine y_iln (e_252 (24, .iload_n 2, 1) (List.mem_of_getElem? (i := 13) rfl)) g2 ?_
  by_cases z2 : tk = 8
  · rw [if_pos z2]
    exact y_ifc (e_252 (25, .ifCond .ne 13, 3) (List.mem_of_getElem? (i := 14) rfl)) rfl (fun _ => at38) (fun hb => absurd hb (by decide))
  rw [if_neg z2]
  refine y_ifc (e_252 (25, .ifCond .ne 13, 3) (List.mem_of_getElem? (i := 14) rfl)) rfl (fun hb => absurd hb (by decide)) (fun _ => ?_)
  refine y_iln (e_252 (28, .iload_n 3, 1) (List.mem_of_getElem? (i := 15) rfl)) g3 ?_
  refine y_ifc (e_252 (29, .ifCond .ge 9, 3) (List.mem_of_getElem? (i := 16) rfl)) rfl (fun _ => at38) (fun hb => ?_)
  have c := y_hI.2.2.2.2.2.1 hb
  rw [s_lf_i] at c
  have z0 : (0 : Int32).toInt = 0 := rfl
  unfold s_sta at hst
  rw [beq_eq_false_iff_ne.mpr z1, beq_eq_false_iff_ne.mpr z2] at hst
  simp only [Bool.false_or, Bool.or_eq_true] at hst
  rcases hst with hst | hst
  · have := s_lf_p hst
    omega
  · have := s_lf_c hst
    omega
set_option maxHeartbeats 2000000 in
set_option maxRecDepth 100000 in
theorem s_op_b (h : SM th am mb sb f n lim p tok at9 sp num wd cd on dp wh st qf G) {tk : Nat} {n9 : Int32} {nm : Int64} (hT : TR tk n9 nm tok num wd) (hst : s_sta tk = true) (hon : on ≤ 20) (hdp : dp ≤ 9) (hb9 : on = 20 ∨ 8 < dp) : x_Gd xs L J (d + 2) m_252 (fun r G' => r = some (.int 0) ∧ x_sl G' am 16 = some (.int at9) ∧ x_sl G' am 15 = some (.int (Int32.ofInt 4)) ∧ xI x_tb th G') 0 (lv_args 0 [.ref am]) [] G := by
  refine s_op_s h hT hst (fun lv g0 g1 g2 g3 => ?_)
  have e := s_toI (a := on) (by omega)
  have ew := s_toI (a := dp) (by omega)
  have e20 : ((Int8.ofInt 20).toInt32).toInt = 20 := rfl
  have e8 : ((Int8.ofInt 8).toInt32).toInt = 8 := rfl
  have at56 : x_Gd xs L J (d + 2) m_252 (fun r G' => r = some (.int 0) ∧ x_sl G' am 16 = some (.int at9) ∧ x_sl G' am 15 = some (.int (Int32.ofInt 4)) ∧ xI x_tb th G') 56 lv [] G := by
    refine y_aln (e_252 (56, .aload_n 0, 1) (List.mem_of_getElem? (i := 29) rfl)) g0 ?_
    refine y_st (e_252 (57, .iconst 4, 1) (List.mem_of_getElem? (i := 30) rfl)) ⟨rfl, rfl, rfl, rfl⟩ ?_
    refine y_c2 (K' := _) (e_252 (58, .invokevirtual 167, 3) (List.mem_of_getElem? (i := 31) rfl)) ⟨rfl, rfl, rfl⟩ t_17_167 ⟨by decide, by decide, by decide, by decide⟩ m_171_ok rfl (by decide) (y_recv h.1.I h.1.t ⟨rfl, rfl⟩) (Nat.le_of_ble_eq_true rfl) (Nat.le_of_ble_eq_true rfl) (s_bad h.1 _) (fun r1 Gc hc1 => ?_)
    obtain ⟨rfl, hc2⟩ := hc1
    simp only [Option.toList_some, Option.toList_none, List.cons_append, List.nil_append]
    exact y_ret (e_252 (61, .ireturn, 1) (List.mem_of_getElem? (i := 32) rfl)) ⟨rfl, y_rb (Or.inl rfl)⟩ ⟨rfl, hc2⟩
  refine y_aln (e_252 (38, .aload_n 0, 1) (List.mem_of_getElem? (i := 21) rfl)) g0 ?_
  refine y_getf h.1.I h.1.t (e_252 (39, .getfield 384, 3) (List.mem_of_getElem? (i := 22) rfl)) u_17_384 ⟨rfl, rfl⟩ h.s37 ?_
  refine y_st (e_252 (42, .bipush 20, 2) (List.mem_of_getElem? (i := 23) rfl)) ⟨rfl, rfl, rfl, rfl⟩ ?_
  refine y_icm (e_252 (44, .if_icmp .eq 12, 3) (List.mem_of_getElem? (i := 24) rfl)) rfl (fun _ => at56) (fun hb => ?_)
  have c1 : on ≠ 20 := fun z => y_hI.2.1 hb (by rw [z]; rfl)
  refine y_aln (e_252 (47, .aload_n 0, 1) (List.mem_of_getElem? (i := 25) rfl)) g0 ?_
  refine y_getf h.1.I h.1.t (e_252 (48, .getfield 378, 3) (List.mem_of_getElem? (i := 26) rfl)) u_17_378 ⟨rfl, rfl⟩ h.s39 ?_
  refine y_st (e_252 (51, .bipush 8, 2) (List.mem_of_getElem? (i := 27) rfl)) ⟨rfl, rfl, rfl, rfl⟩ ?_
  refine y_icm (e_252 (53, .if_icmp .le 9, 3) (List.mem_of_getElem? (i := 28) rfl)) rfl (fun hb => ?_) (fun _ => at56)
  have c2 := y_hI.2.2.2.2.2.2.1 hb
  omega
set_option maxHeartbeats 2000000 in
set_option maxRecDepth 100000 in
theorem s_op_m (h : SM th am mb sb f n lim p tok at9 sp num wd cd on dp wh st qf G) {tk : Nat} {n9 : Int32} {nm : Int64} (hT : TR tk n9 nm tok num wd) (hst : s_sta tk = true) (hon : on < 20) (hdp : dp ≤ 8) (hN : NXm f n lim p num wd p2 tok2 at2 sp2 num2 wd2) (hk : ∀ (G1 : List pE) (lv : pL), SM th am mb sb f n lim p2 tok2 at2 sp2 num2 wd2 cd (on + 1) dp wh st qf G1 → pm_get lv 0 = some (.ref am) → pm_get lv 1 = some (.int (if tk = 27 then 1 else 0)) → pm_get lv 2 = some (.int (if tk = 8 then 1 else 0)) → pm_get lv 3 = some (.int (Int32.ofInt (s_lf tk))) → x_Gd xs L J (d + 2) m_252 K 76 lv [] G1) : x_Gd xs L J (d + 2) m_252 K 0 (lv_args 0 [.ref am]) [] G := by
  refine s_op_s h hT hst (fun lv g0 g1 g2 g3 => ?_)
  have e := s_toI (a := on) (by omega)
  have ew := s_toI (a := dp) (by omega)
  have e20 : ((Int8.ofInt 20).toInt32).toInt = 20 := rfl
  have e8 : ((Int8.ofInt 8).toInt32).toInt = 8 := rfl
  refine y_aln (e_252 (38, .aload_n 0, 1) (List.mem_of_getElem? (i := 21) rfl)) g0 ?_
  refine y_getf h.1.I h.1.t (e_252 (39, .getfield 384, 3) (List.mem_of_getElem? (i := 22) rfl)) u_17_384 ⟨rfl, rfl⟩ h.s37 ?_
  refine y_st (e_252 (42, .bipush 20, 2) (List.mem_of_getElem? (i := 23) rfl)) ⟨rfl, rfl, rfl, rfl⟩ ?_
  refine y_icm (e_252 (44, .if_icmp .eq 12, 3) (List.mem_of_getElem? (i := 24) rfl)) rfl (fun hb => ?_) (fun _ => ?_)
  · have := congrArg Int32.toInt (y_hI.1 hb)
    omega
  refine y_aln (e_252 (47, .aload_n 0, 1) (List.mem_of_getElem? (i := 25) rfl)) g0 ?_
  refine y_getf h.1.I h.1.t (e_252 (48, .getfield 378, 3) (List.mem_of_getElem? (i := 26) rfl)) u_17_378 ⟨rfl, rfl⟩ h.s39 ?_
  refine y_st (e_252 (51, .bipush 8, 2) (List.mem_of_getElem? (i := 27) rfl)) ⟨rfl, rfl, rfl, rfl⟩ ?_
  refine y_icm (e_252 (53, .if_icmp .le 9, 3) (List.mem_of_getElem? (i := 28) rfl)) rfl (fun _ => ?_) (fun hb => ?_)
  rotate_left
  · have c2 := y_hI.2.2.2.2.2.2.2.1 hb
    omega
  refine y_aln (e_252 (62, .aload_n 0, 1) (List.mem_of_getElem? (i := 33) rfl)) g0 ?_
  refine y_st (e_252 (63, .dup, 1) (List.mem_of_getElem? (i := 34) rfl)) ⟨rfl, rfl, rfl, rfl⟩ ?_
  refine y_getf h.1.I h.1.t (e_252 (64, .getfield 384, 3) (List.mem_of_getElem? (i := 35) rfl)) u_17_384 ⟨rfl, rfl⟩ h.s37 ?_
  refine y_st (e_252 (67, .iconst 1, 1) (List.mem_of_getElem? (i := 36) rfl)) ⟨rfl, rfl, rfl, rfl⟩ ?_
  refine y_st (e_252 (68, .iadd, 1) (List.mem_of_getElem? (i := 37) rfl)) ⟨rfl, rfl, rfl, rfl⟩ ?_
  rw [s_inc]
  refine y_putf (f := (0, -2147483648, 2147483647)) h.1.I h.1.t (e_252 (69, .putfield 384, 3) (List.mem_of_getElem? (i := 38) rfl)) u_17_384 ⟨rfl, rfl, by decide, rfl, rfl⟩ ⟨_, rfl, (x_i32 _).1, (x_i32 _).2⟩ (fun G1 u1 => ?_)
  have h1 := h.uon u1
  refine y_aln (e_252 (72, .aload_n 0, 1) (List.mem_of_getElem? (i := 39) rfl)) g0 ?_
  refine y_c1 (K' := _) (e_252 (73, .invokevirtual 170, 3) (List.mem_of_getElem? (i := 40) rfl)) ⟨rfl, rfl, rfl⟩ t_17_170 ⟨by decide, by decide, by decide, by decide⟩ m_163_ok rfl (by decide) (y_recv h1.1.I h1.1.t ⟨rfl, rfl⟩) (Nat.le_of_ble_eq_true rfl) (Nat.le_of_ble_eq_true rfl) (hN _ _ _ _ _ _ _ _ _ _ _ _ h1.1) (fun r1 Gc hc1 => ?_)
  obtain ⟨rfl, hc2⟩ := hc1
  simp only [Option.toList_some, Option.toList_none, List.cons_append, List.nil_append]
  have h2 := h1.nxt hc2
  exact hk _ _ h2 g0 g1 g2 g3
set_option maxHeartbeats 2000000 in
set_option maxRecDepth 100000 in
theorem s_op_n (h : SM th am mb sb f n lim p tok at9 sp num wd cd on dp wh st qf G) {tk : Nat} {n9 : Int32} {nm : Int64} (hT : TR tk n9 nm tok num wd) (htk : tk = 27) (hon : on < 20) (hdp : dp ≤ 8) (hN : NXm f n lim p num wd p2 tok2 at2 sp2 num2 wd2) (hl : st.length < 45) : x_Gd xs L J (d + 2) m_252 (fun r G' => r = some (.int 1) ∧ SM th am mb sb f n lim p2 tok2 at2 sp2 num2 wd2 cd (on + 1) (dp + 1) wh (20 :: st) qf G') 0 (lv_args 0 [.ref am]) [] G := by
  refine s_op_m h hT (by rw [htk]; decide) hon hdp hN (fun G1 lv h1 g0 g1 g2 g3 => ?_)
  rw [if_pos htk] at g1
  have el := s_toI (a := st.length) (by omega)
  have el : (Int32.ofNat st.length).toInt.toNat = st.length := by omega
  have el0 := s_toI (a := st.length) (by omega)
  refine y_iln (e_252 (76, .iload_n 1, 1) (List.mem_of_getElem? (i := 41) rfl)) g1 ?_
  refine y_ifc (e_252 (77, .ifCond .ne 7, 3) (List.mem_of_getElem? (i := 42) rfl)) rfl (fun _ => ?_) (fun hb => absurd hb (by decide))
  refine y_aln (e_252 (84, .aload_n 0, 1) (List.mem_of_getElem? (i := 45) rfl)) g0 ?_
  refine y_getf h1.1.I h1.1.t (e_252 (85, .getfield 62, 3) (List.mem_of_getElem? (i := 46) rfl)) u_17_62 ⟨rfl, rfl⟩ h1.s35 ?_
  refine y_aln (e_252 (88, .aload_n 0, 1) (List.mem_of_getElem? (i := 47) rfl)) g0 ?_
  refine y_getf h1.1.I h1.1.t (e_252 (89, .getfield 371, 3) (List.mem_of_getElem? (i := 48) rfl)) u_17_371 ⟨rfl, rfl⟩ h1.s38 ?_
  refine y_iln (e_252 (92, .iload_n 1, 1) (List.mem_of_getElem? (i := 49) rfl)) g1 ?_
  refine y_ifc (e_252 (93, .ifCond .eq 8, 3) (List.mem_of_getElem? (i := 50) rfl)) rfl (fun hb => absurd hb (by decide)) (fun _ => ?_)
  refine y_st (e_252 (96, .bipush 20, 2) (List.mem_of_getElem? (i := 51) rfl)) ⟨rfl, rfl, rfl, rfl⟩ ?_
  refine y_st (e_252 (98, .goto 5, 3) (List.mem_of_getElem? (i := 52) rfl)) ⟨rfl, rfl, rfl, rfl⟩ ?_
  refine y_iast h1.1.I h1.tsb (e_252 (103, .iastore, 1) (List.mem_of_getElem? (i := 54) rfl)) ⟨rfl, rfl⟩ ⟨by omega, by show _ < (45 : Int); omega⟩ (fun G2 u2 => ?_)
  rw [el] at u2
  have h2 := h1.stk u2 (h1.1.I.upd u2 h1.tsb (y_okA (by rw [s_r45]; exact y_one (by omega)))) (Nat.le_refl _)
  refine y_aln (e_252 (104, .aload_n 0, 1) (List.mem_of_getElem? (i := 55) rfl)) g0 ?_
  refine y_st (e_252 (105, .dup, 1) (List.mem_of_getElem? (i := 56) rfl)) ⟨rfl, rfl, rfl, rfl⟩ ?_
  refine y_getf h2.1.I h2.1.t (e_252 (106, .getfield 371, 3) (List.mem_of_getElem? (i := 57) rfl)) u_17_371 ⟨rfl, rfl⟩ h2.s38 ?_
  refine y_st (e_252 (109, .iconst 1, 1) (List.mem_of_getElem? (i := 58) rfl)) ⟨rfl, rfl, rfl, rfl⟩ ?_
  refine y_st (e_252 (110, .iadd, 1) (List.mem_of_getElem? (i := 59) rfl)) ⟨rfl, rfl, rfl, rfl⟩ ?_
  rw [s_inc]
  have el1 := s_toI (a := st.length + 1) (by omega)
  refine y_putf (f := (0, 0, 45)) h2.1.I h2.1.t (e_252 (111, .putfield 371, 3) (List.mem_of_getElem? (i := 60) rfl)) u_17_371 ⟨rfl, rfl, by decide, rfl, rfl⟩ ⟨_, rfl, by show (0 : Int) ≤ _; omega, by show _ ≤ (45 : Int); omega⟩ (fun G3 u3 => ?_)
  have h3 := h2.push (v := 20) (by rw [u2.2.1, if_pos ⟨rfl, rfl⟩]; rfl) (by omega) u3
  refine y_aln (e_252 (114, .aload_n 0, 1) (List.mem_of_getElem? (i := 61) rfl)) g0 ?_
  refine y_st (e_252 (115, .dup, 1) (List.mem_of_getElem? (i := 62) rfl)) ⟨rfl, rfl, rfl, rfl⟩ ?_
  refine y_getf h3.1.I h3.1.t (e_252 (116, .getfield 378, 3) (List.mem_of_getElem? (i := 63) rfl)) u_17_378 ⟨rfl, rfl⟩ h3.s39 ?_
  refine y_st (e_252 (119, .iconst 1, 1) (List.mem_of_getElem? (i := 64) rfl)) ⟨rfl, rfl, rfl, rfl⟩ ?_
  refine y_st (e_252 (120, .iadd, 1) (List.mem_of_getElem? (i := 65) rfl)) ⟨rfl, rfl, rfl, rfl⟩ ?_
  rw [s_inc]
  refine y_putf (f := (0, -2147483648, 2147483647)) h3.1.I h3.1.t (e_252 (121, .putfield 378, 3) (List.mem_of_getElem? (i := 66) rfl)) u_17_378 ⟨rfl, rfl, by decide, rfl, rfl⟩ ⟨_, rfl, (x_i32 _).1, (x_i32 _).2⟩ (fun G4 u4 => ?_)
  have h4 := h3.udp u4
  refine y_st (e_252 (124, .iconst 1, 1) (List.mem_of_getElem? (i := 67) rfl)) ⟨rfl, rfl, rfl, rfl⟩ ?_
  exact y_ret (e_252 (125, .ireturn, 1) (List.mem_of_getElem? (i := 68) rfl)) ⟨rfl, y_rb (Or.inr rfl)⟩ ⟨rfl, h4⟩
set_option maxHeartbeats 2000000 in
set_option maxRecDepth 100000 in
theorem s_op_o (h : SM th am mb sb f n lim p tok at9 sp num wd cd on dp wh st qf G) {tk : Nat} {n9 : Int32} {nm : Int64} (hT : TR tk n9 nm tok num wd) (htk : tk = 8) (hon : on < 20) (hdp : dp ≤ 8) (hN : NXm f n lim p num wd p2 tok2 at2 sp2 num2 wd2) (hl : st.length < 45) : x_Gd xs L J (d + 2) m_252 (fun r G' => r = some (.int 1) ∧ SM th am mb sb f n lim p2 tok2 at2 sp2 num2 wd2 cd (on + 1) (dp + 1) wh (23 :: st) qf G') 0 (lv_args 0 [.ref am]) [] G := by
  refine s_op_m h hT (by rw [htk]; decide) hon hdp hN (fun G1 lv h1 g0 g1 g2 g3 => ?_)
  rw [if_neg (by omega)] at g1
  rw [if_pos htk] at g2
  have el0 := s_toI (a := st.length) (by omega)
  have el : (Int32.ofNat st.length).toInt.toNat = st.length := by omega
  refine y_iln (e_252 (76, .iload_n 1, 1) (List.mem_of_getElem? (i := 41) rfl)) g1 ?_
  refine y_ifc (e_252 (77, .ifCond .ne 7, 3) (List.mem_of_getElem? (i := 42) rfl)) rfl (fun hb => absurd hb (by decide)) (fun _ => ?_)
  refine y_iln (e_252 (80, .iload_n 2, 1) (List.mem_of_getElem? (i := 43) rfl)) g2 ?_
  refine y_ifc (e_252 (81, .ifCond .eq 45, 3) (List.mem_of_getElem? (i := 44) rfl)) rfl (fun hb => absurd hb (by decide)) (fun _ => ?_)
  refine y_aln (e_252 (84, .aload_n 0, 1) (List.mem_of_getElem? (i := 45) rfl)) g0 ?_
  refine y_getf h1.1.I h1.1.t (e_252 (85, .getfield 62, 3) (List.mem_of_getElem? (i := 46) rfl)) u_17_62 ⟨rfl, rfl⟩ h1.s35 ?_
  refine y_aln (e_252 (88, .aload_n 0, 1) (List.mem_of_getElem? (i := 47) rfl)) g0 ?_
  refine y_getf h1.1.I h1.1.t (e_252 (89, .getfield 371, 3) (List.mem_of_getElem? (i := 48) rfl)) u_17_371 ⟨rfl, rfl⟩ h1.s38 ?_
  refine y_iln (e_252 (92, .iload_n 1, 1) (List.mem_of_getElem? (i := 49) rfl)) g1 ?_
  refine y_ifc (e_252 (93, .ifCond .eq 8, 3) (List.mem_of_getElem? (i := 50) rfl)) rfl (fun _ => ?_) (fun hb => absurd hb (by decide))
  refine y_st (e_252 (101, .bipush 23, 2) (List.mem_of_getElem? (i := 53) rfl)) ⟨rfl, rfl, rfl, rfl⟩ ?_
  refine y_iast h1.1.I h1.tsb (e_252 (103, .iastore, 1) (List.mem_of_getElem? (i := 54) rfl)) ⟨rfl, rfl⟩ ⟨by omega, by show _ < (45 : Int); omega⟩ (fun G2 u2 => ?_)
  rw [el] at u2
  have h2 := h1.stk u2 (h1.1.I.upd u2 h1.tsb (y_okA (by rw [s_r45]; exact y_one (by omega)))) (Nat.le_refl _)
  refine y_aln (e_252 (104, .aload_n 0, 1) (List.mem_of_getElem? (i := 55) rfl)) g0 ?_
  refine y_st (e_252 (105, .dup, 1) (List.mem_of_getElem? (i := 56) rfl)) ⟨rfl, rfl, rfl, rfl⟩ ?_
  refine y_getf h2.1.I h2.1.t (e_252 (106, .getfield 371, 3) (List.mem_of_getElem? (i := 57) rfl)) u_17_371 ⟨rfl, rfl⟩ h2.s38 ?_
  refine y_st (e_252 (109, .iconst 1, 1) (List.mem_of_getElem? (i := 58) rfl)) ⟨rfl, rfl, rfl, rfl⟩ ?_
  refine y_st (e_252 (110, .iadd, 1) (List.mem_of_getElem? (i := 59) rfl)) ⟨rfl, rfl, rfl, rfl⟩ ?_
  rw [s_inc]
  have el1 := s_toI (a := st.length + 1) (by omega)
  refine y_putf (f := (0, 0, 45)) h2.1.I h2.1.t (e_252 (111, .putfield 371, 3) (List.mem_of_getElem? (i := 60) rfl)) u_17_371 ⟨rfl, rfl, by decide, rfl, rfl⟩ ⟨_, rfl, by show (0 : Int) ≤ _; omega, by show _ ≤ (45 : Int); omega⟩ (fun G3 u3 => ?_)
  have h3 := h2.push (v := 23) (by rw [u2.2.1, if_pos ⟨rfl, rfl⟩]; rfl) (by omega) u3
  refine y_aln (e_252 (114, .aload_n 0, 1) (List.mem_of_getElem? (i := 61) rfl)) g0 ?_
  refine y_st (e_252 (115, .dup, 1) (List.mem_of_getElem? (i := 62) rfl)) ⟨rfl, rfl, rfl, rfl⟩ ?_
  refine y_getf h3.1.I h3.1.t (e_252 (116, .getfield 378, 3) (List.mem_of_getElem? (i := 63) rfl)) u_17_378 ⟨rfl, rfl⟩ h3.s39 ?_
  refine y_st (e_252 (119, .iconst 1, 1) (List.mem_of_getElem? (i := 64) rfl)) ⟨rfl, rfl, rfl, rfl⟩ ?_
  refine y_st (e_252 (120, .iadd, 1) (List.mem_of_getElem? (i := 65) rfl)) ⟨rfl, rfl, rfl, rfl⟩ ?_
  rw [s_inc]
  refine y_putf (f := (0, -2147483648, 2147483647)) h3.1.I h3.1.t (e_252 (121, .putfield 378, 3) (List.mem_of_getElem? (i := 66) rfl)) u_17_378 ⟨rfl, rfl, by decide, rfl, rfl⟩ ⟨_, rfl, (x_i32 _).1, (x_i32 _).2⟩ (fun G4 u4 => ?_)
  have h4 := h3.udp u4
  refine y_st (e_252 (124, .iconst 1, 1) (List.mem_of_getElem? (i := 67) rfl)) ⟨rfl, rfl, rfl, rfl⟩ ?_
  exact y_ret (e_252 (125, .ireturn, 1) (List.mem_of_getElem? (i := 68) rfl)) ⟨rfl, y_rb (Or.inr rfl)⟩ ⟨rfl, h4⟩
set_option maxHeartbeats 2000000 in
set_option maxRecDepth 100000 in
/-- ONE that holds no other: from 131 on -/
theorem s_op_l (h : SM th am mb sb f n lim p tok at9 sp num wd cd on dp wh st qf G) {tk : Nat} {n9 : Int32} {nm : Int64} (hT : TR tk n9 nm tok num wd) (hl : s_pln tk = true ∨ s_cmp tk = true) (hon : on < 20) (hdp : dp ≤ 8) (hN : NXm f n lim p num wd p2 tok2 at2 sp2 num2 wd2) (hk : ∀ (G1 : List pE) (lv : pL), SM th am mb sb f n lim p2 tok2 at2 sp2 num2 wd2 cd (on + 1) dp 1 st qf G1 → pm_get lv 0 = some (.ref am) → pm_get lv 3 = some (.int (Int32.ofInt (s_lf tk))) → x_Gd xs L J (d + 2) m_252 K 131 lv [] G1) : x_Gd xs L J (d + 2) m_252 K 0 (lv_args 0 [.ref am]) [] G := by
  have hst : s_sta tk = true := by
    unfold s_sta
    rcases hl with hl | hl <;> rw [hl] <;> simp
  have n27 : tk ≠ 27 := fun z => by rw [z] at hl; revert hl; decide
  have n8 : tk ≠ 8 := fun z => by rw [z] at hl; revert hl; decide
  refine s_op_m h hT hst hon hdp hN (fun G1 lv h1 g0 g1 g2 g3 => ?_)
  rw [if_neg n27] at g1
  rw [if_neg n8] at g2
  refine y_iln (e_252 (76, .iload_n 1, 1) (List.mem_of_getElem? (i := 41) rfl)) g1 ?_
  refine y_ifc (e_252 (77, .ifCond .ne 7, 3) (List.mem_of_getElem? (i := 42) rfl)) rfl (fun hb => absurd hb (by decide)) (fun _ => ?_)
  refine y_iln (e_252 (80, .iload_n 2, 1) (List.mem_of_getElem? (i := 43) rfl)) g2 ?_
  refine y_ifc (e_252 (81, .ifCond .eq 45, 3) (List.mem_of_getElem? (i := 44) rfl)) rfl (fun _ => ?_) (fun hb => absurd hb (by decide))
  refine y_aln (e_252 (126, .aload_n 0, 1) (List.mem_of_getElem? (i := 69) rfl)) g0 ?_
  refine y_st (e_252 (127, .iconst 1, 1) (List.mem_of_getElem? (i := 70) rfl)) ⟨rfl, rfl, rfl, rfl⟩ ?_
  refine y_putf (f := (0, 0, 1)) h1.1.I h1.1.t (e_252 (128, .putfield 387, 3) (List.mem_of_getElem? (i := 71) rfl)) u_17_387 ⟨rfl, rfl, by decide, rfl, rfl⟩ ⟨_, rfl, by decide, by decide⟩ (fun G1 u1 => ?_)
  exact hk _ _ (h1.uwh (k := 1) (by decide) u1) g0 g3
set_option maxHeartbeats 2000000 in
set_option maxRecDepth 100000 in
theorem s_op_p (h : SM th am mb sb f n lim p tok at9 sp num wd cd on dp wh st qf G) {tk : Nat} {n9 : Int32} {nm : Int64} (hT : TR tk n9 nm tok num wd) (hl : s_pln tk = true) (hon : on < 20) (hdp : dp ≤ 8) (hN : NXm f n lim p num wd p2 tok2 at2 sp2 num2 wd2) (hcd : cd < 45) : x_Gd xs L J (d + 2) m_252 (fun r G' => r = some (.int 1) ∧ SM th am mb sb f n lim p2 tok2 at2 sp2 num2 wd2 (cd + 1) (on + 1) dp 1 st qf G') 0 (lv_args 0 [.ref am]) [] G := by
  refine s_op_l h hT (Or.inl hl) hon hdp hN (fun G1 lv h1 g0 g3 => ?_)
  have l4 := s_lf_p hl
  have li := s_lf_i tk
  have z4 : (Int32.ofInt 4).toInt = 4 := rfl
  refine y_iln (e_252 (131, .iload_n 3, 1) (List.mem_of_getElem? (i := 72) rfl)) g3 ?_
  refine y_st (e_252 (132, .iconst 4, 1) (List.mem_of_getElem? (i := 73) rfl)) ⟨rfl, rfl, rfl, rfl⟩ ?_
  refine y_icm (e_252 (133, .if_icmp .ge 12, 3) (List.mem_of_getElem? (i := 74) rfl)) rfl (fun hb => ?_) (fun _ => ?_)
  · have := y_hI.2.2.2.2.1 hb
    omega
  refine y_aln (e_252 (136, .aload_n 0, 1) (List.mem_of_getElem? (i := 75) rfl)) g0 ?_
  refine y_iln (e_252 (137, .iload_n 3, 1) (List.mem_of_getElem? (i := 76) rfl)) g3 ?_
  refine y_st (e_252 (138, .iconst 0, 1) (List.mem_of_getElem? (i := 77) rfl)) ⟨rfl, rfl, rfl, rfl⟩ ?_
  refine y_st (e_252 (139, .iconst 0, 1) (List.mem_of_getElem? (i := 78) rfl)) ⟨rfl, rfl, rfl, rfl⟩ ?_
  refine y_c4 (K' := _) (e_252 (140, .invokevirtual 374, 3) (List.mem_of_getElem? (i := 79) rfl)) ⟨rfl, rfl, rfl⟩ t_17_374 ⟨by decide, by decide, by decide, by decide⟩ m_249_ok rfl (by decide) (y_recv h1.1.I h1.1.t ⟨rfl, rfl⟩) (Nat.le_of_ble_eq_true rfl) (Nat.le_of_ble_eq_true rfl) (s_code h1 hcd _ _ _) (fun r1 Gc hc1 => ?_)
  obtain ⟨rfl, h2⟩ := hc1
  simp only [Option.toList_some, Option.toList_none, List.cons_append, List.nil_append]
  refine y_st (e_252 (143, .iconst 1, 1) (List.mem_of_getElem? (i := 80) rfl)) ⟨rfl, rfl, rfl, rfl⟩ ?_
  exact y_ret (e_252 (144, .ireturn, 1) (List.mem_of_getElem? (i := 81) rfl)) ⟨rfl, y_rb (Or.inr rfl)⟩ ⟨rfl, h2⟩
set_option maxHeartbeats 2000000 in
set_option maxRecDepth 100000 in
theorem s_op_cn (h : SM th am mb sb f n lim p tok at9 sp num wd cd on dp wh st qf G) {tk : Nat} {n9 : Int32} {nm : Int64} (hT : TR tk n9 nm tok num wd) (hl : s_cmp tk = true) (hon : on < 20) (hdp : dp ≤ 8) (hN : NXm f n lim p num wd p2 tok2 at2 sp2 num2 wd2) {tk2 : Nat} {n92 : Int32} {nm2 : Int64} (hT2 : TR tk2 n92 nm2 tok2 num2 wd2) (hno : tk2 ≠ 5 ∧ tk2 ≠ 6 ∧ tk2 ≠ 7) : x_Gd xs L J (d + 2) m_252 (fun r G' => r = some (.int 0) ∧ x_sl G' am 16 = some (.int at2) ∧ x_sl G' am 15 = some (.int (Int32.ofInt 1)) ∧ xI x_tb th G') 0 (lv_args 0 [.ref am]) [] G := by
  refine s_op_l h hT (Or.inr hl) hon hdp hN (fun G1 lv h1 g0 g3 => ?_)
  have l4 := s_lf_c hl
  have li := s_lf_i tk
  have z4 : (Int32.ofInt 4).toInt = 4 := rfl
  have e60 : ((Int8.ofInt 60).toInt32).toInt = 60 := rfl
  have e62 : ((Int8.ofInt 62).toInt32).toInt = 62 := rfl
  have hno : ¬ (tok2 = Int32.ofInt 3 ∧ 60 ≤ num2.toInt ∧ num2.toInt ≤ 62) := fun z => by have := hT2.cmp.mpr z; omega
  have at171 : x_Gd xs L J (d + 2) m_252 (fun r G' => r = some (.int 0) ∧ x_sl G' am 16 = some (.int at2) ∧ x_sl G' am 15 = some (.int (Int32.ofInt 1)) ∧ xI x_tb th G') 171 lv [] G1 := by
    refine y_aln (e_252 (171, .aload_n 0, 1) (List.mem_of_getElem? (i := 94) rfl)) g0 ?_
    refine y_st (e_252 (172, .iconst 1, 1) (List.mem_of_getElem? (i := 95) rfl)) ⟨rfl, rfl, rfl, rfl⟩ ?_
    refine y_c2 (K' := _) (e_252 (173, .invokevirtual 167, 3) (List.mem_of_getElem? (i := 96) rfl)) ⟨rfl, rfl, rfl⟩ t_17_167 ⟨by decide, by decide, by decide, by decide⟩ m_171_ok rfl (by decide) (y_recv h1.1.I h1.1.t ⟨rfl, rfl⟩) (Nat.le_of_ble_eq_true rfl) (Nat.le_of_ble_eq_true rfl) (s_bad h1.1 _) (fun r1 Gc hc1 => ?_)
    obtain ⟨rfl, hc2⟩ := hc1
    simp only [Option.toList_some, Option.toList_none, List.cons_append, List.nil_append]
    exact y_ret (e_252 (176, .ireturn, 1) (List.mem_of_getElem? (i := 97) rfl)) ⟨rfl, y_rb (Or.inl rfl)⟩ ⟨rfl, hc2⟩
  refine y_iln (e_252 (131, .iload_n 3, 1) (List.mem_of_getElem? (i := 72) rfl)) g3 ?_
  refine y_st (e_252 (132, .iconst 4, 1) (List.mem_of_getElem? (i := 73) rfl)) ⟨rfl, rfl, rfl, rfl⟩ ?_
  refine y_icm (e_252 (133, .if_icmp .ge 12, 3) (List.mem_of_getElem? (i := 74) rfl)) rfl (fun _ => ?_) (fun hb => ?_)
  rotate_left
  · have := y_hI.2.2.2.2.2.1 hb
    omega
  refine y_aln (e_252 (145, .aload_n 0, 1) (List.mem_of_getElem? (i := 82) rfl)) g0 ?_
  refine y_getf h1.1.I h1.1.t (e_252 (146, .getfield 141, 3) (List.mem_of_getElem? (i := 83) rfl)) u_17_141 ⟨rfl, rfl⟩ h1.1.s11 ?_
  refine y_st (e_252 (149, .iconst 3, 1) (List.mem_of_getElem? (i := 84) rfl)) ⟨rfl, rfl, rfl, rfl⟩ ?_
  refine y_icm (e_252 (150, .if_icmp .ne 21, 3) (List.mem_of_getElem? (i := 85) rfl)) rfl (fun _ => at171) (fun hb => ?_)
  have c3 := y_hI.2.2.2.1 hb
  refine y_aln (e_252 (153, .aload_n 0, 1) (List.mem_of_getElem? (i := 86) rfl)) g0 ?_
  refine y_getf h1.1.I h1.1.t (e_252 (154, .getfield 151, 3) (List.mem_of_getElem? (i := 87) rfl)) u_17_151 ⟨rfl, rfl⟩ h1.1.s14 ?_
  refine y_st (e_252 (157, .bipush 60, 2) (List.mem_of_getElem? (i := 88) rfl)) ⟨rfl, rfl, rfl, rfl⟩ ?_
  refine y_icm (e_252 (159, .if_icmp .lt 12, 3) (List.mem_of_getElem? (i := 89) rfl)) rfl (fun _ => at171) (fun hb => ?_)
  have c4 := y_hI.2.2.2.2.2.2.2.2.2.1 hb
  refine y_aln (e_252 (162, .aload_n 0, 1) (List.mem_of_getElem? (i := 90) rfl)) g0 ?_
  refine y_getf h1.1.I h1.1.t (e_252 (163, .getfield 151, 3) (List.mem_of_getElem? (i := 91) rfl)) u_17_151 ⟨rfl, rfl⟩ h1.1.s14 ?_
  refine y_st (e_252 (166, .bipush 62, 2) (List.mem_of_getElem? (i := 92) rfl)) ⟨rfl, rfl, rfl, rfl⟩ ?_
  refine y_icm (e_252 (168, .if_icmp .le 9, 3) (List.mem_of_getElem? (i := 93) rfl)) rfl (fun hb => ?_) (fun _ => at171)
  have c5 := y_hI.2.2.2.2.2.2.1 hb
  exact absurd ⟨c3, by omega, by omega⟩ hno
set_option maxHeartbeats 2000000 in
set_option maxRecDepth 100000 in
theorem s_op_cs (h : SM th am mb sb f n lim p tok at9 sp num wd cd on dp wh st qf G) {tk : Nat} {n9 : Int32} {nm : Int64} (hT : TR tk n9 nm tok num wd) (hl : s_cmp tk = true) (hon : on < 20) (hdp : dp ≤ 8) (hN : NXm f n lim p num wd p2 tok2 at2 sp2 num2 wd2) {tk2 : Nat} {n92 : Int32} {nm2 : Int64} (hT2 : TR tk2 n92 nm2 tok2 num2 wd2) (hs : tk2 = 5 ∨ tk2 = 6 ∨ tk2 = 7) (hN2 : NXm f n lim p2 num2 wd2 p3 tok3 at3 sp3 num3 wd3) (hk : ∀ (G1 : List pE) (lv : pL), SM th am mb sb f n lim p3 tok3 at3 sp3 num3 wd3 cd (on + 1) dp 1 st qf G1 → pm_get lv 0 = some (.ref am) → pm_get lv 3 = some (.int (Int32.ofInt (s_lf tk))) → pm_get lv 4 = some (.int num2) → x_Gd xs L J (d + 2) m_252 K 187 lv [] G1) : x_Gd xs L J (d + 2) m_252 K 0 (lv_args 0 [.ref am]) [] G := by
  refine s_op_l h hT (Or.inr hl) hon hdp hN (fun G1 lv h1 g0 g3 => ?_)
  have l4 := s_lf_c hl
  have li := s_lf_i tk
  have z4 : (Int32.ofInt 4).toInt = 4 := rfl
  have e60 : ((Int8.ofInt 60).toInt32).toInt = 60 := rfl
  have e62 : ((Int8.ofInt 62).toInt32).toInt = 62 := rfl
  obtain ⟨y1, y2, y3⟩ := hT2.cmp.mp hs
  refine y_iln (e_252 (131, .iload_n 3, 1) (List.mem_of_getElem? (i := 72) rfl)) g3 ?_
  refine y_st (e_252 (132, .iconst 4, 1) (List.mem_of_getElem? (i := 73) rfl)) ⟨rfl, rfl, rfl, rfl⟩ ?_
  refine y_icm (e_252 (133, .if_icmp .ge 12, 3) (List.mem_of_getElem? (i := 74) rfl)) rfl (fun _ => ?_) (fun hb => ?_)
  rotate_left
  · have := y_hI.2.2.2.2.2.1 hb
    omega
  refine y_aln (e_252 (145, .aload_n 0, 1) (List.mem_of_getElem? (i := 82) rfl)) g0 ?_
  refine y_getf h1.1.I h1.1.t (e_252 (146, .getfield 141, 3) (List.mem_of_getElem? (i := 83) rfl)) u_17_141 ⟨rfl, rfl⟩ h1.1.s11 ?_
  refine y_st (e_252 (149, .iconst 3, 1) (List.mem_of_getElem? (i := 84) rfl)) ⟨rfl, rfl, rfl, rfl⟩ ?_
  refine y_icm (e_252 (150, .if_icmp .ne 21, 3) (List.mem_of_getElem? (i := 85) rfl)) rfl (fun hb => absurd y1 (y_hI.2.2.1 hb)) (fun _ => ?_)
  refine y_aln (e_252 (153, .aload_n 0, 1) (List.mem_of_getElem? (i := 86) rfl)) g0 ?_
  refine y_getf h1.1.I h1.1.t (e_252 (154, .getfield 151, 3) (List.mem_of_getElem? (i := 87) rfl)) u_17_151 ⟨rfl, rfl⟩ h1.1.s14 ?_
  refine y_st (e_252 (157, .bipush 60, 2) (List.mem_of_getElem? (i := 88) rfl)) ⟨rfl, rfl, rfl, rfl⟩ ?_
  refine y_icm (e_252 (159, .if_icmp .lt 12, 3) (List.mem_of_getElem? (i := 89) rfl)) rfl (fun hb => ?_) (fun _ => ?_)
  · have := y_hI.2.2.2.2.2.2.2.2.1 hb
    omega
  refine y_aln (e_252 (162, .aload_n 0, 1) (List.mem_of_getElem? (i := 90) rfl)) g0 ?_
  refine y_getf h1.1.I h1.1.t (e_252 (163, .getfield 151, 3) (List.mem_of_getElem? (i := 91) rfl)) u_17_151 ⟨rfl, rfl⟩ h1.1.s14 ?_
  refine y_st (e_252 (166, .bipush 62, 2) (List.mem_of_getElem? (i := 92) rfl)) ⟨rfl, rfl, rfl, rfl⟩ ?_
  refine y_icm (e_252 (168, .if_icmp .le 9, 3) (List.mem_of_getElem? (i := 93) rfl)) rfl (fun _ => ?_) (fun hb => ?_)
  rotate_left
  · have := y_hI.2.2.2.2.2.2.2.1 hb
    omega
  refine y_aln (e_252 (177, .aload_n 0, 1) (List.mem_of_getElem? (i := 98) rfl)) g0 ?_
  refine y_getf h1.1.I h1.1.t (e_252 (178, .getfield 151, 3) (List.mem_of_getElem? (i := 99) rfl)) u_17_151 ⟨rfl, rfl⟩ h1.1.s14 ?_
  refine y_is (e_252 (181, .istore 4, 2) (List.mem_of_getElem? (i := 100) rfl)) (by decide) ?_
  refine y_aln (e_252 (183, .aload_n 0, 1) (List.mem_of_getElem? (i := 101) rfl)) (y_gpr g0 (by decide)) ?_
  refine y_c1 (K' := _) (e_252 (184, .invokevirtual 170, 3) (List.mem_of_getElem? (i := 102) rfl)) ⟨rfl, rfl, rfl⟩ t_17_170 ⟨by decide, by decide, by decide, by decide⟩ m_163_ok rfl (by decide) (y_recv h1.1.I h1.1.t ⟨rfl, rfl⟩) (Nat.le_of_ble_eq_true rfl) (Nat.le_of_ble_eq_true rfl) (hN2 _ _ _ _ _ _ _ _ _ _ _ _ h1.1) (fun r1 Gc hc1 => ?_)
  obtain ⟨rfl, hc2⟩ := hc1
  simp only [Option.toList_some, Option.toList_none, List.cons_append, List.nil_append]
  exact hk _ _ (h1.nxt hc2) (y_gpr g0 (by decide)) (y_gpi g3 (by decide)) x_get_self
set_option maxHeartbeats 2000000 in
set_option maxRecDepth 100000 in
theorem s_op_cb (h : SM th am mb sb f n lim p tok at9 sp num wd cd on dp wh st qf G) {tk : Nat} {n9 : Int32} {nm : Int64} (hT : TR tk n9 nm tok num wd) (hl : s_cmp tk = true) (hon : on < 20) (hdp : dp ≤ 8) (hN : NXm f n lim p num wd p2 tok2 at2 sp2 num2 wd2) {tk2 : Nat} {n92 : Int32} {nm2 : Int64} (hT2 : TR tk2 n92 nm2 tok2 num2 wd2) (hs : tk2 = 5 ∨ tk2 = 6 ∨ tk2 = 7) (hN2 : NXm f n lim p2 num2 wd2 p3 tok3 at3 sp3 num3 wd3) {tk3 : Nat} {n93 : Int32} {nm3 : Int64} (hT3 : TR tk3 n93 nm3 tok3 num3 wd3) (hno : tk3 ≠ 2) : x_Gd xs L J (d + 2) m_252 (fun r G' => r = some (.int 0) ∧ x_sl G' am 16 = some (.int at3) ∧ x_sl G' am 15 = some (.int (Int32.ofInt 1)) ∧ xI x_tb th G') 0 (lv_args 0 [.ref am]) [] G := by
  refine s_op_cs h hT hl hon hdp hN hT2 hs hN2 (fun G1 lv h1 g0 g3 g4 => ?_)
  refine y_aln (e_252 (187, .aload_n 0, 1) (List.mem_of_getElem? (i := 103) rfl)) g0 ?_
  refine y_getf h1.1.I h1.1.t (e_252 (188, .getfield 141, 3) (List.mem_of_getElem? (i := 104) rfl)) u_17_141 ⟨rfl, rfl⟩ h1.1.s11 ?_
  refine y_st (e_252 (191, .iconst 2, 1) (List.mem_of_getElem? (i := 105) rfl)) ⟨rfl, rfl, rfl, rfl⟩ ?_
  refine y_icm (e_252 (192, .if_icmp .eq 9, 3) (List.mem_of_getElem? (i := 106) rfl)) rfl (fun hb => absurd (hT3.nb.1.mpr (y_hI.1 hb)) hno) (fun _ => ?_)
  refine y_aln (e_252 (195, .aload_n 0, 1) (List.mem_of_getElem? (i := 107) rfl)) g0 ?_
  refine y_st (e_252 (196, .iconst 1, 1) (List.mem_of_getElem? (i := 108) rfl)) ⟨rfl, rfl, rfl, rfl⟩ ?_
  refine y_c2 (K' := _) (e_252 (197, .invokevirtual 167, 3) (List.mem_of_getElem? (i := 109) rfl)) ⟨rfl, rfl, rfl⟩ t_17_167 ⟨by decide, by decide, by decide, by decide⟩ m_171_ok rfl (by decide) (y_recv h1.1.I h1.1.t ⟨rfl, rfl⟩) (Nat.le_of_ble_eq_true rfl) (Nat.le_of_ble_eq_true rfl) (s_bad h1.1 _) (fun r1 Gc hc1 => ?_)
  obtain ⟨rfl, hc2⟩ := hc1
  simp only [Option.toList_some, Option.toList_none, List.cons_append, List.nil_append]
  exact y_ret (e_252 (200, .ireturn, 1) (List.mem_of_getElem? (i := 110) rfl)) ⟨rfl, y_rb (Or.inl rfl)⟩ ⟨rfl, hc2⟩
set_option maxHeartbeats 2000000 in
set_option maxRecDepth 100000 in
theorem s_op_c (h : SM th am mb sb f n lim p tok at9 sp num wd cd on dp wh st qf G) {tk : Nat} {n9 : Int32} {nm : Int64} (hT : TR tk n9 nm tok num wd) (hl : s_cmp tk = true) (hon : on < 20) (hdp : dp ≤ 8) (hN : NXm f n lim p num wd p2 tok2 at2 sp2 num2 wd2) {tk2 : Nat} {n92 : Int32} {nm2 : Int64} (hT2 : TR tk2 n92 nm2 tok2 num2 wd2) (hs : tk2 = 5 ∨ tk2 = 6 ∨ tk2 = 7) (hN2 : NXm f n lim p2 num2 wd2 p3 tok3 at3 sp3 num3 wd3) {tk3 : Nat} {n93 : Int32} {nm3 : Int64} (hT3 : TR tk3 n93 nm3 tok3 num3 wd3) (h2 : tk3 = 2) (hN3 : NXm f n lim p3 num3 wd3 p4 tok4 at4 sp4 num4 wd4) (hcd : cd < 45) : x_Gd xs L J (d + 2) m_252 (fun r G' => r = some (.int 1) ∧ SM th am mb sb f n lim p4 tok4 at4 sp4 num4 wd4 (cd + 1) (on + 1) dp 1 st qf G') 0 (lv_args 0 [.ref am]) [] G := by
  refine s_op_cs h hT hl hon hdp hN hT2 hs hN2 (fun G1 lv h1 g0 g3 g4 => ?_)
  refine y_aln (e_252 (187, .aload_n 0, 1) (List.mem_of_getElem? (i := 103) rfl)) g0 ?_
  refine y_getf h1.1.I h1.1.t (e_252 (188, .getfield 141, 3) (List.mem_of_getElem? (i := 104) rfl)) u_17_141 ⟨rfl, rfl⟩ h1.1.s11 ?_
  refine y_st (e_252 (191, .iconst 2, 1) (List.mem_of_getElem? (i := 105) rfl)) ⟨rfl, rfl, rfl, rfl⟩ ?_
  refine y_icm (e_252 (192, .if_icmp .eq 9, 3) (List.mem_of_getElem? (i := 106) rfl)) rfl (fun _ => ?_) (fun hb => absurd (hT3.nb.1.mp h2) (y_hI.2.1 hb))
  refine y_aln (e_252 (201, .aload_n 0, 1) (List.mem_of_getElem? (i := 111) rfl)) g0 ?_
  refine y_iln (e_252 (202, .iload_n 3, 1) (List.mem_of_getElem? (i := 112) rfl)) g3 ?_
  refine y_il (e_252 (203, .iload 4, 2) (List.mem_of_getElem? (i := 113) rfl)) g4 ?_
  refine y_aln (e_252 (205, .aload_n 0, 1) (List.mem_of_getElem? (i := 114) rfl)) g0 ?_
  refine y_getf h1.1.I h1.1.t (e_252 (206, .getfield 151, 3) (List.mem_of_getElem? (i := 115) rfl)) u_17_151 ⟨rfl, rfl⟩ h1.1.s14 ?_
  refine y_c4 (K' := _) (e_252 (209, .invokevirtual 374, 3) (List.mem_of_getElem? (i := 116) rfl)) ⟨rfl, rfl, rfl⟩ t_17_374 ⟨by decide, by decide, by decide, by decide⟩ m_249_ok rfl (by decide) (y_recv h1.1.I h1.1.t ⟨rfl, rfl⟩) (Nat.le_of_ble_eq_true rfl) (Nat.le_of_ble_eq_true rfl) (s_code h1 hcd _ _ _) (fun r1 Gc hc1 => ?_)
  obtain ⟨rfl, h4⟩ := hc1
  simp only [Option.toList_some, Option.toList_none, List.cons_append, List.nil_append]
  refine y_aln (e_252 (212, .aload_n 0, 1) (List.mem_of_getElem? (i := 117) rfl)) g0 ?_
  refine y_c1 (K' := _) (e_252 (213, .invokevirtual 170, 3) (List.mem_of_getElem? (i := 118) rfl)) ⟨rfl, rfl, rfl⟩ t_17_170 ⟨by decide, by decide, by decide, by decide⟩ m_163_ok rfl (by decide) (y_recv h4.1.I h4.1.t ⟨rfl, rfl⟩) (Nat.le_of_ble_eq_true rfl) (Nat.le_of_ble_eq_true rfl) (hN3 _ _ _ _ _ _ _ _ _ _ _ _ h4.1) (fun r1 Gc hc1 => ?_)
  obtain ⟨rfl, hc2⟩ := hc1
  simp only [Option.toList_some, Option.toList_none, List.cons_append, List.nil_append]
  have h5 := h4.nxt hc2
  refine y_st (e_252 (216, .iconst 1, 1) (List.mem_of_getElem? (i := 119) rfl)) ⟨rfl, rfl, rfl, rfl⟩ ?_
  exact y_ret (e_252 (217, .ireturn, 1) (List.mem_of_getElem? (i := 120) rfl)) ⟨rfl, y_rb (Or.inr rfl)⟩ ⟨rfl, h5⟩
end S6
