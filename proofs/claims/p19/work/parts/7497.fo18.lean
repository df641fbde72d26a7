theorem t_0_233 : pm_ctab.find? (fun r => r.1 == 0 && r.2.1 == 233) = some (0, 233, 1, 70, 783) := by decide +kernel
theorem t_0_237 : pm_ctab.find? (fun r => r.1 == 0 && r.2.1 == 237) = some (0, 237, 1, 71, 788) := by decide +kernel
theorem t_5_40 : pm_ctab.find? (fun r => r.1 == 5 && r.2.1 == 40) = some (5, 40, 1, 34, 787) := by decide +kernel
theorem t_17_248 : pm_ctab.find? (fun r => r.1 == 17 && r.2.1 == 248) = some (17, 248, 1, 194, 1603) := by decide +kernel
def m_70 : pM := (⟨"BreathingHill$Land", "hasCell", "(II)Z"⟩, 786, 3, some (FieldType.boolean), 5, 2, false, 1, 97, 784, 785)
set_option maxRecDepth 100000 in
theorem m_70_ok : pm_tab[70]? = some m_70 := rfl
theorem e_70 : ∀ q ∈ d_70, decode m_70.code q.1 = .ok (q.2.1, q.2.2) := y_dec d_70_ok m_70_ok
def m_71 : pM := (⟨"BreathingHill$Land", "forceIn", "(I)I"⟩, 791, 3, some (FieldType.int), 5, 1, false, 1, 97, 789, 790)
set_option maxRecDepth 100000 in
theorem m_71_ok : pm_tab[71]? = some m_71 := rfl
theorem e_71 : ∀ q ∈ d_71, decode m_71.code q.1 = .ok (q.2.1, q.2.2) := y_dec d_71_ok m_71_ok
def m_194 : pM := (⟨"BreathingHillModel", "isCell", "(II)Z"⟩, 1606, 3, some (FieldType.boolean), 17, 2, false, 10, 103, 1605, 55)
set_option maxRecDepth 100000 in
theorem m_194_ok : pm_tab[194]? = some m_194 := rfl
theorem e_194 : ∀ q ∈ d_194, decode m_194.code q.1 = .ok (q.2.1, q.2.2) := y_dec d_194_ok m_194_ok
def z_fv (c0 c1 F K v c : Int32) : Int32 := if (v = 0 ∧ 0 ≤ c.toInt ∧ c.toInt < c0.toInt) ∨ (v = 1 ∧ 0 ≤ c.toInt ∧ c.toInt < c1.toInt) then (if 0 < (F - c / K).toInt then F - c / K else Int32.ofInt 0) else Int32.ofInt (-1)
/-- what force answers -/
def z_fo (s : Nat → Option Value) (v c : Int32) (r : Option Value) : Prop := ∃ c0 c1 F K : Int32, s 0 = some (.int c0) ∧ s 1 = some (.int c1) ∧ s 10 = some (.int F) ∧ s 11 = some (.int K) ∧ r = some (.int (z_fv c0 c1 F K v c))
theorem z_fo.eq {s : Nat → Option Value} {v c y y' : Int32} (h : z_fo s v c (some (.int y))) (h' : z_fo s v c (some (.int y'))) : y = y' := by
  obtain ⟨c0, c1, F, K, a0, a1, a2, a3, e⟩ := h
  obtain ⟨d0, d1, F', K', b0, b1, b2, b3, e'⟩ := h'
  rw [a0] at b0
  rw [a1] at b1
  rw [a2] at b2
  rw [a3] at b3
  cases b0
  cases b1
  cases b2
  cases b3
  cases e
  cases e'
  rfl
section FO
variable {xs : Nat → Int32} {L J d : Nat} {G : List pE} {K : Option Value → List pE → Prop} {lv : pL}
theorem y_idv {M : pM} {pc : Nat} {r : List Value} {x y : Int32} (hd : decode M.code pc = .ok (Instr.idiv, 1)) (hy : y ≠ 0) (hk : x_Gd xs L J d M K (pc + 1) lv (.int (x / y) :: r) G) : x_Gd xs L J d M K pc lv (.int y :: .int x :: r) G := y_st hd ⟨rfl, rfl, rfl, by dsimp only [pm_step]; rw [if_neg hy]⟩ hk
theorem y_irm {M : pM} {pc : Nat} {r : List Value} {x y : Int32} (hd : decode M.code pc = .ok (Instr.irem, 1)) (hy : y ≠ 0) (hk : x_Gd xs L J d M K (pc + 1) lv (.int (x - x / y * y) :: r) G) : x_Gd xs L J d M K pc lv (.int y :: .int x :: r) G := y_st hd ⟨rfl, rfl, rfl, by dsimp only [pm_step]; rw [if_neg hy]⟩ hk
set_option maxHeartbeats 2000000 in
set_option maxRecDepth 100000 in
theorem z_clo {c0 c1 v : Int32} (hI : xI x_tb th0 G) (a1 : th0[7]? = some 1) (a2 : th0[8]? = some 14) (hp : x_sl G 7 0 = some (.ref 8)) (e0 : x_sl G 8 0 = some (.int c0)) (e1 : x_sl G 8 1 = some (.int c1)) : x_Gd xs L J d m_34 (fun r G' => G' = G ∧ r = some (.int (if v = 0 then c0 else if v = Int32.ofInt 1 then c1 else Int32.ofInt 0))) 0 (lv_args 0 [.ref 7, .int v]) [] G := by
  have g0 : pm_get (lv_args 0 [.ref 7, .int v]) 0 = some (.ref 7) := rfl
  have g1 : pm_get (lv_args 0 [.ref 7, .int v]) 1 = some (.int v) := rfl
  generalize lv_args 0 [.ref 7, .int v] = lv at g0 g1 ⊢
  refine y_iln (e_34 (0, .iload_n 1, 1) (List.mem_of_getElem? (i := 0) rfl)) g1 ?_
  refine y_ifc (e_34 (1, .ifCond .ne 10, 3) (List.mem_of_getElem? (i := 1) rfl)) rfl (fun hc => ?_) (fun hc => ?_)
  rotate_left
  · have hv := y_hI.2.2.2.1 hc
    refine y_aln (e_34 (4, .aload_n 0, 1) (List.mem_of_getElem? (i := 2) rfl)) g0 ?_
    refine y_getf hI a1 (e_34 (5, .getfield 9, 3) (List.mem_of_getElem? (i := 3) rfl)) u_5_9 ⟨rfl, rfl⟩ hp ?_
    refine y_st (e_34 (8, .iconst 0, 1) (List.mem_of_getElem? (i := 4) rfl)) ⟨rfl, rfl, rfl, rfl⟩ ?_
    refine y_iald hI a2 (e_34 (9, .iaload, 1) (List.mem_of_getElem? (i := 5) rfl)) ⟨rfl, rfl⟩ (by decide) e0 ?_
    exact y_ret (e_34 (10, .ireturn, 1) (List.mem_of_getElem? (i := 6) rfl)) ⟨rfl, y_ri⟩ ⟨rfl, by rw [if_pos hv]⟩
  have hv := y_hI.2.2.1 hc
  refine y_iln (e_34 (11, .iload_n 1, 1) (List.mem_of_getElem? (i := 7) rfl)) g1 ?_
  refine y_st (e_34 (12, .iconst 1, 1) (List.mem_of_getElem? (i := 8) rfl)) ⟨rfl, rfl, rfl, rfl⟩ ?_
  refine y_icm (e_34 (13, .if_icmp .ne 12, 3) (List.mem_of_getElem? (i := 9) rfl)) rfl (fun hc => ?_) (fun hc => ?_)
  · have hv1 := y_hI.2.2.1 hc
    refine y_st (e_34 (25, .iconst 0, 1) (List.mem_of_getElem? (i := 15) rfl)) ⟨rfl, rfl, rfl, rfl⟩ ?_
    exact y_ret (e_34 (26, .ireturn, 1) (List.mem_of_getElem? (i := 16) rfl)) ⟨rfl, y_ri⟩ ⟨rfl, by rw [if_neg hv, if_neg hv1]⟩
  have hv1 := y_hI.2.2.2.1 hc
  refine y_aln (e_34 (16, .aload_n 0, 1) (List.mem_of_getElem? (i := 10) rfl)) g0 ?_
  refine y_getf hI a1 (e_34 (17, .getfield 9, 3) (List.mem_of_getElem? (i := 11) rfl)) u_5_9 ⟨rfl, rfl⟩ hp ?_
  refine y_st (e_34 (20, .iconst 1, 1) (List.mem_of_getElem? (i := 12) rfl)) ⟨rfl, rfl, rfl, rfl⟩ ?_
  refine y_iald hI a2 (e_34 (21, .iaload, 1) (List.mem_of_getElem? (i := 13) rfl)) ⟨rfl, rfl⟩ (by decide) e1 ?_
  refine y_st (e_34 (22, .goto 4, 3) (List.mem_of_getElem? (i := 14) rfl)) ⟨rfl, rfl, rfl, rfl⟩ ?_
  exact y_ret (e_34 (26, .ireturn, 1) (List.mem_of_getElem? (i := 16) rfl)) ⟨rfl, y_ri⟩ ⟨rfl, by rw [if_neg hv, if_pos hv1]⟩
set_option maxHeartbeats 2000000 in
set_option maxRecDepth 100000 in
theorem z_hcl {c0 c1 v c : Int32} (hI : xI x_tb th0 G) (a1 : th0[7]? = some 1) (a2 : th0[8]? = some 14) (hp : x_sl G 7 0 = some (.ref 8)) (e0 : x_sl G 8 0 = some (.int c0)) (e1 : x_sl G 8 1 = some (.int c1)) : x_Gd xs L J (d + 1) m_70 (fun r G' => G' = G ∧ ((r = some (.int (Int32.ofInt 1)) ∧ ((v = 0 ∧ 0 ≤ c.toInt ∧ c.toInt < c0.toInt) ∨ (v = 1 ∧ 0 ≤ c.toInt ∧ c.toInt < c1.toInt))) ∨ (r = some (.int (Int32.ofInt 0)) ∧ ¬ ((v = 0 ∧ 0 ≤ c.toInt ∧ c.toInt < c0.toInt) ∨ (v = 1 ∧ 0 ≤ c.toInt ∧ c.toInt < c1.toInt))))) 0 (lv_args 0 [.ref 7, .int v, .int c]) [] G := by
  have g0 : pm_get (lv_args 0 [.ref 7, .int v, .int c]) 0 = some (.ref 7) := rfl
  have g1 : pm_get (lv_args 0 [.ref 7, .int v, .int c]) 1 = some (.int v) := rfl
  have g2 : pm_get (lv_args 0 [.ref 7, .int v, .int c]) 2 = some (.int c) := rfl
  generalize lv_args 0 [.ref 7, .int v, .int c] = lv at g0 g1 g2 ⊢
  refine y_iln (e_70 (0, .iload_n 2, 1) (List.mem_of_getElem? (i := 0) rfl)) g2 ?_
  refine y_ifc (e_70 (1, .ifCond .lt 16, 3) (List.mem_of_getElem? (i := 1) rfl)) rfl (fun hc => ?_) (fun hc => ?_)
  · have z := y_hI.2.2.2.2.2.2.2.2.1 hc
    rw [show (0 : Int32).toInt = 0 from rfl] at z
    refine y_st (e_70 (17, .iconst 0, 1) (List.mem_of_getElem? (i := 9) rfl)) ⟨rfl, rfl, rfl, rfl⟩ ?_
    exact y_ret (e_70 (18, .ireturn, 1) (List.mem_of_getElem? (i := 10) rfl)) ⟨rfl, y_rb (Or.inl rfl)⟩ ⟨rfl, Or.inr ⟨rfl, fun z => by omega⟩⟩
  have z0 := y_hI.2.2.2.2.2.2.2.2.2.1 hc
  rw [show (0 : Int32).toInt = 0 from rfl] at z0
  refine y_iln (e_70 (4, .iload_n 2, 1) (List.mem_of_getElem? (i := 2) rfl)) g2 ?_
  refine y_aln (e_70 (5, .aload_n 0, 1) (List.mem_of_getElem? (i := 3) rfl)) g0 ?_
  refine y_iln (e_70 (6, .iload_n 1, 1) (List.mem_of_getElem? (i := 4) rfl)) g1 ?_
  refine y_c2 (K' := _) (e_70 (7, .invokevirtual 40, 3) (List.mem_of_getElem? (i := 5) rfl)) ⟨rfl, rfl, rfl⟩ t_5_40 ⟨by decide, by decide, by decide, by decide⟩ m_34_ok rfl (by decide) (y_recv hI a1 ⟨rfl, rfl⟩) (Nat.le_of_ble_eq_true rfl) (Nat.le_of_ble_eq_true rfl) (z_clo hI a1 a2 hp e0 e1) (fun r1 G1 h1 => ?_)
  obtain ⟨rfl, rfl⟩ := h1
  simp only [Option.toList_some, Option.toList_none, List.cons_append, List.nil_append]
  refine y_icm (e_70 (10, .if_icmp .ge 7, 3) (List.mem_of_getElem? (i := 6) rfl)) rfl (fun hc => ?_) (fun hc => ?_)
  · have z := y_hI.2.2.2.2.1 hc
    refine y_st (e_70 (17, .iconst 0, 1) (List.mem_of_getElem? (i := 9) rfl)) ⟨rfl, rfl, rfl, rfl⟩ ?_
    refine y_ret (e_70 (18, .ireturn, 1) (List.mem_of_getElem? (i := 10) rfl)) ⟨rfl, y_rb (Or.inl rfl)⟩ ⟨rfl, Or.inr ⟨rfl, fun y => ?_⟩⟩
    rcases y with ⟨rfl, -, y⟩ | ⟨rfl, -, y⟩
    · rw [if_pos rfl] at z
      omega
    · rw [if_neg (by decide), if_pos (by decide)] at z
      omega
  have z := y_hI.2.2.2.2.2.1 hc
  refine y_st (e_70 (13, .iconst 1, 1) (List.mem_of_getElem? (i := 7) rfl)) ⟨rfl, rfl, rfl, rfl⟩ ?_
  refine y_st (e_70 (14, .goto 4, 3) (List.mem_of_getElem? (i := 8) rfl)) ⟨rfl, rfl, rfl, rfl⟩ ?_
  refine y_ret (e_70 (18, .ireturn, 1) (List.mem_of_getElem? (i := 10) rfl)) ⟨rfl, y_rb (Or.inr rfl)⟩ ⟨rfl, Or.inl ⟨rfl, ?_⟩⟩
  by_cases hv : v = 0
  · rw [if_pos hv] at z
    exact Or.inl ⟨hv, z0, z⟩
  by_cases hv1 : v = Int32.ofInt 1
  · rw [if_neg hv, if_pos hv1] at z
    exact Or.inr ⟨hv1, z0, z⟩
  rw [if_neg hv, if_neg hv1, show (Int32.ofInt 0).toInt = 0 from rfl] at z
  omega
set_option maxHeartbeats 2000000 in
set_option maxRecDepth 100000 in
theorem z_fin {F Kf c : Int32} (hI : xI x_tb th0 G) (a1 : th0[7]? = some 1) (hK : 1 ≤ Kf.toInt) (e2 : x_sl G 7 2 = some (.int F)) (e3 : x_sl G 7 3 = some (.int Kf)) : x_Gd xs L J d m_71 (fun r G' => r = some (.int (if 0 < (F - c / Kf).toInt then F - c / Kf else Int32.ofInt 0)) ∧ G' = G) 0 (lv_args 0 [.ref 7, .int c]) [] G := by
  have g0 : pm_get (lv_args 0 [.ref 7, .int c]) 0 = some (.ref 7) := rfl
  have g1 : pm_get (lv_args 0 [.ref 7, .int c]) 1 = some (.int c) := rfl
  generalize lv_args 0 [.ref 7, .int c] = lv at g0 g1 ⊢
  have hne : Kf ≠ 0 := fun z => by rw [z] at hK; exact absurd hK (by decide)
  refine y_aln (e_71 (0, .aload_n 0, 1) (List.mem_of_getElem? (i := 0) rfl)) g0 ?_
  refine y_getf hI a1 (e_71 (1, .getfield 22, 3) (List.mem_of_getElem? (i := 1) rfl)) u_5_22 ⟨rfl, rfl⟩ e3 ?_
  refine y_st (e_71 (4, .iconst 1, 1) (List.mem_of_getElem? (i := 2) rfl)) ⟨rfl, rfl, rfl, rfl⟩ ?_
  refine y_icm (e_71 (5, .if_icmp .ge 10, 3) (List.mem_of_getElem? (i := 3) rfl)) rfl (fun _ => ?_) (fun hc => ?_)
  rotate_left
  · have z := y_hI.2.2.2.2.2.1 hc
    rw [show (Int32.ofInt 1).toInt = 1 from rfl] at z
    omega
  refine y_aln (e_71 (15, .aload_n 0, 1) (List.mem_of_getElem? (i := 7) rfl)) g0 ?_
  refine y_getf hI a1 (e_71 (16, .getfield 18, 3) (List.mem_of_getElem? (i := 8) rfl)) u_5_18 ⟨rfl, rfl⟩ e2 ?_
  refine y_iln (e_71 (19, .iload_n 1, 1) (List.mem_of_getElem? (i := 9) rfl)) g1 ?_
  refine y_aln (e_71 (20, .aload_n 0, 1) (List.mem_of_getElem? (i := 10) rfl)) g0 ?_
  refine y_getf hI a1 (e_71 (21, .getfield 22, 3) (List.mem_of_getElem? (i := 11) rfl)) u_5_22 ⟨rfl, rfl⟩ e3 ?_
  refine y_idv (e_71 (24, .idiv, 1) (List.mem_of_getElem? (i := 12) rfl)) hne ?_
  refine y_st (e_71 (25, .isub, 1) (List.mem_of_getElem? (i := 13) rfl)) ⟨rfl, rfl, rfl, rfl⟩ ?_
  refine y_isn (e_71 (26, .istore_n 2, 1) (List.mem_of_getElem? (i := 14) rfl)) (by decide) ?_
  refine y_iln (e_71 (27, .iload_n 2, 1) (List.mem_of_getElem? (i := 15) rfl)) x_get_self ?_
  refine y_ifc (e_71 (28, .ifCond .le 7, 3) (List.mem_of_getElem? (i := 16) rfl)) rfl (fun hc => ?_) (fun hc => ?_)
  · have z := y_hI.2.2.2.2.2.2.1 hc
    rw [show (0 : Int32).toInt = 0 from rfl] at z
    refine y_st (e_71 (35, .iconst 0, 1) (List.mem_of_getElem? (i := 19) rfl)) ⟨rfl, rfl, rfl, rfl⟩ ?_
    exact y_ret (e_71 (36, .ireturn, 1) (List.mem_of_getElem? (i := 20) rfl)) ⟨rfl, y_ri⟩ ⟨by rw [if_neg (by omega)], rfl⟩
  have z := y_hI.2.2.2.2.2.2.2.1 hc
  rw [show (0 : Int32).toInt = 0 from rfl] at z
  refine y_iln (e_71 (31, .iload_n 2, 1) (List.mem_of_getElem? (i := 17) rfl)) x_get_self ?_
  refine y_st (e_71 (32, .goto 4, 3) (List.mem_of_getElem? (i := 18) rfl)) ⟨rfl, rfl, rfl, rfl⟩ ?_
  exact y_ret (e_71 (36, .ireturn, 1) (List.mem_of_getElem? (i := 20) rfl)) ⟨rfl, y_ri⟩ ⟨by rw [if_pos (by omega)], rfl⟩
set_option maxHeartbeats 2000000 in
set_option maxRecDepth 100000 in
theorem zc_force {w : Nat → Nat → Option Value} {s : Nat → Option Value} (hI : xI x_tb th0 G) (hp : ZP G) (hw : LV 6 w G) (hR : RW w s) {c0 c1 F Kf : Int32} (s0 : s 0 = some (.int c0)) (s1 : s 1 = some (.int c1)) (s10 : s 10 = some (.int F)) (s11 : s 11 = some (.int Kf)) (hK : 1 ≤ Kf.toInt) (x1 x2 : Int32) : x_Gd xs L J (d + 2) m_69 (fun r _ => z_fo s x1 x2 r) 0 (lv_args 0 [.ref 0, .int x1, .int x2]) [] G := by
  obtain ⟨a0, a1, a2, -⟩ := z_hsT 6 (by decide)
  obtain ⟨p0, q0, -⟩ := hp.1 6 (by decide)
  obtain ⟨r0, r1, -, -, -, -, -, r10, r11, -⟩ := hR
  have g0 : pm_get (lv_args 0 [.ref 0, .int x1, .int x2]) 0 = some (.ref 0) := rfl
  have g1 : pm_get (lv_args 0 [.ref 0, .int x1, .int x2]) 1 = some (.int x1) := rfl
  have g2 : pm_get (lv_args 0 [.ref 0, .int x1, .int x2]) 2 = some (.int x2) := rfl
  generalize lv_args 0 [.ref 0, .int x1, .int x2] = lv at g0 g1 g2 ⊢
  have e0 : x_sl G 8 0 = some (.int c0) := (hw 2 0 rfl).trans (r0.symm.trans s0)
  have e1 : x_sl G 8 1 = some (.int c1) := (hw 2 1 rfl).trans (r1.symm.trans s1)
  have e2 : x_sl G 7 2 = some (.int F) := (hw 1 2 rfl).trans (r10.symm.trans s10)
  have e3 : x_sl G 7 3 = some (.int Kf) := (hw 1 3 rfl).trans (r11.symm.trans s11)
  refine y_aln (e_69 (0, .aload_n 0, 1) (List.mem_of_getElem? (i := 0) rfl)) g0 ?_
  refine y_getf hI z_ty.1 (e_69 (1, .getfield 26, 3) (List.mem_of_getElem? (i := 1) rfl)) u_0_26 ⟨rfl, rfl⟩ hp.2.1 ?_
  refine y_getf hI a0 (e_69 (4, .getfield 192, 3) (List.mem_of_getElem? (i := 2) rfl)) u_0_192 ⟨rfl, rfl⟩ p0 ?_
  refine y_iln (e_69 (7, .iload_n 1, 1) (List.mem_of_getElem? (i := 3) rfl)) g1 ?_
  refine y_iln (e_69 (8, .iload_n 2, 1) (List.mem_of_getElem? (i := 4) rfl)) g2 ?_
  refine y_c3 (K' := _) (e_69 (9, .invokevirtual 233, 3) (List.mem_of_getElem? (i := 5) rfl)) ⟨rfl, rfl, rfl⟩ t_0_233 ⟨by decide, by decide, by decide, by decide⟩ m_70_ok rfl (by decide) (y_recv hI a1 ⟨rfl, rfl⟩) (Nat.le_of_ble_eq_true rfl) (Nat.le_of_ble_eq_true rfl) (z_hcl (d := d) hI a1 a2 q0 e0 e1) (fun r1 G1 h1 => ?_)
  obtain ⟨rfl, h1⟩ := h1
  rcases h1 with ⟨rfl, hc⟩ | ⟨rfl, hc⟩
  rotate_left
  · simp only [Option.toList_some, Option.toList_none, List.cons_append, List.nil_append]
    refine y_ifc (e_69 (12, .ifCond .eq 17, 3) (List.mem_of_getElem? (i := 6) rfl)) rfl (fun _ => ?_) (fun z => absurd z (by decide))
    refine y_st (e_69 (29, .iconst (-1), 1) (List.mem_of_getElem? (i := 13) rfl)) ⟨rfl, rfl, rfl, rfl⟩ ?_
    exact y_ret (e_69 (30, .ireturn, 1) (List.mem_of_getElem? (i := 14) rfl)) ⟨rfl, y_ri⟩ ⟨c0, c1, F, Kf, s0, s1, s10, s11, by unfold z_fv; rw [if_neg hc]⟩
  simp only [Option.toList_some, Option.toList_none, List.cons_append, List.nil_append]
  refine y_ifc (e_69 (12, .ifCond .eq 17, 3) (List.mem_of_getElem? (i := 6) rfl)) rfl (fun z => absurd z (by decide)) (fun _ => ?_)
  refine y_aln (e_69 (15, .aload_n 0, 1) (List.mem_of_getElem? (i := 7) rfl)) g0 ?_
  refine y_getf hI z_ty.1 (e_69 (16, .getfield 26, 3) (List.mem_of_getElem? (i := 8) rfl)) u_0_26 ⟨rfl, rfl⟩ hp.2.1 ?_
  refine y_getf hI a0 (e_69 (19, .getfield 192, 3) (List.mem_of_getElem? (i := 9) rfl)) u_0_192 ⟨rfl, rfl⟩ p0 ?_
  refine y_iln (e_69 (22, .iload_n 2, 1) (List.mem_of_getElem? (i := 10) rfl)) g2 ?_
  refine y_c2 (K' := _) (e_69 (23, .invokevirtual 237, 3) (List.mem_of_getElem? (i := 11) rfl)) ⟨rfl, rfl, rfl⟩ t_0_237 ⟨by decide, by decide, by decide, by decide⟩ m_71_ok rfl (by decide) (y_recv hI a1 ⟨rfl, rfl⟩) (Nat.le_of_ble_eq_true rfl) (Nat.le_of_ble_eq_true rfl) (z_fin hI a1 hK e2 e3) (fun r2 G2 h2 => ?_)
  obtain ⟨rfl, rfl⟩ := h2
  simp only [Option.toList_some, Option.toList_none, List.cons_append, List.nil_append]
  refine y_st (e_69 (26, .goto 4, 3) (List.mem_of_getElem? (i := 12) rfl)) ⟨rfl, rfl, rfl, rfl⟩ ?_
  exact y_ret (e_69 (30, .ireturn, 1) (List.mem_of_getElem? (i := 14) rfl)) ⟨rfl, y_ri⟩ ⟨c0, c1, F, Kf, s0, s1, s10, s11, by unfold z_fv; rw [if_pos hc]⟩
set_option maxHeartbeats 2000000 in
set_option maxRecDepth 100000 in
theorem z_isc {c0 c1 v c : Int32} (hI : xI x_tb th0 G) (ta : th0[349]? = some 10) (ts : th0[351]? = some 36) (h6 : x_sl G 349 6 = some (.ref 351)) (e0 : x_sl G 351 0 = some (.int c0)) (e1 : x_sl G 351 1 = some (.int c1)) : x_Gd xs L J (d + 1) m_194 (fun r G' => G' = G ∧ ((r = some (.int (Int32.ofInt 1)) ∧ ((v = 0 ∧ 0 ≤ c.toInt ∧ c.toInt < c0.toInt) ∨ (v = 1 ∧ 0 ≤ c.toInt ∧ c.toInt < c1.toInt))) ∨ (r = some (.int (Int32.ofInt 0)) ∧ ¬ ((v = 0 ∧ 0 ≤ c.toInt ∧ c.toInt < c0.toInt) ∨ (v = 1 ∧ 0 ≤ c.toInt ∧ c.toInt < c1.toInt))))) 0 (lv_args 0 [.ref 349, .int v, .int c]) [] G := by
  have g0 : pm_get (lv_args 0 [.ref 349, .int v, .int c]) 0 = some (.ref 349) := rfl
  have g1 : pm_get (lv_args 0 [.ref 349, .int v, .int c]) 1 = some (.int v) := rfl
  have g2 : pm_get (lv_args 0 [.ref 349, .int v, .int c]) 2 = some (.int c) := rfl
  generalize lv_args 0 [.ref 349, .int v, .int c] = lv at g0 g1 g2 ⊢
  refine y_iln (e_194 (0, .iload_n 1, 1) (List.mem_of_getElem? (i := 0) rfl)) g1 ?_
  refine y_st (e_194 (1, .iconst 0, 1) (List.mem_of_getElem? (i := 1) rfl)) ⟨rfl, rfl, rfl, rfl⟩ ?_
  refine y_st (e_194 (2, .iconst 1, 1) (List.mem_of_getElem? (i := 2) rfl)) ⟨rfl, rfl, rfl, rfl⟩ ?_
  refine y_c3 (K' := _) (e_194 (3, .invokestatic 173, 3) (List.mem_of_getElem? (i := 3) rfl)) ⟨rfl, rfl, rfl⟩ t_17_173 ⟨by decide, by decide, by decide, by decide⟩ m_174_ok rfl (by decide) rfl (Nat.le_of_ble_eq_true rfl) (Nat.le_of_ble_eq_true rfl) z_isIn (fun r1 G1 h1 => ?_)
  obtain ⟨rfl, h1⟩ := h1
  rcases h1 with ⟨rfl, u0, u1⟩ | ⟨rfl, hq⟩
  rotate_left
  · simp only [Option.toList_some, Option.toList_none, List.cons_append, List.nil_append]
    rw [show (Int32.ofInt 0).toInt = 0 from rfl, show (Int32.ofInt 1).toInt = 1 from rfl] at hq
    refine y_ifc (e_194 (6, .ifCond .eq 25, 3) (List.mem_of_getElem? (i := 4) rfl)) rfl (fun _ => ?_) (fun z => absurd z (by decide))
    refine y_st (e_194 (31, .iconst 0, 1) (List.mem_of_getElem? (i := 19) rfl)) ⟨rfl, rfl, rfl, rfl⟩ ?_
    refine y_ret (e_194 (32, .ireturn, 1) (List.mem_of_getElem? (i := 20) rfl)) ⟨rfl, y_rb (Or.inl rfl)⟩ ⟨rfl, Or.inr ⟨rfl, fun z => ?_⟩⟩
    rcases z with ⟨rfl, -⟩ | ⟨rfl, -⟩
    · exact hq (by decide)
    · exact hq (by decide)
  simp only [Option.toList_some, Option.toList_none, List.cons_append, List.nil_append]
  rw [show (Int32.ofInt 0).toInt = 0 from rfl] at u0
  rw [show (Int32.ofInt 1).toInt = 1 from rfl] at u1
  refine y_ifc (e_194 (6, .ifCond .eq 25, 3) (List.mem_of_getElem? (i := 4) rfl)) rfl (fun z => absurd z (by decide)) (fun _ => ?_)
  refine y_iln (e_194 (9, .iload_n 2, 1) (List.mem_of_getElem? (i := 5) rfl)) g2 ?_
  refine y_st (e_194 (10, .iconst 0, 1) (List.mem_of_getElem? (i := 6) rfl)) ⟨rfl, rfl, rfl, rfl⟩ ?_
  refine y_aln (e_194 (11, .aload_n 0, 1) (List.mem_of_getElem? (i := 7) rfl)) g0 ?_
  refine y_getf hI ta (e_194 (12, .getfield 33, 3) (List.mem_of_getElem? (i := 8) rfl)) u_17_33 ⟨rfl, rfl⟩ h6 ?_
  refine y_st (e_194 (15, .iconst 0, 1) (List.mem_of_getElem? (i := 9) rfl)) ⟨rfl, rfl, rfl, rfl⟩ ?_
  refine y_iln (e_194 (16, .iload_n 1, 1) (List.mem_of_getElem? (i := 10) rfl)) g1 ?_
  refine y_st (e_194 (17, .iadd, 1) (List.mem_of_getElem? (i := 11) rfl)) ⟨rfl, rfl, rfl, rfl⟩ ?_
  have ev : Int32.ofInt 0 + v = v := by rw [show Int32.ofInt 0 = 0 from rfl, Int32.zero_add]
  rw [ev]
  obtain ⟨cv, hcv, ecv⟩ : ∃ cv : Int32, x_sl G1 351 v.toInt.toNat = some (.int cv) ∧ ((v = 0 ∧ cv = c0) ∨ (v = 1 ∧ cv = c1)) := by
    rcases (show v.toInt = 0 ∨ v.toInt = 1 by omega) with z | z
    · obtain rfl : v = 0 := Int32.toInt_inj.mp z
      exact ⟨c0, e0, Or.inl ⟨rfl, rfl⟩⟩
    · obtain rfl : v = 1 := Int32.toInt_inj.mp z
      exact ⟨c1, e1, Or.inr ⟨rfl, rfl⟩⟩
  have rcv := y_fie (t := 36) (lo := 0) (hi := 20) hI ts (by rcases (show v.toInt.toNat = 0 ∨ v.toInt.toNat = 1 by omega) with z | z <;> rw [z] <;> rfl) hcv
  have es : (cv - Int32.ofInt 1).toInt = cv.toInt - 1 := by
    rw [Int32.toInt_sub, show (Int32.ofInt 1).toInt = 1 from rfl, Jvm.Kit.bmod32 (by omega) (by omega)]
  refine y_iald hI ts (e_194 (18, .iaload, 1) (List.mem_of_getElem? (i := 12) rfl)) ⟨rfl, rfl⟩ u0 hcv ?_
  refine y_st (e_194 (19, .iconst 1, 1) (List.mem_of_getElem? (i := 13) rfl)) ⟨rfl, rfl, rfl, rfl⟩ ?_
  refine y_st (e_194 (20, .isub, 1) (List.mem_of_getElem? (i := 14) rfl)) ⟨rfl, rfl, rfl, rfl⟩ ?_
  refine y_c3 (K' := _) (e_194 (21, .invokestatic 173, 3) (List.mem_of_getElem? (i := 15) rfl)) ⟨rfl, rfl, rfl⟩ t_17_173 ⟨by decide, by decide, by decide, by decide⟩ m_174_ok rfl (by decide) rfl (Nat.le_of_ble_eq_true rfl) (Nat.le_of_ble_eq_true rfl) z_isIn (fun r2 G2 h2 => ?_)
  obtain ⟨rfl, h2⟩ := h2
  rcases h2 with ⟨rfl, w0, w1⟩ | ⟨rfl, hq⟩
  rotate_left
  · simp only [Option.toList_some, Option.toList_none, List.cons_append, List.nil_append]
    rw [show (Int32.ofInt 0).toInt = 0 from rfl] at hq
    refine y_ifc (e_194 (24, .ifCond .eq 7, 3) (List.mem_of_getElem? (i := 16) rfl)) rfl (fun _ => ?_) (fun z => absurd z (by decide))
    refine y_st (e_194 (31, .iconst 0, 1) (List.mem_of_getElem? (i := 19) rfl)) ⟨rfl, rfl, rfl, rfl⟩ ?_
    refine y_ret (e_194 (32, .ireturn, 1) (List.mem_of_getElem? (i := 20) rfl)) ⟨rfl, y_rb (Or.inl rfl)⟩ ⟨rfl, Or.inr ⟨rfl, fun z => ?_⟩⟩
    rcases ecv with ⟨rfl, rfl⟩ | ⟨rfl, rfl⟩
    · rcases z with ⟨-, z1, z2⟩ | ⟨z0, -⟩
      · exact hq ⟨z1, by omega⟩
      · exact absurd z0 (by decide)
    · rcases z with ⟨z0, -⟩ | ⟨-, z1, z2⟩
      · exact absurd z0 (by decide)
      · exact hq ⟨z1, by omega⟩
  simp only [Option.toList_some, Option.toList_none, List.cons_append, List.nil_append]
  rw [show (Int32.ofInt 0).toInt = 0 from rfl] at w0
  refine y_ifc (e_194 (24, .ifCond .eq 7, 3) (List.mem_of_getElem? (i := 16) rfl)) rfl (fun z => absurd z (by decide)) (fun _ => ?_)
  refine y_st (e_194 (27, .iconst 1, 1) (List.mem_of_getElem? (i := 17) rfl)) ⟨rfl, rfl, rfl, rfl⟩ ?_
  refine y_st (e_194 (28, .goto 4, 3) (List.mem_of_getElem? (i := 18) rfl)) ⟨rfl, rfl, rfl, rfl⟩ ?_
  refine y_ret (e_194 (32, .ireturn, 1) (List.mem_of_getElem? (i := 20) rfl)) ⟨rfl, y_rb (Or.inr rfl)⟩ ⟨rfl, Or.inl ⟨rfl, ?_⟩⟩
  rcases ecv with ⟨rfl, rfl⟩ | ⟨rfl, rfl⟩
  · exact Or.inl ⟨rfl, w0, by omega⟩
  · exact Or.inr ⟨rfl, w0, by omega⟩
set_option maxHeartbeats 2000000 in
set_option maxRecDepth 100000 in
theorem z_fat {F Kf c : Int32} (hI : xI x_tb th0 G) (ta : th0[349]? = some 10) (ts : th0[351]? = some 36) (h6 : x_sl G 349 6 = some (.ref 351)) (hK : 1 ≤ Kf.toInt) (e2 : x_sl G 351 10 = some (.int F)) (e3 : x_sl G 351 11 = some (.int Kf)) : x_Gd xs L J d m_195 (fun r G' => r = some (.int (if 0 < (F - c / Kf).toInt then F - c / Kf else Int32.ofInt 0)) ∧ G' = G) 0 (lv_args 0 [.ref 349, .int c]) [] G := by
  have g0 : pm_get (lv_args 0 [.ref 349, .int c]) 0 = some (.ref 349) := rfl
  have g1 : pm_get (lv_args 0 [.ref 349, .int c]) 1 = some (.int c) := rfl
  generalize lv_args 0 [.ref 349, .int c] = lv at g0 g1 ⊢
  have hne : Kf ≠ 0 := fun z => by rw [z] at hK; exact absurd hK (by decide)
  refine y_aln (e_195 (0, .aload_n 0, 1) (List.mem_of_getElem? (i := 0) rfl)) g0 ?_
  refine y_getf hI ta (e_195 (1, .getfield 33, 3) (List.mem_of_getElem? (i := 1) rfl)) u_17_33 ⟨rfl, rfl⟩ h6 ?_
  refine y_st (e_195 (4, .bipush 10, 2) (List.mem_of_getElem? (i := 2) rfl)) ⟨rfl, rfl, rfl, rfl⟩ ?_
  refine y_iald hI ts (e_195 (6, .iaload, 1) (List.mem_of_getElem? (i := 3) rfl)) ⟨rfl, rfl⟩ (by decide) e2 ?_
  refine y_iln (e_195 (7, .iload_n 1, 1) (List.mem_of_getElem? (i := 4) rfl)) g1 ?_
  refine y_aln (e_195 (8, .aload_n 0, 1) (List.mem_of_getElem? (i := 5) rfl)) g0 ?_
  refine y_getf hI ta (e_195 (9, .getfield 33, 3) (List.mem_of_getElem? (i := 6) rfl)) u_17_33 ⟨rfl, rfl⟩ h6 ?_
  refine y_st (e_195 (12, .bipush 11, 2) (List.mem_of_getElem? (i := 7) rfl)) ⟨rfl, rfl, rfl, rfl⟩ ?_
  refine y_iald hI ts (e_195 (14, .iaload, 1) (List.mem_of_getElem? (i := 8) rfl)) ⟨rfl, rfl⟩ (by decide) e3 ?_
  refine y_idv (e_195 (15, .idiv, 1) (List.mem_of_getElem? (i := 9) rfl)) hne ?_
  refine y_st (e_195 (16, .isub, 1) (List.mem_of_getElem? (i := 10) rfl)) ⟨rfl, rfl, rfl, rfl⟩ ?_
  refine y_isn (e_195 (17, .istore_n 2, 1) (List.mem_of_getElem? (i := 11) rfl)) (by decide) ?_
  refine y_iln (e_195 (18, .iload_n 2, 1) (List.mem_of_getElem? (i := 12) rfl)) x_get_self ?_
  refine y_ifc (e_195 (19, .ifCond .le 7, 3) (List.mem_of_getElem? (i := 13) rfl)) rfl (fun hc => ?_) (fun hc => ?_)
  · have z := y_hI.2.2.2.2.2.2.1 hc
    rw [show (0 : Int32).toInt = 0 from rfl] at z
    refine y_st (e_195 (26, .iconst 0, 1) (List.mem_of_getElem? (i := 16) rfl)) ⟨rfl, rfl, rfl, rfl⟩ ?_
    exact y_ret (e_195 (27, .ireturn, 1) (List.mem_of_getElem? (i := 17) rfl)) ⟨rfl, y_ri⟩ ⟨by rw [if_neg (by omega)], rfl⟩
  have z := y_hI.2.2.2.2.2.2.2.1 hc
  rw [show (0 : Int32).toInt = 0 from rfl] at z
  refine y_iln (e_195 (22, .iload_n 2, 1) (List.mem_of_getElem? (i := 14) rfl)) x_get_self ?_
  refine y_st (e_195 (23, .goto 4, 3) (List.mem_of_getElem? (i := 15) rfl)) ⟨rfl, rfl, rfl, rfl⟩ ?_
  exact y_ret (e_195 (27, .ireturn, 1) (List.mem_of_getElem? (i := 17) rfl)) ⟨rfl, y_ri⟩ ⟨by rw [if_pos (by omega)], rfl⟩
set_option maxHeartbeats 2000000 in
set_option maxRecDepth 100000 in
theorem zn_force (hI : xI x_tb th0 G) (h6 : x_sl G 349 6 = some (.ref 351)) {c0 c1 F Kf : Int32} (s0 : x_sl G 351 0 = some (.int c0)) (s1 : x_sl G 351 1 = some (.int c1)) (s10 : x_sl G 351 10 = some (.int F)) (s11 : x_sl G 351 11 = some (.int Kf)) (hK : 1 ≤ Kf.toInt) (x1 x2 : Int32) : x_Gd xs L J (d + 2) m_193 (fun r _ => z_fo (x_sl G 351) x1 x2 r) 0 (lv_args 0 [.ref 349, .int x1, .int x2]) [] G := by
  have ta : th0[349]? = some 10 := by decide +kernel
  have ts : th0[351]? = some 36 := by decide +kernel
  have g0 : pm_get (lv_args 0 [.ref 349, .int x1, .int x2]) 0 = some (.ref 349) := rfl
  have g1 : pm_get (lv_args 0 [.ref 349, .int x1, .int x2]) 1 = some (.int x1) := rfl
  have g2 : pm_get (lv_args 0 [.ref 349, .int x1, .int x2]) 2 = some (.int x2) := rfl
  generalize lv_args 0 [.ref 349, .int x1, .int x2] = lv at g0 g1 g2 ⊢
  refine y_aln (e_193 (0, .aload_n 0, 1) (List.mem_of_getElem? (i := 0) rfl)) g0 ?_
  refine y_st (e_193 (1, .iconst 0, 1) (List.mem_of_getElem? (i := 1) rfl)) ⟨rfl, rfl, rfl, rfl⟩ ?_
  refine y_putf (f := (0, -2147483648, 2147483647)) hI ta (e_193 (2, .putfield 1, 3) (List.mem_of_getElem? (i := 2) rfl)) u_17_1 ⟨rfl, rfl, by decide, rfl, rfl⟩ ⟨_, rfl, (x_i32 _).1, (x_i32 _).2⟩ (fun G1 u1 => ?_)
  have hI1 := hI.upd u1 ta (y_okA rfl)
  have h61 : x_sl G1 349 6 = some (.ref 351) := by rw [u1.2.1, if_neg (fun z => absurd z.2 (by decide))]; exact h6
  have e1 : ∀ i, x_sl G1 351 i = x_sl G 351 i := fun i => by rw [u1.2.1, if_neg (fun z => absurd z.1 (by decide))]
  refine y_aln (e_193 (5, .aload_n 0, 1) (List.mem_of_getElem? (i := 3) rfl)) g0 ?_
  refine y_iln (e_193 (6, .iload_n 1, 1) (List.mem_of_getElem? (i := 4) rfl)) g1 ?_
  refine y_iln (e_193 (7, .iload_n 2, 1) (List.mem_of_getElem? (i := 5) rfl)) g2 ?_
  refine y_c3 (K' := _) (e_193 (8, .invokevirtual 248, 3) (List.mem_of_getElem? (i := 6) rfl)) ⟨rfl, rfl, rfl⟩ t_17_248 ⟨by decide, by decide, by decide, by decide⟩ m_194_ok rfl (by decide) (y_recv hI1 ta ⟨rfl, rfl⟩) (Nat.le_of_ble_eq_true rfl) (Nat.le_of_ble_eq_true rfl) (z_isc (d := d) hI1 ta ts h61 ((e1 0).trans s0) ((e1 1).trans s1)) (fun r1 G2 h1 => ?_)
  obtain ⟨rfl, h1⟩ := h1
  rcases h1 with ⟨rfl, hc⟩ | ⟨rfl, hc⟩
  rotate_left
  · simp only [Option.toList_some, Option.toList_none, List.cons_append, List.nil_append]
    refine y_ifc (e_193 (11, .ifCond .eq 11, 3) (List.mem_of_getElem? (i := 7) rfl)) rfl (fun _ => ?_) (fun z => absurd z (by decide))
    refine y_st (e_193 (22, .iconst (-1), 1) (List.mem_of_getElem? (i := 12) rfl)) ⟨rfl, rfl, rfl, rfl⟩ ?_
    exact y_ret (e_193 (23, .ireturn, 1) (List.mem_of_getElem? (i := 13) rfl)) ⟨rfl, y_ri⟩ ⟨c0, c1, F, Kf, s0, s1, s10, s11, by unfold z_fv; rw [if_neg hc]⟩
  simp only [Option.toList_some, Option.toList_none, List.cons_append, List.nil_append]
  refine y_ifc (e_193 (11, .ifCond .eq 11, 3) (List.mem_of_getElem? (i := 7) rfl)) rfl (fun z => absurd z (by decide)) (fun _ => ?_)
  refine y_aln (e_193 (14, .aload_n 0, 1) (List.mem_of_getElem? (i := 8) rfl)) g0 ?_
  refine y_iln (e_193 (15, .iload_n 2, 1) (List.mem_of_getElem? (i := 9) rfl)) g2 ?_
  refine y_c2 (K' := _) (e_193 (16, .invokevirtual 251, 3) (List.mem_of_getElem? (i := 10) rfl)) ⟨rfl, rfl, rfl⟩ t_17_251 ⟨by decide, by decide, by decide, by decide⟩ m_195_ok rfl (by decide) (y_recv hI1 ta ⟨rfl, rfl⟩) (Nat.le_of_ble_eq_true rfl) (Nat.le_of_ble_eq_true rfl) (z_fat hI1 ta ts h61 hK ((e1 10).trans s10) ((e1 11).trans s11)) (fun r2 G3 h2 => ?_)
  obtain ⟨rfl, rfl⟩ := h2
  simp only [Option.toList_some, Option.toList_none, List.cons_append, List.nil_append]
  refine y_st (e_193 (19, .goto 4, 3) (List.mem_of_getElem? (i := 11) rfl)) ⟨rfl, rfl, rfl, rfl⟩ ?_
  exact y_ret (e_193 (23, .ireturn, 1) (List.mem_of_getElem? (i := 13) rfl)) ⟨rfl, y_ri⟩ ⟨c0, c1, F, Kf, s0, s1, s10, s11, by unfold z_fv; rw [if_pos hc]⟩
end FO
