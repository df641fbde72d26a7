theorem t_0_227 : pm_ctab.find? (fun r => r.1 == 0 && r.2.1 == 227) = some (0, 227, 2, 68, 775) := by decide +kernel
theorem t_0_230 : pm_ctab.find? (fun r => r.1 == 0 && r.2.1 == 230) = some (0, 230, 2, 65, 778) := by decide +kernel
theorem t_0_220 : pm_ctab.find? (fun r => r.1 == 0 && r.2.1 == 220) = some (0, 220, 1, 64, 760) := by decide +kernel
theorem t_5_44 : pm_ctab.find? (fun r => r.1 == 5 && r.2.1 == 44) = some (5, 44, 1, 63, 756) := by decide +kernel
theorem t_5_48 : pm_ctab.find? (fun r => r.1 == 5 && r.2.1 == 48) = some (5, 48, 5, 65, 764) := by decide +kernel
def m_64 : pM := (⟨"BreathingHill$Land", "airIn", "(II)I"⟩, 763, 6, some (FieldType.int), 5, 2, false, 1, 97, 761, 762)
set_option maxRecDepth 100000 in
theorem m_64_ok : pm_tab[64]? = some m_64 := rfl
theorem e_64 : ∀ q ∈ d_64, decode m_64.code q.1 = .ok (q.2.1, q.2.2) := y_dec d_64_ok m_64_ok
def m_65 : pM := (⟨"BreathingHill", "isHour", "(I)Z"⟩, 766, 1, some (FieldType.boolean), 0, 1, true, 9, 91, 765, 0)
set_option maxRecDepth 100000 in
theorem m_65_ok : pm_tab[65]? = some m_65 := rfl
theorem e_65 : ∀ q ∈ d_65, decode m_65.code q.1 = .ok (q.2.1, q.2.2) := y_dec d_65_ok m_65_ok
def m_68 : pM := (⟨"BreathingHill", "isValley", "(I)Z"⟩, 777, 1, some (FieldType.boolean), 0, 1, true, 9, 91, 776, 0)
set_option maxRecDepth 100000 in
theorem m_68_ok : pm_tab[68]? = some m_68 := rfl
theorem e_68 : ∀ q ∈ d_68, decode m_68.code q.1 = .ok (q.2.1, q.2.2) := y_dec d_68_ok m_68_ok
def z_ar (b0 b1 b2 b3 H v h : Int32) : Int32 := (if h / (b0 + b1 + b2 + b3) = H then Int32.ofInt 0 else if (h - h / (b0 + b1 + b2 + b3) * (b0 + b1 + b2 + b3)).toInt < b0.toInt then (if v = 0 then Int32.ofInt 1 else Int32.ofInt 2) else if b0.toInt + b1.toInt ≤ (h - h / (b0 + b1 + b2 + b3) * (b0 + b1 + b2 + b3)).toInt ∧ (h - h / (b0 + b1 + b2 + b3) * (b0 + b1 + b2 + b3)).toInt < b0.toInt + b1.toInt + b2.toInt then (if v = 0 then Int32.ofInt 2 else Int32.ofInt 1) else Int32.ofInt 0)
def z_av (b0 b1 b2 b3 H v h : Int32) : Int32 := if (v = 0 ∨ v = 1) ∧ 0 ≤ h.toInt ∧ h.toInt ≤ 999 then z_ar b0 b1 b2 b3 H v h else Int32.ofInt (-1)
/-- what air answers -/
def z_ai (s : Nat → Option Value) (v h : Int32) (r : Option Value) : Prop := ∃ b0 b1 b2 b3 H : Int32, s 6 = some (.int b0) ∧ s 7 = some (.int b1) ∧ s 8 = some (.int b2) ∧ s 9 = some (.int b3) ∧ s 12 = some (.int H) ∧ r = some (.int (z_av b0 b1 b2 b3 H v h))
theorem z_ai.eq {s : Nat → Option Value} {v c y y' : Int32} (h : z_ai s v c (some (.int y))) (h' : z_ai s v c (some (.int y'))) : y = y' := by
  obtain ⟨b0, b1, b2, b3, H, a0, a1, a2, a3, a4, e⟩ := h
  obtain ⟨d0, d1, d2, d3, H', f0, f1, f2, f3, f4, e'⟩ := h'
  rw [a0] at f0
  rw [a1] at f1
  rw [a2] at f2
  rw [a3] at f3
  rw [a4] at f4
  cases f0
  cases f1
  cases f2
  cases f3
  cases f4
  cases e
  cases e'
  rfl
/-- the ranges -/
def z_br (b0 b1 b2 b3 : Int32) : Prop := (1 ≤ b0.toInt ∧ b0.toInt ≤ 12) ∧ (0 ≤ b1.toInt ∧ b1.toInt ≤ 12) ∧ (0 ≤ b2.toInt ∧ b2.toInt ≤ 12) ∧ (0 ≤ b3.toInt ∧ b3.toInt ≤ 12)
theorem z_br.p {b0 b1 b2 b3 : Int32} (h : z_br b0 b1 b2 b3) : (b0 + b1).toInt = b0.toInt + b1.toInt ∧ (b0 + b1 + b2).toInt = b0.toInt + b1.toInt + b2.toInt ∧ (b0 + b1 + b2 + b3).toInt = b0.toInt + b1.toInt + b2.toInt + b3.toInt ∧ 1 ≤ (b0 + b1 + b2 + b3).toInt ∧ (b0 + b1 + b2 + b3).toInt ≤ 48 ∧ (b0 + b1 + b2 + b3) ≠ 0 := by
  obtain ⟨h0, h1, h2, h3⟩ := h
  have e1 : (b0 + b1).toInt = b0.toInt + b1.toInt := y_add (by omega) (by omega)
  have e2 : (b0 + b1 + b2).toInt = b0.toInt + b1.toInt + b2.toInt := by rw [y_add (by omega) (by omega), e1]
  have e3 : (b0 + b1 + b2 + b3).toInt = b0.toInt + b1.toInt + b2.toInt + b3.toInt := by rw [y_add (by omega) (by omega), e2]
  exact ⟨e1, e2, e3, by omega, by omega, fun z => by rw [z] at e3; rw [show (0 : Int32).toInt = 0 from rfl] at e3; omega⟩
theorem z_rem {h p : Int32} (h0 : 0 ≤ h.toInt) (h1 : h.toInt ≤ 999) (p1 : 1 ≤ p.toInt) (p2 : p.toInt ≤ 48) : 0 ≤ (h - h / p * p).toInt ∧ (h - h / p * p).toInt < p.toInt := by
  have q0 : 0 ≤ h.toInt / p.toInt := Int.ediv_nonneg h0 (by omega)
  have q1 : h.toInt / p.toInt ≤ h.toInt := Int.ediv_le_self _ h0
  have em := Int.mul_ediv_add_emod h.toInt p.toInt
  have m0 := Int.emod_nonneg h.toInt (show p.toInt ≠ 0 by omega)
  have m1 := Int.emod_lt_of_pos h.toInt (show 0 < p.toInt by omega)
  have e1 : (h / p).toInt = h.toInt / p.toInt := by
    rw [Int32.toInt_div, Int.tdiv_eq_ediv_of_nonneg h0, Jvm.Kit.bmod32 (by omega) (by omega)]
  have e2 : (h / p * p).toInt = h.toInt / p.toInt * p.toInt := by
    rw [Int32.toInt_mul, e1, Jvm.Kit.bmod32 (by rw [Int.mul_comm]; omega) (by rw [Int.mul_comm]; omega)]
  have e3 : (h - h / p * p).toInt = h.toInt - h.toInt / p.toInt * p.toInt := by
    rw [Int32.toInt_sub, e2, Jvm.Kit.bmod32 (by rw [Int.mul_comm]; omega) (by rw [Int.mul_comm]; omega)]
  rw [e3, Int.mul_comm]
  omega
section AI
variable {xs : Nat → Int32} {L J d : Nat} {G : List pE} {K : Option Value → List pE → Prop} {lv : pL}
theorem y_ist5 {M : pM} {pc j : Nat} {r : List Value} {x : Int32} (hd : decode M.code pc = .ok (Instr.istore j, 2)) (hl : j < M.maxL) (hk : x_Gd xs L J d M K (pc + 2) (pm_put1 lv j (.int x)) r G) : x_Gd xs L J d M K pc lv (.int x :: r) G := y_st hd ⟨rfl, rfl, rfl, by dsimp only [pm_step]; rw [if_pos hl]⟩ hk
set_option maxHeartbeats 2000000 in
set_option maxRecDepth 100000 in
theorem z_isv {v : Int32} : x_Gd xs L J d m_68 (fun r G' => G' = G ∧ ((r = some (.int (Int32.ofInt 1)) ∧ (v = 0 ∨ v = 1)) ∨ (r = some (.int (Int32.ofInt 0)) ∧ ¬ (v = 0 ∨ v = 1)))) 0 (lv_args 0 [.int v]) [] G := by
  have g0 : pm_get (lv_args 0 [.int v]) 0 = some (.int v) := rfl
  generalize lv_args 0 [.int v] = lv at g0 ⊢
  refine y_iln (e_68 (0, .iload_n 0, 1) (List.mem_of_getElem? (i := 0) rfl)) g0 ?_
  refine y_ifc (e_68 (1, .ifCond .eq 8, 3) (List.mem_of_getElem? (i := 1) rfl)) rfl (fun hc => ?_) (fun hc => ?_)
  · have hv := y_hI.1 hc
    refine y_st (e_68 (9, .iconst 1, 1) (List.mem_of_getElem? (i := 5) rfl)) ⟨rfl, rfl, rfl, rfl⟩ ?_
    refine y_st (e_68 (10, .goto 4, 3) (List.mem_of_getElem? (i := 6) rfl)) ⟨rfl, rfl, rfl, rfl⟩ ?_
    exact y_ret (e_68 (14, .ireturn, 1) (List.mem_of_getElem? (i := 8) rfl)) ⟨rfl, y_rb (Or.inr rfl)⟩ ⟨rfl, Or.inl ⟨rfl, Or.inl hv⟩⟩
  have hv := y_hI.2.1 hc
  refine y_iln (e_68 (4, .iload_n 0, 1) (List.mem_of_getElem? (i := 2) rfl)) g0 ?_
  refine y_st (e_68 (5, .iconst 1, 1) (List.mem_of_getElem? (i := 3) rfl)) ⟨rfl, rfl, rfl, rfl⟩ ?_
  refine y_icm (e_68 (6, .if_icmp .ne 7, 3) (List.mem_of_getElem? (i := 4) rfl)) rfl (fun hc => ?_) (fun hc => ?_)
  · have hv1 := y_hI.2.2.1 hc
    refine y_st (e_68 (13, .iconst 0, 1) (List.mem_of_getElem? (i := 7) rfl)) ⟨rfl, rfl, rfl, rfl⟩ ?_
    exact y_ret (e_68 (14, .ireturn, 1) (List.mem_of_getElem? (i := 8) rfl)) ⟨rfl, y_rb (Or.inl rfl)⟩ ⟨rfl, Or.inr ⟨rfl, fun z => z.elim hv hv1⟩⟩
  have hv1 := y_hI.2.2.2.1 hc
  refine y_st (e_68 (9, .iconst 1, 1) (List.mem_of_getElem? (i := 5) rfl)) ⟨rfl, rfl, rfl, rfl⟩ ?_
  refine y_st (e_68 (10, .goto 4, 3) (List.mem_of_getElem? (i := 6) rfl)) ⟨rfl, rfl, rfl, rfl⟩ ?_
  exact y_ret (e_68 (14, .ireturn, 1) (List.mem_of_getElem? (i := 8) rfl)) ⟨rfl, y_rb (Or.inr rfl)⟩ ⟨rfl, Or.inl ⟨rfl, Or.inr hv1⟩⟩
set_option maxHeartbeats 2000000 in
set_option maxRecDepth 100000 in
theorem z_ish {h : Int32} : x_Gd xs L J d m_65 (fun r G' => G' = G ∧ ((r = some (.int (Int32.ofInt 1)) ∧ (0 ≤ h.toInt ∧ h.toInt ≤ 999)) ∨ (r = some (.int (Int32.ofInt 0)) ∧ ¬ (0 ≤ h.toInt ∧ h.toInt ≤ 999)))) 0 (lv_args 0 [.int h]) [] G := by
  have g0 : pm_get (lv_args 0 [.int h]) 0 = some (.int h) := rfl
  generalize lv_args 0 [.int h] = lv at g0 ⊢
  refine y_iln (e_65 (0, .iload_n 0, 1) (List.mem_of_getElem? (i := 0) rfl)) g0 ?_
  refine y_ifc (e_65 (1, .ifCond .lt 14, 3) (List.mem_of_getElem? (i := 1) rfl)) rfl (fun hc => ?_) (fun hc => ?_)
  · have z := y_hI.2.2.2.2.2.2.2.2.1 hc
    rw [show (0 : Int32).toInt = 0 from rfl] at z
    refine y_st (e_65 (15, .iconst 0, 1) (List.mem_of_getElem? (i := 7) rfl)) ⟨rfl, rfl, rfl, rfl⟩ ?_
    exact y_ret (e_65 (16, .ireturn, 1) (List.mem_of_getElem? (i := 8) rfl)) ⟨rfl, y_rb (Or.inl rfl)⟩ ⟨rfl, Or.inr ⟨rfl, by omega⟩⟩
  have z0 := y_hI.2.2.2.2.2.2.2.2.2.1 hc
  rw [show (0 : Int32).toInt = 0 from rfl] at z0
  refine y_iln (e_65 (4, .iload_n 0, 1) (List.mem_of_getElem? (i := 2) rfl)) g0 ?_
  refine y_st (e_65 (5, .sipush 1000, 3) (List.mem_of_getElem? (i := 3) rfl)) ⟨rfl, rfl, rfl, rfl⟩ ?_
  refine y_icm (e_65 (8, .if_icmp .ge 7, 3) (List.mem_of_getElem? (i := 4) rfl)) rfl (fun hc => ?_) (fun hc => ?_)
  · have z := y_hI.2.2.2.2.1 hc
    rw [show ((Int16.ofInt 1000).toInt32).toInt = 1000 by decide] at z
    refine y_st (e_65 (15, .iconst 0, 1) (List.mem_of_getElem? (i := 7) rfl)) ⟨rfl, rfl, rfl, rfl⟩ ?_
    exact y_ret (e_65 (16, .ireturn, 1) (List.mem_of_getElem? (i := 8) rfl)) ⟨rfl, y_rb (Or.inl rfl)⟩ ⟨rfl, Or.inr ⟨rfl, by omega⟩⟩
  have z := y_hI.2.2.2.2.2.1 hc
  rw [show ((Int16.ofInt 1000).toInt32).toInt = 1000 by decide] at z
  refine y_st (e_65 (11, .iconst 1, 1) (List.mem_of_getElem? (i := 5) rfl)) ⟨rfl, rfl, rfl, rfl⟩ ?_
  refine y_st (e_65 (12, .goto 4, 3) (List.mem_of_getElem? (i := 6) rfl)) ⟨rfl, rfl, rfl, rfl⟩ ?_
  exact y_ret (e_65 (16, .ireturn, 1) (List.mem_of_getElem? (i := 8) rfl)) ⟨rfl, y_rb (Or.inr rfl)⟩ ⟨rfl, Or.inl ⟨rfl, z0, by omega⟩⟩
set_option maxHeartbeats 2000000 in
set_option maxRecDepth 100000 in
theorem z_brh1 {b0 b1 b2 b3 : Int32} (hI : xI x_tb th0 G) (a1 : th0[7]? = some 1) (a3 : th0[9]? = some 15) (hp : x_sl G 7 1 = some (.ref 9)) (e0 : x_sl G 9 0 = some (.int b0)) (e1 : x_sl G 9 1 = some (.int b1)) (e2 : x_sl G 9 2 = some (.int b2)) (e3 : x_sl G 9 3 = some (.int b3)) : x_Gd xs L J d m_63 (fun r G' => r = some (.int (b0 + b1 + b2 + b3)) ∧ G' = G) 0 (lv_args 0 [.ref 7]) [] G := by
  have g0 : pm_get (lv_args 0 [.ref 7]) 0 = some (.ref 7) := rfl
  generalize lv_args 0 [.ref 7] = lv at g0 ⊢
  refine y_aln (e_63 (0, .aload_n 0, 1) (List.mem_of_getElem? (i := 0) rfl)) g0 ?_
  refine y_getf hI a1 (e_63 (1, .getfield 15, 3) (List.mem_of_getElem? (i := 1) rfl)) u_5_15 ⟨rfl, rfl⟩ hp ?_
  refine y_st (e_63 (4, .iconst 0, 1) (List.mem_of_getElem? (i := 2) rfl)) ⟨rfl, rfl, rfl, rfl⟩ ?_
  refine y_iald hI a3 (e_63 (5, .iaload, 1) (List.mem_of_getElem? (i := 3) rfl)) ⟨rfl, rfl⟩ (by decide) e0 ?_
  refine y_aln (e_63 (6, .aload_n 0, 1) (List.mem_of_getElem? (i := 4) rfl)) g0 ?_
  refine y_getf hI a1 (e_63 (7, .getfield 15, 3) (List.mem_of_getElem? (i := 5) rfl)) u_5_15 ⟨rfl, rfl⟩ hp ?_
  refine y_st (e_63 (10, .iconst 1, 1) (List.mem_of_getElem? (i := 6) rfl)) ⟨rfl, rfl, rfl, rfl⟩ ?_
  refine y_iald hI a3 (e_63 (11, .iaload, 1) (List.mem_of_getElem? (i := 7) rfl)) ⟨rfl, rfl⟩ (by decide) e1 ?_
  refine y_st (e_63 (12, .iadd, 1) (List.mem_of_getElem? (i := 8) rfl)) ⟨rfl, rfl, rfl, rfl⟩ ?_
  refine y_aln (e_63 (13, .aload_n 0, 1) (List.mem_of_getElem? (i := 9) rfl)) g0 ?_
  refine y_getf hI a1 (e_63 (14, .getfield 15, 3) (List.mem_of_getElem? (i := 10) rfl)) u_5_15 ⟨rfl, rfl⟩ hp ?_
  refine y_st (e_63 (17, .iconst 2, 1) (List.mem_of_getElem? (i := 11) rfl)) ⟨rfl, rfl, rfl, rfl⟩ ?_
  refine y_iald hI a3 (e_63 (18, .iaload, 1) (List.mem_of_getElem? (i := 12) rfl)) ⟨rfl, rfl⟩ (by decide) e2 ?_
  refine y_st (e_63 (19, .iadd, 1) (List.mem_of_getElem? (i := 13) rfl)) ⟨rfl, rfl, rfl, rfl⟩ ?_
  refine y_aln (e_63 (20, .aload_n 0, 1) (List.mem_of_getElem? (i := 14) rfl)) g0 ?_
  refine y_getf hI a1 (e_63 (21, .getfield 15, 3) (List.mem_of_getElem? (i := 15) rfl)) u_5_15 ⟨rfl, rfl⟩ hp ?_
  refine y_st (e_63 (24, .iconst 3, 1) (List.mem_of_getElem? (i := 16) rfl)) ⟨rfl, rfl, rfl, rfl⟩ ?_
  refine y_iald hI a3 (e_63 (25, .iaload, 1) (List.mem_of_getElem? (i := 17) rfl)) ⟨rfl, rfl⟩ (by decide) e3 ?_
  refine y_st (e_63 (26, .iadd, 1) (List.mem_of_getElem? (i := 18) rfl)) ⟨rfl, rfl, rfl, rfl⟩ ?_
  exact y_ret (e_63 (27, .ireturn, 1) (List.mem_of_getElem? (i := 19) rfl)) ⟨rfl, y_ri⟩ ⟨rfl, rfl⟩
set_option maxHeartbeats 2000000 in
set_option maxRecDepth 100000 in
theorem z_arn {b0 b1 b2 b3 H v h : Int32} (hI : xI x_tb th0 G) (a1 : th0[7]? = some 1) (a3 : th0[9]? = some 15) (hp : x_sl G 7 1 = some (.ref 9)) (e0 : x_sl G 9 0 = some (.int b0)) (e1 : x_sl G 9 1 = some (.int b1)) (e2 : x_sl G 9 2 = some (.int b2)) (e3 : x_sl G 9 3 = some (.int b3)) (eH : x_sl G 7 4 = some (.int H)) (hb : z_br b0 b1 b2 b3) (h0 : 0 ≤ h.toInt) (h9 : h.toInt ≤ 999) : x_Gd xs L J (d + 1) m_64 (fun r G' => r = some (.int (z_ar b0 b1 b2 b3 H v h)) ∧ G' = G) 0 (lv_args 0 [.ref 7, .int v, .int h]) [] G := by
  obtain ⟨q1, q2, q3, q4, q5, q6⟩ := hb.p
  obtain ⟨hb0, hb1, hb2, hb3⟩ := id hb
  have hm := z_rem (p := (b0 + b1 + b2 + b3)) h0 h9 q4 q5
  have g0 : pm_get (lv_args 0 [.ref 7, .int v, .int h]) 0 = some (.ref 7) := rfl
  have g1 : pm_get (lv_args 0 [.ref 7, .int v, .int h]) 1 = some (.int v) := rfl
  have g2 : pm_get (lv_args 0 [.ref 7, .int v, .int h]) 2 = some (.int h) := rfl
  generalize lv_args 0 [.ref 7, .int v, .int h] = lv at g0 g1 g2 ⊢
  refine y_aln (e_64 (0, .aload_n 0, 1) (List.mem_of_getElem? (i := 0) rfl)) g0 ?_
  refine y_c1 (K' := _) (e_64 (1, .invokevirtual 44, 3) (List.mem_of_getElem? (i := 1) rfl)) ⟨rfl, rfl, rfl⟩ t_5_44 ⟨by decide, by decide, by decide, by decide⟩ m_63_ok rfl (by decide) (y_recv hI a1 ⟨rfl, rfl⟩) (Nat.le_of_ble_eq_true rfl) (Nat.le_of_ble_eq_true rfl) (z_brh1 hI a1 a3 hp e0 e1 e2 e3) (fun r1 G1 h1 => ?_)
  obtain ⟨rfl, rfl⟩ := h1
  simp only [Option.toList_some, Option.toList_none, List.cons_append, List.nil_append]
  refine y_isn (e_64 (4, .istore_n 3, 1) (List.mem_of_getElem? (i := 2) rfl)) (by decide) ?_
  replace g0 := y_gpr (i := 3) (w := .int (b0 + b1 + b2 + b3)) g0 (by decide)
  replace g1 := y_gpi (i := 3) (w := .int (b0 + b1 + b2 + b3)) g1 (by decide)
  replace g2 := y_gpi (i := 3) (w := .int (b0 + b1 + b2 + b3)) g2 (by decide)
  have g3 : pm_get (pm_put1 lv 3 (.int (b0 + b1 + b2 + b3))) 3 = some (.int (b0 + b1 + b2 + b3)) := x_get_self
  show x_Gd xs L J _ m_64 _ 5 (pm_put1 lv 3 (.int (b0 + b1 + b2 + b3))) [] G1
  generalize pm_put1 lv 3 (.int (b0 + b1 + b2 + b3)) = lv3 at g0 g1 g2 g3 ⊢
  refine y_iln (e_64 (5, .iload_n 2, 1) (List.mem_of_getElem? (i := 3) rfl)) g2 ?_
  refine y_c1 (K' := _) (e_64 (6, .invokestatic 48, 3) (List.mem_of_getElem? (i := 4) rfl)) ⟨rfl, rfl, rfl⟩ t_5_48 ⟨by decide, by decide, by decide, by decide⟩ m_65_ok rfl (by decide) rfl (Nat.le_of_ble_eq_true rfl) (Nat.le_of_ble_eq_true rfl) z_ish (fun r1 G1 h1 => ?_)
  obtain ⟨rfl, h1⟩ := h1
  rcases h1 with ⟨rfl, -⟩ | ⟨rfl, hno⟩
  rotate_left
  · exact absurd ⟨h0, h9⟩ hno
  simp only [Option.toList_some, Option.toList_none, List.cons_append, List.nil_append]
  refine y_ifc (e_64 (9, .ifCond .eq 18, 3) (List.mem_of_getElem? (i := 5) rfl)) rfl (fun z => absurd z (by decide)) (fun _ => ?_)
  refine y_iln (e_64 (12, .iload_n 3, 1) (List.mem_of_getElem? (i := 6) rfl)) g3 ?_
  refine y_st (e_64 (13, .iconst 1, 1) (List.mem_of_getElem? (i := 7) rfl)) ⟨rfl, rfl, rfl, rfl⟩ ?_
  refine y_icm (e_64 (14, .if_icmp .lt 13, 3) (List.mem_of_getElem? (i := 8) rfl)) rfl (fun hc => ?_) (fun _ => ?_)
  · have z := y_hI.2.2.2.2.2.2.2.2.1 hc
    rw [show (Int32.ofInt 1).toInt = 1 from rfl] at z
    omega
  refine y_iln (e_64 (17, .iload_n 2, 1) (List.mem_of_getElem? (i := 9) rfl)) g2 ?_
  refine y_iln (e_64 (18, .iload_n 3, 1) (List.mem_of_getElem? (i := 10) rfl)) g3 ?_
  refine y_idv (e_64 (19, .idiv, 1) (List.mem_of_getElem? (i := 11) rfl)) q6 ?_
  refine y_aln (e_64 (20, .aload_n 0, 1) (List.mem_of_getElem? (i := 12) rfl)) g0 ?_
  refine y_getf hI a1 (e_64 (21, .getfield 25, 3) (List.mem_of_getElem? (i := 13) rfl)) u_5_25 ⟨rfl, rfl⟩ eH ?_
  refine y_icm (e_64 (24, .if_icmp .ne 5, 3) (List.mem_of_getElem? (i := 14) rfl)) rfl (fun hc => ?_) (fun hc => ?_)
  rotate_left
  · have z := y_hI.2.2.2.1 hc
    refine y_st (e_64 (27, .iconst 0, 1) (List.mem_of_getElem? (i := 15) rfl)) ⟨rfl, rfl, rfl, rfl⟩ ?_
    exact y_ret (e_64 (28, .ireturn, 1) (List.mem_of_getElem? (i := 16) rfl)) ⟨rfl, y_ri⟩ ⟨by unfold z_ar; rw [if_pos z], rfl⟩
  have nH := y_hI.2.2.1 hc
  refine y_iln (e_64 (29, .iload_n 2, 1) (List.mem_of_getElem? (i := 17) rfl)) g2 ?_
  refine y_iln (e_64 (30, .iload_n 3, 1) (List.mem_of_getElem? (i := 18) rfl)) g3 ?_
  refine y_irm (e_64 (31, .irem, 1) (List.mem_of_getElem? (i := 19) rfl)) q6 ?_
  refine y_ist5 (e_64 (32, .istore 4, 2) (List.mem_of_getElem? (i := 20) rfl)) (by decide) ?_
  replace g0 := y_gpr (i := 4) (w := .int (h - h / (b0 + b1 + b2 + b3) * (b0 + b1 + b2 + b3))) g0 (by decide)
  replace g1 := y_gpi (i := 4) (w := .int (h - h / (b0 + b1 + b2 + b3) * (b0 + b1 + b2 + b3))) g1 (by decide)
  have g4 : pm_get (pm_put1 lv3 4 (.int (h - h / (b0 + b1 + b2 + b3) * (b0 + b1 + b2 + b3)))) 4 = some (.int (h - h / (b0 + b1 + b2 + b3) * (b0 + b1 + b2 + b3))) := x_get_self
  generalize pm_put1 lv3 4 (.int (h - h / (b0 + b1 + b2 + b3) * (b0 + b1 + b2 + b3))) = lv4 at g0 g1 g4 ⊢
  refine y_aln (e_64 (34, .aload_n 0, 1) (List.mem_of_getElem? (i := 21) rfl)) g0 ?_
  refine y_getf hI a1 (e_64 (35, .getfield 15, 3) (List.mem_of_getElem? (i := 22) rfl)) u_5_15 ⟨rfl, rfl⟩ hp ?_
  refine y_st (e_64 (38, .iconst 0, 1) (List.mem_of_getElem? (i := 23) rfl)) ⟨rfl, rfl, rfl, rfl⟩ ?_
  refine y_iald hI a3 (e_64 (39, .iaload, 1) (List.mem_of_getElem? (i := 24) rfl)) ⟨rfl, rfl⟩ (by decide) e0 ?_
  refine y_aln (e_64 (40, .aload_n 0, 1) (List.mem_of_getElem? (i := 25) rfl)) g0 ?_
  refine y_getf hI a1 (e_64 (41, .getfield 15, 3) (List.mem_of_getElem? (i := 26) rfl)) u_5_15 ⟨rfl, rfl⟩ hp ?_
  refine y_st (e_64 (44, .iconst 1, 1) (List.mem_of_getElem? (i := 27) rfl)) ⟨rfl, rfl, rfl, rfl⟩ ?_
  refine y_iald hI a3 (e_64 (45, .iaload, 1) (List.mem_of_getElem? (i := 28) rfl)) ⟨rfl, rfl⟩ (by decide) e1 ?_
  refine y_st (e_64 (46, .iadd, 1) (List.mem_of_getElem? (i := 29) rfl)) ⟨rfl, rfl, rfl, rfl⟩ ?_
  refine y_ist5 (e_64 (47, .istore 5, 2) (List.mem_of_getElem? (i := 30) rfl)) (by decide) ?_
  replace g0 := y_gpr (i := 5) (w := .int (b0 + b1)) g0 (by decide)
  replace g1 := y_gpi (i := 5) (w := .int (b0 + b1)) g1 (by decide)
  replace g4 := y_gpi (i := 5) (w := .int (b0 + b1)) g4 (by decide)
  have g5 : pm_get (pm_put1 lv4 5 (.int (b0 + b1))) 5 = some (.int (b0 + b1)) := x_get_self
  generalize pm_put1 lv4 5 (.int (b0 + b1)) = lv5 at g0 g1 g4 g5 ⊢
  refine y_il (e_64 (49, .iload 4, 2) (List.mem_of_getElem? (i := 31) rfl)) g4 ?_
  refine y_aln (e_64 (51, .aload_n 0, 1) (List.mem_of_getElem? (i := 32) rfl)) g0 ?_
  refine y_getf hI a1 (e_64 (52, .getfield 15, 3) (List.mem_of_getElem? (i := 33) rfl)) u_5_15 ⟨rfl, rfl⟩ hp ?_
  refine y_st (e_64 (55, .iconst 0, 1) (List.mem_of_getElem? (i := 34) rfl)) ⟨rfl, rfl, rfl, rfl⟩ ?_
  refine y_iald hI a3 (e_64 (56, .iaload, 1) (List.mem_of_getElem? (i := 35) rfl)) ⟨rfl, rfl⟩ (by decide) e0 ?_
  refine y_icm (e_64 (57, .if_icmp .ge 13, 3) (List.mem_of_getElem? (i := 36) rfl)) rfl (fun hc => ?_) (fun hc => ?_)
  rotate_left
  · have z := y_hI.2.2.2.2.2.1 hc
    refine y_iln (e_64 (60, .iload_n 1, 1) (List.mem_of_getElem? (i := 37) rfl)) g1 ?_
    refine y_ifc (e_64 (61, .ifCond .ne 7, 3) (List.mem_of_getElem? (i := 38) rfl)) rfl (fun hc => ?_) (fun hc => ?_)
    · have hv := y_hI.2.2.1 hc
      refine y_st (e_64 (68, .iconst 2, 1) (List.mem_of_getElem? (i := 41) rfl)) ⟨rfl, rfl, rfl, rfl⟩ ?_
      exact y_ret (e_64 (69, .ireturn, 1) (List.mem_of_getElem? (i := 42) rfl)) ⟨rfl, y_ri⟩ ⟨by unfold z_ar; rw [if_neg nH, if_pos z, if_neg hv], rfl⟩
    · have hv := y_hI.2.2.2.1 hc
      refine y_st (e_64 (64, .iconst 1, 1) (List.mem_of_getElem? (i := 39) rfl)) ⟨rfl, rfl, rfl, rfl⟩ ?_
      refine y_st (e_64 (65, .goto 4, 3) (List.mem_of_getElem? (i := 40) rfl)) ⟨rfl, rfl, rfl, rfl⟩ ?_
      exact y_ret (e_64 (69, .ireturn, 1) (List.mem_of_getElem? (i := 42) rfl)) ⟨rfl, y_ri⟩ ⟨by unfold z_ar; rw [if_neg nH, if_pos z, if_pos hv], rfl⟩
  have z1 := y_hI.2.2.2.2.1 hc
  have zero : ¬ (b0.toInt + b1.toInt ≤ (h - h / (b0 + b1 + b2 + b3) * (b0 + b1 + b2 + b3)).toInt ∧ (h - h / (b0 + b1 + b2 + b3) * (b0 + b1 + b2 + b3)).toInt < b0.toInt + b1.toInt + b2.toInt) → x_Gd xs L J (d + 1) m_64 (fun r G' => r = some (.int (z_ar b0 b1 b2 b3 H v h)) ∧ G' = G1) 101 lv5 [] G1 := fun hz => by
    refine y_st (e_64 (101, .iconst 0, 1) (List.mem_of_getElem? (i := 60) rfl)) ⟨rfl, rfl, rfl, rfl⟩ ?_
    exact y_ret (e_64 (102, .ireturn, 1) (List.mem_of_getElem? (i := 61) rfl)) ⟨rfl, y_ri⟩ ⟨by unfold z_ar; rw [if_neg nH, if_neg (by omega), if_neg hz], rfl⟩
  refine y_il (e_64 (70, .iload 4, 2) (List.mem_of_getElem? (i := 43) rfl)) g4 ?_
  refine y_il (e_64 (72, .iload 5, 2) (List.mem_of_getElem? (i := 44) rfl)) g5 ?_
  refine y_icm (e_64 (74, .if_icmp .lt 27, 3) (List.mem_of_getElem? (i := 45) rfl)) rfl (fun hc => ?_) (fun hc => ?_)
  · have z := y_hI.2.2.2.2.2.2.2.2.1 hc
    exact zero (fun y => by omega)
  have z2 := y_hI.2.2.2.2.2.2.2.2.2.1 hc
  refine y_il (e_64 (77, .iload 4, 2) (List.mem_of_getElem? (i := 46) rfl)) g4 ?_
  refine y_il (e_64 (79, .iload 5, 2) (List.mem_of_getElem? (i := 47) rfl)) g5 ?_
  refine y_aln (e_64 (81, .aload_n 0, 1) (List.mem_of_getElem? (i := 48) rfl)) g0 ?_
  refine y_getf hI a1 (e_64 (82, .getfield 15, 3) (List.mem_of_getElem? (i := 49) rfl)) u_5_15 ⟨rfl, rfl⟩ hp ?_
  refine y_st (e_64 (85, .iconst 2, 1) (List.mem_of_getElem? (i := 50) rfl)) ⟨rfl, rfl, rfl, rfl⟩ ?_
  refine y_iald hI a3 (e_64 (86, .iaload, 1) (List.mem_of_getElem? (i := 51) rfl)) ⟨rfl, rfl⟩ (by decide) e2 ?_
  refine y_st (e_64 (87, .iadd, 1) (List.mem_of_getElem? (i := 52) rfl)) ⟨rfl, rfl, rfl, rfl⟩ ?_
  refine y_icm (e_64 (88, .if_icmp .ge 13, 3) (List.mem_of_getElem? (i := 53) rfl)) rfl (fun hc => ?_) (fun hc => ?_)
  · have z := y_hI.2.2.2.2.1 hc
    exact zero (fun y => by omega)
  have z3 := y_hI.2.2.2.2.2.1 hc
  refine y_iln (e_64 (91, .iload_n 1, 1) (List.mem_of_getElem? (i := 54) rfl)) g1 ?_
  refine y_ifc (e_64 (92, .ifCond .ne 7, 3) (List.mem_of_getElem? (i := 55) rfl)) rfl (fun hc => ?_) (fun hc => ?_)
  · have hv := y_hI.2.2.1 hc
    refine y_st (e_64 (99, .iconst 1, 1) (List.mem_of_getElem? (i := 58) rfl)) ⟨rfl, rfl, rfl, rfl⟩ ?_
    exact y_ret (e_64 (100, .ireturn, 1) (List.mem_of_getElem? (i := 59) rfl)) ⟨rfl, y_ri⟩ ⟨by unfold z_ar; rw [if_neg nH, if_neg (by omega), if_pos ⟨by omega, by omega⟩, if_neg hv], rfl⟩
  · have hv := y_hI.2.2.2.1 hc
    refine y_st (e_64 (95, .iconst 2, 1) (List.mem_of_getElem? (i := 56) rfl)) ⟨rfl, rfl, rfl, rfl⟩ ?_
    refine y_st (e_64 (96, .goto 4, 3) (List.mem_of_getElem? (i := 57) rfl)) ⟨rfl, rfl, rfl, rfl⟩ ?_
    exact y_ret (e_64 (100, .ireturn, 1) (List.mem_of_getElem? (i := 59) rfl)) ⟨rfl, y_ri⟩ ⟨by unfold z_ar; rw [if_neg nH, if_neg (by omega), if_pos ⟨by omega, by omega⟩, if_pos hv], rfl⟩
set_option maxHeartbeats 2000000 in
set_option maxRecDepth 100000 in
theorem zc_air {w : Nat → Nat → Option Value} {s : Nat → Option Value} (hI : xI x_tb th0 G) (hp : ZP G) (hw : LV 6 w G) (hR : RW w s) {b0 b1 b2 b3 H : Int32} (s6 : s 6 = some (.int b0)) (s7 : s 7 = some (.int b1)) (s8 : s 8 = some (.int b2)) (s9 : s 9 = some (.int b3)) (s12 : s 12 = some (.int H)) (hb : z_br b0 b1 b2 b3) (x1 x2 : Int32) : x_Gd xs L J (d + 2) m_67 (fun r _ => z_ai s x1 x2 r) 0 (lv_args 0 [.ref 0, .int x1, .int x2]) [] G := by
  obtain ⟨a0, a1, a2, a3, -⟩ := z_hsT 6 (by decide)
  obtain ⟨p0, q0, q1, -⟩ := hp.1 6 (by decide)
  obtain ⟨-, -, -, -, -, -, rb, -, -, r12, -⟩ := hR
  have g0 : pm_get (lv_args 0 [.ref 0, .int x1, .int x2]) 0 = some (.ref 0) := rfl
  have g1 : pm_get (lv_args 0 [.ref 0, .int x1, .int x2]) 1 = some (.int x1) := rfl
  have g2 : pm_get (lv_args 0 [.ref 0, .int x1, .int x2]) 2 = some (.int x2) := rfl
  generalize lv_args 0 [.ref 0, .int x1, .int x2] = lv at g0 g1 g2 ⊢
  have e0 : x_sl G 9 0 = some (.int b0) := (hw 3 0 rfl).trans ((rb 0 (by decide)).symm.trans s6)
  have e1 : x_sl G 9 1 = some (.int b1) := (hw 3 1 rfl).trans ((rb 1 (by decide)).symm.trans s7)
  have e2 : x_sl G 9 2 = some (.int b2) := (hw 3 2 rfl).trans ((rb 2 (by decide)).symm.trans s8)
  have e3 : x_sl G 9 3 = some (.int b3) := (hw 3 3 rfl).trans ((rb 3 (by decide)).symm.trans s9)
  have eH : x_sl G 7 4 = some (.int H) := (hw 1 4 rfl).trans (r12.symm.trans s12)
  refine y_iln (e_67 (0, .iload_n 1, 1) (List.mem_of_getElem? (i := 0) rfl)) g1 ?_
  refine y_c1 (K' := _) (e_67 (1, .invokestatic 227, 3) (List.mem_of_getElem? (i := 1) rfl)) ⟨rfl, rfl, rfl⟩ t_0_227 ⟨by decide, by decide, by decide, by decide⟩ m_68_ok rfl (by decide) rfl (Nat.le_of_ble_eq_true rfl) (Nat.le_of_ble_eq_true rfl) z_isv (fun r1 G1 h1 => ?_)
  obtain ⟨rfl, h1⟩ := h1
  rcases h1 with ⟨rfl, hv1⟩ | ⟨rfl, hno⟩
  rotate_left
  · simp only [Option.toList_some, Option.toList_none, List.cons_append, List.nil_append]
    refine y_ifc (e_67 (4, .ifCond .eq 25, 3) (List.mem_of_getElem? (i := 2) rfl)) rfl (fun _ => ?_) (fun z => absurd z (by decide))
    refine y_st (e_67 (29, .iconst (-1), 1) (List.mem_of_getElem? (i := 13) rfl)) ⟨rfl, rfl, rfl, rfl⟩ ?_
    exact y_ret (e_67 (30, .ireturn, 1) (List.mem_of_getElem? (i := 14) rfl)) ⟨rfl, y_ri⟩ ⟨b0, b1, b2, b3, H, s6, s7, s8, s9, s12, by unfold z_av; rw [if_neg (fun z => hno z.1)]⟩
  simp only [Option.toList_some, Option.toList_none, List.cons_append, List.nil_append]
  refine y_ifc (e_67 (4, .ifCond .eq 25, 3) (List.mem_of_getElem? (i := 2) rfl)) rfl (fun z => absurd z (by decide)) (fun _ => ?_)
  refine y_iln (e_67 (7, .iload_n 2, 1) (List.mem_of_getElem? (i := 3) rfl)) g2 ?_
  refine y_c1 (K' := _) (e_67 (8, .invokestatic 230, 3) (List.mem_of_getElem? (i := 4) rfl)) ⟨rfl, rfl, rfl⟩ t_0_230 ⟨by decide, by decide, by decide, by decide⟩ m_65_ok rfl (by decide) rfl (Nat.le_of_ble_eq_true rfl) (Nat.le_of_ble_eq_true rfl) z_ish (fun r1 G1 h1 => ?_)
  obtain ⟨rfl, h1⟩ := h1
  rcases h1 with ⟨rfl, hv2⟩ | ⟨rfl, hno⟩
  rotate_left
  · simp only [Option.toList_some, Option.toList_none, List.cons_append, List.nil_append]
    refine y_ifc (e_67 (11, .ifCond .eq 18, 3) (List.mem_of_getElem? (i := 5) rfl)) rfl (fun _ => ?_) (fun z => absurd z (by decide))
    refine y_st (e_67 (29, .iconst (-1), 1) (List.mem_of_getElem? (i := 13) rfl)) ⟨rfl, rfl, rfl, rfl⟩ ?_
    exact y_ret (e_67 (30, .ireturn, 1) (List.mem_of_getElem? (i := 14) rfl)) ⟨rfl, y_ri⟩ ⟨b0, b1, b2, b3, H, s6, s7, s8, s9, s12, by unfold z_av; rw [if_neg (fun z => hno z.2)]⟩
  simp only [Option.toList_some, Option.toList_none, List.cons_append, List.nil_append]
  refine y_ifc (e_67 (11, .ifCond .eq 18, 3) (List.mem_of_getElem? (i := 5) rfl)) rfl (fun z => absurd z (by decide)) (fun _ => ?_)
  refine y_aln (e_67 (14, .aload_n 0, 1) (List.mem_of_getElem? (i := 6) rfl)) g0 ?_
  refine y_getf hI z_ty.1 (e_67 (15, .getfield 26, 3) (List.mem_of_getElem? (i := 7) rfl)) u_0_26 ⟨rfl, rfl⟩ hp.2.1 ?_
  refine y_getf hI a0 (e_67 (18, .getfield 192, 3) (List.mem_of_getElem? (i := 8) rfl)) u_0_192 ⟨rfl, rfl⟩ p0 ?_
  refine y_iln (e_67 (21, .iload_n 1, 1) (List.mem_of_getElem? (i := 9) rfl)) g1 ?_
  refine y_iln (e_67 (22, .iload_n 2, 1) (List.mem_of_getElem? (i := 10) rfl)) g2 ?_
  refine y_c3 (K' := _) (e_67 (23, .invokevirtual 220, 3) (List.mem_of_getElem? (i := 11) rfl)) ⟨rfl, rfl, rfl⟩ t_0_220 ⟨by decide, by decide, by decide, by decide⟩ m_64_ok rfl (by decide) (y_recv hI a1 ⟨rfl, rfl⟩) (Nat.le_of_ble_eq_true rfl) (Nat.le_of_ble_eq_true rfl) (z_arn (d := d) hI a1 a3 q1 e0 e1 e2 e3 eH hb hv2.1 hv2.2) (fun r2 G2 h2 => ?_)
  obtain ⟨rfl, rfl⟩ := h2
  simp only [Option.toList_some, Option.toList_none, List.cons_append, List.nil_append]
  refine y_st (e_67 (26, .goto 4, 3) (List.mem_of_getElem? (i := 12) rfl)) ⟨rfl, rfl, rfl, rfl⟩ ?_
  exact y_ret (e_67 (30, .ireturn, 1) (List.mem_of_getElem? (i := 14) rfl)) ⟨rfl, y_ri⟩ ⟨b0, b1, b2, b3, H, s6, s7, s8, s9, s12, by unfold z_av; rw [if_pos ⟨hv1, hv2⟩]⟩
set_option maxHeartbeats 2000000 in
set_option maxRecDepth 100000 in
theorem z_pe1 {b0 b1 b2 b3 : Int32} (hI : xI x_tb th0 G) (ta : th0[349]? = some 10) (ts : th0[351]? = some 36) (h6 : x_sl G 349 6 = some (.ref 351)) (e0 : x_sl G 351 6 = some (.int b0)) (e1 : x_sl G 351 7 = some (.int b1)) (e2 : x_sl G 351 8 = some (.int b2)) (e3 : x_sl G 351 9 = some (.int b3)) : x_Gd xs L J d m_192 (fun r G' => r = some (.int (b0 + b1 + b2 + b3)) ∧ G' = G) 0 (lv_args 0 [.ref 349]) [] G := by
  have g0 : pm_get (lv_args 0 [.ref 349]) 0 = some (.ref 349) := rfl
  generalize lv_args 0 [.ref 349] = lv at g0 ⊢
  refine y_aln (e_192 (0, .aload_n 0, 1) (List.mem_of_getElem? (i := 0) rfl)) g0 ?_
  refine y_getf hI ta (e_192 (1, .getfield 33, 3) (List.mem_of_getElem? (i := 1) rfl)) u_17_33 ⟨rfl, rfl⟩ h6 ?_
  refine y_st (e_192 (4, .bipush 6, 2) (List.mem_of_getElem? (i := 2) rfl)) ⟨rfl, rfl, rfl, rfl⟩ ?_
  refine y_iald hI ts (e_192 (6, .iaload, 1) (List.mem_of_getElem? (i := 3) rfl)) ⟨rfl, rfl⟩ (by decide) e0 ?_
  refine y_aln (e_192 (7, .aload_n 0, 1) (List.mem_of_getElem? (i := 4) rfl)) g0 ?_
  refine y_getf hI ta (e_192 (8, .getfield 33, 3) (List.mem_of_getElem? (i := 5) rfl)) u_17_33 ⟨rfl, rfl⟩ h6 ?_
  refine y_st (e_192 (11, .bipush 7, 2) (List.mem_of_getElem? (i := 6) rfl)) ⟨rfl, rfl, rfl, rfl⟩ ?_
  refine y_iald hI ts (e_192 (13, .iaload, 1) (List.mem_of_getElem? (i := 7) rfl)) ⟨rfl, rfl⟩ (by decide) e1 ?_
  refine y_st (e_192 (14, .iadd, 1) (List.mem_of_getElem? (i := 8) rfl)) ⟨rfl, rfl, rfl, rfl⟩ ?_
  refine y_aln (e_192 (15, .aload_n 0, 1) (List.mem_of_getElem? (i := 9) rfl)) g0 ?_
  refine y_getf hI ta (e_192 (16, .getfield 33, 3) (List.mem_of_getElem? (i := 10) rfl)) u_17_33 ⟨rfl, rfl⟩ h6 ?_
  refine y_st (e_192 (19, .bipush 8, 2) (List.mem_of_getElem? (i := 11) rfl)) ⟨rfl, rfl, rfl, rfl⟩ ?_
  refine y_iald hI ts (e_192 (21, .iaload, 1) (List.mem_of_getElem? (i := 12) rfl)) ⟨rfl, rfl⟩ (by decide) e2 ?_
  refine y_st (e_192 (22, .iadd, 1) (List.mem_of_getElem? (i := 13) rfl)) ⟨rfl, rfl, rfl, rfl⟩ ?_
  refine y_aln (e_192 (23, .aload_n 0, 1) (List.mem_of_getElem? (i := 14) rfl)) g0 ?_
  refine y_getf hI ta (e_192 (24, .getfield 33, 3) (List.mem_of_getElem? (i := 15) rfl)) u_17_33 ⟨rfl, rfl⟩ h6 ?_
  refine y_st (e_192 (27, .bipush 9, 2) (List.mem_of_getElem? (i := 16) rfl)) ⟨rfl, rfl, rfl, rfl⟩ ?_
  refine y_iald hI ts (e_192 (29, .iaload, 1) (List.mem_of_getElem? (i := 17) rfl)) ⟨rfl, rfl⟩ (by decide) e3 ?_
  refine y_st (e_192 (30, .iadd, 1) (List.mem_of_getElem? (i := 18) rfl)) ⟨rfl, rfl, rfl, rfl⟩ ?_
  exact y_ret (e_192 (31, .ireturn, 1) (List.mem_of_getElem? (i := 19) rfl)) ⟨rfl, y_ri⟩ ⟨rfl, rfl⟩
set_option maxHeartbeats 2000000 in
set_option maxRecDepth 100000 in
theorem z_aro {b0 b1 b2 b3 H v h : Int32} (hI : xI x_tb th0 G) (ta : th0[349]? = some 10) (ts : th0[351]? = some 36) (h6 : x_sl G 349 6 = some (.ref 351)) (e6 : x_sl G 351 6 = some (.int b0)) (e7 : x_sl G 351 7 = some (.int b1)) (e8 : x_sl G 351 8 = some (.int b2)) (e9 : x_sl G 351 9 = some (.int b3)) (e12 : x_sl G 351 12 = some (.int H)) (hb : z_br b0 b1 b2 b3) (h0 : 0 ≤ h.toInt) (h9 : h.toInt ≤ 999) : x_Gd xs L J (d + 1) m_191 (fun r G' => r = some (.int (z_ar b0 b1 b2 b3 H v h)) ∧ G' = G) 0 (lv_args 0 [.ref 349, .int v, .int h]) [] G := by
  obtain ⟨q1, q2, q3, q4, q5, q6⟩ := hb.p
  obtain ⟨hb0, hb1, hb2, hb3⟩ := id hb
  have hm := z_rem (p := (b0 + b1 + b2 + b3)) h0 h9 q4 q5
  have g0 : pm_get (lv_args 0 [.ref 349, .int v, .int h]) 0 = some (.ref 349) := rfl
  have g1 : pm_get (lv_args 0 [.ref 349, .int v, .int h]) 1 = some (.int v) := rfl
  have g2 : pm_get (lv_args 0 [.ref 349, .int v, .int h]) 2 = some (.int h) := rfl
  generalize lv_args 0 [.ref 349, .int v, .int h] = lv at g0 g1 g2 ⊢
  refine y_iln (e_191 (0, .iload_n 2, 1) (List.mem_of_getElem? (i := 0) rfl)) g2 ?_
  refine y_aln (e_191 (1, .aload_n 0, 1) (List.mem_of_getElem? (i := 1) rfl)) g0 ?_
  refine y_c1 (K' := _) (e_191 (2, .invokevirtual 242, 3) (List.mem_of_getElem? (i := 2) rfl)) ⟨rfl, rfl, rfl⟩ t_17_242 ⟨by decide, by decide, by decide, by decide⟩ m_192_ok rfl (by decide) (y_recv hI ta ⟨rfl, rfl⟩) (Nat.le_of_ble_eq_true rfl) (Nat.le_of_ble_eq_true rfl) (z_pe1 hI ta ts h6 e6 e7 e8 e9) (fun r1 G1 h1 => ?_)
  obtain ⟨rfl, rfl⟩ := h1
  simp only [Option.toList_some, Option.toList_none, List.cons_append, List.nil_append]
  refine y_irm (e_191 (5, .irem, 1) (List.mem_of_getElem? (i := 3) rfl)) q6 ?_
  refine y_isn (e_191 (6, .istore_n 3, 1) (List.mem_of_getElem? (i := 4) rfl)) (by decide) ?_
  replace g0 := y_gpr (i := 3) (w := .int (h - h / (b0 + b1 + b2 + b3) * (b0 + b1 + b2 + b3))) g0 (by decide)
  replace g1 := y_gpi (i := 3) (w := .int (h - h / (b0 + b1 + b2 + b3) * (b0 + b1 + b2 + b3))) g1 (by decide)
  replace g2 := y_gpi (i := 3) (w := .int (h - h / (b0 + b1 + b2 + b3) * (b0 + b1 + b2 + b3))) g2 (by decide)
  have g3 : pm_get (pm_put1 lv 3 (.int (h - h / (b0 + b1 + b2 + b3) * (b0 + b1 + b2 + b3)))) 3 = some (.int (h - h / (b0 + b1 + b2 + b3) * (b0 + b1 + b2 + b3))) := x_get_self
  show x_Gd xs L J _ m_191 _ 7 (pm_put1 lv 3 (.int (h - h / (b0 + b1 + b2 + b3) * (b0 + b1 + b2 + b3)))) [] G1
  generalize pm_put1 lv 3 (.int (h - h / (b0 + b1 + b2 + b3) * (b0 + b1 + b2 + b3))) = lv3 at g0 g1 g2 g3 ⊢
  refine y_iln (e_191 (7, .iload_n 2, 1) (List.mem_of_getElem? (i := 5) rfl)) g2 ?_
  refine y_aln (e_191 (8, .aload_n 0, 1) (List.mem_of_getElem? (i := 6) rfl)) g0 ?_
  refine y_c1 (K' := _) (e_191 (9, .invokevirtual 242, 3) (List.mem_of_getElem? (i := 7) rfl)) ⟨rfl, rfl, rfl⟩ t_17_242 ⟨by decide, by decide, by decide, by decide⟩ m_192_ok rfl (by decide) (y_recv hI ta ⟨rfl, rfl⟩) (Nat.le_of_ble_eq_true rfl) (Nat.le_of_ble_eq_true rfl) (z_pe1 hI ta ts h6 e6 e7 e8 e9) (fun r1 G1 h1 => ?_)
  obtain ⟨rfl, rfl⟩ := h1
  simp only [Option.toList_some, Option.toList_none, List.cons_append, List.nil_append]
  refine y_idv (e_191 (12, .idiv, 1) (List.mem_of_getElem? (i := 8) rfl)) q6 ?_
  refine y_aln (e_191 (13, .aload_n 0, 1) (List.mem_of_getElem? (i := 9) rfl)) g0 ?_
  refine y_getf hI ta (e_191 (14, .getfield 33, 3) (List.mem_of_getElem? (i := 10) rfl)) u_17_33 ⟨rfl, rfl⟩ h6 ?_
  refine y_st (e_191 (17, .bipush 12, 2) (List.mem_of_getElem? (i := 11) rfl)) ⟨rfl, rfl, rfl, rfl⟩ ?_
  refine y_iald hI ts (e_191 (19, .iaload, 1) (List.mem_of_getElem? (i := 12) rfl)) ⟨rfl, rfl⟩ (by decide) e12 ?_
  refine y_icm (e_191 (20, .if_icmp .ne 5, 3) (List.mem_of_getElem? (i := 13) rfl)) rfl (fun hc => ?_) (fun hc => ?_)
  rotate_left
  · have z := y_hI.2.2.2.1 hc
    refine y_st (e_191 (23, .iconst 0, 1) (List.mem_of_getElem? (i := 14) rfl)) ⟨rfl, rfl, rfl, rfl⟩ ?_
    exact y_ret (e_191 (24, .ireturn, 1) (List.mem_of_getElem? (i := 15) rfl)) ⟨rfl, y_ri⟩ ⟨by unfold z_ar; rw [if_pos z], rfl⟩
  have nH := y_hI.2.2.1 hc
  refine y_iln (e_191 (25, .iload_n 3, 1) (List.mem_of_getElem? (i := 16) rfl)) g3 ?_
  refine y_aln (e_191 (26, .aload_n 0, 1) (List.mem_of_getElem? (i := 17) rfl)) g0 ?_
  refine y_getf hI ta (e_191 (27, .getfield 33, 3) (List.mem_of_getElem? (i := 18) rfl)) u_17_33 ⟨rfl, rfl⟩ h6 ?_
  refine y_st (e_191 (30, .bipush 6, 2) (List.mem_of_getElem? (i := 19) rfl)) ⟨rfl, rfl, rfl, rfl⟩ ?_
  refine y_iald hI ts (e_191 (32, .iaload, 1) (List.mem_of_getElem? (i := 20) rfl)) ⟨rfl, rfl⟩ (by decide) e6 ?_
  refine y_icm (e_191 (33, .if_icmp .ge 13, 3) (List.mem_of_getElem? (i := 21) rfl)) rfl (fun hc => ?_) (fun hc => ?_)
  rotate_left
  · have z := y_hI.2.2.2.2.2.1 hc
    refine y_iln (e_191 (36, .iload_n 1, 1) (List.mem_of_getElem? (i := 22) rfl)) g1 ?_
    refine y_ifc (e_191 (37, .ifCond .ne 7, 3) (List.mem_of_getElem? (i := 23) rfl)) rfl (fun hc => ?_) (fun hc => ?_)
    · have hv := y_hI.2.2.1 hc
      refine y_st (e_191 (44, .iconst 2, 1) (List.mem_of_getElem? (i := 26) rfl)) ⟨rfl, rfl, rfl, rfl⟩ ?_
      exact y_ret (e_191 (45, .ireturn, 1) (List.mem_of_getElem? (i := 27) rfl)) ⟨rfl, y_ri⟩ ⟨by unfold z_ar; rw [if_neg nH, if_pos z, if_neg hv], rfl⟩
    · have hv := y_hI.2.2.2.1 hc
      refine y_st (e_191 (40, .iconst 1, 1) (List.mem_of_getElem? (i := 24) rfl)) ⟨rfl, rfl, rfl, rfl⟩ ?_
      refine y_st (e_191 (41, .goto 4, 3) (List.mem_of_getElem? (i := 25) rfl)) ⟨rfl, rfl, rfl, rfl⟩ ?_
      exact y_ret (e_191 (45, .ireturn, 1) (List.mem_of_getElem? (i := 27) rfl)) ⟨rfl, y_ri⟩ ⟨by unfold z_ar; rw [if_neg nH, if_pos z, if_pos hv], rfl⟩
  have z1 := y_hI.2.2.2.2.1 hc
  refine y_iln (e_191 (46, .iload_n 3, 1) (List.mem_of_getElem? (i := 28) rfl)) g3 ?_
  refine y_aln (e_191 (47, .aload_n 0, 1) (List.mem_of_getElem? (i := 29) rfl)) g0 ?_
  refine y_getf hI ta (e_191 (48, .getfield 33, 3) (List.mem_of_getElem? (i := 30) rfl)) u_17_33 ⟨rfl, rfl⟩ h6 ?_
  refine y_st (e_191 (51, .bipush 6, 2) (List.mem_of_getElem? (i := 31) rfl)) ⟨rfl, rfl, rfl, rfl⟩ ?_
  refine y_iald hI ts (e_191 (53, .iaload, 1) (List.mem_of_getElem? (i := 32) rfl)) ⟨rfl, rfl⟩ (by decide) e6 ?_
  refine y_aln (e_191 (54, .aload_n 0, 1) (List.mem_of_getElem? (i := 33) rfl)) g0 ?_
  refine y_getf hI ta (e_191 (55, .getfield 33, 3) (List.mem_of_getElem? (i := 34) rfl)) u_17_33 ⟨rfl, rfl⟩ h6 ?_
  refine y_st (e_191 (58, .bipush 7, 2) (List.mem_of_getElem? (i := 35) rfl)) ⟨rfl, rfl, rfl, rfl⟩ ?_
  refine y_iald hI ts (e_191 (60, .iaload, 1) (List.mem_of_getElem? (i := 36) rfl)) ⟨rfl, rfl⟩ (by decide) e7 ?_
  refine y_st (e_191 (61, .iadd, 1) (List.mem_of_getElem? (i := 37) rfl)) ⟨rfl, rfl, rfl, rfl⟩ ?_
  refine y_st (e_191 (62, .isub, 1) (List.mem_of_getElem? (i := 38) rfl)) ⟨rfl, rfl, rfl, rfl⟩ ?_
  refine y_isn (e_191 (63, .istore_n 3, 1) (List.mem_of_getElem? (i := 39) rfl)) (by decide) ?_
  have em : ((h - h / (b0 + b1 + b2 + b3) * (b0 + b1 + b2 + b3)) - (b0 + b1)).toInt = (h - h / (b0 + b1 + b2 + b3) * (b0 + b1 + b2 + b3)).toInt - (b0.toInt + b1.toInt) := by
    rw [Int32.toInt_sub, q1, Jvm.Kit.bmod32 (by omega) (by omega)]
  have e8s : (b2 - Int32.ofInt 1).toInt = b2.toInt - 1 := by
    rw [Int32.toInt_sub, show (Int32.ofInt 1).toInt = 1 from rfl, Jvm.Kit.bmod32 (by omega) (by omega)]
  replace g0 := y_gpr (i := 3) (w := .int ((h - h / (b0 + b1 + b2 + b3) * (b0 + b1 + b2 + b3)) - (b0 + b1))) g0 (by decide)
  replace g1 := y_gpi (i := 3) (w := .int ((h - h / (b0 + b1 + b2 + b3) * (b0 + b1 + b2 + b3)) - (b0 + b1))) g1 (by decide)
  refine y_iln (e_191 (64, .iload_n 3, 1) (List.mem_of_getElem? (i := 40) rfl)) x_get_self ?_
  refine y_st (e_191 (65, .iconst 0, 1) (List.mem_of_getElem? (i := 41) rfl)) ⟨rfl, rfl, rfl, rfl⟩ ?_
  refine y_aln (e_191 (66, .aload_n 0, 1) (List.mem_of_getElem? (i := 42) rfl)) g0 ?_
  refine y_getf hI ta (e_191 (67, .getfield 33, 3) (List.mem_of_getElem? (i := 43) rfl)) u_17_33 ⟨rfl, rfl⟩ h6 ?_
  refine y_st (e_191 (70, .bipush 8, 2) (List.mem_of_getElem? (i := 44) rfl)) ⟨rfl, rfl, rfl, rfl⟩ ?_
  refine y_iald hI ts (e_191 (72, .iaload, 1) (List.mem_of_getElem? (i := 45) rfl)) ⟨rfl, rfl⟩ (by decide) e8 ?_
  refine y_st (e_191 (73, .iconst 1, 1) (List.mem_of_getElem? (i := 46) rfl)) ⟨rfl, rfl, rfl, rfl⟩ ?_
  refine y_st (e_191 (74, .isub, 1) (List.mem_of_getElem? (i := 47) rfl)) ⟨rfl, rfl, rfl, rfl⟩ ?_
  refine y_c3 (K' := _) (e_191 (75, .invokestatic 173, 3) (List.mem_of_getElem? (i := 48) rfl)) ⟨rfl, rfl, rfl⟩ t_17_173 ⟨by decide, by decide, by decide, by decide⟩ m_174_ok rfl (by decide) rfl (Nat.le_of_ble_eq_true rfl) (Nat.le_of_ble_eq_true rfl) z_isIn (fun r2 G2 h2 => ?_)
  obtain ⟨rfl, h2⟩ := h2
  rcases h2 with ⟨rfl, w0, w1⟩ | ⟨rfl, hno⟩
  rotate_left
  · simp only [Option.toList_some, Option.toList_none, List.cons_append, List.nil_append]
    rw [show (Int32.ofInt 0).toInt = 0 from rfl] at hno
    refine y_ifc (e_191 (78, .ifCond .eq 15, 3) (List.mem_of_getElem? (i := 49) rfl)) rfl (fun _ => ?_) (fun z => absurd z (by decide))
    refine y_st (e_191 (93, .iconst 0, 1) (List.mem_of_getElem? (i := 56) rfl)) ⟨rfl, rfl, rfl, rfl⟩ ?_
    exact y_ret (e_191 (94, .ireturn, 1) (List.mem_of_getElem? (i := 57) rfl)) ⟨rfl, y_ri⟩ ⟨by unfold z_ar; rw [if_neg nH, if_neg (by omega), if_neg (fun z => hno ⟨by omega, by omega⟩)], rfl⟩
  simp only [Option.toList_some, Option.toList_none, List.cons_append, List.nil_append]
  rw [show (Int32.ofInt 0).toInt = 0 from rfl] at w0
  refine y_ifc (e_191 (78, .ifCond .eq 15, 3) (List.mem_of_getElem? (i := 49) rfl)) rfl (fun z => absurd z (by decide)) (fun _ => ?_)
  refine y_iln (e_191 (81, .iload_n 1, 1) (List.mem_of_getElem? (i := 50) rfl)) g1 ?_
  refine y_ifc (e_191 (82, .ifCond .ne 7, 3) (List.mem_of_getElem? (i := 51) rfl)) rfl (fun hc => ?_) (fun hc => ?_)
  · have hv := y_hI.2.2.1 hc
    refine y_st (e_191 (89, .iconst 1, 1) (List.mem_of_getElem? (i := 54) rfl)) ⟨rfl, rfl, rfl, rfl⟩ ?_
    refine y_st (e_191 (90, .goto 4, 3) (List.mem_of_getElem? (i := 55) rfl)) ⟨rfl, rfl, rfl, rfl⟩ ?_
    exact y_ret (e_191 (94, .ireturn, 1) (List.mem_of_getElem? (i := 57) rfl)) ⟨rfl, y_ri⟩ ⟨by unfold z_ar; rw [if_neg nH, if_neg (by omega), if_pos ⟨by omega, by omega⟩, if_neg hv], rfl⟩
  · have hv := y_hI.2.2.2.1 hc
    refine y_st (e_191 (85, .iconst 2, 1) (List.mem_of_getElem? (i := 52) rfl)) ⟨rfl, rfl, rfl, rfl⟩ ?_
    refine y_st (e_191 (86, .goto 8, 3) (List.mem_of_getElem? (i := 53) rfl)) ⟨rfl, rfl, rfl, rfl⟩ ?_
    exact y_ret (e_191 (94, .ireturn, 1) (List.mem_of_getElem? (i := 57) rfl)) ⟨rfl, y_ri⟩ ⟨by unfold z_ar; rw [if_neg nH, if_neg (by omega), if_pos ⟨by omega, by omega⟩, if_pos hv], rfl⟩
set_option maxHeartbeats 2000000 in
set_option maxRecDepth 100000 in
theorem zn_air (hI : xI x_tb th0 G) (h6 : x_sl G 349 6 = some (.ref 351)) {b0 b1 b2 b3 H : Int32} (s6 : x_sl G 351 6 = some (.int b0)) (s7 : x_sl G 351 7 = some (.int b1)) (s8 : x_sl G 351 8 = some (.int b2)) (s9 : x_sl G 351 9 = some (.int b3)) (s12 : x_sl G 351 12 = some (.int H)) (hb : z_br b0 b1 b2 b3) (x1 x2 : Int32) : x_Gd xs L J (d + 2) m_190 (fun r _ => z_ai (x_sl G 351) x1 x2 r) 0 (lv_args 0 [.ref 349, .int x1, .int x2]) [] G := by
  have ta : th0[349]? = some 10 := by decide +kernel
  have ts : th0[351]? = some 36 := by decide +kernel
  have g0 : pm_get (lv_args 0 [.ref 349, .int x1, .int x2]) 0 = some (.ref 349) := rfl
  have g1 : pm_get (lv_args 0 [.ref 349, .int x1, .int x2]) 1 = some (.int x1) := rfl
  have g2 : pm_get (lv_args 0 [.ref 349, .int x1, .int x2]) 2 = some (.int x2) := rfl
  generalize lv_args 0 [.ref 349, .int x1, .int x2] = lv at g0 g1 g2 ⊢
  refine y_aln (e_190 (0, .aload_n 0, 1) (List.mem_of_getElem? (i := 0) rfl)) g0 ?_
  refine y_st (e_190 (1, .iconst 0, 1) (List.mem_of_getElem? (i := 1) rfl)) ⟨rfl, rfl, rfl, rfl⟩ ?_
  refine y_putf (f := (0, -2147483648, 2147483647)) hI ta (e_190 (2, .putfield 1, 3) (List.mem_of_getElem? (i := 2) rfl)) u_17_1 ⟨rfl, rfl, by decide, rfl, rfl⟩ ⟨_, rfl, (x_i32 _).1, (x_i32 _).2⟩ (fun G1 u1 => ?_)
  have hI1 := hI.upd u1 ta (y_okA rfl)
  have h61 : x_sl G1 349 6 = some (.ref 351) := by rw [u1.2.1, if_neg (fun z => absurd z.2 (by decide))]; exact h6
  have e1 : ∀ i, x_sl G1 351 i = x_sl G 351 i := fun i => by rw [u1.2.1, if_neg (fun z => absurd z.1 (by decide))]
  refine y_iln (e_190 (5, .iload_n 1, 1) (List.mem_of_getElem? (i := 3) rfl)) g1 ?_
  refine y_st (e_190 (6, .iconst 0, 1) (List.mem_of_getElem? (i := 4) rfl)) ⟨rfl, rfl, rfl, rfl⟩ ?_
  refine y_st (e_190 (7, .iconst 1, 1) (List.mem_of_getElem? (i := 5) rfl)) ⟨rfl, rfl, rfl, rfl⟩ ?_
  refine y_c3 (K' := _) (e_190 (8, .invokestatic 173, 3) (List.mem_of_getElem? (i := 6) rfl)) ⟨rfl, rfl, rfl⟩ t_17_173 ⟨by decide, by decide, by decide, by decide⟩ m_174_ok rfl (by decide) rfl (Nat.le_of_ble_eq_true rfl) (Nat.le_of_ble_eq_true rfl) z_isIn (fun r1 G2 h1 => ?_)
  obtain ⟨rfl, h1⟩ := h1
  rcases h1 with ⟨rfl, v0, v1⟩ | ⟨rfl, hno⟩
  rotate_left
  · simp only [Option.toList_some, Option.toList_none, List.cons_append, List.nil_append]
    rw [show (Int32.ofInt 0).toInt = 0 from rfl, show (Int32.ofInt 1).toInt = 1 from rfl] at hno
    refine y_ifc (e_190 (11, .ifCond .eq 23, 3) (List.mem_of_getElem? (i := 7) rfl)) rfl (fun _ => ?_) (fun z => absurd z (by decide))
    refine y_st (e_190 (34, .iconst (-1), 1) (List.mem_of_getElem? (i := 18) rfl)) ⟨rfl, rfl, rfl, rfl⟩ ?_
    exact y_ret (e_190 (35, .ireturn, 1) (List.mem_of_getElem? (i := 19) rfl)) ⟨rfl, y_ri⟩ ⟨b0, b1, b2, b3, H, s6, s7, s8, s9, s12, by unfold z_av; rw [if_neg (fun z => hno (by rcases z.1 with rfl | rfl <;> decide))]⟩
  simp only [Option.toList_some, Option.toList_none, List.cons_append, List.nil_append]
  rw [show (Int32.ofInt 0).toInt = 0 from rfl] at v0
  rw [show (Int32.ofInt 1).toInt = 1 from rfl] at v1
  refine y_ifc (e_190 (11, .ifCond .eq 23, 3) (List.mem_of_getElem? (i := 7) rfl)) rfl (fun z => absurd z (by decide)) (fun _ => ?_)
  refine y_iln (e_190 (14, .iload_n 2, 1) (List.mem_of_getElem? (i := 8) rfl)) g2 ?_
  refine y_st (e_190 (15, .iconst 0, 1) (List.mem_of_getElem? (i := 9) rfl)) ⟨rfl, rfl, rfl, rfl⟩ ?_
  refine y_st (e_190 (16, .sipush 999, 3) (List.mem_of_getElem? (i := 10) rfl)) ⟨rfl, rfl, rfl, rfl⟩ ?_
  refine y_c3 (K' := _) (e_190 (19, .invokestatic 173, 3) (List.mem_of_getElem? (i := 11) rfl)) ⟨rfl, rfl, rfl⟩ t_17_173 ⟨by decide, by decide, by decide, by decide⟩ m_174_ok rfl (by decide) rfl (Nat.le_of_ble_eq_true rfl) (Nat.le_of_ble_eq_true rfl) z_isIn (fun r1 G2 h1 => ?_)
  obtain ⟨rfl, h1⟩ := h1
  rcases h1 with ⟨rfl, k0, k1⟩ | ⟨rfl, hno⟩
  rotate_left
  · simp only [Option.toList_some, Option.toList_none, List.cons_append, List.nil_append]
    rw [show (Int32.ofInt 0).toInt = 0 from rfl, show ((Int16.ofInt 999).toInt32).toInt = 999 by decide] at hno
    refine y_ifc (e_190 (22, .ifCond .eq 12, 3) (List.mem_of_getElem? (i := 12) rfl)) rfl (fun _ => ?_) (fun z => absurd z (by decide))
    refine y_st (e_190 (34, .iconst (-1), 1) (List.mem_of_getElem? (i := 18) rfl)) ⟨rfl, rfl, rfl, rfl⟩ ?_
    exact y_ret (e_190 (35, .ireturn, 1) (List.mem_of_getElem? (i := 19) rfl)) ⟨rfl, y_ri⟩ ⟨b0, b1, b2, b3, H, s6, s7, s8, s9, s12, by unfold z_av; rw [if_neg (fun z => hno z.2)]⟩
  simp only [Option.toList_some, Option.toList_none, List.cons_append, List.nil_append]
  rw [show (Int32.ofInt 0).toInt = 0 from rfl] at k0
  rw [show ((Int16.ofInt 999).toInt32).toInt = 999 by decide] at k1
  refine y_ifc (e_190 (22, .ifCond .eq 12, 3) (List.mem_of_getElem? (i := 12) rfl)) rfl (fun z => absurd z (by decide)) (fun _ => ?_)
  refine y_aln (e_190 (25, .aload_n 0, 1) (List.mem_of_getElem? (i := 13) rfl)) g0 ?_
  refine y_iln (e_190 (26, .iload_n 1, 1) (List.mem_of_getElem? (i := 14) rfl)) g1 ?_
  refine y_iln (e_190 (27, .iload_n 2, 1) (List.mem_of_getElem? (i := 15) rfl)) g2 ?_
  refine y_c3 (K' := _) (e_190 (28, .invokevirtual 245, 3) (List.mem_of_getElem? (i := 16) rfl)) ⟨rfl, rfl, rfl⟩ t_17_245 ⟨by decide, by decide, by decide, by decide⟩ m_191_ok rfl (by decide) (y_recv hI1 ta ⟨rfl, rfl⟩) (Nat.le_of_ble_eq_true rfl) (Nat.le_of_ble_eq_true rfl) (z_aro (d := d) hI1 ta ts h61 ((e1 6).trans s6) ((e1 7).trans s7) ((e1 8).trans s8) ((e1 9).trans s9) ((e1 12).trans s12) hb k0 k1) (fun r2 G3 h2 => ?_)
  obtain ⟨rfl, rfl⟩ := h2
  simp only [Option.toList_some, Option.toList_none, List.cons_append, List.nil_append]
  refine y_st (e_190 (31, .goto 4, 3) (List.mem_of_getElem? (i := 17) rfl)) ⟨rfl, rfl, rfl, rfl⟩ ?_
  refine y_ret (e_190 (35, .ireturn, 1) (List.mem_of_getElem? (i := 19) rfl)) ⟨rfl, y_ri⟩ ⟨b0, b1, b2, b3, H, s6, s7, s8, s9, s12, ?_⟩
  unfold z_av
  have hv : x1 = 0 ∨ x1 = 1 := by
    rcases (show x1.toInt = 0 ∨ x1.toInt = 1 by omega) with z | z
    · exact Or.inl (Int32.toInt_inj.mp z)
    · exact Or.inr (Int32.toInt_inj.mp z)
  rw [if_pos ⟨hv, k0, k1⟩]
end AI
