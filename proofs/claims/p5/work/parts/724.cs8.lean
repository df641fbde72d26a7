def m_37 : pM := (⟨"BreathingHill$LandReader", "readMill", "(LBreathingHill$Tape;LBreathingHill$Hill;)Z"⟩, 641, 4, some (FieldType.boolean), 3, 2, false, 2, 95, 640, 4)
set_option maxRecDepth 100000 in
theorem m_37_ok : pm_tab[37]? = some m_37 := rfl
theorem e_37 : ∀ q ∈ d_37, decode m_37.code q.1 = .ok (q.2.1, q.2.2) := y_dec d_37_ok m_37_ok
def m_38 : pM := (⟨"BreathingHill$LandReader", "readMan", "(LBreathingHill$Tape;LBreathingHill$Hill;)Z"⟩, 647, 4, some (FieldType.boolean), 3, 2, false, 2, 95, 646, 5)
set_option maxRecDepth 100000 in
theorem m_38_ok : pm_tab[38]? = some m_38 := rfl
theorem e_38 : ∀ q ∈ d_38, decode m_38.code q.1 = .ok (q.2.1, q.2.2) := y_dec d_38_ok m_38_ok
theorem u_3_201 : pm_ftab.find? (fun r => r.1 == 3 && r.2.1 == 201) = some (3, 201, 5, 0, 1, 310) := by decide +kernel
theorem u_3_204 : pm_ftab.find? (fun r => r.1 == 3 && r.2.1 == 204) = some (3, 204, 5, 1, 1, 313) := by decide +kernel
theorem u_3_207 : pm_ftab.find? (fun r => r.1 == 3 && r.2.1 == 207) = some (3, 207, 5, 2, 1, 316) := by decide +kernel
theorem u_3_210 : pm_ftab.find? (fun r => r.1 == 3 && r.2.1 == 210) = some (3, 210, 5, 3, 1, 319) := by decide +kernel
theorem u_3_217 : pm_ftab.find? (fun r => r.1 == 3 && r.2.1 == 217) = some (3, 217, 4, 0, 1, 336) := by decide +kernel
theorem u_3_220 : pm_ftab.find? (fun r => r.1 == 3 && r.2.1 == 220) = some (3, 220, 4, 1, 1, 340) := by decide +kernel
theorem u_3_221 : pm_ftab.find? (fun r => r.1 == 3 && r.2.1 == 221) = some (3, 221, 4, 2, 1, 343) := by decide +kernel
theorem u_3_222 : pm_ftab.find? (fun r => r.1 == 3 && r.2.1 == 222) = some (3, 222, 4, 3, 1, 347) := by decide +kernel
theorem u_3_197 : pm_ftab.find? (fun r => r.1 == 3 && r.2.1 == 197) = some (3, 197, 0, 2, 1, 367) := by decide +kernel
theorem u_3_213 : pm_ftab.find? (fun r => r.1 == 3 && r.2.1 == 213) = some (3, 213, 0, 3, 1, 370) := by decide +kernel
theorem t_3_180 : pm_ctab.find? (fun r => r.1 == 3 && r.2.1 == 180) = some (3, 180, 1, 30, 605) := by decide +kernel
section CS8
variable {xs : Nat → Int32} {L J d : Nat} {K : Option Value → List pE → Prop} {f : Nat → Int32} {G G1 G' : List pE} {n lim ft fp : Int32} {lv : pL} {cc : Nat → Int32} {np nt nl nn oc : Int32} {ot : Nat → Nat} {tn ln mn : Nat → Int64} {nx0 pl0 num0 : Int32} {tk0 : Nat} {nm0 : Int64} {nx1 pl1 num1 : Int32} {tk1 : Nat} {nm1 : Int64} {nx2 pl2 num2 : Int32} {tk2 : Nat} {nm2 : Int64} {nx3 pl3 num3 : Int32} {tk3 : Nat} {nm3 : Int64} {nx4 pl4 num4 : Int32} {tk4 : Nat} {nm4 : Int64} {nx5 pl5 num5 : Int32} {tk5 : Nat} {nm5 : Int64} {nx6 pl6 num6 : Int32} {tk6 : Nat} {nm6 : Int64} {nx7 pl7 num7 : Int32} {tk7 : Nat} {nm7 : Int64} {nx8 pl8 num8 : Int32} {tk8 : Nat} {nm8 : Int64}
theorem t_trk_o {c i : Nat} (hc : 42 ≤ c) (hi : i ≠ 0) : t_trk c i = false := by
  unfold t_trk
  have e : ∀ j, j < 42 → (c == j) = false := fun j hj => beq_eq_false_iff_ne.mpr (by omega)
  rw [e 3 (by decide), e 5 (by decide), e 32 (by decide), e 33 (by decide), e 34 (by decide), e 35 (by decide), e 36 (by decide), e 37 (by decide), e 38 (by decide), e 39 (by decide), e 40 (by decide), e 41 (by decide), show (i == 0) = false from beq_eq_false_iff_ne.mpr hi]
  simp
theorem c_Told_ln {v w : Int64} (l0 : 0 ≤ nl.toInt) : c_Told nt nl nn tn (fun j => if j = nl.toInt.toNat then v else ln j) mn w ↔ c_Told nt nl nn tn ln mn w := by
  have e : ∀ i : Nat, (i : Int) < nl.toInt → (if i = nl.toInt.toNat then v else ln i) = ln i := fun i hi => if_neg (by omega)
  unfold c_Told
  constructor
  · rintro (⟨i, i1, i2⟩ | z)
    · exact Or.inl ⟨i, i1, by rw [← e i i1]; exact i2⟩
    · exact Or.inr z
  · rintro (⟨i, i1, i2⟩ | z)
    · exact Or.inl ⟨i, i1, by dsimp only; rw [e i i1]; exact i2⟩
    · exact Or.inr z
theorem c_Told_mn {v w : Int64} (l0 : 0 ≤ nn.toInt) : c_Told nt nl nn tn ln (fun j => if j = nn.toInt.toNat then v else mn j) w ↔ c_Told nt nl nn tn ln mn w := by
  have e : ∀ i : Nat, (i : Int) < nn.toInt → (if i = nn.toInt.toNat then v else mn i) = mn i := fun i hi => if_neg (by omega)
  unfold c_Told
  constructor
  · rintro (z | z | ⟨i, i1, i2⟩)
    · exact Or.inl z
    · exact Or.inr (Or.inl z)
    · exact Or.inr (Or.inr ⟨i, i1, by rw [← e i i1]; exact i2⟩)
  · rintro (z | z | ⟨i, i1, i2⟩)
    · exact Or.inl z
    · exact Or.inr (Or.inl z)
    · exact Or.inr (Or.inr ⟨i, i1, by dsimp only; rw [e i i1]; exact i2⟩)
theorem c_Told_tn {v w : Int64} (l0 : 0 ≤ nt.toInt) : c_Told nt nl nn (fun j => if j = nt.toInt.toNat then v else tn j) ln mn w ↔ c_Told nt nl nn tn ln mn w := by
  have e : ∀ i : Nat, (i : Int) < nt.toInt → (if i = nt.toInt.toNat then v else tn i) = tn i := fun i hi => if_neg (by omega)
  unfold c_Told
  constructor
  · rintro (z | ⟨i, i1, i2⟩ | z)
    · exact Or.inl z
    · exact Or.inr (Or.inl ⟨i, i1, by rw [← e i i1]; exact i2⟩)
    · exact Or.inr (Or.inr z)
  · rintro (z | ⟨i, i1, i2⟩ | z)
    · exact Or.inl z
    · exact Or.inr (Or.inl ⟨i, i1, by dsimp only; rw [e i i1]; exact i2⟩)
    · exact Or.inr (Or.inr z)
set_option maxHeartbeats 2000000 in
set_option maxRecDepth 100000 in
theorem c_mill_0 (h : CS f n lim nx0 tk0 pl0 num0 nm0 ft fp cc np nt nl nn oc ot tn ln mn G) (hcn : 4 ≤ nl.toInt) : x_Gd xs L J (d + 2) m_37 (fun r G' => r = some (.int 0) ∧ x_sl G' 1 9 = some (.int pl0) ∧ x_sl G' 1 8 = some (.int (Int32.ofInt 4))) 0 (lv_args 0 [.ref 3, .ref 1, .ref 32]) [] G := by
  have g0 : pm_get (lv_args 0 [.ref 3, .ref 1, .ref 32]) 0 = some (.ref 3) := rfl
  have g1 : pm_get (lv_args 0 [.ref 3, .ref 1, .ref 32]) 1 = some (.ref 1) := rfl
  have g2 : pm_get (lv_args 0 [.ref 3, .ref 1, .ref 32]) 2 = some (.ref 32) := rfl
  generalize (lv_args 0 [.ref 3, .ref 1, .ref 32]) = lv at g0 g1 g2 ⊢
  obtain ⟨⟨t0, t1⟩, ⟨l0, l1⟩, ⟨m0, m1⟩, -, -⟩ := h.cn
  refine y_aln (e_37 (0, .aload_n 2, 1) (List.mem_of_getElem? (i := 0) rfl)) g2 ?_
  refine y_getf h.1.I th0_p.2.2.2.2.2.1 (e_37 (1, .getfield 126, 3) (List.mem_of_getElem? (i := 1) rfl)) u_3_126 ⟨rfl, rfl⟩ h.2.a32_5 ?_
  refine y_st (e_37 (4, .iconst 4, 1) (List.mem_of_getElem? (i := 2) rfl)) ⟨rfl, rfl, rfl, rfl⟩ ?_
  refine y_icm (e_37 (5, .if_icmp .lt 9, 3) (List.mem_of_getElem? (i := 3) rfl)) rfl (fun hc => ?_) (fun _ => ?_)
  · have z := y_hI.2.2.2.2.2.2.2.2.1 hc
    rw [show (Int32.ofInt 4).toInt = 4 from rfl] at z
    omega
  refine y_aln (e_37 (8, .aload_n 1, 1) (List.mem_of_getElem? (i := 4) rfl)) g1 ?_
  refine y_st (e_37 (9, .iconst 4, 1) (List.mem_of_getElem? (i := 5) rfl)) ⟨rfl, rfl, rfl, rfl⟩ ?_
  refine y_c2 (K' := _) (e_37 (10, .invokevirtual 116, 3) (List.mem_of_getElem? (i := 6) rfl)) ⟨rfl, rfl, rfl⟩ t_3_116 ⟨by decide, by decide, by decide, by decide⟩ m_27_ok rfl (by decide) (y_recv h.1.I h.1.t ⟨rfl, rfl⟩) (Nat.le_of_ble_eq_true rfl) (Nat.le_of_ble_eq_true rfl) (k_refuse h.1 _) (fun r1 Gc hc1 => ?_)
  obtain ⟨rfl, hc2⟩ := hc1
  simp only [Option.toList_some, Option.toList_none, List.cons_append, List.nil_append]
  exact y_ret (e_37 (13, .ireturn, 1) (List.mem_of_getElem? (i := 7) rfl)) ⟨rfl, y_rb (Or.inl rfl)⟩ ⟨rfl, hc2.s9, hc2.s8⟩
set_option maxHeartbeats 2000000 in
set_option maxRecDepth 100000 in
theorem c_mill_a (h : CS f n lim nx0 tk0 pl0 num0 nm0 ft fp cc np nt nl nn oc ot tn ln mn G) (hcn : nl.toInt < 4) (hN1 : NXc f n lim nx0 num0 nm0 nx1 tk1 pl1 num1 nm1) (hno : tk1 ≠ 3 ∨ c_Told nt nl nn tn ln mn nm1) : x_Gd xs L J (d + 3) m_37 (fun r G' => r = some (.int 0) ∧ x_sl G' 1 9 = some (.int pl1) ∧ x_sl G' 1 8 = some (.int (t_kn tk1))) 0 (lv_args 0 [.ref 3, .ref 1, .ref 32]) [] G := by
  have g0 : pm_get (lv_args 0 [.ref 3, .ref 1, .ref 32]) 0 = some (.ref 3) := rfl
  have g1 : pm_get (lv_args 0 [.ref 3, .ref 1, .ref 32]) 1 = some (.ref 1) := rfl
  have g2 : pm_get (lv_args 0 [.ref 3, .ref 1, .ref 32]) 2 = some (.ref 32) := rfl
  generalize (lv_args 0 [.ref 3, .ref 1, .ref 32]) = lv at g0 g1 g2 ⊢
  obtain ⟨⟨t0, t1⟩, ⟨l0, l1⟩, ⟨m0, m1⟩, -, -⟩ := h.cn
  refine y_aln (e_37 (0, .aload_n 2, 1) (List.mem_of_getElem? (i := 0) rfl)) g2 ?_
  refine y_getf h.1.I th0_p.2.2.2.2.2.1 (e_37 (1, .getfield 126, 3) (List.mem_of_getElem? (i := 1) rfl)) u_3_126 ⟨rfl, rfl⟩ h.2.a32_5 ?_
  refine y_st (e_37 (4, .iconst 4, 1) (List.mem_of_getElem? (i := 2) rfl)) ⟨rfl, rfl, rfl, rfl⟩ ?_
  refine y_icm (e_37 (5, .if_icmp .lt 9, 3) (List.mem_of_getElem? (i := 3) rfl)) rfl (fun _ => ?_) (fun hc => ?_)
  rotate_left
  · have z := y_hI.2.2.2.2.2.2.2.2.2.1 hc
    rw [show (Int32.ofInt 4).toInt = 4 from rfl] at z
    omega
  refine y_aln (e_37 (14, .aload_n 2, 1) (List.mem_of_getElem? (i := 8) rfl)) g2 ?_
  refine y_getf h.1.I th0_p.2.2.2.2.2.1 (e_37 (15, .getfield 197, 3) (List.mem_of_getElem? (i := 9) rfl)) u_3_197 ⟨rfl, rfl⟩ h.2.a32_2 ?_
  refine y_aln (e_37 (18, .aload_n 2, 1) (List.mem_of_getElem? (i := 10) rfl)) g2 ?_
  refine y_getf h.1.I th0_p.2.2.2.2.2.1 (e_37 (19, .getfield 126, 3) (List.mem_of_getElem? (i := 11) rfl)) u_3_126 ⟨rfl, rfl⟩ h.2.a32_5 ?_
  refine y_aald h.1.I th0_p.2.2.2.2.2.2.2.2.2.2.2.2.2.1 (e_37 (22, .aaload, 1) (List.mem_of_getElem? (i := 12) rfl)) ⟨rfl, by decide⟩ ⟨by omega, by show _ < (4 : Int); omega⟩ (h.2.fla nl.toInt.toNat (by omega)) ?_
  refine y_asn (e_37 (23, .astore_n 3, 1) (List.mem_of_getElem? (i := 13) rfl)) (by decide) ?_
  have g3 : pm_get (pm_put1 lv 3 (.ref (50 + nl.toInt.toNat))) 3 = some (.ref (50 + nl.toInt.toNat)) := x_get_self
  have g0 : pm_get (pm_put1 lv 3 (.ref (50 + nl.toInt.toNat))) 0 = some (.ref 3) := y_gpr g0 (by decide)
  have g1 : pm_get (pm_put1 lv 3 (.ref (50 + nl.toInt.toNat))) 1 = some (.ref 1) := y_gpr g1 (by decide)
  have g2 : pm_get (pm_put1 lv 3 (.ref (50 + nl.toInt.toNat))) 2 = some (.ref 32) := y_gpr g2 (by decide)
  show x_Gd xs L J _ m_37 _ 24 (pm_put1 lv 3 (.ref (50 + nl.toInt.toNat))) [] G
  generalize pm_put1 lv 3 (.ref (50 + nl.toInt.toNat)) = lv3 at g0 g1 g2 g3 ⊢
  refine y_aln (e_37 (24, .aload_n 1, 1) (List.mem_of_getElem? (i := 14) rfl)) g1 ?_
  refine y_c1 (K' := _) (e_37 (25, .invokevirtual 120, 3) (List.mem_of_getElem? (i := 15) rfl)) ⟨rfl, rfl, rfl⟩ t_3_120 ⟨by decide, by decide, by decide, by decide⟩ m_21_ok rfl (by decide) (y_recv h.1.I h.1.t ⟨rfl, rfl⟩) (Nat.le_of_ble_eq_true rfl) (Nat.le_of_ble_eq_true rfl) (hN1 _ _ _ _ _ _ _ _ _ _ _ _ _ h.1) (fun r1 Gc hc1 => ?_)
  obtain ⟨rfl, hc2⟩ := hc1
  simp only [Option.toList_some, Option.toList_none, List.cons_append, List.nil_append]
  have w1 := h.nxt hc2
  have te := th0_n.2.1 nl.toInt.toNat (by omega)
  refine y_aln (e_37 (28, .aload_n 3, 1) (List.mem_of_getElem? (i := 16) rfl)) g3 ?_
  refine y_aln (e_37 (29, .aload_n 1, 1) (List.mem_of_getElem? (i := 17) rfl)) g1 ?_
  refine y_getf w1.1.I w1.1.t (e_37 (30, .getfield 173, 3) (List.mem_of_getElem? (i := 18) rfl)) u_3_173 ⟨rfl, rfl⟩ w1.1.s7 ?_
  refine y_putf (f := (1, 0, 0)) w1.1.I te (e_37 (33, .putfield 201, 3) (List.mem_of_getElem? (i := 19) rfl)) u_3_201 ⟨rfl, rfl, by decide, rfl, rfl⟩ ⟨_, rfl⟩ (fun Gp up => ?_)
  have w2 : CS f n lim nx1 tk1 pl1 num1 nm1 ft fp cc np nt nl nn oc ot tn (fun j => if j = nl.toInt.toNat then nm1 else ln j) mn Gp := ⟨w1.1.other up (by omega) (by omega) (w1.1.I.upd up te (y_okL rfl)), w1.2.uln (k := nl.toInt.toNat) (by omega) (fun c i => by rw [up.2.1])⟩
  refine y_aln (e_37 (36, .aload_n 0, 1) (List.mem_of_getElem? (i := 20) rfl)) g0 ?_
  refine y_aln (e_37 (37, .aload_n 1, 1) (List.mem_of_getElem? (i := 21) rfl)) g1 ?_
  refine y_aln (e_37 (38, .aload_n 2, 1) (List.mem_of_getElem? (i := 22) rfl)) g2 ?_
  refine y_c3 (K' := _) (e_37 (39, .invokevirtual 180, 3) (List.mem_of_getElem? (i := 23) rfl)) ⟨rfl, rfl, rfl⟩ t_3_180 ⟨by decide, by decide, by decide, by decide⟩ m_30_ok rfl (by decide) (y_recv w2.1.I th0_p.2.2.1 ⟨rfl, rfl⟩) (Nat.le_of_ble_eq_true rfl) (Nat.le_of_ble_eq_true rfl) (k_nac_a w2 (hno.imp id (c_Told_ln (by omega)).mpr)) (fun r1 Gc hc1 => ?_)
  obtain ⟨rfl, hz⟩ := hc1
  simp only [Option.toList_some, Option.toList_none, List.cons_append, List.nil_append]
  refine y_ifc (e_37 (42, .ifCond .ne 5, 3) (List.mem_of_getElem? (i := 24) rfl)) rfl (fun hc => absurd hc (by decide)) (fun _ => ?_)
  refine y_st (e_37 (45, .iconst 0, 1) (List.mem_of_getElem? (i := 25) rfl)) ⟨rfl, rfl, rfl, rfl⟩ ?_
  exact y_ret (e_37 (46, .ireturn, 1) (List.mem_of_getElem? (i := 26) rfl)) ⟨rfl, y_rb (Or.inl rfl)⟩ ⟨rfl, hz⟩
set_option maxHeartbeats 2000000 in
set_option maxRecDepth 100000 in
theorem c_mill_b (h : CS f n lim nx0 tk0 pl0 num0 nm0 ft fp cc np nt nl nn oc ot tn ln mn G) (hcn : nl.toInt < 4) (hN1 : NXc f n lim nx0 num0 nm0 nx1 tk1 pl1 num1 nm1) (htk1 : tk1 = 3) (hT : ¬ c_Told nt nl nn tn ln mn nm1) (hN2 : NXc f n lim nx1 num1 nm1 nx2 tk2 pl2 num2 nm2) (hno : tk2 ≠ 2 ∨ num2.toInt < 0 ∨ 1 < num2.toInt) : x_Gd xs L J (d + 4) m_37 (fun r G' => r = some (.int 0) ∧ x_sl G' 1 9 = some (.int pl2) ∧ x_sl G' 1 8 = some (.int (t_kd tk2))) 0 (lv_args 0 [.ref 3, .ref 1, .ref 32]) [] G := by
  have g0 : pm_get (lv_args 0 [.ref 3, .ref 1, .ref 32]) 0 = some (.ref 3) := rfl
  have g1 : pm_get (lv_args 0 [.ref 3, .ref 1, .ref 32]) 1 = some (.ref 1) := rfl
  have g2 : pm_get (lv_args 0 [.ref 3, .ref 1, .ref 32]) 2 = some (.ref 32) := rfl
  generalize (lv_args 0 [.ref 3, .ref 1, .ref 32]) = lv at g0 g1 g2 ⊢
  obtain ⟨⟨t0, t1⟩, ⟨l0, l1⟩, ⟨m0, m1⟩, -, -⟩ := h.cn
  refine y_aln (e_37 (0, .aload_n 2, 1) (List.mem_of_getElem? (i := 0) rfl)) g2 ?_
  refine y_getf h.1.I th0_p.2.2.2.2.2.1 (e_37 (1, .getfield 126, 3) (List.mem_of_getElem? (i := 1) rfl)) u_3_126 ⟨rfl, rfl⟩ h.2.a32_5 ?_
  refine y_st (e_37 (4, .iconst 4, 1) (List.mem_of_getElem? (i := 2) rfl)) ⟨rfl, rfl, rfl, rfl⟩ ?_
  refine y_icm (e_37 (5, .if_icmp .lt 9, 3) (List.mem_of_getElem? (i := 3) rfl)) rfl (fun _ => ?_) (fun hc => ?_)
  rotate_left
  · have z := y_hI.2.2.2.2.2.2.2.2.2.1 hc
    rw [show (Int32.ofInt 4).toInt = 4 from rfl] at z
    omega
  refine y_aln (e_37 (14, .aload_n 2, 1) (List.mem_of_getElem? (i := 8) rfl)) g2 ?_
  refine y_getf h.1.I th0_p.2.2.2.2.2.1 (e_37 (15, .getfield 197, 3) (List.mem_of_getElem? (i := 9) rfl)) u_3_197 ⟨rfl, rfl⟩ h.2.a32_2 ?_
  refine y_aln (e_37 (18, .aload_n 2, 1) (List.mem_of_getElem? (i := 10) rfl)) g2 ?_
  refine y_getf h.1.I th0_p.2.2.2.2.2.1 (e_37 (19, .getfield 126, 3) (List.mem_of_getElem? (i := 11) rfl)) u_3_126 ⟨rfl, rfl⟩ h.2.a32_5 ?_
  refine y_aald h.1.I th0_p.2.2.2.2.2.2.2.2.2.2.2.2.2.1 (e_37 (22, .aaload, 1) (List.mem_of_getElem? (i := 12) rfl)) ⟨rfl, by decide⟩ ⟨by omega, by show _ < (4 : Int); omega⟩ (h.2.fla nl.toInt.toNat (by omega)) ?_
  refine y_asn (e_37 (23, .astore_n 3, 1) (List.mem_of_getElem? (i := 13) rfl)) (by decide) ?_
  have g3 : pm_get (pm_put1 lv 3 (.ref (50 + nl.toInt.toNat))) 3 = some (.ref (50 + nl.toInt.toNat)) := x_get_self
  have g0 : pm_get (pm_put1 lv 3 (.ref (50 + nl.toInt.toNat))) 0 = some (.ref 3) := y_gpr g0 (by decide)
  have g1 : pm_get (pm_put1 lv 3 (.ref (50 + nl.toInt.toNat))) 1 = some (.ref 1) := y_gpr g1 (by decide)
  have g2 : pm_get (pm_put1 lv 3 (.ref (50 + nl.toInt.toNat))) 2 = some (.ref 32) := y_gpr g2 (by decide)
  show x_Gd xs L J _ m_37 _ 24 (pm_put1 lv 3 (.ref (50 + nl.toInt.toNat))) [] G
  generalize pm_put1 lv 3 (.ref (50 + nl.toInt.toNat)) = lv3 at g0 g1 g2 g3 ⊢
  refine y_aln (e_37 (24, .aload_n 1, 1) (List.mem_of_getElem? (i := 14) rfl)) g1 ?_
  refine y_c1 (K' := _) (e_37 (25, .invokevirtual 120, 3) (List.mem_of_getElem? (i := 15) rfl)) ⟨rfl, rfl, rfl⟩ t_3_120 ⟨by decide, by decide, by decide, by decide⟩ m_21_ok rfl (by decide) (y_recv h.1.I h.1.t ⟨rfl, rfl⟩) (Nat.le_of_ble_eq_true rfl) (Nat.le_of_ble_eq_true rfl) (hN1 _ _ _ _ _ _ _ _ _ _ _ _ _ h.1) (fun r1 Gc hc1 => ?_)
  obtain ⟨rfl, hc2⟩ := hc1
  simp only [Option.toList_some, Option.toList_none, List.cons_append, List.nil_append]
  have w1 := h.nxt hc2
  have te := th0_n.2.1 nl.toInt.toNat (by omega)
  refine y_aln (e_37 (28, .aload_n 3, 1) (List.mem_of_getElem? (i := 16) rfl)) g3 ?_
  refine y_aln (e_37 (29, .aload_n 1, 1) (List.mem_of_getElem? (i := 17) rfl)) g1 ?_
  refine y_getf w1.1.I w1.1.t (e_37 (30, .getfield 173, 3) (List.mem_of_getElem? (i := 18) rfl)) u_3_173 ⟨rfl, rfl⟩ w1.1.s7 ?_
  refine y_putf (f := (1, 0, 0)) w1.1.I te (e_37 (33, .putfield 201, 3) (List.mem_of_getElem? (i := 19) rfl)) u_3_201 ⟨rfl, rfl, by decide, rfl, rfl⟩ ⟨_, rfl⟩ (fun Gp up => ?_)
  have w2 : CS f n lim nx1 tk1 pl1 num1 nm1 ft fp cc np nt nl nn oc ot tn (fun j => if j = nl.toInt.toNat then nm1 else ln j) mn Gp := ⟨w1.1.other up (by omega) (by omega) (w1.1.I.upd up te (y_okL rfl)), w1.2.uln (k := nl.toInt.toNat) (by omega) (fun c i => by rw [up.2.1])⟩
  refine y_aln (e_37 (36, .aload_n 0, 1) (List.mem_of_getElem? (i := 20) rfl)) g0 ?_
  refine y_aln (e_37 (37, .aload_n 1, 1) (List.mem_of_getElem? (i := 21) rfl)) g1 ?_
  refine y_aln (e_37 (38, .aload_n 2, 1) (List.mem_of_getElem? (i := 22) rfl)) g2 ?_
  refine y_c3 (K' := _) (e_37 (39, .invokevirtual 180, 3) (List.mem_of_getElem? (i := 23) rfl)) ⟨rfl, rfl, rfl⟩ t_3_180 ⟨by decide, by decide, by decide, by decide⟩ m_30_ok rfl (by decide) (y_recv w2.1.I th0_p.2.2.1 ⟨rfl, rfl⟩) (Nat.le_of_ble_eq_true rfl) (Nat.le_of_ble_eq_true rfl) (k_nac_b w2 htk1 (fun z => hT ((c_Told_ln (by omega)).mp z)) hN2 hno) (fun r1 Gc hc1 => ?_)
  obtain ⟨rfl, hz⟩ := hc1
  simp only [Option.toList_some, Option.toList_none, List.cons_append, List.nil_append]
  refine y_ifc (e_37 (42, .ifCond .ne 5, 3) (List.mem_of_getElem? (i := 24) rfl)) rfl (fun hc => absurd hc (by decide)) (fun _ => ?_)
  refine y_st (e_37 (45, .iconst 0, 1) (List.mem_of_getElem? (i := 25) rfl)) ⟨rfl, rfl, rfl, rfl⟩ ?_
  exact y_ret (e_37 (46, .ireturn, 1) (List.mem_of_getElem? (i := 26) rfl)) ⟨rfl, y_rb (Or.inl rfl)⟩ ⟨rfl, hz⟩
set_option maxHeartbeats 2000000 in
set_option maxRecDepth 100000 in
theorem c_mill_c (h : CS f n lim nx0 tk0 pl0 num0 nm0 ft fp cc np nt nl nn oc ot tn ln mn G) (hcn : nl.toInt < 4) (hN1 : NXc f n lim nx0 num0 nm0 nx1 tk1 pl1 num1 nm1) (htk1 : tk1 = 3) (hT : ¬ c_Told nt nl nn tn ln mn nm1) (hN2 : NXc f n lim nx1 num1 nm1 nx2 tk2 pl2 num2 nm2) (htk2 : tk2 = 2) (a2 : 0 ≤ num2.toInt) (b2 : num2.toInt ≤ 1) (hN3 : NXc f n lim nx2 num2 nm2 nx3 tk3 pl3 num3 nm3) (hno : tk3 ≠ 2 ∨ num3.toInt < 0 ∨ (cc num2.toInt.toNat - Int32.ofInt 1).toInt < num3.toInt) : x_Gd xs L J (d + 4) m_37 (fun r G' => r = some (.int 0) ∧ x_sl G' 1 9 = some (.int pl3) ∧ x_sl G' 1 8 = some (.int (t_kd tk3))) 0 (lv_args 0 [.ref 3, .ref 1, .ref 32]) [] G := by
  have g0 : pm_get (lv_args 0 [.ref 3, .ref 1, .ref 32]) 0 = some (.ref 3) := rfl
  have g1 : pm_get (lv_args 0 [.ref 3, .ref 1, .ref 32]) 1 = some (.ref 1) := rfl
  have g2 : pm_get (lv_args 0 [.ref 3, .ref 1, .ref 32]) 2 = some (.ref 32) := rfl
  generalize (lv_args 0 [.ref 3, .ref 1, .ref 32]) = lv at g0 g1 g2 ⊢
  obtain ⟨⟨t0, t1⟩, ⟨l0, l1⟩, ⟨m0, m1⟩, -, -⟩ := h.cn
  refine y_aln (e_37 (0, .aload_n 2, 1) (List.mem_of_getElem? (i := 0) rfl)) g2 ?_
  refine y_getf h.1.I th0_p.2.2.2.2.2.1 (e_37 (1, .getfield 126, 3) (List.mem_of_getElem? (i := 1) rfl)) u_3_126 ⟨rfl, rfl⟩ h.2.a32_5 ?_
  refine y_st (e_37 (4, .iconst 4, 1) (List.mem_of_getElem? (i := 2) rfl)) ⟨rfl, rfl, rfl, rfl⟩ ?_
  refine y_icm (e_37 (5, .if_icmp .lt 9, 3) (List.mem_of_getElem? (i := 3) rfl)) rfl (fun _ => ?_) (fun hc => ?_)
  rotate_left
  · have z := y_hI.2.2.2.2.2.2.2.2.2.1 hc
    rw [show (Int32.ofInt 4).toInt = 4 from rfl] at z
    omega
  refine y_aln (e_37 (14, .aload_n 2, 1) (List.mem_of_getElem? (i := 8) rfl)) g2 ?_
  refine y_getf h.1.I th0_p.2.2.2.2.2.1 (e_37 (15, .getfield 197, 3) (List.mem_of_getElem? (i := 9) rfl)) u_3_197 ⟨rfl, rfl⟩ h.2.a32_2 ?_
  refine y_aln (e_37 (18, .aload_n 2, 1) (List.mem_of_getElem? (i := 10) rfl)) g2 ?_
  refine y_getf h.1.I th0_p.2.2.2.2.2.1 (e_37 (19, .getfield 126, 3) (List.mem_of_getElem? (i := 11) rfl)) u_3_126 ⟨rfl, rfl⟩ h.2.a32_5 ?_
  refine y_aald h.1.I th0_p.2.2.2.2.2.2.2.2.2.2.2.2.2.1 (e_37 (22, .aaload, 1) (List.mem_of_getElem? (i := 12) rfl)) ⟨rfl, by decide⟩ ⟨by omega, by show _ < (4 : Int); omega⟩ (h.2.fla nl.toInt.toNat (by omega)) ?_
  refine y_asn (e_37 (23, .astore_n 3, 1) (List.mem_of_getElem? (i := 13) rfl)) (by decide) ?_
  have g3 : pm_get (pm_put1 lv 3 (.ref (50 + nl.toInt.toNat))) 3 = some (.ref (50 + nl.toInt.toNat)) := x_get_self
  have g0 : pm_get (pm_put1 lv 3 (.ref (50 + nl.toInt.toNat))) 0 = some (.ref 3) := y_gpr g0 (by decide)
  have g1 : pm_get (pm_put1 lv 3 (.ref (50 + nl.toInt.toNat))) 1 = some (.ref 1) := y_gpr g1 (by decide)
  have g2 : pm_get (pm_put1 lv 3 (.ref (50 + nl.toInt.toNat))) 2 = some (.ref 32) := y_gpr g2 (by decide)
  show x_Gd xs L J _ m_37 _ 24 (pm_put1 lv 3 (.ref (50 + nl.toInt.toNat))) [] G
  generalize pm_put1 lv 3 (.ref (50 + nl.toInt.toNat)) = lv3 at g0 g1 g2 g3 ⊢
  refine y_aln (e_37 (24, .aload_n 1, 1) (List.mem_of_getElem? (i := 14) rfl)) g1 ?_
  refine y_c1 (K' := _) (e_37 (25, .invokevirtual 120, 3) (List.mem_of_getElem? (i := 15) rfl)) ⟨rfl, rfl, rfl⟩ t_3_120 ⟨by decide, by decide, by decide, by decide⟩ m_21_ok rfl (by decide) (y_recv h.1.I h.1.t ⟨rfl, rfl⟩) (Nat.le_of_ble_eq_true rfl) (Nat.le_of_ble_eq_true rfl) (hN1 _ _ _ _ _ _ _ _ _ _ _ _ _ h.1) (fun r1 Gc hc1 => ?_)
  obtain ⟨rfl, hc2⟩ := hc1
  simp only [Option.toList_some, Option.toList_none, List.cons_append, List.nil_append]
  have w1 := h.nxt hc2
  have te := th0_n.2.1 nl.toInt.toNat (by omega)
  refine y_aln (e_37 (28, .aload_n 3, 1) (List.mem_of_getElem? (i := 16) rfl)) g3 ?_
  refine y_aln (e_37 (29, .aload_n 1, 1) (List.mem_of_getElem? (i := 17) rfl)) g1 ?_
  refine y_getf w1.1.I w1.1.t (e_37 (30, .getfield 173, 3) (List.mem_of_getElem? (i := 18) rfl)) u_3_173 ⟨rfl, rfl⟩ w1.1.s7 ?_
  refine y_putf (f := (1, 0, 0)) w1.1.I te (e_37 (33, .putfield 201, 3) (List.mem_of_getElem? (i := 19) rfl)) u_3_201 ⟨rfl, rfl, by decide, rfl, rfl⟩ ⟨_, rfl⟩ (fun Gp up => ?_)
  have w2 : CS f n lim nx1 tk1 pl1 num1 nm1 ft fp cc np nt nl nn oc ot tn (fun j => if j = nl.toInt.toNat then nm1 else ln j) mn Gp := ⟨w1.1.other up (by omega) (by omega) (w1.1.I.upd up te (y_okL rfl)), w1.2.uln (k := nl.toInt.toNat) (by omega) (fun c i => by rw [up.2.1])⟩
  refine y_aln (e_37 (36, .aload_n 0, 1) (List.mem_of_getElem? (i := 20) rfl)) g0 ?_
  refine y_aln (e_37 (37, .aload_n 1, 1) (List.mem_of_getElem? (i := 21) rfl)) g1 ?_
  refine y_aln (e_37 (38, .aload_n 2, 1) (List.mem_of_getElem? (i := 22) rfl)) g2 ?_
  refine y_c3 (K' := _) (e_37 (39, .invokevirtual 180, 3) (List.mem_of_getElem? (i := 23) rfl)) ⟨rfl, rfl, rfl⟩ t_3_180 ⟨by decide, by decide, by decide, by decide⟩ m_30_ok rfl (by decide) (y_recv w2.1.I th0_p.2.2.1 ⟨rfl, rfl⟩) (Nat.le_of_ble_eq_true rfl) (Nat.le_of_ble_eq_true rfl) (k_nac_c w2 htk1 (fun z => hT ((c_Told_ln (by omega)).mp z)) hN2 htk2 a2 b2 hN3 hno) (fun r1 Gc hc1 => ?_)
  obtain ⟨rfl, hz⟩ := hc1
  simp only [Option.toList_some, Option.toList_none, List.cons_append, List.nil_append]
  refine y_ifc (e_37 (42, .ifCond .ne 5, 3) (List.mem_of_getElem? (i := 24) rfl)) rfl (fun hc => absurd hc (by decide)) (fun _ => ?_)
  refine y_st (e_37 (45, .iconst 0, 1) (List.mem_of_getElem? (i := 25) rfl)) ⟨rfl, rfl, rfl, rfl⟩ ?_
  exact y_ret (e_37 (46, .ireturn, 1) (List.mem_of_getElem? (i := 26) rfl)) ⟨rfl, y_rb (Or.inl rfl)⟩ ⟨rfl, hz⟩
set_option maxHeartbeats 2000000 in
set_option maxRecDepth 100000 in
theorem c_mill_ok (h : CS f n lim nx0 tk0 pl0 num0 nm0 ft fp cc np nt nl nn oc ot tn ln mn G) (hcn : nl.toInt < 4) (hN1 : NXc f n lim nx0 num0 nm0 nx1 tk1 pl1 num1 nm1) (htk1 : tk1 = 3) (hT : ¬ c_Told nt nl nn tn ln mn nm1) (hN2 : NXc f n lim nx1 num1 nm1 nx2 tk2 pl2 num2 nm2) (htk2 : tk2 = 2) (a2 : 0 ≤ num2.toInt) (b2 : num2.toInt ≤ 1) (hN3 : NXc f n lim nx2 num2 nm2 nx3 tk3 pl3 num3 nm3) (htk3 : tk3 = 2) (a3 : 0 ≤ num3.toInt) (b3 : num3.toInt ≤ (cc num2.toInt.toNat - Int32.ofInt 1).toInt) (hN4 : NXc f n lim nx3 num3 nm3 nx4 tk4 pl4 num4 nm4) : x_Gd xs L J (d + 4) m_37 (fun r G' => r = some (.int 1) ∧ CS f n lim nx4 tk4 pl4 num4 nm4 ft fp cc np nt (nl + Int32.ofInt 1) nn oc ot tn (fun j => if j = nl.toInt.toNat then nm1 else ln j) mn G') 0 (lv_args 0 [.ref 3, .ref 1, .ref 32]) [] G := by
  have g0 : pm_get (lv_args 0 [.ref 3, .ref 1, .ref 32]) 0 = some (.ref 3) := rfl
  have g1 : pm_get (lv_args 0 [.ref 3, .ref 1, .ref 32]) 1 = some (.ref 1) := rfl
  have g2 : pm_get (lv_args 0 [.ref 3, .ref 1, .ref 32]) 2 = some (.ref 32) := rfl
  generalize (lv_args 0 [.ref 3, .ref 1, .ref 32]) = lv at g0 g1 g2 ⊢
  obtain ⟨⟨t0, t1⟩, ⟨l0, l1⟩, ⟨m0, m1⟩, -, -⟩ := h.cn
  refine y_aln (e_37 (0, .aload_n 2, 1) (List.mem_of_getElem? (i := 0) rfl)) g2 ?_
  refine y_getf h.1.I th0_p.2.2.2.2.2.1 (e_37 (1, .getfield 126, 3) (List.mem_of_getElem? (i := 1) rfl)) u_3_126 ⟨rfl, rfl⟩ h.2.a32_5 ?_
  refine y_st (e_37 (4, .iconst 4, 1) (List.mem_of_getElem? (i := 2) rfl)) ⟨rfl, rfl, rfl, rfl⟩ ?_
  refine y_icm (e_37 (5, .if_icmp .lt 9, 3) (List.mem_of_getElem? (i := 3) rfl)) rfl (fun _ => ?_) (fun hc => ?_)
  rotate_left
  · have z := y_hI.2.2.2.2.2.2.2.2.2.1 hc
    rw [show (Int32.ofInt 4).toInt = 4 from rfl] at z
    omega
  refine y_aln (e_37 (14, .aload_n 2, 1) (List.mem_of_getElem? (i := 8) rfl)) g2 ?_
  refine y_getf h.1.I th0_p.2.2.2.2.2.1 (e_37 (15, .getfield 197, 3) (List.mem_of_getElem? (i := 9) rfl)) u_3_197 ⟨rfl, rfl⟩ h.2.a32_2 ?_
  refine y_aln (e_37 (18, .aload_n 2, 1) (List.mem_of_getElem? (i := 10) rfl)) g2 ?_
  refine y_getf h.1.I th0_p.2.2.2.2.2.1 (e_37 (19, .getfield 126, 3) (List.mem_of_getElem? (i := 11) rfl)) u_3_126 ⟨rfl, rfl⟩ h.2.a32_5 ?_
  refine y_aald h.1.I th0_p.2.2.2.2.2.2.2.2.2.2.2.2.2.1 (e_37 (22, .aaload, 1) (List.mem_of_getElem? (i := 12) rfl)) ⟨rfl, by decide⟩ ⟨by omega, by show _ < (4 : Int); omega⟩ (h.2.fla nl.toInt.toNat (by omega)) ?_
  refine y_asn (e_37 (23, .astore_n 3, 1) (List.mem_of_getElem? (i := 13) rfl)) (by decide) ?_
  have g3 : pm_get (pm_put1 lv 3 (.ref (50 + nl.toInt.toNat))) 3 = some (.ref (50 + nl.toInt.toNat)) := x_get_self
  have g0 : pm_get (pm_put1 lv 3 (.ref (50 + nl.toInt.toNat))) 0 = some (.ref 3) := y_gpr g0 (by decide)
  have g1 : pm_get (pm_put1 lv 3 (.ref (50 + nl.toInt.toNat))) 1 = some (.ref 1) := y_gpr g1 (by decide)
  have g2 : pm_get (pm_put1 lv 3 (.ref (50 + nl.toInt.toNat))) 2 = some (.ref 32) := y_gpr g2 (by decide)
  show x_Gd xs L J _ m_37 _ 24 (pm_put1 lv 3 (.ref (50 + nl.toInt.toNat))) [] G
  generalize pm_put1 lv 3 (.ref (50 + nl.toInt.toNat)) = lv3 at g0 g1 g2 g3 ⊢
  refine y_aln (e_37 (24, .aload_n 1, 1) (List.mem_of_getElem? (i := 14) rfl)) g1 ?_
  refine y_c1 (K' := _) (e_37 (25, .invokevirtual 120, 3) (List.mem_of_getElem? (i := 15) rfl)) ⟨rfl, rfl, rfl⟩ t_3_120 ⟨by decide, by decide, by decide, by decide⟩ m_21_ok rfl (by decide) (y_recv h.1.I h.1.t ⟨rfl, rfl⟩) (Nat.le_of_ble_eq_true rfl) (Nat.le_of_ble_eq_true rfl) (hN1 _ _ _ _ _ _ _ _ _ _ _ _ _ h.1) (fun r1 Gc hc1 => ?_)
  obtain ⟨rfl, hc2⟩ := hc1
  simp only [Option.toList_some, Option.toList_none, List.cons_append, List.nil_append]
  have w1 := h.nxt hc2
  have te := th0_n.2.1 nl.toInt.toNat (by omega)
  refine y_aln (e_37 (28, .aload_n 3, 1) (List.mem_of_getElem? (i := 16) rfl)) g3 ?_
  refine y_aln (e_37 (29, .aload_n 1, 1) (List.mem_of_getElem? (i := 17) rfl)) g1 ?_
  refine y_getf w1.1.I w1.1.t (e_37 (30, .getfield 173, 3) (List.mem_of_getElem? (i := 18) rfl)) u_3_173 ⟨rfl, rfl⟩ w1.1.s7 ?_
  refine y_putf (f := (1, 0, 0)) w1.1.I te (e_37 (33, .putfield 201, 3) (List.mem_of_getElem? (i := 19) rfl)) u_3_201 ⟨rfl, rfl, by decide, rfl, rfl⟩ ⟨_, rfl⟩ (fun Gp up => ?_)
  have w2 : CS f n lim nx1 tk1 pl1 num1 nm1 ft fp cc np nt nl nn oc ot tn (fun j => if j = nl.toInt.toNat then nm1 else ln j) mn Gp := ⟨w1.1.other up (by omega) (by omega) (w1.1.I.upd up te (y_okL rfl)), w1.2.uln (k := nl.toInt.toNat) (by omega) (fun c i => by rw [up.2.1])⟩
  refine y_aln (e_37 (36, .aload_n 0, 1) (List.mem_of_getElem? (i := 20) rfl)) g0 ?_
  refine y_aln (e_37 (37, .aload_n 1, 1) (List.mem_of_getElem? (i := 21) rfl)) g1 ?_
  refine y_aln (e_37 (38, .aload_n 2, 1) (List.mem_of_getElem? (i := 22) rfl)) g2 ?_
  refine y_c3 (K' := _) (e_37 (39, .invokevirtual 180, 3) (List.mem_of_getElem? (i := 23) rfl)) ⟨rfl, rfl, rfl⟩ t_3_180 ⟨by decide, by decide, by decide, by decide⟩ m_30_ok rfl (by decide) (y_recv w2.1.I th0_p.2.2.1 ⟨rfl, rfl⟩) (Nat.le_of_ble_eq_true rfl) (Nat.le_of_ble_eq_true rfl) (k_nac_yes w2 htk1 (fun z => hT ((c_Told_ln (by omega)).mp z)) hN2 htk2 a2 b2 hN3 htk3 a3 b3 hN4) (fun r1 Gc hc1 => ?_)
  obtain ⟨rfl, w4, r0, r1⟩ := hc1
  simp only [Option.toList_some, Option.toList_none, List.cons_append, List.nil_append]
  refine y_ifc (e_37 (42, .ifCond .ne 5, 3) (List.mem_of_getElem? (i := 24) rfl)) rfl (fun _ => ?_) (fun hc => absurd hc (by decide))
  refine y_aln (e_37 (47, .aload_n 3, 1) (List.mem_of_getElem? (i := 27) rfl)) g3 ?_
  refine y_aln (e_37 (48, .aload_n 0, 1) (List.mem_of_getElem? (i := 28) rfl)) g0 ?_
  refine y_getf w4.1.I th0_p.2.2.1 (e_37 (49, .getfield 9, 3) (List.mem_of_getElem? (i := 29) rfl)) u_3_9 ⟨rfl, rfl⟩ w4.2.a3_0 ?_
  refine y_st (e_37 (52, .iconst 0, 1) (List.mem_of_getElem? (i := 30) rfl)) ⟨rfl, rfl, rfl, rfl⟩ ?_
  refine y_iald w4.1.I th0_p.2.2.2.1 (e_37 (53, .iaload, 1) (List.mem_of_getElem? (i := 31) rfl)) ⟨rfl, rfl⟩ (by decide) r0 ?_
  refine y_putf (f := (0, -2147483648, 2147483647)) w4.1.I te (e_37 (54, .putfield 204, 3) (List.mem_of_getElem? (i := 32) rfl)) u_3_204 ⟨rfl, rfl, by decide, rfl, rfl⟩ ⟨_, rfl, (x_i32 _).1, (x_i32 _).2⟩ (fun Gq uq => ?_)
  have w5 := w4.oth uq (w4.1.I.upd uq te (y_okA rfl)) (by omega) (by omega) (t_trk_o (by omega) (by decide))
  have r1 : x_sl Gq 4 1 = some (.int num3) := by rw [uq.2.1, if_neg (by omega)]; exact r1
  refine y_aln (e_37 (57, .aload_n 3, 1) (List.mem_of_getElem? (i := 33) rfl)) g3 ?_
  refine y_aln (e_37 (58, .aload_n 0, 1) (List.mem_of_getElem? (i := 34) rfl)) g0 ?_
  refine y_getf w5.1.I th0_p.2.2.1 (e_37 (59, .getfield 9, 3) (List.mem_of_getElem? (i := 35) rfl)) u_3_9 ⟨rfl, rfl⟩ w5.2.a3_0 ?_
  refine y_st (e_37 (62, .iconst 1, 1) (List.mem_of_getElem? (i := 36) rfl)) ⟨rfl, rfl, rfl, rfl⟩ ?_
  refine y_iald w5.1.I th0_p.2.2.2.1 (e_37 (63, .iaload, 1) (List.mem_of_getElem? (i := 37) rfl)) ⟨rfl, rfl⟩ (by decide) r1 ?_
  refine y_putf (f := (0, -2147483648, 2147483647)) w5.1.I te (e_37 (64, .putfield 207, 3) (List.mem_of_getElem? (i := 38) rfl)) u_3_207 ⟨rfl, rfl, by decide, rfl, rfl⟩ ⟨_, rfl, (x_i32 _).1, (x_i32 _).2⟩ (fun Gr ur => ?_)
  have w6 := w5.oth ur (w5.1.I.upd ur te (y_okA rfl)) (by omega) (by omega) (t_trk_o (by omega) (by decide))
  refine y_aln (e_37 (67, .aload_n 3, 1) (List.mem_of_getElem? (i := 39) rfl)) g3 ?_
  refine y_st (e_37 (68, .iconst 0, 1) (List.mem_of_getElem? (i := 40) rfl)) ⟨rfl, rfl, rfl, rfl⟩ ?_
  refine y_putf (f := (0, -2147483648, 2147483647)) w6.1.I te (e_37 (69, .putfield 210, 3) (List.mem_of_getElem? (i := 41) rfl)) u_3_210 ⟨rfl, rfl, by decide, rfl, rfl⟩ ⟨_, rfl, (x_i32 _).1, (x_i32 _).2⟩ (fun Gs us => ?_)
  have w7 := w6.oth us (w6.1.I.upd us te (y_okA rfl)) (by omega) (by omega) (t_trk_o (by omega) (by decide))
  have ec : (nl + Int32.ofInt 1).toInt = nl.toInt + 1 := y_add1 (t := nl) (by omega)
  refine y_aln (e_37 (72, .aload_n 2, 1) (List.mem_of_getElem? (i := 42) rfl)) g2 ?_
  refine y_st (e_37 (73, .dup, 1) (List.mem_of_getElem? (i := 43) rfl)) ⟨rfl, rfl, rfl, rfl⟩ ?_
  refine y_getf w7.1.I th0_p.2.2.2.2.2.1 (e_37 (74, .getfield 126, 3) (List.mem_of_getElem? (i := 44) rfl)) u_3_126 ⟨rfl, rfl⟩ w7.2.a32_5 ?_
  refine y_st (e_37 (77, .iconst 1, 1) (List.mem_of_getElem? (i := 45) rfl)) ⟨rfl, rfl, rfl, rfl⟩ ?_
  refine y_st (e_37 (78, .iadd, 1) (List.mem_of_getElem? (i := 46) rfl)) ⟨rfl, rfl, rfl, rfl⟩ ?_
  refine y_putf (f := (0, 0, 4)) w7.1.I th0_p.2.2.2.2.2.1 (e_37 (79, .putfield 126, 3) (List.mem_of_getElem? (i := 47) rfl)) u_3_126 ⟨rfl, rfl, by decide, rfl, rfl⟩ ⟨_, rfl, by show (0 : Int) ≤ _; omega, by show _ ≤ (4 : Int); omega⟩ (fun Gt ut => ?_)
  have w8 : CS f n lim nx4 tk4 pl4 num4 nm4 ft fp cc np nt (nl + Int32.ofInt 1) nn oc ot tn (fun j => if j = nl.toInt.toNat then nm1 else ln j) mn Gt := ⟨w7.1.other ut (by decide) (by decide) (w7.1.I.upd ut th0_p.2.2.2.2.2.1 (y_okI rfl (by show (0 : Int) ≤ _; omega) (by show _ ≤ (4 : Int); omega))), w7.2.unl (fun c i => by rw [ut.2.1])⟩
  refine y_st (e_37 (82, .iconst 1, 1) (List.mem_of_getElem? (i := 48) rfl)) ⟨rfl, rfl, rfl, rfl⟩ ?_
  exact y_ret (e_37 (83, .ireturn, 1) (List.mem_of_getElem? (i := 49) rfl)) ⟨rfl, y_rb (Or.inr rfl)⟩ ⟨rfl, w8⟩
set_option maxHeartbeats 2000000 in
set_option maxRecDepth 100000 in
theorem c_man_0 (h : CS f n lim nx0 tk0 pl0 num0 nm0 ft fp cc np nt nl nn oc ot tn ln mn G) (hcn : 4 ≤ nn.toInt) : x_Gd xs L J (d + 2) m_38 (fun r G' => r = some (.int 0) ∧ x_sl G' 1 9 = some (.int pl0) ∧ x_sl G' 1 8 = some (.int (Int32.ofInt 4))) 0 (lv_args 0 [.ref 3, .ref 1, .ref 32]) [] G := by
  have g0 : pm_get (lv_args 0 [.ref 3, .ref 1, .ref 32]) 0 = some (.ref 3) := rfl
  have g1 : pm_get (lv_args 0 [.ref 3, .ref 1, .ref 32]) 1 = some (.ref 1) := rfl
  have g2 : pm_get (lv_args 0 [.ref 3, .ref 1, .ref 32]) 2 = some (.ref 32) := rfl
  generalize (lv_args 0 [.ref 3, .ref 1, .ref 32]) = lv at g0 g1 g2 ⊢
  obtain ⟨⟨t0, t1⟩, ⟨l0, l1⟩, ⟨m0, m1⟩, -, -⟩ := h.cn
  refine y_aln (e_38 (0, .aload_n 2, 1) (List.mem_of_getElem? (i := 0) rfl)) g2 ?_
  refine y_getf h.1.I th0_p.2.2.2.2.2.1 (e_38 (1, .getfield 129, 3) (List.mem_of_getElem? (i := 1) rfl)) u_3_129 ⟨rfl, rfl⟩ h.2.a32_6 ?_
  refine y_st (e_38 (4, .iconst 4, 1) (List.mem_of_getElem? (i := 2) rfl)) ⟨rfl, rfl, rfl, rfl⟩ ?_
  refine y_icm (e_38 (5, .if_icmp .lt 9, 3) (List.mem_of_getElem? (i := 3) rfl)) rfl (fun hc => ?_) (fun _ => ?_)
  · have z := y_hI.2.2.2.2.2.2.2.2.1 hc
    rw [show (Int32.ofInt 4).toInt = 4 from rfl] at z
    omega
  refine y_aln (e_38 (8, .aload_n 1, 1) (List.mem_of_getElem? (i := 4) rfl)) g1 ?_
  refine y_st (e_38 (9, .iconst 4, 1) (List.mem_of_getElem? (i := 5) rfl)) ⟨rfl, rfl, rfl, rfl⟩ ?_
  refine y_c2 (K' := _) (e_38 (10, .invokevirtual 116, 3) (List.mem_of_getElem? (i := 6) rfl)) ⟨rfl, rfl, rfl⟩ t_3_116 ⟨by decide, by decide, by decide, by decide⟩ m_27_ok rfl (by decide) (y_recv h.1.I h.1.t ⟨rfl, rfl⟩) (Nat.le_of_ble_eq_true rfl) (Nat.le_of_ble_eq_true rfl) (k_refuse h.1 _) (fun r1 Gc hc1 => ?_)
  obtain ⟨rfl, hc2⟩ := hc1
  simp only [Option.toList_some, Option.toList_none, List.cons_append, List.nil_append]
  exact y_ret (e_38 (13, .ireturn, 1) (List.mem_of_getElem? (i := 7) rfl)) ⟨rfl, y_rb (Or.inl rfl)⟩ ⟨rfl, hc2.s9, hc2.s8⟩
set_option maxHeartbeats 2000000 in
set_option maxRecDepth 100000 in
theorem c_man_a (h : CS f n lim nx0 tk0 pl0 num0 nm0 ft fp cc np nt nl nn oc ot tn ln mn G) (hcn : nn.toInt < 4) (hN1 : NXc f n lim nx0 num0 nm0 nx1 tk1 pl1 num1 nm1) (hno : tk1 ≠ 3 ∨ c_Told nt nl nn tn ln mn nm1) : x_Gd xs L J (d + 3) m_38 (fun r G' => r = some (.int 0) ∧ x_sl G' 1 9 = some (.int pl1) ∧ x_sl G' 1 8 = some (.int (t_kn tk1))) 0 (lv_args 0 [.ref 3, .ref 1, .ref 32]) [] G := by
  have g0 : pm_get (lv_args 0 [.ref 3, .ref 1, .ref 32]) 0 = some (.ref 3) := rfl
  have g1 : pm_get (lv_args 0 [.ref 3, .ref 1, .ref 32]) 1 = some (.ref 1) := rfl
  have g2 : pm_get (lv_args 0 [.ref 3, .ref 1, .ref 32]) 2 = some (.ref 32) := rfl
  generalize (lv_args 0 [.ref 3, .ref 1, .ref 32]) = lv at g0 g1 g2 ⊢
  obtain ⟨⟨t0, t1⟩, ⟨l0, l1⟩, ⟨m0, m1⟩, -, -⟩ := h.cn
  refine y_aln (e_38 (0, .aload_n 2, 1) (List.mem_of_getElem? (i := 0) rfl)) g2 ?_
  refine y_getf h.1.I th0_p.2.2.2.2.2.1 (e_38 (1, .getfield 129, 3) (List.mem_of_getElem? (i := 1) rfl)) u_3_129 ⟨rfl, rfl⟩ h.2.a32_6 ?_
  refine y_st (e_38 (4, .iconst 4, 1) (List.mem_of_getElem? (i := 2) rfl)) ⟨rfl, rfl, rfl, rfl⟩ ?_
  refine y_icm (e_38 (5, .if_icmp .lt 9, 3) (List.mem_of_getElem? (i := 3) rfl)) rfl (fun _ => ?_) (fun hc => ?_)
  rotate_left
  · have z := y_hI.2.2.2.2.2.2.2.2.2.1 hc
    rw [show (Int32.ofInt 4).toInt = 4 from rfl] at z
    omega
  refine y_aln (e_38 (14, .aload_n 2, 1) (List.mem_of_getElem? (i := 8) rfl)) g2 ?_
  refine y_getf h.1.I th0_p.2.2.2.2.2.1 (e_38 (15, .getfield 213, 3) (List.mem_of_getElem? (i := 9) rfl)) u_3_213 ⟨rfl, rfl⟩ h.2.a32_3 ?_
  refine y_aln (e_38 (18, .aload_n 2, 1) (List.mem_of_getElem? (i := 10) rfl)) g2 ?_
  refine y_getf h.1.I th0_p.2.2.2.2.2.1 (e_38 (19, .getfield 129, 3) (List.mem_of_getElem? (i := 11) rfl)) u_3_129 ⟨rfl, rfl⟩ h.2.a32_6 ?_
  refine y_aald h.1.I th0_p.2.2.2.2.2.2.2.2.2.2.2.2.2.2 (e_38 (22, .aaload, 1) (List.mem_of_getElem? (i := 12) rfl)) ⟨rfl, by decide⟩ ⟨by omega, by show _ < (4 : Int); omega⟩ (h.2.fma nn.toInt.toNat (by omega)) ?_
  refine y_asn (e_38 (23, .astore_n 3, 1) (List.mem_of_getElem? (i := 13) rfl)) (by decide) ?_
  have g3 : pm_get (pm_put1 lv 3 (.ref (54 + nn.toInt.toNat))) 3 = some (.ref (54 + nn.toInt.toNat)) := x_get_self
  have g0 : pm_get (pm_put1 lv 3 (.ref (54 + nn.toInt.toNat))) 0 = some (.ref 3) := y_gpr g0 (by decide)
  have g1 : pm_get (pm_put1 lv 3 (.ref (54 + nn.toInt.toNat))) 1 = some (.ref 1) := y_gpr g1 (by decide)
  have g2 : pm_get (pm_put1 lv 3 (.ref (54 + nn.toInt.toNat))) 2 = some (.ref 32) := y_gpr g2 (by decide)
  show x_Gd xs L J _ m_38 _ 24 (pm_put1 lv 3 (.ref (54 + nn.toInt.toNat))) [] G
  generalize pm_put1 lv 3 (.ref (54 + nn.toInt.toNat)) = lv3 at g0 g1 g2 g3 ⊢
  refine y_aln (e_38 (24, .aload_n 1, 1) (List.mem_of_getElem? (i := 14) rfl)) g1 ?_
  refine y_c1 (K' := _) (e_38 (25, .invokevirtual 120, 3) (List.mem_of_getElem? (i := 15) rfl)) ⟨rfl, rfl, rfl⟩ t_3_120 ⟨by decide, by decide, by decide, by decide⟩ m_21_ok rfl (by decide) (y_recv h.1.I h.1.t ⟨rfl, rfl⟩) (Nat.le_of_ble_eq_true rfl) (Nat.le_of_ble_eq_true rfl) (hN1 _ _ _ _ _ _ _ _ _ _ _ _ _ h.1) (fun r1 Gc hc1 => ?_)
  obtain ⟨rfl, hc2⟩ := hc1
  simp only [Option.toList_some, Option.toList_none, List.cons_append, List.nil_append]
  have w1 := h.nxt hc2
  have te := th0_n.2.2 nn.toInt.toNat (by omega)
  refine y_aln (e_38 (28, .aload_n 3, 1) (List.mem_of_getElem? (i := 16) rfl)) g3 ?_
  refine y_aln (e_38 (29, .aload_n 1, 1) (List.mem_of_getElem? (i := 17) rfl)) g1 ?_
  refine y_getf w1.1.I w1.1.t (e_38 (30, .getfield 173, 3) (List.mem_of_getElem? (i := 18) rfl)) u_3_173 ⟨rfl, rfl⟩ w1.1.s7 ?_
  refine y_putf (f := (1, 0, 0)) w1.1.I te (e_38 (33, .putfield 217, 3) (List.mem_of_getElem? (i := 19) rfl)) u_3_217 ⟨rfl, rfl, by decide, rfl, rfl⟩ ⟨_, rfl⟩ (fun Gp up => ?_)
  have w2 : CS f n lim nx1 tk1 pl1 num1 nm1 ft fp cc np nt nl nn oc ot tn ln (fun j => if j = nn.toInt.toNat then nm1 else mn j) Gp := ⟨w1.1.other up (by omega) (by omega) (w1.1.I.upd up te (y_okL rfl)), w1.2.umn (k := nn.toInt.toNat) (by omega) (fun c i => by rw [up.2.1])⟩
  refine y_aln (e_38 (36, .aload_n 0, 1) (List.mem_of_getElem? (i := 20) rfl)) g0 ?_
  refine y_aln (e_38 (37, .aload_n 1, 1) (List.mem_of_getElem? (i := 21) rfl)) g1 ?_
  refine y_aln (e_38 (38, .aload_n 2, 1) (List.mem_of_getElem? (i := 22) rfl)) g2 ?_
  refine y_c3 (K' := _) (e_38 (39, .invokevirtual 180, 3) (List.mem_of_getElem? (i := 23) rfl)) ⟨rfl, rfl, rfl⟩ t_3_180 ⟨by decide, by decide, by decide, by decide⟩ m_30_ok rfl (by decide) (y_recv w2.1.I th0_p.2.2.1 ⟨rfl, rfl⟩) (Nat.le_of_ble_eq_true rfl) (Nat.le_of_ble_eq_true rfl) (k_nac_a w2 (hno.imp id (c_Told_mn (by omega)).mpr)) (fun r1 Gc hc1 => ?_)
  obtain ⟨rfl, hz⟩ := hc1
  simp only [Option.toList_some, Option.toList_none, List.cons_append, List.nil_append]
  refine y_ifc (e_38 (42, .ifCond .ne 5, 3) (List.mem_of_getElem? (i := 24) rfl)) rfl (fun hc => absurd hc (by decide)) (fun _ => ?_)
  refine y_st (e_38 (45, .iconst 0, 1) (List.mem_of_getElem? (i := 25) rfl)) ⟨rfl, rfl, rfl, rfl⟩ ?_
  exact y_ret (e_38 (46, .ireturn, 1) (List.mem_of_getElem? (i := 26) rfl)) ⟨rfl, y_rb (Or.inl rfl)⟩ ⟨rfl, hz⟩
set_option maxHeartbeats 2000000 in
set_option maxRecDepth 100000 in
theorem c_man_b (h : CS f n lim nx0 tk0 pl0 num0 nm0 ft fp cc np nt nl nn oc ot tn ln mn G) (hcn : nn.toInt < 4) (hN1 : NXc f n lim nx0 num0 nm0 nx1 tk1 pl1 num1 nm1) (htk1 : tk1 = 3) (hT : ¬ c_Told nt nl nn tn ln mn nm1) (hN2 : NXc f n lim nx1 num1 nm1 nx2 tk2 pl2 num2 nm2) (hno : tk2 ≠ 2 ∨ num2.toInt < 0 ∨ 1 < num2.toInt) : x_Gd xs L J (d + 4) m_38 (fun r G' => r = some (.int 0) ∧ x_sl G' 1 9 = some (.int pl2) ∧ x_sl G' 1 8 = some (.int (t_kd tk2))) 0 (lv_args 0 [.ref 3, .ref 1, .ref 32]) [] G := by
  have g0 : pm_get (lv_args 0 [.ref 3, .ref 1, .ref 32]) 0 = some (.ref 3) := rfl
  have g1 : pm_get (lv_args 0 [.ref 3, .ref 1, .ref 32]) 1 = some (.ref 1) := rfl
  have g2 : pm_get (lv_args 0 [.ref 3, .ref 1, .ref 32]) 2 = some (.ref 32) := rfl
  generalize (lv_args 0 [.ref 3, .ref 1, .ref 32]) = lv at g0 g1 g2 ⊢
  obtain ⟨⟨t0, t1⟩, ⟨l0, l1⟩, ⟨m0, m1⟩, -, -⟩ := h.cn
  refine y_aln (e_38 (0, .aload_n 2, 1) (List.mem_of_getElem? (i := 0) rfl)) g2 ?_
  refine y_getf h.1.I th0_p.2.2.2.2.2.1 (e_38 (1, .getfield 129, 3) (List.mem_of_getElem? (i := 1) rfl)) u_3_129 ⟨rfl, rfl⟩ h.2.a32_6 ?_
  refine y_st (e_38 (4, .iconst 4, 1) (List.mem_of_getElem? (i := 2) rfl)) ⟨rfl, rfl, rfl, rfl⟩ ?_
  refine y_icm (e_38 (5, .if_icmp .lt 9, 3) (List.mem_of_getElem? (i := 3) rfl)) rfl (fun _ => ?_) (fun hc => ?_)
  rotate_left
  · have z := y_hI.2.2.2.2.2.2.2.2.2.1 hc
    rw [show (Int32.ofInt 4).toInt = 4 from rfl] at z
    omega
  refine y_aln (e_38 (14, .aload_n 2, 1) (List.mem_of_getElem? (i := 8) rfl)) g2 ?_
  refine y_getf h.1.I th0_p.2.2.2.2.2.1 (e_38 (15, .getfield 213, 3) (List.mem_of_getElem? (i := 9) rfl)) u_3_213 ⟨rfl, rfl⟩ h.2.a32_3 ?_
  refine y_aln (e_38 (18, .aload_n 2, 1) (List.mem_of_getElem? (i := 10) rfl)) g2 ?_
  refine y_getf h.1.I th0_p.2.2.2.2.2.1 (e_38 (19, .getfield 129, 3) (List.mem_of_getElem? (i := 11) rfl)) u_3_129 ⟨rfl, rfl⟩ h.2.a32_6 ?_
  refine y_aald h.1.I th0_p.2.2.2.2.2.2.2.2.2.2.2.2.2.2 (e_38 (22, .aaload, 1) (List.mem_of_getElem? (i := 12) rfl)) ⟨rfl, by decide⟩ ⟨by omega, by show _ < (4 : Int); omega⟩ (h.2.fma nn.toInt.toNat (by omega)) ?_
  refine y_asn (e_38 (23, .astore_n 3, 1) (List.mem_of_getElem? (i := 13) rfl)) (by decide) ?_
  have g3 : pm_get (pm_put1 lv 3 (.ref (54 + nn.toInt.toNat))) 3 = some (.ref (54 + nn.toInt.toNat)) := x_get_self
  have g0 : pm_get (pm_put1 lv 3 (.ref (54 + nn.toInt.toNat))) 0 = some (.ref 3) := y_gpr g0 (by decide)
  have g1 : pm_get (pm_put1 lv 3 (.ref (54 + nn.toInt.toNat))) 1 = some (.ref 1) := y_gpr g1 (by decide)
  have g2 : pm_get (pm_put1 lv 3 (.ref (54 + nn.toInt.toNat))) 2 = some (.ref 32) := y_gpr g2 (by decide)
  show x_Gd xs L J _ m_38 _ 24 (pm_put1 lv 3 (.ref (54 + nn.toInt.toNat))) [] G
  generalize pm_put1 lv 3 (.ref (54 + nn.toInt.toNat)) = lv3 at g0 g1 g2 g3 ⊢
  refine y_aln (e_38 (24, .aload_n 1, 1) (List.mem_of_getElem? (i := 14) rfl)) g1 ?_
  refine y_c1 (K' := _) (e_38 (25, .invokevirtual 120, 3) (List.mem_of_getElem? (i := 15) rfl)) ⟨rfl, rfl, rfl⟩ t_3_120 ⟨by decide, by decide, by decide, by decide⟩ m_21_ok rfl (by decide) (y_recv h.1.I h.1.t ⟨rfl, rfl⟩) (Nat.le_of_ble_eq_true rfl) (Nat.le_of_ble_eq_true rfl) (hN1 _ _ _ _ _ _ _ _ _ _ _ _ _ h.1) (fun r1 Gc hc1 => ?_)
  obtain ⟨rfl, hc2⟩ := hc1
  simp only [Option.toList_some, Option.toList_none, List.cons_append, List.nil_append]
  have w1 := h.nxt hc2
  have te := th0_n.2.2 nn.toInt.toNat (by omega)
  refine y_aln (e_38 (28, .aload_n 3, 1) (List.mem_of_getElem? (i := 16) rfl)) g3 ?_
  refine y_aln (e_38 (29, .aload_n 1, 1) (List.mem_of_getElem? (i := 17) rfl)) g1 ?_
  refine y_getf w1.1.I w1.1.t (e_38 (30, .getfield 173, 3) (List.mem_of_getElem? (i := 18) rfl)) u_3_173 ⟨rfl, rfl⟩ w1.1.s7 ?_
  refine y_putf (f := (1, 0, 0)) w1.1.I te (e_38 (33, .putfield 217, 3) (List.mem_of_getElem? (i := 19) rfl)) u_3_217 ⟨rfl, rfl, by decide, rfl, rfl⟩ ⟨_, rfl⟩ (fun Gp up => ?_)
  have w2 : CS f n lim nx1 tk1 pl1 num1 nm1 ft fp cc np nt nl nn oc ot tn ln (fun j => if j = nn.toInt.toNat then nm1 else mn j) Gp := ⟨w1.1.other up (by omega) (by omega) (w1.1.I.upd up te (y_okL rfl)), w1.2.umn (k := nn.toInt.toNat) (by omega) (fun c i => by rw [up.2.1])⟩
  refine y_aln (e_38 (36, .aload_n 0, 1) (List.mem_of_getElem? (i := 20) rfl)) g0 ?_
  refine y_aln (e_38 (37, .aload_n 1, 1) (List.mem_of_getElem? (i := 21) rfl)) g1 ?_
  refine y_aln (e_38 (38, .aload_n 2, 1) (List.mem_of_getElem? (i := 22) rfl)) g2 ?_
  refine y_c3 (K' := _) (e_38 (39, .invokevirtual 180, 3) (List.mem_of_getElem? (i := 23) rfl)) ⟨rfl, rfl, rfl⟩ t_3_180 ⟨by decide, by decide, by decide, by decide⟩ m_30_ok rfl (by decide) (y_recv w2.1.I th0_p.2.2.1 ⟨rfl, rfl⟩) (Nat.le_of_ble_eq_true rfl) (Nat.le_of_ble_eq_true rfl) (k_nac_b w2 htk1 (fun z => hT ((c_Told_mn (by omega)).mp z)) hN2 hno) (fun r1 Gc hc1 => ?_)
  obtain ⟨rfl, hz⟩ := hc1
  simp only [Option.toList_some, Option.toList_none, List.cons_append, List.nil_append]
  refine y_ifc (e_38 (42, .ifCond .ne 5, 3) (List.mem_of_getElem? (i := 24) rfl)) rfl (fun hc => absurd hc (by decide)) (fun _ => ?_)
  refine y_st (e_38 (45, .iconst 0, 1) (List.mem_of_getElem? (i := 25) rfl)) ⟨rfl, rfl, rfl, rfl⟩ ?_
  exact y_ret (e_38 (46, .ireturn, 1) (List.mem_of_getElem? (i := 26) rfl)) ⟨rfl, y_rb (Or.inl rfl)⟩ ⟨rfl, hz⟩
set_option maxHeartbeats 2000000 in
set_option maxRecDepth 100000 in
theorem c_man_c (h : CS f n lim nx0 tk0 pl0 num0 nm0 ft fp cc np nt nl nn oc ot tn ln mn G) (hcn : nn.toInt < 4) (hN1 : NXc f n lim nx0 num0 nm0 nx1 tk1 pl1 num1 nm1) (htk1 : tk1 = 3) (hT : ¬ c_Told nt nl nn tn ln mn nm1) (hN2 : NXc f n lim nx1 num1 nm1 nx2 tk2 pl2 num2 nm2) (htk2 : tk2 = 2) (a2 : 0 ≤ num2.toInt) (b2 : num2.toInt ≤ 1) (hN3 : NXc f n lim nx2 num2 nm2 nx3 tk3 pl3 num3 nm3) (hno : tk3 ≠ 2 ∨ num3.toInt < 0 ∨ (cc num2.toInt.toNat - Int32.ofInt 1).toInt < num3.toInt) : x_Gd xs L J (d + 4) m_38 (fun r G' => r = some (.int 0) ∧ x_sl G' 1 9 = some (.int pl3) ∧ x_sl G' 1 8 = some (.int (t_kd tk3))) 0 (lv_args 0 [.ref 3, .ref 1, .ref 32]) [] G := by
  have g0 : pm_get (lv_args 0 [.ref 3, .ref 1, .ref 32]) 0 = some (.ref 3) := rfl
  have g1 : pm_get (lv_args 0 [.ref 3, .ref 1, .ref 32]) 1 = some (.ref 1) := rfl
  have g2 : pm_get (lv_args 0 [.ref 3, .ref 1, .ref 32]) 2 = some (.ref 32) := rfl
  generalize (lv_args 0 [.ref 3, .ref 1, .ref 32]) = lv at g0 g1 g2 ⊢
  obtain ⟨⟨t0, t1⟩, ⟨l0, l1⟩, ⟨m0, m1⟩, -, -⟩ := h.cn
  refine y_aln (e_38 (0, .aload_n 2, 1) (List.mem_of_getElem? (i := 0) rfl)) g2 ?_
  refine y_getf h.1.I th0_p.2.2.2.2.2.1 (e_38 (1, .getfield 129, 3) (List.mem_of_getElem? (i := 1) rfl)) u_3_129 ⟨rfl, rfl⟩ h.2.a32_6 ?_
  refine y_st (e_38 (4, .iconst 4, 1) (List.mem_of_getElem? (i := 2) rfl)) ⟨rfl, rfl, rfl, rfl⟩ ?_
  refine y_icm (e_38 (5, .if_icmp .lt 9, 3) (List.mem_of_getElem? (i := 3) rfl)) rfl (fun _ => ?_) (fun hc => ?_)
  rotate_left
  · have z := y_hI.2.2.2.2.2.2.2.2.2.1 hc
    rw [show (Int32.ofInt 4).toInt = 4 from rfl] at z
    omega
  refine y_aln (e_38 (14, .aload_n 2, 1) (List.mem_of_getElem? (i := 8) rfl)) g2 ?_
  refine y_getf h.1.I th0_p.2.2.2.2.2.1 (e_38 (15, .getfield 213, 3) (List.mem_of_getElem? (i := 9) rfl)) u_3_213 ⟨rfl, rfl⟩ h.2.a32_3 ?_
  refine y_aln (e_38 (18, .aload_n 2, 1) (List.mem_of_getElem? (i := 10) rfl)) g2 ?_
  refine y_getf h.1.I th0_p.2.2.2.2.2.1 (e_38 (19, .getfield 129, 3) (List.mem_of_getElem? (i := 11) rfl)) u_3_129 ⟨rfl, rfl⟩ h.2.a32_6 ?_
  refine y_aald h.1.I th0_p.2.2.2.2.2.2.2.2.2.2.2.2.2.2 (e_38 (22, .aaload, 1) (List.mem_of_getElem? (i := 12) rfl)) ⟨rfl, by decide⟩ ⟨by omega, by show _ < (4 : Int); omega⟩ (h.2.fma nn.toInt.toNat (by omega)) ?_
  refine y_asn (e_38 (23, .astore_n 3, 1) (List.mem_of_getElem? (i := 13) rfl)) (by decide) ?_
  have g3 : pm_get (pm_put1 lv 3 (.ref (54 + nn.toInt.toNat))) 3 = some (.ref (54 + nn.toInt.toNat)) := x_get_self
  have g0 : pm_get (pm_put1 lv 3 (.ref (54 + nn.toInt.toNat))) 0 = some (.ref 3) := y_gpr g0 (by decide)
  have g1 : pm_get (pm_put1 lv 3 (.ref (54 + nn.toInt.toNat))) 1 = some (.ref 1) := y_gpr g1 (by decide)
  have g2 : pm_get (pm_put1 lv 3 (.ref (54 + nn.toInt.toNat))) 2 = some (.ref 32) := y_gpr g2 (by decide)
  show x_Gd xs L J _ m_38 _ 24 (pm_put1 lv 3 (.ref (54 + nn.toInt.toNat))) [] G
  generalize pm_put1 lv 3 (.ref (54 + nn.toInt.toNat)) = lv3 at g0 g1 g2 g3 ⊢
  refine y_aln (e_38 (24, .aload_n 1, 1) (List.mem_of_getElem? (i := 14) rfl)) g1 ?_
  refine y_c1 (K' := _) (e_38 (25, .invokevirtual 120, 3) (List.mem_of_getElem? (i := 15) rfl)) ⟨rfl, rfl, rfl⟩ t_3_120 ⟨by decide, by decide, by decide, by decide⟩ m_21_ok rfl (by decide) (y_recv h.1.I h.1.t ⟨rfl, rfl⟩) (Nat.le_of_ble_eq_true rfl) (Nat.le_of_ble_eq_true rfl) (hN1 _ _ _ _ _ _ _ _ _ _ _ _ _ h.1) (fun r1 Gc hc1 => ?_)
  obtain ⟨rfl, hc2⟩ := hc1
  simp only [Option.toList_some, Option.toList_none, List.cons_append, List.nil_append]
  have w1 := h.nxt hc2
  have te := th0_n.2.2 nn.toInt.toNat (by omega)
  refine y_aln (e_38 (28, .aload_n 3, 1) (List.mem_of_getElem? (i := 16) rfl)) g3 ?_
  refine y_aln (e_38 (29, .aload_n 1, 1) (List.mem_of_getElem? (i := 17) rfl)) g1 ?_
  refine y_getf w1.1.I w1.1.t (e_38 (30, .getfield 173, 3) (List.mem_of_getElem? (i := 18) rfl)) u_3_173 ⟨rfl, rfl⟩ w1.1.s7 ?_
  refine y_putf (f := (1, 0, 0)) w1.1.I te (e_38 (33, .putfield 217, 3) (List.mem_of_getElem? (i := 19) rfl)) u_3_217 ⟨rfl, rfl, by decide, rfl, rfl⟩ ⟨_, rfl⟩ (fun Gp up => ?_)
  have w2 : CS f n lim nx1 tk1 pl1 num1 nm1 ft fp cc np nt nl nn oc ot tn ln (fun j => if j = nn.toInt.toNat then nm1 else mn j) Gp := ⟨w1.1.other up (by omega) (by omega) (w1.1.I.upd up te (y_okL rfl)), w1.2.umn (k := nn.toInt.toNat) (by omega) (fun c i => by rw [up.2.1])⟩
  refine y_aln (e_38 (36, .aload_n 0, 1) (List.mem_of_getElem? (i := 20) rfl)) g0 ?_
  refine y_aln (e_38 (37, .aload_n 1, 1) (List.mem_of_getElem? (i := 21) rfl)) g1 ?_
  refine y_aln (e_38 (38, .aload_n 2, 1) (List.mem_of_getElem? (i := 22) rfl)) g2 ?_
  refine y_c3 (K' := _) (e_38 (39, .invokevirtual 180, 3) (List.mem_of_getElem? (i := 23) rfl)) ⟨rfl, rfl, rfl⟩ t_3_180 ⟨by decide, by decide, by decide, by decide⟩ m_30_ok rfl (by decide) (y_recv w2.1.I th0_p.2.2.1 ⟨rfl, rfl⟩) (Nat.le_of_ble_eq_true rfl) (Nat.le_of_ble_eq_true rfl) (k_nac_c w2 htk1 (fun z => hT ((c_Told_mn (by omega)).mp z)) hN2 htk2 a2 b2 hN3 hno) (fun r1 Gc hc1 => ?_)
  obtain ⟨rfl, hz⟩ := hc1
  simp only [Option.toList_some, Option.toList_none, List.cons_append, List.nil_append]
  refine y_ifc (e_38 (42, .ifCond .ne 5, 3) (List.mem_of_getElem? (i := 24) rfl)) rfl (fun hc => absurd hc (by decide)) (fun _ => ?_)
  refine y_st (e_38 (45, .iconst 0, 1) (List.mem_of_getElem? (i := 25) rfl)) ⟨rfl, rfl, rfl, rfl⟩ ?_
  exact y_ret (e_38 (46, .ireturn, 1) (List.mem_of_getElem? (i := 26) rfl)) ⟨rfl, y_rb (Or.inl rfl)⟩ ⟨rfl, hz⟩
set_option maxHeartbeats 2000000 in
set_option maxRecDepth 100000 in
theorem c_man_ok (h : CS f n lim nx0 tk0 pl0 num0 nm0 ft fp cc np nt nl nn oc ot tn ln mn G) (hcn : nn.toInt < 4) (hN1 : NXc f n lim nx0 num0 nm0 nx1 tk1 pl1 num1 nm1) (htk1 : tk1 = 3) (hT : ¬ c_Told nt nl nn tn ln mn nm1) (hN2 : NXc f n lim nx1 num1 nm1 nx2 tk2 pl2 num2 nm2) (htk2 : tk2 = 2) (a2 : 0 ≤ num2.toInt) (b2 : num2.toInt ≤ 1) (hN3 : NXc f n lim nx2 num2 nm2 nx3 tk3 pl3 num3 nm3) (htk3 : tk3 = 2) (a3 : 0 ≤ num3.toInt) (b3 : num3.toInt ≤ (cc num2.toInt.toNat - Int32.ofInt 1).toInt) (hN4 : NXc f n lim nx3 num3 nm3 nx4 tk4 pl4 num4 nm4) : x_Gd xs L J (d + 4) m_38 (fun r G' => r = some (.int 1) ∧ CS f n lim nx4 tk4 pl4 num4 nm4 ft fp cc np nt nl (nn + Int32.ofInt 1) oc ot tn ln (fun j => if j = nn.toInt.toNat then nm1 else mn j) G') 0 (lv_args 0 [.ref 3, .ref 1, .ref 32]) [] G := by
  have g0 : pm_get (lv_args 0 [.ref 3, .ref 1, .ref 32]) 0 = some (.ref 3) := rfl
  have g1 : pm_get (lv_args 0 [.ref 3, .ref 1, .ref 32]) 1 = some (.ref 1) := rfl
  have g2 : pm_get (lv_args 0 [.ref 3, .ref 1, .ref 32]) 2 = some (.ref 32) := rfl
  generalize (lv_args 0 [.ref 3, .ref 1, .ref 32]) = lv at g0 g1 g2 ⊢
  obtain ⟨⟨t0, t1⟩, ⟨l0, l1⟩, ⟨m0, m1⟩, -, -⟩ := h.cn
  refine y_aln (e_38 (0, .aload_n 2, 1) (List.mem_of_getElem? (i := 0) rfl)) g2 ?_
  refine y_getf h.1.I th0_p.2.2.2.2.2.1 (e_38 (1, .getfield 129, 3) (List.mem_of_getElem? (i := 1) rfl)) u_3_129 ⟨rfl, rfl⟩ h.2.a32_6 ?_
  refine y_st (e_38 (4, .iconst 4, 1) (List.mem_of_getElem? (i := 2) rfl)) ⟨rfl, rfl, rfl, rfl⟩ ?_
  refine y_icm (e_38 (5, .if_icmp .lt 9, 3) (List.mem_of_getElem? (i := 3) rfl)) rfl (fun _ => ?_) (fun hc => ?_)
  rotate_left
  · have z := y_hI.2.2.2.2.2.2.2.2.2.1 hc
    rw [show (Int32.ofInt 4).toInt = 4 from rfl] at z
    omega
  refine y_aln (e_38 (14, .aload_n 2, 1) (List.mem_of_getElem? (i := 8) rfl)) g2 ?_
  refine y_getf h.1.I th0_p.2.2.2.2.2.1 (e_38 (15, .getfield 213, 3) (List.mem_of_getElem? (i := 9) rfl)) u_3_213 ⟨rfl, rfl⟩ h.2.a32_3 ?_
  refine y_aln (e_38 (18, .aload_n 2, 1) (List.mem_of_getElem? (i := 10) rfl)) g2 ?_
  refine y_getf h.1.I th0_p.2.2.2.2.2.1 (e_38 (19, .getfield 129, 3) (List.mem_of_getElem? (i := 11) rfl)) u_3_129 ⟨rfl, rfl⟩ h.2.a32_6 ?_
  refine y_aald h.1.I th0_p.2.2.2.2.2.2.2.2.2.2.2.2.2.2 (e_38 (22, .aaload, 1) (List.mem_of_getElem? (i := 12) rfl)) ⟨rfl, by decide⟩ ⟨by omega, by show _ < (4 : Int); omega⟩ (h.2.fma nn.toInt.toNat (by omega)) ?_
  refine y_asn (e_38 (23, .astore_n 3, 1) (List.mem_of_getElem? (i := 13) rfl)) (by decide) ?_
  have g3 : pm_get (pm_put1 lv 3 (.ref (54 + nn.toInt.toNat))) 3 = some (.ref (54 + nn.toInt.toNat)) := x_get_self
  have g0 : pm_get (pm_put1 lv 3 (.ref (54 + nn.toInt.toNat))) 0 = some (.ref 3) := y_gpr g0 (by decide)
  have g1 : pm_get (pm_put1 lv 3 (.ref (54 + nn.toInt.toNat))) 1 = some (.ref 1) := y_gpr g1 (by decide)
  have g2 : pm_get (pm_put1 lv 3 (.ref (54 + nn.toInt.toNat))) 2 = some (.ref 32) := y_gpr g2 (by decide)
  show x_Gd xs L J _ m_38 _ 24 (pm_put1 lv 3 (.ref (54 + nn.toInt.toNat))) [] G
  generalize pm_put1 lv 3 (.ref (54 + nn.toInt.toNat)) = lv3 at g0 g1 g2 g3 ⊢
  refine y_aln (e_38 (24, .aload_n 1, 1) (List.mem_of_getElem? (i := 14) rfl)) g1 ?_
  refine y_c1 (K' := _) (e_38 (25, .invokevirtual 120, 3) (List.mem_of_getElem? (i := 15) rfl)) ⟨rfl, rfl, rfl⟩ t_3_120 ⟨by decide, by decide, by decide, by decide⟩ m_21_ok rfl (by decide) (y_recv h.1.I h.1.t ⟨rfl, rfl⟩) (Nat.le_of_ble_eq_true rfl) (Nat.le_of_ble_eq_true rfl) (hN1 _ _ _ _ _ _ _ _ _ _ _ _ _ h.1) (fun r1 Gc hc1 => ?_)
  obtain ⟨rfl, hc2⟩ := hc1
  simp only [Option.toList_some, Option.toList_none, List.cons_append, List.nil_append]
  have w1 := h.nxt hc2
  have te := th0_n.2.2 nn.toInt.toNat (by omega)
  refine y_aln (e_38 (28, .aload_n 3, 1) (List.mem_of_getElem? (i := 16) rfl)) g3 ?_
  refine y_aln (e_38 (29, .aload_n 1, 1) (List.mem_of_getElem? (i := 17) rfl)) g1 ?_
  refine y_getf w1.1.I w1.1.t (e_38 (30, .getfield 173, 3) (List.mem_of_getElem? (i := 18) rfl)) u_3_173 ⟨rfl, rfl⟩ w1.1.s7 ?_
  refine y_putf (f := (1, 0, 0)) w1.1.I te (e_38 (33, .putfield 217, 3) (List.mem_of_getElem? (i := 19) rfl)) u_3_217 ⟨rfl, rfl, by decide, rfl, rfl⟩ ⟨_, rfl⟩ (fun Gp up => ?_)
  have w2 : CS f n lim nx1 tk1 pl1 num1 nm1 ft fp cc np nt nl nn oc ot tn ln (fun j => if j = nn.toInt.toNat then nm1 else mn j) Gp := ⟨w1.1.other up (by omega) (by omega) (w1.1.I.upd up te (y_okL rfl)), w1.2.umn (k := nn.toInt.toNat) (by omega) (fun c i => by rw [up.2.1])⟩
  refine y_aln (e_38 (36, .aload_n 0, 1) (List.mem_of_getElem? (i := 20) rfl)) g0 ?_
  refine y_aln (e_38 (37, .aload_n 1, 1) (List.mem_of_getElem? (i := 21) rfl)) g1 ?_
  refine y_aln (e_38 (38, .aload_n 2, 1) (List.mem_of_getElem? (i := 22) rfl)) g2 ?_
  refine y_c3 (K' := _) (e_38 (39, .invokevirtual 180, 3) (List.mem_of_getElem? (i := 23) rfl)) ⟨rfl, rfl, rfl⟩ t_3_180 ⟨by decide, by decide, by decide, by decide⟩ m_30_ok rfl (by decide) (y_recv w2.1.I th0_p.2.2.1 ⟨rfl, rfl⟩) (Nat.le_of_ble_eq_true rfl) (Nat.le_of_ble_eq_true rfl) (k_nac_yes w2 htk1 (fun z => hT ((c_Told_mn (by omega)).mp z)) hN2 htk2 a2 b2 hN3 htk3 a3 b3 hN4) (fun r1 Gc hc1 => ?_)
  obtain ⟨rfl, w4, r0, r1⟩ := hc1
  simp only [Option.toList_some, Option.toList_none, List.cons_append, List.nil_append]
  refine y_ifc (e_38 (42, .ifCond .ne 5, 3) (List.mem_of_getElem? (i := 24) rfl)) rfl (fun _ => ?_) (fun hc => absurd hc (by decide))
  refine y_aln (e_38 (47, .aload_n 3, 1) (List.mem_of_getElem? (i := 27) rfl)) g3 ?_
  refine y_aln (e_38 (48, .aload_n 0, 1) (List.mem_of_getElem? (i := 28) rfl)) g0 ?_
  refine y_getf w4.1.I th0_p.2.2.1 (e_38 (49, .getfield 9, 3) (List.mem_of_getElem? (i := 29) rfl)) u_3_9 ⟨rfl, rfl⟩ w4.2.a3_0 ?_
  refine y_st (e_38 (52, .iconst 0, 1) (List.mem_of_getElem? (i := 30) rfl)) ⟨rfl, rfl, rfl, rfl⟩ ?_
  refine y_iald w4.1.I th0_p.2.2.2.1 (e_38 (53, .iaload, 1) (List.mem_of_getElem? (i := 31) rfl)) ⟨rfl, rfl⟩ (by decide) r0 ?_
  refine y_putf (f := (0, -2147483648, 2147483647)) w4.1.I te (e_38 (54, .putfield 220, 3) (List.mem_of_getElem? (i := 32) rfl)) u_3_220 ⟨rfl, rfl, by decide, rfl, rfl⟩ ⟨_, rfl, (x_i32 _).1, (x_i32 _).2⟩ (fun Gq uq => ?_)
  have w5 := w4.oth uq (w4.1.I.upd uq te (y_okA rfl)) (by omega) (by omega) (t_trk_o (by omega) (by decide))
  have r1 : x_sl Gq 4 1 = some (.int num3) := by rw [uq.2.1, if_neg (by omega)]; exact r1
  refine y_aln (e_38 (57, .aload_n 3, 1) (List.mem_of_getElem? (i := 33) rfl)) g3 ?_
  refine y_aln (e_38 (58, .aload_n 0, 1) (List.mem_of_getElem? (i := 34) rfl)) g0 ?_
  refine y_getf w5.1.I th0_p.2.2.1 (e_38 (59, .getfield 9, 3) (List.mem_of_getElem? (i := 35) rfl)) u_3_9 ⟨rfl, rfl⟩ w5.2.a3_0 ?_
  refine y_st (e_38 (62, .iconst 1, 1) (List.mem_of_getElem? (i := 36) rfl)) ⟨rfl, rfl, rfl, rfl⟩ ?_
  refine y_iald w5.1.I th0_p.2.2.2.1 (e_38 (63, .iaload, 1) (List.mem_of_getElem? (i := 37) rfl)) ⟨rfl, rfl⟩ (by decide) r1 ?_
  refine y_putf (f := (0, -2147483648, 2147483647)) w5.1.I te (e_38 (64, .putfield 221, 3) (List.mem_of_getElem? (i := 38) rfl)) u_3_221 ⟨rfl, rfl, by decide, rfl, rfl⟩ ⟨_, rfl, (x_i32 _).1, (x_i32 _).2⟩ (fun Gr ur => ?_)
  have w6 := w5.oth ur (w5.1.I.upd ur te (y_okA rfl)) (by omega) (by omega) (t_trk_o (by omega) (by decide))
  refine y_aln (e_38 (67, .aload_n 3, 1) (List.mem_of_getElem? (i := 39) rfl)) g3 ?_
  refine y_st (e_38 (68, .iconst 0, 1) (List.mem_of_getElem? (i := 40) rfl)) ⟨rfl, rfl, rfl, rfl⟩ ?_
  refine y_putf (f := (0, -2147483648, 2147483647)) w6.1.I te (e_38 (69, .putfield 222, 3) (List.mem_of_getElem? (i := 41) rfl)) u_3_222 ⟨rfl, rfl, by decide, rfl, rfl⟩ ⟨_, rfl, (x_i32 _).1, (x_i32 _).2⟩ (fun Gs us => ?_)
  have w7 := w6.oth us (w6.1.I.upd us te (y_okA rfl)) (by omega) (by omega) (t_trk_o (by omega) (by decide))
  have ec : (nn + Int32.ofInt 1).toInt = nn.toInt + 1 := y_add1 (t := nn) (by omega)
  refine y_aln (e_38 (72, .aload_n 2, 1) (List.mem_of_getElem? (i := 42) rfl)) g2 ?_
  refine y_st (e_38 (73, .dup, 1) (List.mem_of_getElem? (i := 43) rfl)) ⟨rfl, rfl, rfl, rfl⟩ ?_
  refine y_getf w7.1.I th0_p.2.2.2.2.2.1 (e_38 (74, .getfield 129, 3) (List.mem_of_getElem? (i := 44) rfl)) u_3_129 ⟨rfl, rfl⟩ w7.2.a32_6 ?_
  refine y_st (e_38 (77, .iconst 1, 1) (List.mem_of_getElem? (i := 45) rfl)) ⟨rfl, rfl, rfl, rfl⟩ ?_
  refine y_st (e_38 (78, .iadd, 1) (List.mem_of_getElem? (i := 46) rfl)) ⟨rfl, rfl, rfl, rfl⟩ ?_
  refine y_putf (f := (0, 0, 4)) w7.1.I th0_p.2.2.2.2.2.1 (e_38 (79, .putfield 129, 3) (List.mem_of_getElem? (i := 47) rfl)) u_3_129 ⟨rfl, rfl, by decide, rfl, rfl⟩ ⟨_, rfl, by show (0 : Int) ≤ _; omega, by show _ ≤ (4 : Int); omega⟩ (fun Gt ut => ?_)
  have w8 : CS f n lim nx4 tk4 pl4 num4 nm4 ft fp cc np nt nl (nn + Int32.ofInt 1) oc ot tn ln (fun j => if j = nn.toInt.toNat then nm1 else mn j) Gt := ⟨w7.1.other ut (by decide) (by decide) (w7.1.I.upd ut th0_p.2.2.2.2.2.1 (y_okI rfl (by show (0 : Int) ≤ _; omega) (by show _ ≤ (4 : Int); omega))), w7.2.unn (fun c i => by rw [ut.2.1])⟩
  refine y_st (e_38 (82, .iconst 1, 1) (List.mem_of_getElem? (i := 48) rfl)) ⟨rfl, rfl, rfl, rfl⟩ ?_
  exact y_ret (e_38 (83, .ireturn, 1) (List.mem_of_getElem? (i := 49) rfl)) ⟨rfl, y_rb (Or.inr rfl)⟩ ⟨rfl, w8⟩
end CS8
