def m_29 : pM := (⟨"BreathingHill$LandReader", "readThing", "(LBreathingHill$Tape;LBreathingHill$Hill;)Z"⟩, 604, 4, some (FieldType.boolean), 3, 2, false, 2, 95, 603, 2)
set_option maxRecDepth 100000 in
theorem m_29_ok : pm_tab[29]? = some m_29 := rfl
theorem e_29 : ∀ q ∈ d_29, decode m_29.code q.1 = .ok (q.2.1, q.2.2) := y_dec d_29_ok m_29_ok
def m_35 : pM := (⟨"BreathingHill$Thing", "put", "(III)V"⟩, 629, 4, none, 6, 3, false, 8, 98, 627, 628)
set_option maxRecDepth 100000 in
theorem m_35_ok : pm_tab[35]? = some m_35 := rfl
theorem e_35 : ∀ q ∈ d_35, decode m_35.code q.1 = .ok (q.2.1, q.2.2) := y_dec d_35_ok m_35_ok
def m_36 : pM := (⟨"BreathingHill$Thing", "comeOut", "(I)V"⟩, 633, 2, none, 6, 1, false, 8, 98, 631, 632)
set_option maxRecDepth 100000 in
theorem m_36_ok : pm_tab[36]? = some m_36 := rfl
theorem e_36 : ∀ q ∈ d_36, decode m_36.code q.1 = .ok (q.2.1, q.2.2) := y_dec d_36_ok m_36_ok
theorem t_6_44 : pm_ctab.find? (fun r => r.1 == 6 && r.2.1 == 44) = some (6, 44, 1, 36, 630) := by decide +kernel
theorem u_3_169 : pm_ftab.find? (fun r => r.1 == 3 && r.2.1 == 169) = some (3, 169, 0, 1, 1, 363) := by decide +kernel
theorem u_3_177 : pm_ftab.find? (fun r => r.1 == 3 && r.2.1 == 177) = some (3, 177, 8, 0, 1, 254) := by decide +kernel
theorem u_3_187 : pm_ftab.find? (fun r => r.1 == 3 && r.2.1 == 187) = some (3, 187, 8, 7, 1, 274) := by decide +kernel
theorem u_3_193 : pm_ftab.find? (fun r => r.1 == 3 && r.2.1 == 193) = some (3, 193, 8, 8, 1, 278) := by decide +kernel
theorem t_3_183 : pm_ctab.find? (fun r => r.1 == 3 && r.2.1 == 183) = some (3, 183, 1, 35, 626) := by decide +kernel
theorem w_3_190 : pm_stab.find? (fun r => r.1 == 3 && r.2.1 == 190) = some (3, 190, 17, 634) := by decide +kernel
theorem w_3_54 : pm_stab.find? (fun r => r.1 == 3 && r.2.1 == 54) = some (3, 54, 15, 583) := by decide +kernel
theorem w_3_65 : pm_stab.find? (fun r => r.1 == 3 && r.2.1 == 65) = some (3, 65, 16, 599) := by decide +kernel
theorem w_3_71 : pm_stab.find? (fun r => r.1 == 3 && r.2.1 == 71) = some (3, 71, 18, 636) := by decide +kernel
theorem w_3_77 : pm_stab.find? (fun r => r.1 == 3 && r.2.1 == 77) = some (3, 77, 19, 642) := by decide +kernel
theorem w_3_83 : pm_stab.find? (fun r => r.1 == 3 && r.2.1 == 83) = some (3, 83, 10, 648) := by decide +kernel
theorem w_3_89 : pm_stab.find? (fun r => r.1 == 3 && r.2.1 == 89) = some (3, 89, 11, 658) := by decide +kernel
theorem w_3_98 : pm_stab.find? (fun r => r.1 == 3 && r.2.1 == 98) = some (3, 98, 12, 668) := by decide +kernel
theorem w_3_104 : pm_stab.find? (fun r => r.1 == 3 && r.2.1 == 104) = some (3, 104, 13, 674) := by decide +kernel
theorem w_3_110 : pm_stab.find? (fun r => r.1 == 3 && r.2.1 == 110) = some (3, 110, 14, 680) := by decide +kernel
theorem w_3_40 : pm_stab.find? (fun r => r.1 == 3 && r.2.1 == 40) = some (3, 40, 0, 578) := by decide +kernel
theorem w_3_47 : pm_stab.find? (fun r => r.1 == 3 && r.2.1 == 47) = some (3, 47, 4, 686) := by decide +kernel
section CS9
variable {xs : Nat → Int32} {L J d : Nat} {K : Option Value → List pE → Prop} {f : Nat → Int32} {G G1 G' : List pE} {n lim ft fp : Int32} {lv : pL} {cc : Nat → Int32} {np nt nl nn oc : Int32} {ot : Nat → Nat} {tn ln mn : Nat → Int64} {nx0 pl0 num0 : Int32} {tk0 : Nat} {nm0 : Int64} {nx1 pl1 num1 : Int32} {tk1 : Nat} {nm1 : Int64} {nx2 pl2 num2 : Int32} {tk2 : Nat} {nm2 : Int64} {nx3 pl3 num3 : Int32} {tk3 : Nat} {nm3 : Int64} {nx4 pl4 num4 : Int32} {tk4 : Nat} {nm4 : Int64} {nx5 pl5 num5 : Int32} {tk5 : Nat} {nm5 : Int64} {nx6 pl6 num6 : Int32} {tk6 : Nat} {nm6 : Int64} {nx7 pl7 num7 : Int32} {tk7 : Nat} {nm7 : Int64} {nx8 pl8 num8 : Int32} {tk8 : Nat} {nm8 : Int64}
set_option maxHeartbeats 2000000 in
set_option maxRecDepth 100000 in
theorem k_comeOut {j : Nat} {v : Int32} (h : CS f n lim nx0 tk0 pl0 num0 nm0 ft fp cc np nt nl nn oc ot tn ln mn G) (hj : j < 8) : x_Gd xs L J d m_36 (fun r G' => r = none ∧ CS f n lim nx0 tk0 pl0 num0 nm0 ft fp cc np nt nl nn oc ot tn ln mn G' ∧ ∀ i, x_sl G' 4 i = x_sl G 4 i) 0 (lv_args 0 [.ref (42 + j), .int v]) [] G := by
  have te := th0_n.1 j hj
  have g0 : pm_get (lv_args 0 [.ref (42 + j), .int v]) 0 = some (.ref (42 + j)) := rfl
  have g1 : pm_get (lv_args 0 [.ref (42 + j), .int v]) 1 = some (.int v) := rfl
  generalize lv_args 0 [.ref (42 + j), .int v] = lv at g0 g1 ⊢
  have r0 : ∀ i, x_sl G 4 i = x_sl G 4 i := fun i => rfl
  refine y_aln (e_36 (0, .aload_n 0, 1) (List.mem_of_getElem? (i := 0) rfl)) g0 ?_
  refine y_iln (e_36 (1, .iload_n 1, 1) (List.mem_of_getElem? (i := 1) rfl)) g1 ?_
  refine y_putf (f := (0, -2147483648, 2147483647)) h.1.I te (e_36 (2, .putfield 22, 3) (List.mem_of_getElem? (i := 2) rfl)) u_6_22 ⟨rfl, rfl, by decide, rfl, rfl⟩ ⟨_, rfl, (x_i32 _).1, (x_i32 _).2⟩ (fun Gw1 uw1 => ?_)
  have w1 := h.oth uw1 (h.1.I.upd uw1 te (y_okA rfl)) (by omega) (by omega) (t_trk_o (by omega) (by decide))
  have rw1 : ∀ i, x_sl Gw1 4 i = x_sl G 4 i := fun i => by rw [uw1.2.1, if_neg (by omega)]
  refine y_aln (e_36 (5, .aload_n 0, 1) (List.mem_of_getElem? (i := 3) rfl)) g0 ?_
  refine y_st (e_36 (6, .iconst 0, 1) (List.mem_of_getElem? (i := 4) rfl)) ⟨rfl, rfl, rfl, rfl⟩ ?_
  refine y_putf (f := (0, -2147483648, 2147483647)) w1.1.I te (e_36 (7, .putfield 25, 3) (List.mem_of_getElem? (i := 5) rfl)) u_6_25 ⟨rfl, rfl, by decide, rfl, rfl⟩ ⟨_, rfl, (x_i32 _).1, (x_i32 _).2⟩ (fun Gw2 uw2 => ?_)
  have w2 := w1.oth uw2 (w1.1.I.upd uw2 te (y_okA rfl)) (by omega) (by omega) (t_trk_o (by omega) (by decide))
  have rw2 : ∀ i, x_sl Gw2 4 i = x_sl G 4 i := fun i => by rw [uw2.2.1, if_neg (by omega)]; exact rw1 i
  refine y_aln (e_36 (10, .aload_n 0, 1) (List.mem_of_getElem? (i := 6) rfl)) g0 ?_
  refine y_st (e_36 (11, .iconst (-1), 1) (List.mem_of_getElem? (i := 7) rfl)) ⟨rfl, rfl, rfl, rfl⟩ ?_
  refine y_putf (f := (0, -2147483648, 2147483647)) w2.1.I te (e_36 (12, .putfield 28, 3) (List.mem_of_getElem? (i := 8) rfl)) u_6_28 ⟨rfl, rfl, by decide, rfl, rfl⟩ ⟨_, rfl, (x_i32 _).1, (x_i32 _).2⟩ (fun Gw3 uw3 => ?_)
  have w3 := w2.oth uw3 (w2.1.I.upd uw3 te (y_okA rfl)) (by omega) (by omega) (t_trk_o (by omega) (by decide))
  have rw3 : ∀ i, x_sl Gw3 4 i = x_sl G 4 i := fun i => by rw [uw3.2.1, if_neg (by omega)]; exact rw2 i
  refine y_aln (e_36 (15, .aload_n 0, 1) (List.mem_of_getElem? (i := 9) rfl)) g0 ?_
  refine y_st (e_36 (16, .iconst (-1), 1) (List.mem_of_getElem? (i := 10) rfl)) ⟨rfl, rfl, rfl, rfl⟩ ?_
  refine y_putf (f := (0, -2147483648, 2147483647)) w3.1.I te (e_36 (17, .putfield 31, 3) (List.mem_of_getElem? (i := 11) rfl)) u_6_31 ⟨rfl, rfl, by decide, rfl, rfl⟩ ⟨_, rfl, (x_i32 _).1, (x_i32 _).2⟩ (fun Gw4 uw4 => ?_)
  have w4 := w3.oth uw4 (w3.1.I.upd uw4 te (y_okA rfl)) (by omega) (by omega) (t_trk_o (by omega) (by decide))
  have rw4 : ∀ i, x_sl Gw4 4 i = x_sl G 4 i := fun i => by rw [uw4.2.1, if_neg (by omega)]; exact rw3 i
  exact y_ret (e_36 (20, .return_, 1) (List.mem_of_getElem? (i := 12) rfl)) ⟨rfl, rfl⟩ ⟨rfl, w4, rw4⟩
set_option maxHeartbeats 2000000 in
set_option maxRecDepth 100000 in
theorem k_put {j : Nat} {v1 v2 v3 : Int32} (h : CS f n lim nx0 tk0 pl0 num0 nm0 ft fp cc np nt nl nn oc ot tn ln mn G) (hj : j < 8) : x_Gd xs L J (d + 1) m_35 (fun r G' => r = none ∧ CS f n lim nx0 tk0 pl0 num0 nm0 ft fp cc np nt nl nn oc ot tn ln mn G' ∧ ∀ i, x_sl G' 4 i = x_sl G 4 i) 0 (lv_args 0 [.ref (42 + j), .int v1, .int v2, .int v3]) [] G := by
  have te := th0_n.1 j hj
  have g0 : pm_get (lv_args 0 [.ref (42 + j), .int v1, .int v2, .int v3]) 0 = some (.ref (42 + j)) := rfl
  have g1 : pm_get (lv_args 0 [.ref (42 + j), .int v1, .int v2, .int v3]) 1 = some (.int v1) := rfl
  have g2 : pm_get (lv_args 0 [.ref (42 + j), .int v1, .int v2, .int v3]) 2 = some (.int v2) := rfl
  have g3 : pm_get (lv_args 0 [.ref (42 + j), .int v1, .int v2, .int v3]) 3 = some (.int v3) := rfl
  generalize (lv_args 0 [.ref (42 + j), .int v1, .int v2, .int v3]) = lv at g0 g1 g2 g3 ⊢
  have r0 : ∀ i, x_sl G 4 i = x_sl G 4 i := fun i => rfl
  refine y_aln (e_35 (0, .aload_n 0, 1) (List.mem_of_getElem? (i := 0) rfl)) g0 ?_
  refine y_iln (e_35 (1, .iload_n 1, 1) (List.mem_of_getElem? (i := 1) rfl)) g1 ?_
  refine y_putf (f := (0, -2147483648, 2147483647)) h.1.I te (e_35 (2, .putfield 15, 3) (List.mem_of_getElem? (i := 2) rfl)) u_6_15 ⟨rfl, rfl, by decide, rfl, rfl⟩ ⟨_, rfl, (x_i32 _).1, (x_i32 _).2⟩ (fun Gw1 uw1 => ?_)
  have w1 := h.oth uw1 (h.1.I.upd uw1 te (y_okA rfl)) (by omega) (by omega) (t_trk_o (by omega) (by decide))
  have rw1 : ∀ i, x_sl Gw1 4 i = x_sl G 4 i := fun i => by rw [uw1.2.1, if_neg (by omega)]
  refine y_aln (e_35 (5, .aload_n 0, 1) (List.mem_of_getElem? (i := 3) rfl)) g0 ?_
  refine y_iln (e_35 (6, .iload_n 3, 1) (List.mem_of_getElem? (i := 4) rfl)) g3 ?_
  refine y_putf (f := (0, -2147483648, 2147483647)) w1.1.I te (e_35 (7, .putfield 19, 3) (List.mem_of_getElem? (i := 5) rfl)) u_6_19 ⟨rfl, rfl, by decide, rfl, rfl⟩ ⟨_, rfl, (x_i32 _).1, (x_i32 _).2⟩ (fun Gw2 uw2 => ?_)
  have w2 := w1.oth uw2 (w1.1.I.upd uw2 te (y_okA rfl)) (by omega) (by omega) (t_trk_o (by omega) (by decide))
  have rw2 : ∀ i, x_sl Gw2 4 i = x_sl G 4 i := fun i => by rw [uw2.2.1, if_neg (by omega)]; exact rw1 i
  refine y_aln (e_35 (10, .aload_n 0, 1) (List.mem_of_getElem? (i := 6) rfl)) g0 ?_
  refine y_st (e_35 (11, .iconst 0, 1) (List.mem_of_getElem? (i := 7) rfl)) ⟨rfl, rfl, rfl, rfl⟩ ?_
  refine y_putf (f := (0, -2147483648, 2147483647)) w2.1.I te (e_35 (12, .putfield 34, 3) (List.mem_of_getElem? (i := 8) rfl)) u_6_34 ⟨rfl, rfl, by decide, rfl, rfl⟩ ⟨_, rfl, (x_i32 _).1, (x_i32 _).2⟩ (fun Gw3 uw3 => ?_)
  have w3 := w2.oth uw3 (w2.1.I.upd uw3 te (y_okA rfl)) (by omega) (by omega) (t_trk_o (by omega) (by decide))
  have rw3 : ∀ i, x_sl Gw3 4 i = x_sl G 4 i := fun i => by rw [uw3.2.1, if_neg (by omega)]; exact rw2 i
  refine y_aln (e_35 (15, .aload_n 0, 1) (List.mem_of_getElem? (i := 9) rfl)) g0 ?_
  refine y_st (e_35 (16, .iconst 0, 1) (List.mem_of_getElem? (i := 10) rfl)) ⟨rfl, rfl, rfl, rfl⟩ ?_
  refine y_putf (f := (0, 0, 1)) w3.1.I te (e_35 (17, .putfield 37, 3) (List.mem_of_getElem? (i := 11) rfl)) u_6_37 ⟨rfl, rfl, by decide, rfl, rfl⟩ ⟨_, rfl, by decide, by decide⟩ (fun Gw4 uw4 => ?_)
  have w4 := w3.oth uw4 (w3.1.I.upd uw4 te (y_okI rfl (by decide) (by decide))) (by omega) (by omega) (t_trk_o (by omega) (by decide))
  have rw4 : ∀ i, x_sl Gw4 4 i = x_sl G 4 i := fun i => by rw [uw4.2.1, if_neg (by omega)]; exact rw3 i
  refine y_aln (e_35 (20, .aload_n 0, 1) (List.mem_of_getElem? (i := 12) rfl)) g0 ?_
  refine y_st (e_35 (21, .iconst 0, 1) (List.mem_of_getElem? (i := 13) rfl)) ⟨rfl, rfl, rfl, rfl⟩ ?_
  refine y_putf (f := (0, -2147483648, 2147483647)) w4.1.I te (e_35 (22, .putfield 41, 3) (List.mem_of_getElem? (i := 14) rfl)) u_6_41 ⟨rfl, rfl, by decide, rfl, rfl⟩ ⟨_, rfl, (x_i32 _).1, (x_i32 _).2⟩ (fun Gw5 uw5 => ?_)
  have w5 := w4.oth uw5 (w4.1.I.upd uw5 te (y_okA rfl)) (by omega) (by omega) (t_trk_o (by omega) (by decide))
  have rw5 : ∀ i, x_sl Gw5 4 i = x_sl G 4 i := fun i => by rw [uw5.2.1, if_neg (by omega)]; exact rw4 i
  refine y_aln (e_35 (25, .aload_n 0, 1) (List.mem_of_getElem? (i := 15) rfl)) g0 ?_
  refine y_iln (e_35 (26, .iload_n 1, 1) (List.mem_of_getElem? (i := 16) rfl)) g1 ?_
  refine y_c2 (K' := _) (e_35 (27, .invokevirtual 44, 3) (List.mem_of_getElem? (i := 17) rfl)) ⟨rfl, rfl, rfl⟩ t_6_44 ⟨by decide, by decide, by decide, by decide⟩ m_36_ok rfl (by decide) (y_recv w5.1.I te ⟨rfl, rfl⟩) (Nat.le_of_ble_eq_true rfl) (Nat.le_of_ble_eq_true rfl) (k_comeOut w5 hj) (fun r1 Gc hc1 => ?_)
  obtain ⟨rfl, w6, r6⟩ := hc1
  simp only [Option.toList_some, Option.toList_none, List.cons_append, List.nil_append]
  have rw6 : ∀ i, x_sl Gc 4 i = x_sl G 4 i := fun i => (r6 i).trans (rw5 i)
  refine y_aln (e_35 (30, .aload_n 0, 1) (List.mem_of_getElem? (i := 18) rfl)) g0 ?_
  refine y_iln (e_35 (31, .iload_n 2, 1) (List.mem_of_getElem? (i := 19) rfl)) g2 ?_
  refine y_putf (f := (0, -2147483648, 2147483647)) w6.1.I te (e_35 (32, .putfield 25, 3) (List.mem_of_getElem? (i := 20) rfl)) u_6_25 ⟨rfl, rfl, by decide, rfl, rfl⟩ ⟨_, rfl, (x_i32 _).1, (x_i32 _).2⟩ (fun Gw7 uw7 => ?_)
  have w7 := w6.oth uw7 (w6.1.I.upd uw7 te (y_okA rfl)) (by omega) (by omega) (t_trk_o (by omega) (by decide))
  have rw7 : ∀ i, x_sl Gw7 4 i = x_sl G 4 i := fun i => by rw [uw7.2.1, if_neg (by omega)]; exact rw6 i
  exact y_ret (e_35 (35, .return_, 1) (List.mem_of_getElem? (i := 21) rfl)) ⟨rfl, rfl⟩ ⟨rfl, w7, rw7⟩
set_option maxHeartbeats 2000000 in
set_option maxRecDepth 100000 in
theorem c_thing_0 (h : CS f n lim nx0 tk0 pl0 num0 nm0 ft fp cc np nt nl nn oc ot tn ln mn G) (hcn : 8 ≤ nt.toInt) : x_Gd xs L J (d + 2) m_29 (fun r G' => r = some (.int 0) ∧ x_sl G' 1 9 = some (.int pl0) ∧ x_sl G' 1 8 = some (.int (Int32.ofInt 4))) 0 (lv_args 0 [.ref 3, .ref 1, .ref 32]) [] G := by
  have g0 : pm_get (lv_args 0 [.ref 3, .ref 1, .ref 32]) 0 = some (.ref 3) := rfl
  have g1 : pm_get (lv_args 0 [.ref 3, .ref 1, .ref 32]) 1 = some (.ref 1) := rfl
  have g2 : pm_get (lv_args 0 [.ref 3, .ref 1, .ref 32]) 2 = some (.ref 32) := rfl
  generalize (lv_args 0 [.ref 3, .ref 1, .ref 32]) = lv at g0 g1 g2 ⊢
  obtain ⟨⟨t0, t1⟩, ⟨l0, l1⟩, ⟨m0, m1⟩, -, -⟩ := h.cn
  refine y_aln (e_29 (0, .aload_n 2, 1) (List.mem_of_getElem? (i := 0) rfl)) g2 ?_
  refine y_getf h.1.I th0_p.2.2.2.2.2.1 (e_29 (1, .getfield 123, 3) (List.mem_of_getElem? (i := 1) rfl)) u_3_123 ⟨rfl, rfl⟩ h.2.a32_4 ?_
  refine y_st (e_29 (4, .bipush 8, 2) (List.mem_of_getElem? (i := 2) rfl)) ⟨rfl, rfl, rfl, rfl⟩ ?_
  refine y_icm (e_29 (6, .if_icmp .lt 9, 3) (List.mem_of_getElem? (i := 3) rfl)) rfl (fun hc => ?_) (fun _ => ?_)
  · have z := y_hI.2.2.2.2.2.2.2.2.1 hc
    rw [show (Int8.ofInt 8).toInt32.toInt = 8 from rfl] at z
    omega
  refine y_aln (e_29 (9, .aload_n 1, 1) (List.mem_of_getElem? (i := 4) rfl)) g1 ?_
  refine y_st (e_29 (10, .iconst 4, 1) (List.mem_of_getElem? (i := 5) rfl)) ⟨rfl, rfl, rfl, rfl⟩ ?_
  refine y_c2 (K' := _) (e_29 (11, .invokevirtual 116, 3) (List.mem_of_getElem? (i := 6) rfl)) ⟨rfl, rfl, rfl⟩ t_3_116 ⟨by decide, by decide, by decide, by decide⟩ m_27_ok rfl (by decide) (y_recv h.1.I h.1.t ⟨rfl, rfl⟩) (Nat.le_of_ble_eq_true rfl) (Nat.le_of_ble_eq_true rfl) (k_refuse h.1 _) (fun r1 Gc hc1 => ?_)
  obtain ⟨rfl, hc2⟩ := hc1
  simp only [Option.toList_some, Option.toList_none, List.cons_append, List.nil_append]
  exact y_ret (e_29 (14, .ireturn, 1) (List.mem_of_getElem? (i := 7) rfl)) ⟨rfl, y_rb (Or.inl rfl)⟩ ⟨rfl, hc2.s9, hc2.s8⟩
set_option maxHeartbeats 2000000 in
set_option maxRecDepth 100000 in
theorem c_thing_a (h : CS f n lim nx0 tk0 pl0 num0 nm0 ft fp cc np nt nl nn oc ot tn ln mn G) (hcn : nt.toInt < 8) (hN1 : NXc f n lim nx0 num0 nm0 nx1 tk1 pl1 num1 nm1) (hno : tk1 ≠ 3 ∨ c_Told nt nl nn tn ln mn nm1) : x_Gd xs L J (d + 3) m_29 (fun r G' => r = some (.int 0) ∧ x_sl G' 1 9 = some (.int pl1) ∧ x_sl G' 1 8 = some (.int (t_kn tk1))) 0 (lv_args 0 [.ref 3, .ref 1, .ref 32]) [] G := by
  have g0 : pm_get (lv_args 0 [.ref 3, .ref 1, .ref 32]) 0 = some (.ref 3) := rfl
  have g1 : pm_get (lv_args 0 [.ref 3, .ref 1, .ref 32]) 1 = some (.ref 1) := rfl
  have g2 : pm_get (lv_args 0 [.ref 3, .ref 1, .ref 32]) 2 = some (.ref 32) := rfl
  generalize (lv_args 0 [.ref 3, .ref 1, .ref 32]) = lv at g0 g1 g2 ⊢
  obtain ⟨⟨t0, t1⟩, ⟨l0, l1⟩, ⟨m0, m1⟩, -, -⟩ := h.cn
  refine y_aln (e_29 (0, .aload_n 2, 1) (List.mem_of_getElem? (i := 0) rfl)) g2 ?_
  refine y_getf h.1.I th0_p.2.2.2.2.2.1 (e_29 (1, .getfield 123, 3) (List.mem_of_getElem? (i := 1) rfl)) u_3_123 ⟨rfl, rfl⟩ h.2.a32_4 ?_
  refine y_st (e_29 (4, .bipush 8, 2) (List.mem_of_getElem? (i := 2) rfl)) ⟨rfl, rfl, rfl, rfl⟩ ?_
  refine y_icm (e_29 (6, .if_icmp .lt 9, 3) (List.mem_of_getElem? (i := 3) rfl)) rfl (fun _ => ?_) (fun hc => ?_)
  rotate_left
  · have z := y_hI.2.2.2.2.2.2.2.2.2.1 hc
    rw [show (Int8.ofInt 8).toInt32.toInt = 8 from rfl] at z
    omega
  refine y_aln (e_29 (15, .aload_n 2, 1) (List.mem_of_getElem? (i := 8) rfl)) g2 ?_
  refine y_getf h.1.I th0_p.2.2.2.2.2.1 (e_29 (16, .getfield 169, 3) (List.mem_of_getElem? (i := 9) rfl)) u_3_169 ⟨rfl, rfl⟩ h.2.a32_1 ?_
  refine y_aln (e_29 (19, .aload_n 2, 1) (List.mem_of_getElem? (i := 10) rfl)) g2 ?_
  refine y_getf h.1.I th0_p.2.2.2.2.2.1 (e_29 (20, .getfield 123, 3) (List.mem_of_getElem? (i := 11) rfl)) u_3_123 ⟨rfl, rfl⟩ h.2.a32_4 ?_
  refine y_aald h.1.I th0_p.2.2.2.2.2.2.2.2.2.2.2.2.1 (e_29 (23, .aaload, 1) (List.mem_of_getElem? (i := 12) rfl)) ⟨rfl, by decide⟩ ⟨by omega, by show _ < (8 : Int); omega⟩ (h.2.fta nt.toInt.toNat (by omega)) ?_
  refine y_asn (e_29 (24, .astore_n 3, 1) (List.mem_of_getElem? (i := 13) rfl)) (by decide) ?_
  have g3 : pm_get (pm_put1 lv 3 (.ref (42 + nt.toInt.toNat))) 3 = some (.ref (42 + nt.toInt.toNat)) := x_get_self
  have g0 : pm_get (pm_put1 lv 3 (.ref (42 + nt.toInt.toNat))) 0 = some (.ref 3) := y_gpr g0 (by decide)
  have g1 : pm_get (pm_put1 lv 3 (.ref (42 + nt.toInt.toNat))) 1 = some (.ref 1) := y_gpr g1 (by decide)
  have g2 : pm_get (pm_put1 lv 3 (.ref (42 + nt.toInt.toNat))) 2 = some (.ref 32) := y_gpr g2 (by decide)
  show x_Gd xs L J _ m_29 _ 25 (pm_put1 lv 3 (.ref (42 + nt.toInt.toNat))) [] G
  generalize pm_put1 lv 3 (.ref (42 + nt.toInt.toNat)) = lv3 at g0 g1 g2 g3 ⊢
  refine y_aln (e_29 (25, .aload_n 1, 1) (List.mem_of_getElem? (i := 14) rfl)) g1 ?_
  refine y_c1 (K' := _) (e_29 (26, .invokevirtual 120, 3) (List.mem_of_getElem? (i := 15) rfl)) ⟨rfl, rfl, rfl⟩ t_3_120 ⟨by decide, by decide, by decide, by decide⟩ m_21_ok rfl (by decide) (y_recv h.1.I h.1.t ⟨rfl, rfl⟩) (Nat.le_of_ble_eq_true rfl) (Nat.le_of_ble_eq_true rfl) (hN1 _ _ _ _ _ _ _ _ _ _ _ _ _ h.1) (fun r1 Gc hc1 => ?_)
  obtain ⟨rfl, hc2⟩ := hc1
  simp only [Option.toList_some, Option.toList_none, List.cons_append, List.nil_append]
  have w1 := h.nxt hc2
  have te := th0_n.1 nt.toInt.toNat (by omega)
  refine y_aln (e_29 (29, .aload_n 3, 1) (List.mem_of_getElem? (i := 16) rfl)) g3 ?_
  refine y_aln (e_29 (30, .aload_n 1, 1) (List.mem_of_getElem? (i := 17) rfl)) g1 ?_
  refine y_getf w1.1.I w1.1.t (e_29 (31, .getfield 173, 3) (List.mem_of_getElem? (i := 18) rfl)) u_3_173 ⟨rfl, rfl⟩ w1.1.s7 ?_
  refine y_putf (f := (1, 0, 0)) w1.1.I te (e_29 (34, .putfield 177, 3) (List.mem_of_getElem? (i := 19) rfl)) u_3_177 ⟨rfl, rfl, by decide, rfl, rfl⟩ ⟨_, rfl⟩ (fun Gp up => ?_)
  have w2 : CS f n lim nx1 tk1 pl1 num1 nm1 ft fp cc np nt nl nn oc ot (fun j => if j = nt.toInt.toNat then nm1 else tn j) ln mn Gp := ⟨w1.1.other up (by omega) (by omega) (w1.1.I.upd up te (y_okL rfl)), w1.2.utn (k := nt.toInt.toNat) (by omega) (fun c i => by rw [up.2.1])⟩
  refine y_aln (e_29 (37, .aload_n 0, 1) (List.mem_of_getElem? (i := 20) rfl)) g0 ?_
  refine y_aln (e_29 (38, .aload_n 1, 1) (List.mem_of_getElem? (i := 21) rfl)) g1 ?_
  refine y_aln (e_29 (39, .aload_n 2, 1) (List.mem_of_getElem? (i := 22) rfl)) g2 ?_
  refine y_c3 (K' := _) (e_29 (40, .invokevirtual 180, 3) (List.mem_of_getElem? (i := 23) rfl)) ⟨rfl, rfl, rfl⟩ t_3_180 ⟨by decide, by decide, by decide, by decide⟩ m_30_ok rfl (by decide) (y_recv w2.1.I th0_p.2.2.1 ⟨rfl, rfl⟩) (Nat.le_of_ble_eq_true rfl) (Nat.le_of_ble_eq_true rfl) (k_nac_a w2 (hno.imp id (c_Told_tn (by omega)).mpr)) (fun r1 Gc hc1 => ?_)
  obtain ⟨rfl, hz⟩ := hc1
  simp only [Option.toList_some, Option.toList_none, List.cons_append, List.nil_append]
  refine y_ifc (e_29 (43, .ifCond .eq 33, 3) (List.mem_of_getElem? (i := 24) rfl)) rfl (fun _ => ?_) (fun hc => absurd hc (by decide))
  refine y_st (e_29 (76, .iconst 0, 1) (List.mem_of_getElem? (i := 41) rfl)) ⟨rfl, rfl, rfl, rfl⟩ ?_
  exact y_ret (e_29 (77, .ireturn, 1) (List.mem_of_getElem? (i := 42) rfl)) ⟨rfl, y_rb (Or.inl rfl)⟩ ⟨rfl, hz⟩
set_option maxHeartbeats 2000000 in
set_option maxRecDepth 100000 in
theorem c_thing_b (h : CS f n lim nx0 tk0 pl0 num0 nm0 ft fp cc np nt nl nn oc ot tn ln mn G) (hcn : nt.toInt < 8) (hN1 : NXc f n lim nx0 num0 nm0 nx1 tk1 pl1 num1 nm1) (htk1 : tk1 = 3) (hT : ¬ c_Told nt nl nn tn ln mn nm1) (hN2 : NXc f n lim nx1 num1 nm1 nx2 tk2 pl2 num2 nm2) (hno : tk2 ≠ 2 ∨ num2.toInt < 0 ∨ 1 < num2.toInt) : x_Gd xs L J (d + 4) m_29 (fun r G' => r = some (.int 0) ∧ x_sl G' 1 9 = some (.int pl2) ∧ x_sl G' 1 8 = some (.int (t_kd tk2))) 0 (lv_args 0 [.ref 3, .ref 1, .ref 32]) [] G := by
  have g0 : pm_get (lv_args 0 [.ref 3, .ref 1, .ref 32]) 0 = some (.ref 3) := rfl
  have g1 : pm_get (lv_args 0 [.ref 3, .ref 1, .ref 32]) 1 = some (.ref 1) := rfl
  have g2 : pm_get (lv_args 0 [.ref 3, .ref 1, .ref 32]) 2 = some (.ref 32) := rfl
  generalize (lv_args 0 [.ref 3, .ref 1, .ref 32]) = lv at g0 g1 g2 ⊢
  obtain ⟨⟨t0, t1⟩, ⟨l0, l1⟩, ⟨m0, m1⟩, -, -⟩ := h.cn
  refine y_aln (e_29 (0, .aload_n 2, 1) (List.mem_of_getElem? (i := 0) rfl)) g2 ?_
  refine y_getf h.1.I th0_p.2.2.2.2.2.1 (e_29 (1, .getfield 123, 3) (List.mem_of_getElem? (i := 1) rfl)) u_3_123 ⟨rfl, rfl⟩ h.2.a32_4 ?_
  refine y_st (e_29 (4, .bipush 8, 2) (List.mem_of_getElem? (i := 2) rfl)) ⟨rfl, rfl, rfl, rfl⟩ ?_
  refine y_icm (e_29 (6, .if_icmp .lt 9, 3) (List.mem_of_getElem? (i := 3) rfl)) rfl (fun _ => ?_) (fun hc => ?_)
  rotate_left
  · have z := y_hI.2.2.2.2.2.2.2.2.2.1 hc
    rw [show (Int8.ofInt 8).toInt32.toInt = 8 from rfl] at z
    omega
  refine y_aln (e_29 (15, .aload_n 2, 1) (List.mem_of_getElem? (i := 8) rfl)) g2 ?_
  refine y_getf h.1.I th0_p.2.2.2.2.2.1 (e_29 (16, .getfield 169, 3) (List.mem_of_getElem? (i := 9) rfl)) u_3_169 ⟨rfl, rfl⟩ h.2.a32_1 ?_
  refine y_aln (e_29 (19, .aload_n 2, 1) (List.mem_of_getElem? (i := 10) rfl)) g2 ?_
  refine y_getf h.1.I th0_p.2.2.2.2.2.1 (e_29 (20, .getfield 123, 3) (List.mem_of_getElem? (i := 11) rfl)) u_3_123 ⟨rfl, rfl⟩ h.2.a32_4 ?_
  refine y_aald h.1.I th0_p.2.2.2.2.2.2.2.2.2.2.2.2.1 (e_29 (23, .aaload, 1) (List.mem_of_getElem? (i := 12) rfl)) ⟨rfl, by decide⟩ ⟨by omega, by show _ < (8 : Int); omega⟩ (h.2.fta nt.toInt.toNat (by omega)) ?_
  refine y_asn (e_29 (24, .astore_n 3, 1) (List.mem_of_getElem? (i := 13) rfl)) (by decide) ?_
  have g3 : pm_get (pm_put1 lv 3 (.ref (42 + nt.toInt.toNat))) 3 = some (.ref (42 + nt.toInt.toNat)) := x_get_self
  have g0 : pm_get (pm_put1 lv 3 (.ref (42 + nt.toInt.toNat))) 0 = some (.ref 3) := y_gpr g0 (by decide)
  have g1 : pm_get (pm_put1 lv 3 (.ref (42 + nt.toInt.toNat))) 1 = some (.ref 1) := y_gpr g1 (by decide)
  have g2 : pm_get (pm_put1 lv 3 (.ref (42 + nt.toInt.toNat))) 2 = some (.ref 32) := y_gpr g2 (by decide)
  show x_Gd xs L J _ m_29 _ 25 (pm_put1 lv 3 (.ref (42 + nt.toInt.toNat))) [] G
  generalize pm_put1 lv 3 (.ref (42 + nt.toInt.toNat)) = lv3 at g0 g1 g2 g3 ⊢
  refine y_aln (e_29 (25, .aload_n 1, 1) (List.mem_of_getElem? (i := 14) rfl)) g1 ?_
  refine y_c1 (K' := _) (e_29 (26, .invokevirtual 120, 3) (List.mem_of_getElem? (i := 15) rfl)) ⟨rfl, rfl, rfl⟩ t_3_120 ⟨by decide, by decide, by decide, by decide⟩ m_21_ok rfl (by decide) (y_recv h.1.I h.1.t ⟨rfl, rfl⟩) (Nat.le_of_ble_eq_true rfl) (Nat.le_of_ble_eq_true rfl) (hN1 _ _ _ _ _ _ _ _ _ _ _ _ _ h.1) (fun r1 Gc hc1 => ?_)
  obtain ⟨rfl, hc2⟩ := hc1
  simp only [Option.toList_some, Option.toList_none, List.cons_append, List.nil_append]
  have w1 := h.nxt hc2
  have te := th0_n.1 nt.toInt.toNat (by omega)
  refine y_aln (e_29 (29, .aload_n 3, 1) (List.mem_of_getElem? (i := 16) rfl)) g3 ?_
  refine y_aln (e_29 (30, .aload_n 1, 1) (List.mem_of_getElem? (i := 17) rfl)) g1 ?_
  refine y_getf w1.1.I w1.1.t (e_29 (31, .getfield 173, 3) (List.mem_of_getElem? (i := 18) rfl)) u_3_173 ⟨rfl, rfl⟩ w1.1.s7 ?_
  refine y_putf (f := (1, 0, 0)) w1.1.I te (e_29 (34, .putfield 177, 3) (List.mem_of_getElem? (i := 19) rfl)) u_3_177 ⟨rfl, rfl, by decide, rfl, rfl⟩ ⟨_, rfl⟩ (fun Gp up => ?_)
  have w2 : CS f n lim nx1 tk1 pl1 num1 nm1 ft fp cc np nt nl nn oc ot (fun j => if j = nt.toInt.toNat then nm1 else tn j) ln mn Gp := ⟨w1.1.other up (by omega) (by omega) (w1.1.I.upd up te (y_okL rfl)), w1.2.utn (k := nt.toInt.toNat) (by omega) (fun c i => by rw [up.2.1])⟩
  refine y_aln (e_29 (37, .aload_n 0, 1) (List.mem_of_getElem? (i := 20) rfl)) g0 ?_
  refine y_aln (e_29 (38, .aload_n 1, 1) (List.mem_of_getElem? (i := 21) rfl)) g1 ?_
  refine y_aln (e_29 (39, .aload_n 2, 1) (List.mem_of_getElem? (i := 22) rfl)) g2 ?_
  refine y_c3 (K' := _) (e_29 (40, .invokevirtual 180, 3) (List.mem_of_getElem? (i := 23) rfl)) ⟨rfl, rfl, rfl⟩ t_3_180 ⟨by decide, by decide, by decide, by decide⟩ m_30_ok rfl (by decide) (y_recv w2.1.I th0_p.2.2.1 ⟨rfl, rfl⟩) (Nat.le_of_ble_eq_true rfl) (Nat.le_of_ble_eq_true rfl) (k_nac_b w2 htk1 (fun z => hT ((c_Told_tn (by omega)).mp z)) hN2 hno) (fun r1 Gc hc1 => ?_)
  obtain ⟨rfl, hz⟩ := hc1
  simp only [Option.toList_some, Option.toList_none, List.cons_append, List.nil_append]
  refine y_ifc (e_29 (43, .ifCond .eq 33, 3) (List.mem_of_getElem? (i := 24) rfl)) rfl (fun _ => ?_) (fun hc => absurd hc (by decide))
  refine y_st (e_29 (76, .iconst 0, 1) (List.mem_of_getElem? (i := 41) rfl)) ⟨rfl, rfl, rfl, rfl⟩ ?_
  exact y_ret (e_29 (77, .ireturn, 1) (List.mem_of_getElem? (i := 42) rfl)) ⟨rfl, y_rb (Or.inl rfl)⟩ ⟨rfl, hz⟩
set_option maxHeartbeats 2000000 in
set_option maxRecDepth 100000 in
theorem c_thing_c (h : CS f n lim nx0 tk0 pl0 num0 nm0 ft fp cc np nt nl nn oc ot tn ln mn G) (hcn : nt.toInt < 8) (hN1 : NXc f n lim nx0 num0 nm0 nx1 tk1 pl1 num1 nm1) (htk1 : tk1 = 3) (hT : ¬ c_Told nt nl nn tn ln mn nm1) (hN2 : NXc f n lim nx1 num1 nm1 nx2 tk2 pl2 num2 nm2) (htk2 : tk2 = 2) (a2 : 0 ≤ num2.toInt) (b2 : num2.toInt ≤ 1) (hN3 : NXc f n lim nx2 num2 nm2 nx3 tk3 pl3 num3 nm3) (hno : tk3 ≠ 2 ∨ num3.toInt < 0 ∨ (cc num2.toInt.toNat - Int32.ofInt 1).toInt < num3.toInt) : x_Gd xs L J (d + 4) m_29 (fun r G' => r = some (.int 0) ∧ x_sl G' 1 9 = some (.int pl3) ∧ x_sl G' 1 8 = some (.int (t_kd tk3))) 0 (lv_args 0 [.ref 3, .ref 1, .ref 32]) [] G := by
  have g0 : pm_get (lv_args 0 [.ref 3, .ref 1, .ref 32]) 0 = some (.ref 3) := rfl
  have g1 : pm_get (lv_args 0 [.ref 3, .ref 1, .ref 32]) 1 = some (.ref 1) := rfl
  have g2 : pm_get (lv_args 0 [.ref 3, .ref 1, .ref 32]) 2 = some (.ref 32) := rfl
  generalize (lv_args 0 [.ref 3, .ref 1, .ref 32]) = lv at g0 g1 g2 ⊢
  obtain ⟨⟨t0, t1⟩, ⟨l0, l1⟩, ⟨m0, m1⟩, -, -⟩ := h.cn
  refine y_aln (e_29 (0, .aload_n 2, 1) (List.mem_of_getElem? (i := 0) rfl)) g2 ?_
  refine y_getf h.1.I th0_p.2.2.2.2.2.1 (e_29 (1, .getfield 123, 3) (List.mem_of_getElem? (i := 1) rfl)) u_3_123 ⟨rfl, rfl⟩ h.2.a32_4 ?_
  refine y_st (e_29 (4, .bipush 8, 2) (List.mem_of_getElem? (i := 2) rfl)) ⟨rfl, rfl, rfl, rfl⟩ ?_
  refine y_icm (e_29 (6, .if_icmp .lt 9, 3) (List.mem_of_getElem? (i := 3) rfl)) rfl (fun _ => ?_) (fun hc => ?_)
  rotate_left
  · have z := y_hI.2.2.2.2.2.2.2.2.2.1 hc
    rw [show (Int8.ofInt 8).toInt32.toInt = 8 from rfl] at z
    omega
  refine y_aln (e_29 (15, .aload_n 2, 1) (List.mem_of_getElem? (i := 8) rfl)) g2 ?_
  refine y_getf h.1.I th0_p.2.2.2.2.2.1 (e_29 (16, .getfield 169, 3) (List.mem_of_getElem? (i := 9) rfl)) u_3_169 ⟨rfl, rfl⟩ h.2.a32_1 ?_
  refine y_aln (e_29 (19, .aload_n 2, 1) (List.mem_of_getElem? (i := 10) rfl)) g2 ?_
  refine y_getf h.1.I th0_p.2.2.2.2.2.1 (e_29 (20, .getfield 123, 3) (List.mem_of_getElem? (i := 11) rfl)) u_3_123 ⟨rfl, rfl⟩ h.2.a32_4 ?_
  refine y_aald h.1.I th0_p.2.2.2.2.2.2.2.2.2.2.2.2.1 (e_29 (23, .aaload, 1) (List.mem_of_getElem? (i := 12) rfl)) ⟨rfl, by decide⟩ ⟨by omega, by show _ < (8 : Int); omega⟩ (h.2.fta nt.toInt.toNat (by omega)) ?_
  refine y_asn (e_29 (24, .astore_n 3, 1) (List.mem_of_getElem? (i := 13) rfl)) (by decide) ?_
  have g3 : pm_get (pm_put1 lv 3 (.ref (42 + nt.toInt.toNat))) 3 = some (.ref (42 + nt.toInt.toNat)) := x_get_self
  have g0 : pm_get (pm_put1 lv 3 (.ref (42 + nt.toInt.toNat))) 0 = some (.ref 3) := y_gpr g0 (by decide)
  have g1 : pm_get (pm_put1 lv 3 (.ref (42 + nt.toInt.toNat))) 1 = some (.ref 1) := y_gpr g1 (by decide)
  have g2 : pm_get (pm_put1 lv 3 (.ref (42 + nt.toInt.toNat))) 2 = some (.ref 32) := y_gpr g2 (by decide)
  show x_Gd xs L J _ m_29 _ 25 (pm_put1 lv 3 (.ref (42 + nt.toInt.toNat))) [] G
  generalize pm_put1 lv 3 (.ref (42 + nt.toInt.toNat)) = lv3 at g0 g1 g2 g3 ⊢
  refine y_aln (e_29 (25, .aload_n 1, 1) (List.mem_of_getElem? (i := 14) rfl)) g1 ?_
  refine y_c1 (K' := _) (e_29 (26, .invokevirtual 120, 3) (List.mem_of_getElem? (i := 15) rfl)) ⟨rfl, rfl, rfl⟩ t_3_120 ⟨by decide, by decide, by decide, by decide⟩ m_21_ok rfl (by decide) (y_recv h.1.I h.1.t ⟨rfl, rfl⟩) (Nat.le_of_ble_eq_true rfl) (Nat.le_of_ble_eq_true rfl) (hN1 _ _ _ _ _ _ _ _ _ _ _ _ _ h.1) (fun r1 Gc hc1 => ?_)
  obtain ⟨rfl, hc2⟩ := hc1
  simp only [Option.toList_some, Option.toList_none, List.cons_append, List.nil_append]
  have w1 := h.nxt hc2
  have te := th0_n.1 nt.toInt.toNat (by omega)
  refine y_aln (e_29 (29, .aload_n 3, 1) (List.mem_of_getElem? (i := 16) rfl)) g3 ?_
  refine y_aln (e_29 (30, .aload_n 1, 1) (List.mem_of_getElem? (i := 17) rfl)) g1 ?_
  refine y_getf w1.1.I w1.1.t (e_29 (31, .getfield 173, 3) (List.mem_of_getElem? (i := 18) rfl)) u_3_173 ⟨rfl, rfl⟩ w1.1.s7 ?_
  refine y_putf (f := (1, 0, 0)) w1.1.I te (e_29 (34, .putfield 177, 3) (List.mem_of_getElem? (i := 19) rfl)) u_3_177 ⟨rfl, rfl, by decide, rfl, rfl⟩ ⟨_, rfl⟩ (fun Gp up => ?_)
  have w2 : CS f n lim nx1 tk1 pl1 num1 nm1 ft fp cc np nt nl nn oc ot (fun j => if j = nt.toInt.toNat then nm1 else tn j) ln mn Gp := ⟨w1.1.other up (by omega) (by omega) (w1.1.I.upd up te (y_okL rfl)), w1.2.utn (k := nt.toInt.toNat) (by omega) (fun c i => by rw [up.2.1])⟩
  refine y_aln (e_29 (37, .aload_n 0, 1) (List.mem_of_getElem? (i := 20) rfl)) g0 ?_
  refine y_aln (e_29 (38, .aload_n 1, 1) (List.mem_of_getElem? (i := 21) rfl)) g1 ?_
  refine y_aln (e_29 (39, .aload_n 2, 1) (List.mem_of_getElem? (i := 22) rfl)) g2 ?_
  refine y_c3 (K' := _) (e_29 (40, .invokevirtual 180, 3) (List.mem_of_getElem? (i := 23) rfl)) ⟨rfl, rfl, rfl⟩ t_3_180 ⟨by decide, by decide, by decide, by decide⟩ m_30_ok rfl (by decide) (y_recv w2.1.I th0_p.2.2.1 ⟨rfl, rfl⟩) (Nat.le_of_ble_eq_true rfl) (Nat.le_of_ble_eq_true rfl) (k_nac_c w2 htk1 (fun z => hT ((c_Told_tn (by omega)).mp z)) hN2 htk2 a2 b2 hN3 hno) (fun r1 Gc hc1 => ?_)
  obtain ⟨rfl, hz⟩ := hc1
  simp only [Option.toList_some, Option.toList_none, List.cons_append, List.nil_append]
  refine y_ifc (e_29 (43, .ifCond .eq 33, 3) (List.mem_of_getElem? (i := 24) rfl)) rfl (fun _ => ?_) (fun hc => absurd hc (by decide))
  refine y_st (e_29 (76, .iconst 0, 1) (List.mem_of_getElem? (i := 41) rfl)) ⟨rfl, rfl, rfl, rfl⟩ ?_
  exact y_ret (e_29 (77, .ireturn, 1) (List.mem_of_getElem? (i := 42) rfl)) ⟨rfl, y_rb (Or.inl rfl)⟩ ⟨rfl, hz⟩
set_option maxHeartbeats 2000000 in
set_option maxRecDepth 100000 in
theorem c_thing_d (h : CS f n lim nx0 tk0 pl0 num0 nm0 ft fp cc np nt nl nn oc ot tn ln mn G) (hcn : nt.toInt < 8) (hN1 : NXc f n lim nx0 num0 nm0 nx1 tk1 pl1 num1 nm1) (htk1 : tk1 = 3) (hT : ¬ c_Told nt nl nn tn ln mn nm1) (hN2 : NXc f n lim nx1 num1 nm1 nx2 tk2 pl2 num2 nm2) (htk2 : tk2 = 2) (a2 : 0 ≤ num2.toInt) (b2 : num2.toInt ≤ 1) (hN3 : NXc f n lim nx2 num2 nm2 nx3 tk3 pl3 num3 nm3) (htk3 : tk3 = 2) (a3 : 0 ≤ num3.toInt) (b3 : num3.toInt ≤ (cc num2.toInt.toNat - Int32.ofInt 1).toInt) (hN4 : NXc f n lim nx3 num3 nm3 nx4 tk4 pl4 num4 nm4) (hno : tk4 ≠ 2 ∨ num4.toInt < 1 ∨ 9 < num4.toInt) : x_Gd xs L J (d + 4) m_29 (fun r G' => r = some (.int 0) ∧ x_sl G' 1 9 = some (.int pl4) ∧ x_sl G' 1 8 = some (.int (t_kd tk4))) 0 (lv_args 0 [.ref 3, .ref 1, .ref 32]) [] G := by
  have g0 : pm_get (lv_args 0 [.ref 3, .ref 1, .ref 32]) 0 = some (.ref 3) := rfl
  have g1 : pm_get (lv_args 0 [.ref 3, .ref 1, .ref 32]) 1 = some (.ref 1) := rfl
  have g2 : pm_get (lv_args 0 [.ref 3, .ref 1, .ref 32]) 2 = some (.ref 32) := rfl
  generalize (lv_args 0 [.ref 3, .ref 1, .ref 32]) = lv at g0 g1 g2 ⊢
  obtain ⟨⟨t0, t1⟩, ⟨l0, l1⟩, ⟨m0, m1⟩, -, -⟩ := h.cn
  refine y_aln (e_29 (0, .aload_n 2, 1) (List.mem_of_getElem? (i := 0) rfl)) g2 ?_
  refine y_getf h.1.I th0_p.2.2.2.2.2.1 (e_29 (1, .getfield 123, 3) (List.mem_of_getElem? (i := 1) rfl)) u_3_123 ⟨rfl, rfl⟩ h.2.a32_4 ?_
  refine y_st (e_29 (4, .bipush 8, 2) (List.mem_of_getElem? (i := 2) rfl)) ⟨rfl, rfl, rfl, rfl⟩ ?_
  refine y_icm (e_29 (6, .if_icmp .lt 9, 3) (List.mem_of_getElem? (i := 3) rfl)) rfl (fun _ => ?_) (fun hc => ?_)
  rotate_left
  · have z := y_hI.2.2.2.2.2.2.2.2.2.1 hc
    rw [show (Int8.ofInt 8).toInt32.toInt = 8 from rfl] at z
    omega
  refine y_aln (e_29 (15, .aload_n 2, 1) (List.mem_of_getElem? (i := 8) rfl)) g2 ?_
  refine y_getf h.1.I th0_p.2.2.2.2.2.1 (e_29 (16, .getfield 169, 3) (List.mem_of_getElem? (i := 9) rfl)) u_3_169 ⟨rfl, rfl⟩ h.2.a32_1 ?_
  refine y_aln (e_29 (19, .aload_n 2, 1) (List.mem_of_getElem? (i := 10) rfl)) g2 ?_
  refine y_getf h.1.I th0_p.2.2.2.2.2.1 (e_29 (20, .getfield 123, 3) (List.mem_of_getElem? (i := 11) rfl)) u_3_123 ⟨rfl, rfl⟩ h.2.a32_4 ?_
  refine y_aald h.1.I th0_p.2.2.2.2.2.2.2.2.2.2.2.2.1 (e_29 (23, .aaload, 1) (List.mem_of_getElem? (i := 12) rfl)) ⟨rfl, by decide⟩ ⟨by omega, by show _ < (8 : Int); omega⟩ (h.2.fta nt.toInt.toNat (by omega)) ?_
  refine y_asn (e_29 (24, .astore_n 3, 1) (List.mem_of_getElem? (i := 13) rfl)) (by decide) ?_
  have g3 : pm_get (pm_put1 lv 3 (.ref (42 + nt.toInt.toNat))) 3 = some (.ref (42 + nt.toInt.toNat)) := x_get_self
  have g0 : pm_get (pm_put1 lv 3 (.ref (42 + nt.toInt.toNat))) 0 = some (.ref 3) := y_gpr g0 (by decide)
  have g1 : pm_get (pm_put1 lv 3 (.ref (42 + nt.toInt.toNat))) 1 = some (.ref 1) := y_gpr g1 (by decide)
  have g2 : pm_get (pm_put1 lv 3 (.ref (42 + nt.toInt.toNat))) 2 = some (.ref 32) := y_gpr g2 (by decide)
  show x_Gd xs L J _ m_29 _ 25 (pm_put1 lv 3 (.ref (42 + nt.toInt.toNat))) [] G
  generalize pm_put1 lv 3 (.ref (42 + nt.toInt.toNat)) = lv3 at g0 g1 g2 g3 ⊢
  refine y_aln (e_29 (25, .aload_n 1, 1) (List.mem_of_getElem? (i := 14) rfl)) g1 ?_
  refine y_c1 (K' := _) (e_29 (26, .invokevirtual 120, 3) (List.mem_of_getElem? (i := 15) rfl)) ⟨rfl, rfl, rfl⟩ t_3_120 ⟨by decide, by decide, by decide, by decide⟩ m_21_ok rfl (by decide) (y_recv h.1.I h.1.t ⟨rfl, rfl⟩) (Nat.le_of_ble_eq_true rfl) (Nat.le_of_ble_eq_true rfl) (hN1 _ _ _ _ _ _ _ _ _ _ _ _ _ h.1) (fun r1 Gc hc1 => ?_)
  obtain ⟨rfl, hc2⟩ := hc1
  simp only [Option.toList_some, Option.toList_none, List.cons_append, List.nil_append]
  have w1 := h.nxt hc2
  have te := th0_n.1 nt.toInt.toNat (by omega)
  refine y_aln (e_29 (29, .aload_n 3, 1) (List.mem_of_getElem? (i := 16) rfl)) g3 ?_
  refine y_aln (e_29 (30, .aload_n 1, 1) (List.mem_of_getElem? (i := 17) rfl)) g1 ?_
  refine y_getf w1.1.I w1.1.t (e_29 (31, .getfield 173, 3) (List.mem_of_getElem? (i := 18) rfl)) u_3_173 ⟨rfl, rfl⟩ w1.1.s7 ?_
  refine y_putf (f := (1, 0, 0)) w1.1.I te (e_29 (34, .putfield 177, 3) (List.mem_of_getElem? (i := 19) rfl)) u_3_177 ⟨rfl, rfl, by decide, rfl, rfl⟩ ⟨_, rfl⟩ (fun Gp up => ?_)
  have w2 : CS f n lim nx1 tk1 pl1 num1 nm1 ft fp cc np nt nl nn oc ot (fun j => if j = nt.toInt.toNat then nm1 else tn j) ln mn Gp := ⟨w1.1.other up (by omega) (by omega) (w1.1.I.upd up te (y_okL rfl)), w1.2.utn (k := nt.toInt.toNat) (by omega) (fun c i => by rw [up.2.1])⟩
  refine y_aln (e_29 (37, .aload_n 0, 1) (List.mem_of_getElem? (i := 20) rfl)) g0 ?_
  refine y_aln (e_29 (38, .aload_n 1, 1) (List.mem_of_getElem? (i := 21) rfl)) g1 ?_
  refine y_aln (e_29 (39, .aload_n 2, 1) (List.mem_of_getElem? (i := 22) rfl)) g2 ?_
  refine y_c3 (K' := _) (e_29 (40, .invokevirtual 180, 3) (List.mem_of_getElem? (i := 23) rfl)) ⟨rfl, rfl, rfl⟩ t_3_180 ⟨by decide, by decide, by decide, by decide⟩ m_30_ok rfl (by decide) (y_recv w2.1.I th0_p.2.2.1 ⟨rfl, rfl⟩) (Nat.le_of_ble_eq_true rfl) (Nat.le_of_ble_eq_true rfl) (k_nac_yes w2 htk1 (fun z => hT ((c_Told_tn (by omega)).mp z)) hN2 htk2 a2 b2 hN3 htk3 a3 b3 hN4) (fun r1 Gc hc1 => ?_)
  obtain ⟨rfl, w4, r0, r1⟩ := hc1
  simp only [Option.toList_some, Option.toList_none, List.cons_append, List.nil_append]
  refine y_ifc (e_29 (43, .ifCond .eq 33, 3) (List.mem_of_getElem? (i := 24) rfl)) rfl (fun hc => absurd hc (by decide)) (fun _ => ?_)
  refine y_aln (e_29 (46, .aload_n 1, 1) (List.mem_of_getElem? (i := 25) rfl)) g1 ?_
  refine y_st (e_29 (47, .iconst 1, 1) (List.mem_of_getElem? (i := 26) rfl)) ⟨rfl, rfl, rfl, rfl⟩ ?_
  refine y_st (e_29 (48, .bipush 9, 2) (List.mem_of_getElem? (i := 27) rfl)) ⟨rfl, rfl, rfl, rfl⟩ ?_
  refine y_aln (e_29 (50, .aload_n 0, 1) (List.mem_of_getElem? (i := 28) rfl)) g0 ?_
  refine y_getf w4.1.I th0_p.2.2.1 (e_29 (51, .getfield 9, 3) (List.mem_of_getElem? (i := 29) rfl)) u_3_9 ⟨rfl, rfl⟩ w4.2.a3_0 ?_
  refine y_st (e_29 (54, .iconst 2, 1) (List.mem_of_getElem? (i := 30) rfl)) ⟨rfl, rfl, rfl, rfl⟩ ?_
  refine y_c5 (K' := _) (e_29 (55, .invokevirtual 141, 3) (List.mem_of_getElem? (i := 31) rfl)) ⟨rfl, rfl, rfl⟩ t_3_141 ⟨by decide, by decide, by decide, by decide⟩ m_28_ok rfl (by decide) (y_recv w4.1.I w4.1.t ⟨rfl, rfl⟩) (Nat.le_of_ble_eq_true rfl) (Nat.le_of_ble_eq_true rfl) (k_takeN_no w4.1 hno) (fun r1 Gc hc1 => ?_)
  obtain ⟨rfl, hz⟩ := hc1
  simp only [Option.toList_some, Option.toList_none, List.cons_append, List.nil_append]
  refine y_ifc (e_29 (58, .ifCond .eq 18, 3) (List.mem_of_getElem? (i := 32) rfl)) rfl (fun _ => ?_) (fun hc => absurd hc (by decide))
  refine y_st (e_29 (76, .iconst 0, 1) (List.mem_of_getElem? (i := 41) rfl)) ⟨rfl, rfl, rfl, rfl⟩ ?_
  exact y_ret (e_29 (77, .ireturn, 1) (List.mem_of_getElem? (i := 42) rfl)) ⟨rfl, y_rb (Or.inl rfl)⟩ ⟨rfl, hz.s9, hz.s8⟩
set_option maxHeartbeats 2000000 in
set_option maxRecDepth 100000 in
theorem c_thing_e (h : CS f n lim nx0 tk0 pl0 num0 nm0 ft fp cc np nt nl nn oc ot tn ln mn G) (hcn : nt.toInt < 8) (hN1 : NXc f n lim nx0 num0 nm0 nx1 tk1 pl1 num1 nm1) (htk1 : tk1 = 3) (hT : ¬ c_Told nt nl nn tn ln mn nm1) (hN2 : NXc f n lim nx1 num1 nm1 nx2 tk2 pl2 num2 nm2) (htk2 : tk2 = 2) (a2 : 0 ≤ num2.toInt) (b2 : num2.toInt ≤ 1) (hN3 : NXc f n lim nx2 num2 nm2 nx3 tk3 pl3 num3 nm3) (htk3 : tk3 = 2) (a3 : 0 ≤ num3.toInt) (b3 : num3.toInt ≤ (cc num2.toInt.toNat - Int32.ofInt 1).toInt) (hN4 : NXc f n lim nx3 num3 nm3 nx4 tk4 pl4 num4 nm4) (htk4 : tk4 = 2) (a4 : 1 ≤ num4.toInt) (b4 : num4.toInt ≤ 9) (hN5 : NXc f n lim nx4 num4 nm4 nx5 tk5 pl5 num5 nm5) (hno : tk5 ≠ 2 ∨ num5.toInt < 0 ∨ 7 < num5.toInt) : x_Gd xs L J (d + 4) m_29 (fun r G' => r = some (.int 0) ∧ x_sl G' 1 9 = some (.int pl5) ∧ x_sl G' 1 8 = some (.int (t_kd tk5))) 0 (lv_args 0 [.ref 3, .ref 1, .ref 32]) [] G := by
  have g0 : pm_get (lv_args 0 [.ref 3, .ref 1, .ref 32]) 0 = some (.ref 3) := rfl
  have g1 : pm_get (lv_args 0 [.ref 3, .ref 1, .ref 32]) 1 = some (.ref 1) := rfl
  have g2 : pm_get (lv_args 0 [.ref 3, .ref 1, .ref 32]) 2 = some (.ref 32) := rfl
  generalize (lv_args 0 [.ref 3, .ref 1, .ref 32]) = lv at g0 g1 g2 ⊢
  obtain ⟨⟨t0, t1⟩, ⟨l0, l1⟩, ⟨m0, m1⟩, -, -⟩ := h.cn
  refine y_aln (e_29 (0, .aload_n 2, 1) (List.mem_of_getElem? (i := 0) rfl)) g2 ?_
  refine y_getf h.1.I th0_p.2.2.2.2.2.1 (e_29 (1, .getfield 123, 3) (List.mem_of_getElem? (i := 1) rfl)) u_3_123 ⟨rfl, rfl⟩ h.2.a32_4 ?_
  refine y_st (e_29 (4, .bipush 8, 2) (List.mem_of_getElem? (i := 2) rfl)) ⟨rfl, rfl, rfl, rfl⟩ ?_
  refine y_icm (e_29 (6, .if_icmp .lt 9, 3) (List.mem_of_getElem? (i := 3) rfl)) rfl (fun _ => ?_) (fun hc => ?_)
  rotate_left
  · have z := y_hI.2.2.2.2.2.2.2.2.2.1 hc
    rw [show (Int8.ofInt 8).toInt32.toInt = 8 from rfl] at z
    omega
  refine y_aln (e_29 (15, .aload_n 2, 1) (List.mem_of_getElem? (i := 8) rfl)) g2 ?_
  refine y_getf h.1.I th0_p.2.2.2.2.2.1 (e_29 (16, .getfield 169, 3) (List.mem_of_getElem? (i := 9) rfl)) u_3_169 ⟨rfl, rfl⟩ h.2.a32_1 ?_
  refine y_aln (e_29 (19, .aload_n 2, 1) (List.mem_of_getElem? (i := 10) rfl)) g2 ?_
  refine y_getf h.1.I th0_p.2.2.2.2.2.1 (e_29 (20, .getfield 123, 3) (List.mem_of_getElem? (i := 11) rfl)) u_3_123 ⟨rfl, rfl⟩ h.2.a32_4 ?_
  refine y_aald h.1.I th0_p.2.2.2.2.2.2.2.2.2.2.2.2.1 (e_29 (23, .aaload, 1) (List.mem_of_getElem? (i := 12) rfl)) ⟨rfl, by decide⟩ ⟨by omega, by show _ < (8 : Int); omega⟩ (h.2.fta nt.toInt.toNat (by omega)) ?_
  refine y_asn (e_29 (24, .astore_n 3, 1) (List.mem_of_getElem? (i := 13) rfl)) (by decide) ?_
  have g3 : pm_get (pm_put1 lv 3 (.ref (42 + nt.toInt.toNat))) 3 = some (.ref (42 + nt.toInt.toNat)) := x_get_self
  have g0 : pm_get (pm_put1 lv 3 (.ref (42 + nt.toInt.toNat))) 0 = some (.ref 3) := y_gpr g0 (by decide)
  have g1 : pm_get (pm_put1 lv 3 (.ref (42 + nt.toInt.toNat))) 1 = some (.ref 1) := y_gpr g1 (by decide)
  have g2 : pm_get (pm_put1 lv 3 (.ref (42 + nt.toInt.toNat))) 2 = some (.ref 32) := y_gpr g2 (by decide)
  show x_Gd xs L J _ m_29 _ 25 (pm_put1 lv 3 (.ref (42 + nt.toInt.toNat))) [] G
  generalize pm_put1 lv 3 (.ref (42 + nt.toInt.toNat)) = lv3 at g0 g1 g2 g3 ⊢
  refine y_aln (e_29 (25, .aload_n 1, 1) (List.mem_of_getElem? (i := 14) rfl)) g1 ?_
  refine y_c1 (K' := _) (e_29 (26, .invokevirtual 120, 3) (List.mem_of_getElem? (i := 15) rfl)) ⟨rfl, rfl, rfl⟩ t_3_120 ⟨by decide, by decide, by decide, by decide⟩ m_21_ok rfl (by decide) (y_recv h.1.I h.1.t ⟨rfl, rfl⟩) (Nat.le_of_ble_eq_true rfl) (Nat.le_of_ble_eq_true rfl) (hN1 _ _ _ _ _ _ _ _ _ _ _ _ _ h.1) (fun r1 Gc hc1 => ?_)
  obtain ⟨rfl, hc2⟩ := hc1
  simp only [Option.toList_some, Option.toList_none, List.cons_append, List.nil_append]
  have w1 := h.nxt hc2
  have te := th0_n.1 nt.toInt.toNat (by omega)
  refine y_aln (e_29 (29, .aload_n 3, 1) (List.mem_of_getElem? (i := 16) rfl)) g3 ?_
  refine y_aln (e_29 (30, .aload_n 1, 1) (List.mem_of_getElem? (i := 17) rfl)) g1 ?_
  refine y_getf w1.1.I w1.1.t (e_29 (31, .getfield 173, 3) (List.mem_of_getElem? (i := 18) rfl)) u_3_173 ⟨rfl, rfl⟩ w1.1.s7 ?_
  refine y_putf (f := (1, 0, 0)) w1.1.I te (e_29 (34, .putfield 177, 3) (List.mem_of_getElem? (i := 19) rfl)) u_3_177 ⟨rfl, rfl, by decide, rfl, rfl⟩ ⟨_, rfl⟩ (fun Gp up => ?_)
  have w2 : CS f n lim nx1 tk1 pl1 num1 nm1 ft fp cc np nt nl nn oc ot (fun j => if j = nt.toInt.toNat then nm1 else tn j) ln mn Gp := ⟨w1.1.other up (by omega) (by omega) (w1.1.I.upd up te (y_okL rfl)), w1.2.utn (k := nt.toInt.toNat) (by omega) (fun c i => by rw [up.2.1])⟩
  refine y_aln (e_29 (37, .aload_n 0, 1) (List.mem_of_getElem? (i := 20) rfl)) g0 ?_
  refine y_aln (e_29 (38, .aload_n 1, 1) (List.mem_of_getElem? (i := 21) rfl)) g1 ?_
  refine y_aln (e_29 (39, .aload_n 2, 1) (List.mem_of_getElem? (i := 22) rfl)) g2 ?_
  refine y_c3 (K' := _) (e_29 (40, .invokevirtual 180, 3) (List.mem_of_getElem? (i := 23) rfl)) ⟨rfl, rfl, rfl⟩ t_3_180 ⟨by decide, by decide, by decide, by decide⟩ m_30_ok rfl (by decide) (y_recv w2.1.I th0_p.2.2.1 ⟨rfl, rfl⟩) (Nat.le_of_ble_eq_true rfl) (Nat.le_of_ble_eq_true rfl) (k_nac_yes w2 htk1 (fun z => hT ((c_Told_tn (by omega)).mp z)) hN2 htk2 a2 b2 hN3 htk3 a3 b3 hN4) (fun r1 Gc hc1 => ?_)
  obtain ⟨rfl, w4, r0, r1⟩ := hc1
  simp only [Option.toList_some, Option.toList_none, List.cons_append, List.nil_append]
  refine y_ifc (e_29 (43, .ifCond .eq 33, 3) (List.mem_of_getElem? (i := 24) rfl)) rfl (fun hc => absurd hc (by decide)) (fun _ => ?_)
  refine y_aln (e_29 (46, .aload_n 1, 1) (List.mem_of_getElem? (i := 25) rfl)) g1 ?_
  refine y_st (e_29 (47, .iconst 1, 1) (List.mem_of_getElem? (i := 26) rfl)) ⟨rfl, rfl, rfl, rfl⟩ ?_
  refine y_st (e_29 (48, .bipush 9, 2) (List.mem_of_getElem? (i := 27) rfl)) ⟨rfl, rfl, rfl, rfl⟩ ?_
  refine y_aln (e_29 (50, .aload_n 0, 1) (List.mem_of_getElem? (i := 28) rfl)) g0 ?_
  refine y_getf w4.1.I th0_p.2.2.1 (e_29 (51, .getfield 9, 3) (List.mem_of_getElem? (i := 29) rfl)) u_3_9 ⟨rfl, rfl⟩ w4.2.a3_0 ?_
  refine y_st (e_29 (54, .iconst 2, 1) (List.mem_of_getElem? (i := 30) rfl)) ⟨rfl, rfl, rfl, rfl⟩ ?_
  refine y_c5 (K' := _) (e_29 (55, .invokevirtual 141, 3) (List.mem_of_getElem? (i := 31) rfl)) ⟨rfl, rfl, rfl⟩ t_3_141 ⟨by decide, by decide, by decide, by decide⟩ m_28_ok rfl (by decide) (y_recv w4.1.I w4.1.t ⟨rfl, rfl⟩) (Nat.le_of_ble_eq_true rfl) (Nat.le_of_ble_eq_true rfl) (k_takeN_yes w4.1 htk4 a4 b4 th0_p.2.2.2.1 ⟨rfl, rfl⟩ (by decide) ⟨by decide, by decide⟩ (y_okA (by rw [show (x_tb 19).2.2.2 = [(4, ((0 : Nat), (-2147483648 : Int), (2147483647 : Int)))] from rfl]; exact y_one (by decide))) (by decide) (by decide) hN5) (fun r1 Gc hc1 => ?_)
  obtain ⟨rfl, Gr10, ur10, hz10⟩ := hc1
  simp only [Option.toList_some, Option.toList_none, List.cons_append, List.nil_append]
  have hI10 := w4.1.I.upd ur10 th0_p.2.2.2.1 (y_okA (by rw [show (x_tb 19).2.2.2 = [(4, ((0 : Nat), (-2147483648 : Int), (2147483647 : Int)))] from rfl]; exact y_one (by decide)))
  have q10 := (w4.oth ur10 hI10 (by decide) (by decide) rfl).nxt hz10
  have r0 : x_sl Gc 4 0 = some (.int num2) := by rw [hz10.ot 4 0 (by decide), ur10.2.1, if_neg (fun z => absurd z.2 (by decide))]; exact r0
  have r1 : x_sl Gc 4 1 = some (.int num3) := by rw [hz10.ot 4 1 (by decide), ur10.2.1, if_neg (fun z => absurd z.2 (by decide))]; exact r1
  have r2 : x_sl Gc 4 2 = some (.int num4) := by rw [hz10.ot 4 2 (by decide), ur10.2.1, if_pos ⟨rfl, rfl⟩]
  refine y_ifc (e_29 (58, .ifCond .eq 18, 3) (List.mem_of_getElem? (i := 32) rfl)) rfl (fun hc => absurd hc (by decide)) (fun _ => ?_)
  refine y_aln (e_29 (61, .aload_n 1, 1) (List.mem_of_getElem? (i := 33) rfl)) g1 ?_
  refine y_st (e_29 (62, .iconst 0, 1) (List.mem_of_getElem? (i := 34) rfl)) ⟨rfl, rfl, rfl, rfl⟩ ?_
  refine y_st (e_29 (63, .bipush 7, 2) (List.mem_of_getElem? (i := 35) rfl)) ⟨rfl, rfl, rfl, rfl⟩ ?_
  refine y_aln (e_29 (65, .aload_n 0, 1) (List.mem_of_getElem? (i := 36) rfl)) g0 ?_
  refine y_getf q10.1.I th0_p.2.2.1 (e_29 (66, .getfield 9, 3) (List.mem_of_getElem? (i := 37) rfl)) u_3_9 ⟨rfl, rfl⟩ q10.2.a3_0 ?_
  refine y_st (e_29 (69, .iconst 3, 1) (List.mem_of_getElem? (i := 38) rfl)) ⟨rfl, rfl, rfl, rfl⟩ ?_
  refine y_c5 (K' := _) (e_29 (70, .invokevirtual 141, 3) (List.mem_of_getElem? (i := 39) rfl)) ⟨rfl, rfl, rfl⟩ t_3_141 ⟨by decide, by decide, by decide, by decide⟩ m_28_ok rfl (by decide) (y_recv q10.1.I q10.1.t ⟨rfl, rfl⟩) (Nat.le_of_ble_eq_true rfl) (Nat.le_of_ble_eq_true rfl) (k_takeN_no q10.1 hno) (fun r1 Gc hc1 => ?_)
  obtain ⟨rfl, hz⟩ := hc1
  simp only [Option.toList_some, Option.toList_none, List.cons_append, List.nil_append]
  refine y_ifc (e_29 (73, .ifCond .ne 5, 3) (List.mem_of_getElem? (i := 40) rfl)) rfl (fun hc => absurd hc (by decide)) (fun _ => ?_)
  refine y_st (e_29 (76, .iconst 0, 1) (List.mem_of_getElem? (i := 41) rfl)) ⟨rfl, rfl, rfl, rfl⟩ ?_
  exact y_ret (e_29 (77, .ireturn, 1) (List.mem_of_getElem? (i := 42) rfl)) ⟨rfl, y_rb (Or.inl rfl)⟩ ⟨rfl, hz.s9, hz.s8⟩
set_option maxHeartbeats 2000000 in
set_option maxRecDepth 100000 in
theorem c_thing_ok (h : CS f n lim nx0 tk0 pl0 num0 nm0 ft fp cc np nt nl nn oc ot tn ln mn G) (hcn : nt.toInt < 8) (hN1 : NXc f n lim nx0 num0 nm0 nx1 tk1 pl1 num1 nm1) (htk1 : tk1 = 3) (hT : ¬ c_Told nt nl nn tn ln mn nm1) (hN2 : NXc f n lim nx1 num1 nm1 nx2 tk2 pl2 num2 nm2) (htk2 : tk2 = 2) (a2 : 0 ≤ num2.toInt) (b2 : num2.toInt ≤ 1) (hN3 : NXc f n lim nx2 num2 nm2 nx3 tk3 pl3 num3 nm3) (htk3 : tk3 = 2) (a3 : 0 ≤ num3.toInt) (b3 : num3.toInt ≤ (cc num2.toInt.toNat - Int32.ofInt 1).toInt) (hN4 : NXc f n lim nx3 num3 nm3 nx4 tk4 pl4 num4 nm4) (htk4 : tk4 = 2) (a4 : 1 ≤ num4.toInt) (b4 : num4.toInt ≤ 9) (hN5 : NXc f n lim nx4 num4 nm4 nx5 tk5 pl5 num5 nm5) (htk5 : tk5 = 2) (a5 : 0 ≤ num5.toInt) (b5 : num5.toInt ≤ 7) (hN6 : NXc f n lim nx5 num5 nm5 nx6 tk6 pl6 num6 nm6) (hnt : tk6 ≠ 17) : x_Gd xs L J (d + 4) m_29 (fun r G' => r = some (.int 1) ∧ CS f n lim nx6 tk6 pl6 num6 nm6 ft fp cc np (nt + Int32.ofInt 1) nl nn oc ot (fun j => if j = nt.toInt.toNat then nm1 else tn j) ln mn G') 0 (lv_args 0 [.ref 3, .ref 1, .ref 32]) [] G := by
  have g0 : pm_get (lv_args 0 [.ref 3, .ref 1, .ref 32]) 0 = some (.ref 3) := rfl
  have g1 : pm_get (lv_args 0 [.ref 3, .ref 1, .ref 32]) 1 = some (.ref 1) := rfl
  have g2 : pm_get (lv_args 0 [.ref 3, .ref 1, .ref 32]) 2 = some (.ref 32) := rfl
  generalize (lv_args 0 [.ref 3, .ref 1, .ref 32]) = lv at g0 g1 g2 ⊢
  obtain ⟨⟨t0, t1⟩, ⟨l0, l1⟩, ⟨m0, m1⟩, -, -⟩ := h.cn
  refine y_aln (e_29 (0, .aload_n 2, 1) (List.mem_of_getElem? (i := 0) rfl)) g2 ?_
  refine y_getf h.1.I th0_p.2.2.2.2.2.1 (e_29 (1, .getfield 123, 3) (List.mem_of_getElem? (i := 1) rfl)) u_3_123 ⟨rfl, rfl⟩ h.2.a32_4 ?_
  refine y_st (e_29 (4, .bipush 8, 2) (List.mem_of_getElem? (i := 2) rfl)) ⟨rfl, rfl, rfl, rfl⟩ ?_
  refine y_icm (e_29 (6, .if_icmp .lt 9, 3) (List.mem_of_getElem? (i := 3) rfl)) rfl (fun _ => ?_) (fun hc => ?_)
  rotate_left
  · have z := y_hI.2.2.2.2.2.2.2.2.2.1 hc
    rw [show (Int8.ofInt 8).toInt32.toInt = 8 from rfl] at z
    omega
  refine y_aln (e_29 (15, .aload_n 2, 1) (List.mem_of_getElem? (i := 8) rfl)) g2 ?_
  refine y_getf h.1.I th0_p.2.2.2.2.2.1 (e_29 (16, .getfield 169, 3) (List.mem_of_getElem? (i := 9) rfl)) u_3_169 ⟨rfl, rfl⟩ h.2.a32_1 ?_
  refine y_aln (e_29 (19, .aload_n 2, 1) (List.mem_of_getElem? (i := 10) rfl)) g2 ?_
  refine y_getf h.1.I th0_p.2.2.2.2.2.1 (e_29 (20, .getfield 123, 3) (List.mem_of_getElem? (i := 11) rfl)) u_3_123 ⟨rfl, rfl⟩ h.2.a32_4 ?_
  refine y_aald h.1.I th0_p.2.2.2.2.2.2.2.2.2.2.2.2.1 (e_29 (23, .aaload, 1) (List.mem_of_getElem? (i := 12) rfl)) ⟨rfl, by decide⟩ ⟨by omega, by show _ < (8 : Int); omega⟩ (h.2.fta nt.toInt.toNat (by omega)) ?_
  refine y_asn (e_29 (24, .astore_n 3, 1) (List.mem_of_getElem? (i := 13) rfl)) (by decide) ?_
  have g3 : pm_get (pm_put1 lv 3 (.ref (42 + nt.toInt.toNat))) 3 = some (.ref (42 + nt.toInt.toNat)) := x_get_self
  have g0 : pm_get (pm_put1 lv 3 (.ref (42 + nt.toInt.toNat))) 0 = some (.ref 3) := y_gpr g0 (by decide)
  have g1 : pm_get (pm_put1 lv 3 (.ref (42 + nt.toInt.toNat))) 1 = some (.ref 1) := y_gpr g1 (by decide)
  have g2 : pm_get (pm_put1 lv 3 (.ref (42 + nt.toInt.toNat))) 2 = some (.ref 32) := y_gpr g2 (by decide)
  show x_Gd xs L J _ m_29 _ 25 (pm_put1 lv 3 (.ref (42 + nt.toInt.toNat))) [] G
  generalize pm_put1 lv 3 (.ref (42 + nt.toInt.toNat)) = lv3 at g0 g1 g2 g3 ⊢
  refine y_aln (e_29 (25, .aload_n 1, 1) (List.mem_of_getElem? (i := 14) rfl)) g1 ?_
  refine y_c1 (K' := _) (e_29 (26, .invokevirtual 120, 3) (List.mem_of_getElem? (i := 15) rfl)) ⟨rfl, rfl, rfl⟩ t_3_120 ⟨by decide, by decide, by decide, by decide⟩ m_21_ok rfl (by decide) (y_recv h.1.I h.1.t ⟨rfl, rfl⟩) (Nat.le_of_ble_eq_true rfl) (Nat.le_of_ble_eq_true rfl) (hN1 _ _ _ _ _ _ _ _ _ _ _ _ _ h.1) (fun r1 Gc hc1 => ?_)
  obtain ⟨rfl, hc2⟩ := hc1
  simp only [Option.toList_some, Option.toList_none, List.cons_append, List.nil_append]
  have w1 := h.nxt hc2
  have te := th0_n.1 nt.toInt.toNat (by omega)
  refine y_aln (e_29 (29, .aload_n 3, 1) (List.mem_of_getElem? (i := 16) rfl)) g3 ?_
  refine y_aln (e_29 (30, .aload_n 1, 1) (List.mem_of_getElem? (i := 17) rfl)) g1 ?_
  refine y_getf w1.1.I w1.1.t (e_29 (31, .getfield 173, 3) (List.mem_of_getElem? (i := 18) rfl)) u_3_173 ⟨rfl, rfl⟩ w1.1.s7 ?_
  refine y_putf (f := (1, 0, 0)) w1.1.I te (e_29 (34, .putfield 177, 3) (List.mem_of_getElem? (i := 19) rfl)) u_3_177 ⟨rfl, rfl, by decide, rfl, rfl⟩ ⟨_, rfl⟩ (fun Gp up => ?_)
  have w2 : CS f n lim nx1 tk1 pl1 num1 nm1 ft fp cc np nt nl nn oc ot (fun j => if j = nt.toInt.toNat then nm1 else tn j) ln mn Gp := ⟨w1.1.other up (by omega) (by omega) (w1.1.I.upd up te (y_okL rfl)), w1.2.utn (k := nt.toInt.toNat) (by omega) (fun c i => by rw [up.2.1])⟩
  refine y_aln (e_29 (37, .aload_n 0, 1) (List.mem_of_getElem? (i := 20) rfl)) g0 ?_
  refine y_aln (e_29 (38, .aload_n 1, 1) (List.mem_of_getElem? (i := 21) rfl)) g1 ?_
  refine y_aln (e_29 (39, .aload_n 2, 1) (List.mem_of_getElem? (i := 22) rfl)) g2 ?_
  refine y_c3 (K' := _) (e_29 (40, .invokevirtual 180, 3) (List.mem_of_getElem? (i := 23) rfl)) ⟨rfl, rfl, rfl⟩ t_3_180 ⟨by decide, by decide, by decide, by decide⟩ m_30_ok rfl (by decide) (y_recv w2.1.I th0_p.2.2.1 ⟨rfl, rfl⟩) (Nat.le_of_ble_eq_true rfl) (Nat.le_of_ble_eq_true rfl) (k_nac_yes w2 htk1 (fun z => hT ((c_Told_tn (by omega)).mp z)) hN2 htk2 a2 b2 hN3 htk3 a3 b3 hN4) (fun r1 Gc hc1 => ?_)
  obtain ⟨rfl, w4, r0, r1⟩ := hc1
  simp only [Option.toList_some, Option.toList_none, List.cons_append, List.nil_append]
  refine y_ifc (e_29 (43, .ifCond .eq 33, 3) (List.mem_of_getElem? (i := 24) rfl)) rfl (fun hc => absurd hc (by decide)) (fun _ => ?_)
  refine y_aln (e_29 (46, .aload_n 1, 1) (List.mem_of_getElem? (i := 25) rfl)) g1 ?_
  refine y_st (e_29 (47, .iconst 1, 1) (List.mem_of_getElem? (i := 26) rfl)) ⟨rfl, rfl, rfl, rfl⟩ ?_
  refine y_st (e_29 (48, .bipush 9, 2) (List.mem_of_getElem? (i := 27) rfl)) ⟨rfl, rfl, rfl, rfl⟩ ?_
  refine y_aln (e_29 (50, .aload_n 0, 1) (List.mem_of_getElem? (i := 28) rfl)) g0 ?_
  refine y_getf w4.1.I th0_p.2.2.1 (e_29 (51, .getfield 9, 3) (List.mem_of_getElem? (i := 29) rfl)) u_3_9 ⟨rfl, rfl⟩ w4.2.a3_0 ?_
  refine y_st (e_29 (54, .iconst 2, 1) (List.mem_of_getElem? (i := 30) rfl)) ⟨rfl, rfl, rfl, rfl⟩ ?_
  refine y_c5 (K' := _) (e_29 (55, .invokevirtual 141, 3) (List.mem_of_getElem? (i := 31) rfl)) ⟨rfl, rfl, rfl⟩ t_3_141 ⟨by decide, by decide, by decide, by decide⟩ m_28_ok rfl (by decide) (y_recv w4.1.I w4.1.t ⟨rfl, rfl⟩) (Nat.le_of_ble_eq_true rfl) (Nat.le_of_ble_eq_true rfl) (k_takeN_yes w4.1 htk4 a4 b4 th0_p.2.2.2.1 ⟨rfl, rfl⟩ (by decide) ⟨by decide, by decide⟩ (y_okA (by rw [show (x_tb 19).2.2.2 = [(4, ((0 : Nat), (-2147483648 : Int), (2147483647 : Int)))] from rfl]; exact y_one (by decide))) (by decide) (by decide) hN5) (fun r1 Gc hc1 => ?_)
  obtain ⟨rfl, Gr10, ur10, hz10⟩ := hc1
  simp only [Option.toList_some, Option.toList_none, List.cons_append, List.nil_append]
  have hI10 := w4.1.I.upd ur10 th0_p.2.2.2.1 (y_okA (by rw [show (x_tb 19).2.2.2 = [(4, ((0 : Nat), (-2147483648 : Int), (2147483647 : Int)))] from rfl]; exact y_one (by decide)))
  have q10 := (w4.oth ur10 hI10 (by decide) (by decide) rfl).nxt hz10
  have r0 : x_sl Gc 4 0 = some (.int num2) := by rw [hz10.ot 4 0 (by decide), ur10.2.1, if_neg (fun z => absurd z.2 (by decide))]; exact r0
  have r1 : x_sl Gc 4 1 = some (.int num3) := by rw [hz10.ot 4 1 (by decide), ur10.2.1, if_neg (fun z => absurd z.2 (by decide))]; exact r1
  have r2 : x_sl Gc 4 2 = some (.int num4) := by rw [hz10.ot 4 2 (by decide), ur10.2.1, if_pos ⟨rfl, rfl⟩]
  refine y_ifc (e_29 (58, .ifCond .eq 18, 3) (List.mem_of_getElem? (i := 32) rfl)) rfl (fun hc => absurd hc (by decide)) (fun _ => ?_)
  refine y_aln (e_29 (61, .aload_n 1, 1) (List.mem_of_getElem? (i := 33) rfl)) g1 ?_
  refine y_st (e_29 (62, .iconst 0, 1) (List.mem_of_getElem? (i := 34) rfl)) ⟨rfl, rfl, rfl, rfl⟩ ?_
  refine y_st (e_29 (63, .bipush 7, 2) (List.mem_of_getElem? (i := 35) rfl)) ⟨rfl, rfl, rfl, rfl⟩ ?_
  refine y_aln (e_29 (65, .aload_n 0, 1) (List.mem_of_getElem? (i := 36) rfl)) g0 ?_
  refine y_getf q10.1.I th0_p.2.2.1 (e_29 (66, .getfield 9, 3) (List.mem_of_getElem? (i := 37) rfl)) u_3_9 ⟨rfl, rfl⟩ q10.2.a3_0 ?_
  refine y_st (e_29 (69, .iconst 3, 1) (List.mem_of_getElem? (i := 38) rfl)) ⟨rfl, rfl, rfl, rfl⟩ ?_
  refine y_c5 (K' := _) (e_29 (70, .invokevirtual 141, 3) (List.mem_of_getElem? (i := 39) rfl)) ⟨rfl, rfl, rfl⟩ t_3_141 ⟨by decide, by decide, by decide, by decide⟩ m_28_ok rfl (by decide) (y_recv q10.1.I q10.1.t ⟨rfl, rfl⟩) (Nat.le_of_ble_eq_true rfl) (Nat.le_of_ble_eq_true rfl) (k_takeN_yes q10.1 htk5 a5 b5 th0_p.2.2.2.1 ⟨rfl, rfl⟩ (by decide) ⟨by decide, by decide⟩ (y_okA (by rw [show (x_tb 19).2.2.2 = [(4, ((0 : Nat), (-2147483648 : Int), (2147483647 : Int)))] from rfl]; exact y_one (by decide))) (by decide) (by decide) hN6) (fun r1 Gc hc1 => ?_)
  obtain ⟨rfl, Gr11, ur11, hz11⟩ := hc1
  simp only [Option.toList_some, Option.toList_none, List.cons_append, List.nil_append]
  have hI11 := q10.1.I.upd ur11 th0_p.2.2.2.1 (y_okA (by rw [show (x_tb 19).2.2.2 = [(4, ((0 : Nat), (-2147483648 : Int), (2147483647 : Int)))] from rfl]; exact y_one (by decide)))
  have q11 := (q10.oth ur11 hI11 (by decide) (by decide) rfl).nxt hz11
  have r0 : x_sl Gc 4 0 = some (.int num2) := by rw [hz11.ot 4 0 (by decide), ur11.2.1, if_neg (fun z => absurd z.2 (by decide))]; exact r0
  have r1 : x_sl Gc 4 1 = some (.int num3) := by rw [hz11.ot 4 1 (by decide), ur11.2.1, if_neg (fun z => absurd z.2 (by decide))]; exact r1
  have r2 : x_sl Gc 4 2 = some (.int num4) := by rw [hz11.ot 4 2 (by decide), ur11.2.1, if_neg (fun z => absurd z.2 (by decide))]; exact r2
  have r3 : x_sl Gc 4 3 = some (.int num5) := by rw [hz11.ot 4 3 (by decide), ur11.2.1, if_pos ⟨rfl, rfl⟩]
  refine y_ifc (e_29 (73, .ifCond .ne 5, 3) (List.mem_of_getElem? (i := 40) rfl)) rfl (fun _ => ?_) (fun hc => absurd hc (by decide))
  refine y_aln (e_29 (78, .aload_n 3, 1) (List.mem_of_getElem? (i := 43) rfl)) g3 ?_
  refine y_aln (e_29 (79, .aload_n 0, 1) (List.mem_of_getElem? (i := 44) rfl)) g0 ?_
  refine y_getf q11.1.I th0_p.2.2.1 (e_29 (80, .getfield 9, 3) (List.mem_of_getElem? (i := 45) rfl)) u_3_9 ⟨rfl, rfl⟩ q11.2.a3_0 ?_
  refine y_st (e_29 (83, .iconst 0, 1) (List.mem_of_getElem? (i := 46) rfl)) ⟨rfl, rfl, rfl, rfl⟩ ?_
  refine y_iald q11.1.I th0_p.2.2.2.1 (e_29 (84, .iaload, 1) (List.mem_of_getElem? (i := 47) rfl)) ⟨rfl, rfl⟩ (by decide) r0 ?_
  refine y_aln (e_29 (85, .aload_n 0, 1) (List.mem_of_getElem? (i := 48) rfl)) g0 ?_
  refine y_getf q11.1.I th0_p.2.2.1 (e_29 (86, .getfield 9, 3) (List.mem_of_getElem? (i := 49) rfl)) u_3_9 ⟨rfl, rfl⟩ q11.2.a3_0 ?_
  refine y_st (e_29 (89, .iconst 1, 1) (List.mem_of_getElem? (i := 50) rfl)) ⟨rfl, rfl, rfl, rfl⟩ ?_
  refine y_iald q11.1.I th0_p.2.2.2.1 (e_29 (90, .iaload, 1) (List.mem_of_getElem? (i := 51) rfl)) ⟨rfl, rfl⟩ (by decide) r1 ?_
  refine y_aln (e_29 (91, .aload_n 0, 1) (List.mem_of_getElem? (i := 52) rfl)) g0 ?_
  refine y_getf q11.1.I th0_p.2.2.1 (e_29 (92, .getfield 9, 3) (List.mem_of_getElem? (i := 53) rfl)) u_3_9 ⟨rfl, rfl⟩ q11.2.a3_0 ?_
  refine y_st (e_29 (95, .iconst 2, 1) (List.mem_of_getElem? (i := 54) rfl)) ⟨rfl, rfl, rfl, rfl⟩ ?_
  refine y_iald q11.1.I th0_p.2.2.2.1 (e_29 (96, .iaload, 1) (List.mem_of_getElem? (i := 55) rfl)) ⟨rfl, rfl⟩ (by decide) r2 ?_
  refine y_c4 (K' := _) (e_29 (97, .invokevirtual 183, 3) (List.mem_of_getElem? (i := 56) rfl)) ⟨rfl, rfl, rfl⟩ t_3_183 ⟨by decide, by decide, by decide, by decide⟩ m_35_ok rfl (by decide) (y_recv q11.1.I te ⟨rfl, rfl⟩) (Nat.le_of_ble_eq_true rfl) (Nat.le_of_ble_eq_true rfl) (k_put q11 (by omega)) (fun r1 Gc hc1 => ?_)
  obtain ⟨rfl, w6, r6⟩ := hc1
  simp only [Option.toList_some, Option.toList_none, List.cons_append, List.nil_append]
  rw [← r6 3] at r3
  refine y_aln (e_29 (100, .aload_n 3, 1) (List.mem_of_getElem? (i := 57) rfl)) g3 ?_
  refine y_aln (e_29 (101, .aload_n 0, 1) (List.mem_of_getElem? (i := 58) rfl)) g0 ?_
  refine y_getf w6.1.I th0_p.2.2.1 (e_29 (102, .getfield 9, 3) (List.mem_of_getElem? (i := 59) rfl)) u_3_9 ⟨rfl, rfl⟩ w6.2.a3_0 ?_
  refine y_st (e_29 (105, .iconst 3, 1) (List.mem_of_getElem? (i := 60) rfl)) ⟨rfl, rfl, rfl, rfl⟩ ?_
  refine y_iald w6.1.I th0_p.2.2.2.1 (e_29 (106, .iaload, 1) (List.mem_of_getElem? (i := 61) rfl)) ⟨rfl, rfl⟩ (by decide) r3 ?_
  refine y_putf (f := (0, -2147483648, 2147483647)) w6.1.I te (e_29 (107, .putfield 187, 3) (List.mem_of_getElem? (i := 62) rfl)) u_3_187 ⟨rfl, rfl, by decide, rfl, rfl⟩ ⟨_, rfl, (x_i32 _).1, (x_i32 _).2⟩ (fun Gw7 uw7 => ?_)
  have w7 := w6.oth uw7 (w6.1.I.upd uw7 te (y_okA rfl)) (by omega) (by omega) (t_trk_o (by omega) (by decide))
  refine y_aln (e_29 (110, .aload_n 3, 1) (List.mem_of_getElem? (i := 63) rfl)) g3 ?_
  refine y_aln (e_29 (111, .aload_n 1, 1) (List.mem_of_getElem? (i := 64) rfl)) g1 ?_
  refine y_getf w7.1.I w7.1.t (e_29 (112, .getfield 36, 3) (List.mem_of_getElem? (i := 65) rfl)) u_3_36 ⟨rfl, rfl⟩ w7.1.s4 ?_
  refine y_gst (a := pm_TB + 17) (e_29 (115, .getstatic 190, 3) (List.mem_of_getElem? (i := 66) rfl)) w_3_190 rfl ?_
  refine y_acmN (e_29 (118, .if_acmp .ne 7, 3) (List.mem_of_getElem? (i := 67) rfl)) rfl w7.1.tk35 (by decide) (fun _ => ?_) (fun z => absurd z hnt)
  refine y_st (e_29 (125, .iconst 0, 1) (List.mem_of_getElem? (i := 70) rfl)) ⟨rfl, rfl, rfl, rfl⟩ ?_
  refine y_putf (f := (0, 0, 1)) w7.1.I te (e_29 (126, .putfield 193, 3) (List.mem_of_getElem? (i := 71) rfl)) u_3_193 ⟨rfl, rfl, by decide, rfl, rfl⟩ ⟨_, rfl, by decide, by decide⟩ (fun Gw8 uw8 => ?_)
  have w8 := w7.oth uw8 (w7.1.I.upd uw8 te (y_okI rfl (by decide) (by decide))) (by omega) (by omega) (t_trk_o (by omega) (by decide))
  have t8 : x_sl Gw8 (42 + nt.toInt.toNat) 8 = some (.int (Int32.ofInt 0)) := by rw [uw8.2.1, if_pos ⟨rfl, rfl⟩]
  refine y_aln (e_29 (129, .aload_n 3, 1) (List.mem_of_getElem? (i := 72) rfl)) g3 ?_
  refine y_getf w8.1.I te (e_29 (130, .getfield 193, 3) (List.mem_of_getElem? (i := 73) rfl)) u_3_193 ⟨rfl, rfl⟩ t8 ?_
  refine y_ifc (e_29 (133, .ifCond .eq 7, 3) (List.mem_of_getElem? (i := 74) rfl)) rfl (fun _ => ?_) (fun hc => absurd hc (by decide))
  have ec : (nt + Int32.ofInt 1).toInt = nt.toInt + 1 := y_add1 (t := nt) (by omega)
  refine y_aln (e_29 (140, .aload_n 2, 1) (List.mem_of_getElem? (i := 77) rfl)) g2 ?_
  refine y_st (e_29 (141, .dup, 1) (List.mem_of_getElem? (i := 78) rfl)) ⟨rfl, rfl, rfl, rfl⟩ ?_
  refine y_getf w8.1.I th0_p.2.2.2.2.2.1 (e_29 (142, .getfield 123, 3) (List.mem_of_getElem? (i := 79) rfl)) u_3_123 ⟨rfl, rfl⟩ w8.2.a32_4 ?_
  refine y_st (e_29 (145, .iconst 1, 1) (List.mem_of_getElem? (i := 80) rfl)) ⟨rfl, rfl, rfl, rfl⟩ ?_
  refine y_st (e_29 (146, .iadd, 1) (List.mem_of_getElem? (i := 81) rfl)) ⟨rfl, rfl, rfl, rfl⟩ ?_
  refine y_putf (f := (0, 0, 8)) w8.1.I th0_p.2.2.2.2.2.1 (e_29 (147, .putfield 123, 3) (List.mem_of_getElem? (i := 82) rfl)) u_3_123 ⟨rfl, rfl, by decide, rfl, rfl⟩ ⟨_, rfl, by show (0 : Int) ≤ _; omega, by show _ ≤ (8 : Int); omega⟩ (fun Gt ut => ?_)
  have w20 : CS f n lim nx6 tk6 pl6 num6 nm6 ft fp cc np (nt + Int32.ofInt 1) nl nn oc ot (fun j => if j = nt.toInt.toNat then nm1 else tn j) ln mn Gt := ⟨w8.1.other ut (by decide) (by decide) (w8.1.I.upd ut th0_p.2.2.2.2.2.1 (y_okI rfl (by show (0 : Int) ≤ _; omega) (by show _ ≤ (8 : Int); omega))), w8.2.unt (fun c i => by rw [ut.2.1])⟩
  refine y_st (e_29 (150, .iconst 1, 1) (List.mem_of_getElem? (i := 83) rfl)) ⟨rfl, rfl, rfl, rfl⟩ ?_
  exact y_ret (e_29 (151, .ireturn, 1) (List.mem_of_getElem? (i := 84) rfl)) ⟨rfl, y_rb (Or.inr rfl)⟩ ⟨rfl, w20⟩
set_option maxHeartbeats 2000000 in
set_option maxRecDepth 100000 in
theorem c_thing_tied (h : CS f n lim nx0 tk0 pl0 num0 nm0 ft fp cc np nt nl nn oc ot tn ln mn G) (hcn : nt.toInt < 8) (hN1 : NXc f n lim nx0 num0 nm0 nx1 tk1 pl1 num1 nm1) (htk1 : tk1 = 3) (hT : ¬ c_Told nt nl nn tn ln mn nm1) (hN2 : NXc f n lim nx1 num1 nm1 nx2 tk2 pl2 num2 nm2) (htk2 : tk2 = 2) (a2 : 0 ≤ num2.toInt) (b2 : num2.toInt ≤ 1) (hN3 : NXc f n lim nx2 num2 nm2 nx3 tk3 pl3 num3 nm3) (htk3 : tk3 = 2) (a3 : 0 ≤ num3.toInt) (b3 : num3.toInt ≤ (cc num2.toInt.toNat - Int32.ofInt 1).toInt) (hN4 : NXc f n lim nx3 num3 nm3 nx4 tk4 pl4 num4 nm4) (htk4 : tk4 = 2) (a4 : 1 ≤ num4.toInt) (b4 : num4.toInt ≤ 9) (hN5 : NXc f n lim nx4 num4 nm4 nx5 tk5 pl5 num5 nm5) (htk5 : tk5 = 2) (a5 : 0 ≤ num5.toInt) (b5 : num5.toInt ≤ 7) (hN6 : NXc f n lim nx5 num5 nm5 nx6 tk6 pl6 num6 nm6) (hti : tk6 = 17) (hN7 : NXc f n lim nx6 num6 nm6 nx7 tk7 pl7 num7 nm7) : x_Gd xs L J (d + 4) m_29 (fun r G' => r = some (.int 1) ∧ CS f n lim nx7 tk7 pl7 num7 nm7 ft fp cc np (nt + Int32.ofInt 1) nl nn oc ot (fun j => if j = nt.toInt.toNat then nm1 else tn j) ln mn G') 0 (lv_args 0 [.ref 3, .ref 1, .ref 32]) [] G := by
  have g0 : pm_get (lv_args 0 [.ref 3, .ref 1, .ref 32]) 0 = some (.ref 3) := rfl
  have g1 : pm_get (lv_args 0 [.ref 3, .ref 1, .ref 32]) 1 = some (.ref 1) := rfl
  have g2 : pm_get (lv_args 0 [.ref 3, .ref 1, .ref 32]) 2 = some (.ref 32) := rfl
  generalize (lv_args 0 [.ref 3, .ref 1, .ref 32]) = lv at g0 g1 g2 ⊢
  obtain ⟨⟨t0, t1⟩, ⟨l0, l1⟩, ⟨m0, m1⟩, -, -⟩ := h.cn
  refine y_aln (e_29 (0, .aload_n 2, 1) (List.mem_of_getElem? (i := 0) rfl)) g2 ?_
  refine y_getf h.1.I th0_p.2.2.2.2.2.1 (e_29 (1, .getfield 123, 3) (List.mem_of_getElem? (i := 1) rfl)) u_3_123 ⟨rfl, rfl⟩ h.2.a32_4 ?_
  refine y_st (e_29 (4, .bipush 8, 2) (List.mem_of_getElem? (i := 2) rfl)) ⟨rfl, rfl, rfl, rfl⟩ ?_
  refine y_icm (e_29 (6, .if_icmp .lt 9, 3) (List.mem_of_getElem? (i := 3) rfl)) rfl (fun _ => ?_) (fun hc => ?_)
  rotate_left
  · have z := y_hI.2.2.2.2.2.2.2.2.2.1 hc
    rw [show (Int8.ofInt 8).toInt32.toInt = 8 from rfl] at z
    omega
  refine y_aln (e_29 (15, .aload_n 2, 1) (List.mem_of_getElem? (i := 8) rfl)) g2 ?_
  refine y_getf h.1.I th0_p.2.2.2.2.2.1 (e_29 (16, .getfield 169, 3) (List.mem_of_getElem? (i := 9) rfl)) u_3_169 ⟨rfl, rfl⟩ h.2.a32_1 ?_
  refine y_aln (e_29 (19, .aload_n 2, 1) (List.mem_of_getElem? (i := 10) rfl)) g2 ?_
  refine y_getf h.1.I th0_p.2.2.2.2.2.1 (e_29 (20, .getfield 123, 3) (List.mem_of_getElem? (i := 11) rfl)) u_3_123 ⟨rfl, rfl⟩ h.2.a32_4 ?_
  refine y_aald h.1.I th0_p.2.2.2.2.2.2.2.2.2.2.2.2.1 (e_29 (23, .aaload, 1) (List.mem_of_getElem? (i := 12) rfl)) ⟨rfl, by decide⟩ ⟨by omega, by show _ < (8 : Int); omega⟩ (h.2.fta nt.toInt.toNat (by omega)) ?_
  refine y_asn (e_29 (24, .astore_n 3, 1) (List.mem_of_getElem? (i := 13) rfl)) (by decide) ?_
  have g3 : pm_get (pm_put1 lv 3 (.ref (42 + nt.toInt.toNat))) 3 = some (.ref (42 + nt.toInt.toNat)) := x_get_self
  have g0 : pm_get (pm_put1 lv 3 (.ref (42 + nt.toInt.toNat))) 0 = some (.ref 3) := y_gpr g0 (by decide)
  have g1 : pm_get (pm_put1 lv 3 (.ref (42 + nt.toInt.toNat))) 1 = some (.ref 1) := y_gpr g1 (by decide)
  have g2 : pm_get (pm_put1 lv 3 (.ref (42 + nt.toInt.toNat))) 2 = some (.ref 32) := y_gpr g2 (by decide)
  show x_Gd xs L J _ m_29 _ 25 (pm_put1 lv 3 (.ref (42 + nt.toInt.toNat))) [] G
  generalize pm_put1 lv 3 (.ref (42 + nt.toInt.toNat)) = lv3 at g0 g1 g2 g3 ⊢
  refine y_aln (e_29 (25, .aload_n 1, 1) (List.mem_of_getElem? (i := 14) rfl)) g1 ?_
  refine y_c1 (K' := _) (e_29 (26, .invokevirtual 120, 3) (List.mem_of_getElem? (i := 15) rfl)) ⟨rfl, rfl, rfl⟩ t_3_120 ⟨by decide, by decide, by decide, by decide⟩ m_21_ok rfl (by decide) (y_recv h.1.I h.1.t ⟨rfl, rfl⟩) (Nat.le_of_ble_eq_true rfl) (Nat.le_of_ble_eq_true rfl) (hN1 _ _ _ _ _ _ _ _ _ _ _ _ _ h.1) (fun r1 Gc hc1 => ?_)
  obtain ⟨rfl, hc2⟩ := hc1
  simp only [Option.toList_some, Option.toList_none, List.cons_append, List.nil_append]
  have w1 := h.nxt hc2
  have te := th0_n.1 nt.toInt.toNat (by omega)
  refine y_aln (e_29 (29, .aload_n 3, 1) (List.mem_of_getElem? (i := 16) rfl)) g3 ?_
  refine y_aln (e_29 (30, .aload_n 1, 1) (List.mem_of_getElem? (i := 17) rfl)) g1 ?_
  refine y_getf w1.1.I w1.1.t (e_29 (31, .getfield 173, 3) (List.mem_of_getElem? (i := 18) rfl)) u_3_173 ⟨rfl, rfl⟩ w1.1.s7 ?_
  refine y_putf (f := (1, 0, 0)) w1.1.I te (e_29 (34, .putfield 177, 3) (List.mem_of_getElem? (i := 19) rfl)) u_3_177 ⟨rfl, rfl, by decide, rfl, rfl⟩ ⟨_, rfl⟩ (fun Gp up => ?_)
  have w2 : CS f n lim nx1 tk1 pl1 num1 nm1 ft fp cc np nt nl nn oc ot (fun j => if j = nt.toInt.toNat then nm1 else tn j) ln mn Gp := ⟨w1.1.other up (by omega) (by omega) (w1.1.I.upd up te (y_okL rfl)), w1.2.utn (k := nt.toInt.toNat) (by omega) (fun c i => by rw [up.2.1])⟩
  refine y_aln (e_29 (37, .aload_n 0, 1) (List.mem_of_getElem? (i := 20) rfl)) g0 ?_
  refine y_aln (e_29 (38, .aload_n 1, 1) (List.mem_of_getElem? (i := 21) rfl)) g1 ?_
  refine y_aln (e_29 (39, .aload_n 2, 1) (List.mem_of_getElem? (i := 22) rfl)) g2 ?_
  refine y_c3 (K' := _) (e_29 (40, .invokevirtual 180, 3) (List.mem_of_getElem? (i := 23) rfl)) ⟨rfl, rfl, rfl⟩ t_3_180 ⟨by decide, by decide, by decide, by decide⟩ m_30_ok rfl (by decide) (y_recv w2.1.I th0_p.2.2.1 ⟨rfl, rfl⟩) (Nat.le_of_ble_eq_true rfl) (Nat.le_of_ble_eq_true rfl) (k_nac_yes w2 htk1 (fun z => hT ((c_Told_tn (by omega)).mp z)) hN2 htk2 a2 b2 hN3 htk3 a3 b3 hN4) (fun r1 Gc hc1 => ?_)
  obtain ⟨rfl, w4, r0, r1⟩ := hc1
  simp only [Option.toList_some, Option.toList_none, List.cons_append, List.nil_append]
  refine y_ifc (e_29 (43, .ifCond .eq 33, 3) (List.mem_of_getElem? (i := 24) rfl)) rfl (fun hc => absurd hc (by decide)) (fun _ => ?_)
  refine y_aln (e_29 (46, .aload_n 1, 1) (List.mem_of_getElem? (i := 25) rfl)) g1 ?_
  refine y_st (e_29 (47, .iconst 1, 1) (List.mem_of_getElem? (i := 26) rfl)) ⟨rfl, rfl, rfl, rfl⟩ ?_
  refine y_st (e_29 (48, .bipush 9, 2) (List.mem_of_getElem? (i := 27) rfl)) ⟨rfl, rfl, rfl, rfl⟩ ?_
  refine y_aln (e_29 (50, .aload_n 0, 1) (List.mem_of_getElem? (i := 28) rfl)) g0 ?_
  refine y_getf w4.1.I th0_p.2.2.1 (e_29 (51, .getfield 9, 3) (List.mem_of_getElem? (i := 29) rfl)) u_3_9 ⟨rfl, rfl⟩ w4.2.a3_0 ?_
  refine y_st (e_29 (54, .iconst 2, 1) (List.mem_of_getElem? (i := 30) rfl)) ⟨rfl, rfl, rfl, rfl⟩ ?_
  refine y_c5 (K' := _) (e_29 (55, .invokevirtual 141, 3) (List.mem_of_getElem? (i := 31) rfl)) ⟨rfl, rfl, rfl⟩ t_3_141 ⟨by decide, by decide, by decide, by decide⟩ m_28_ok rfl (by decide) (y_recv w4.1.I w4.1.t ⟨rfl, rfl⟩) (Nat.le_of_ble_eq_true rfl) (Nat.le_of_ble_eq_true rfl) (k_takeN_yes w4.1 htk4 a4 b4 th0_p.2.2.2.1 ⟨rfl, rfl⟩ (by decide) ⟨by decide, by decide⟩ (y_okA (by rw [show (x_tb 19).2.2.2 = [(4, ((0 : Nat), (-2147483648 : Int), (2147483647 : Int)))] from rfl]; exact y_one (by decide))) (by decide) (by decide) hN5) (fun r1 Gc hc1 => ?_)
  obtain ⟨rfl, Gr10, ur10, hz10⟩ := hc1
  simp only [Option.toList_some, Option.toList_none, List.cons_append, List.nil_append]
  have hI10 := w4.1.I.upd ur10 th0_p.2.2.2.1 (y_okA (by rw [show (x_tb 19).2.2.2 = [(4, ((0 : Nat), (-2147483648 : Int), (2147483647 : Int)))] from rfl]; exact y_one (by decide)))
  have q10 := (w4.oth ur10 hI10 (by decide) (by decide) rfl).nxt hz10
  have r0 : x_sl Gc 4 0 = some (.int num2) := by rw [hz10.ot 4 0 (by decide), ur10.2.1, if_neg (fun z => absurd z.2 (by decide))]; exact r0
  have r1 : x_sl Gc 4 1 = some (.int num3) := by rw [hz10.ot 4 1 (by decide), ur10.2.1, if_neg (fun z => absurd z.2 (by decide))]; exact r1
  have r2 : x_sl Gc 4 2 = some (.int num4) := by rw [hz10.ot 4 2 (by decide), ur10.2.1, if_pos ⟨rfl, rfl⟩]
  refine y_ifc (e_29 (58, .ifCond .eq 18, 3) (List.mem_of_getElem? (i := 32) rfl)) rfl (fun hc => absurd hc (by decide)) (fun _ => ?_)
  refine y_aln (e_29 (61, .aload_n 1, 1) (List.mem_of_getElem? (i := 33) rfl)) g1 ?_
  refine y_st (e_29 (62, .iconst 0, 1) (List.mem_of_getElem? (i := 34) rfl)) ⟨rfl, rfl, rfl, rfl⟩ ?_
  refine y_st (e_29 (63, .bipush 7, 2) (List.mem_of_getElem? (i := 35) rfl)) ⟨rfl, rfl, rfl, rfl⟩ ?_
  refine y_aln (e_29 (65, .aload_n 0, 1) (List.mem_of_getElem? (i := 36) rfl)) g0 ?_
  refine y_getf q10.1.I th0_p.2.2.1 (e_29 (66, .getfield 9, 3) (List.mem_of_getElem? (i := 37) rfl)) u_3_9 ⟨rfl, rfl⟩ q10.2.a3_0 ?_
  refine y_st (e_29 (69, .iconst 3, 1) (List.mem_of_getElem? (i := 38) rfl)) ⟨rfl, rfl, rfl, rfl⟩ ?_
  refine y_c5 (K' := _) (e_29 (70, .invokevirtual 141, 3) (List.mem_of_getElem? (i := 39) rfl)) ⟨rfl, rfl, rfl⟩ t_3_141 ⟨by decide, by decide, by decide, by decide⟩ m_28_ok rfl (by decide) (y_recv q10.1.I q10.1.t ⟨rfl, rfl⟩) (Nat.le_of_ble_eq_true rfl) (Nat.le_of_ble_eq_true rfl) (k_takeN_yes q10.1 htk5 a5 b5 th0_p.2.2.2.1 ⟨rfl, rfl⟩ (by decide) ⟨by decide, by decide⟩ (y_okA (by rw [show (x_tb 19).2.2.2 = [(4, ((0 : Nat), (-2147483648 : Int), (2147483647 : Int)))] from rfl]; exact y_one (by decide))) (by decide) (by decide) hN6) (fun r1 Gc hc1 => ?_)
  obtain ⟨rfl, Gr11, ur11, hz11⟩ := hc1
  simp only [Option.toList_some, Option.toList_none, List.cons_append, List.nil_append]
  have hI11 := q10.1.I.upd ur11 th0_p.2.2.2.1 (y_okA (by rw [show (x_tb 19).2.2.2 = [(4, ((0 : Nat), (-2147483648 : Int), (2147483647 : Int)))] from rfl]; exact y_one (by decide)))
  have q11 := (q10.oth ur11 hI11 (by decide) (by decide) rfl).nxt hz11
  have r0 : x_sl Gc 4 0 = some (.int num2) := by rw [hz11.ot 4 0 (by decide), ur11.2.1, if_neg (fun z => absurd z.2 (by decide))]; exact r0
  have r1 : x_sl Gc 4 1 = some (.int num3) := by rw [hz11.ot 4 1 (by decide), ur11.2.1, if_neg (fun z => absurd z.2 (by decide))]; exact r1
  have r2 : x_sl Gc 4 2 = some (.int num4) := by rw [hz11.ot 4 2 (by decide), ur11.2.1, if_neg (fun z => absurd z.2 (by decide))]; exact r2
  have r3 : x_sl Gc 4 3 = some (.int num5) := by rw [hz11.ot 4 3 (by decide), ur11.2.1, if_pos ⟨rfl, rfl⟩]
  refine y_ifc (e_29 (73, .ifCond .ne 5, 3) (List.mem_of_getElem? (i := 40) rfl)) rfl (fun _ => ?_) (fun hc => absurd hc (by decide))
  refine y_aln (e_29 (78, .aload_n 3, 1) (List.mem_of_getElem? (i := 43) rfl)) g3 ?_
  refine y_aln (e_29 (79, .aload_n 0, 1) (List.mem_of_getElem? (i := 44) rfl)) g0 ?_
  refine y_getf q11.1.I th0_p.2.2.1 (e_29 (80, .getfield 9, 3) (List.mem_of_getElem? (i := 45) rfl)) u_3_9 ⟨rfl, rfl⟩ q11.2.a3_0 ?_
  refine y_st (e_29 (83, .iconst 0, 1) (List.mem_of_getElem? (i := 46) rfl)) ⟨rfl, rfl, rfl, rfl⟩ ?_
  refine y_iald q11.1.I th0_p.2.2.2.1 (e_29 (84, .iaload, 1) (List.mem_of_getElem? (i := 47) rfl)) ⟨rfl, rfl⟩ (by decide) r0 ?_
  refine y_aln (e_29 (85, .aload_n 0, 1) (List.mem_of_getElem? (i := 48) rfl)) g0 ?_
  refine y_getf q11.1.I th0_p.2.2.1 (e_29 (86, .getfield 9, 3) (List.mem_of_getElem? (i := 49) rfl)) u_3_9 ⟨rfl, rfl⟩ q11.2.a3_0 ?_
  refine y_st (e_29 (89, .iconst 1, 1) (List.mem_of_getElem? (i := 50) rfl)) ⟨rfl, rfl, rfl, rfl⟩ ?_
  refine y_iald q11.1.I th0_p.2.2.2.1 (e_29 (90, .iaload, 1) (List.mem_of_getElem? (i := 51) rfl)) ⟨rfl, rfl⟩ (by decide) r1 ?_
  refine y_aln (e_29 (91, .aload_n 0, 1) (List.mem_of_getElem? (i := 52) rfl)) g0 ?_
  refine y_getf q11.1.I th0_p.2.2.1 (e_29 (92, .getfield 9, 3) (List.mem_of_getElem? (i := 53) rfl)) u_3_9 ⟨rfl, rfl⟩ q11.2.a3_0 ?_
  refine y_st (e_29 (95, .iconst 2, 1) (List.mem_of_getElem? (i := 54) rfl)) ⟨rfl, rfl, rfl, rfl⟩ ?_
  refine y_iald q11.1.I th0_p.2.2.2.1 (e_29 (96, .iaload, 1) (List.mem_of_getElem? (i := 55) rfl)) ⟨rfl, rfl⟩ (by decide) r2 ?_
  refine y_c4 (K' := _) (e_29 (97, .invokevirtual 183, 3) (List.mem_of_getElem? (i := 56) rfl)) ⟨rfl, rfl, rfl⟩ t_3_183 ⟨by decide, by decide, by decide, by decide⟩ m_35_ok rfl (by decide) (y_recv q11.1.I te ⟨rfl, rfl⟩) (Nat.le_of_ble_eq_true rfl) (Nat.le_of_ble_eq_true rfl) (k_put q11 (by omega)) (fun r1 Gc hc1 => ?_)
  obtain ⟨rfl, w6, r6⟩ := hc1
  simp only [Option.toList_some, Option.toList_none, List.cons_append, List.nil_append]
  rw [← r6 3] at r3
  refine y_aln (e_29 (100, .aload_n 3, 1) (List.mem_of_getElem? (i := 57) rfl)) g3 ?_
  refine y_aln (e_29 (101, .aload_n 0, 1) (List.mem_of_getElem? (i := 58) rfl)) g0 ?_
  refine y_getf w6.1.I th0_p.2.2.1 (e_29 (102, .getfield 9, 3) (List.mem_of_getElem? (i := 59) rfl)) u_3_9 ⟨rfl, rfl⟩ w6.2.a3_0 ?_
  refine y_st (e_29 (105, .iconst 3, 1) (List.mem_of_getElem? (i := 60) rfl)) ⟨rfl, rfl, rfl, rfl⟩ ?_
  refine y_iald w6.1.I th0_p.2.2.2.1 (e_29 (106, .iaload, 1) (List.mem_of_getElem? (i := 61) rfl)) ⟨rfl, rfl⟩ (by decide) r3 ?_
  refine y_putf (f := (0, -2147483648, 2147483647)) w6.1.I te (e_29 (107, .putfield 187, 3) (List.mem_of_getElem? (i := 62) rfl)) u_3_187 ⟨rfl, rfl, by decide, rfl, rfl⟩ ⟨_, rfl, (x_i32 _).1, (x_i32 _).2⟩ (fun Gw7 uw7 => ?_)
  have w7 := w6.oth uw7 (w6.1.I.upd uw7 te (y_okA rfl)) (by omega) (by omega) (t_trk_o (by omega) (by decide))
  refine y_aln (e_29 (110, .aload_n 3, 1) (List.mem_of_getElem? (i := 63) rfl)) g3 ?_
  refine y_aln (e_29 (111, .aload_n 1, 1) (List.mem_of_getElem? (i := 64) rfl)) g1 ?_
  refine y_getf w7.1.I w7.1.t (e_29 (112, .getfield 36, 3) (List.mem_of_getElem? (i := 65) rfl)) u_3_36 ⟨rfl, rfl⟩ w7.1.s4 ?_
  refine y_gst (a := pm_TB + 17) (e_29 (115, .getstatic 190, 3) (List.mem_of_getElem? (i := 66) rfl)) w_3_190 rfl ?_
  refine y_acmN (e_29 (118, .if_acmp .ne 7, 3) (List.mem_of_getElem? (i := 67) rfl)) rfl w7.1.tk35 (by decide) (fun z => absurd hti z) (fun _ => ?_)
  refine y_st (e_29 (121, .iconst 1, 1) (List.mem_of_getElem? (i := 68) rfl)) ⟨rfl, rfl, rfl, rfl⟩ ?_
  refine y_st (e_29 (122, .goto 4, 3) (List.mem_of_getElem? (i := 69) rfl)) ⟨rfl, rfl, rfl, rfl⟩ ?_
  refine y_putf (f := (0, 0, 1)) w7.1.I te (e_29 (126, .putfield 193, 3) (List.mem_of_getElem? (i := 71) rfl)) u_3_193 ⟨rfl, rfl, by decide, rfl, rfl⟩ ⟨_, rfl, by decide, by decide⟩ (fun Gw8 uw8 => ?_)
  have w8 := w7.oth uw8 (w7.1.I.upd uw8 te (y_okI rfl (by decide) (by decide))) (by omega) (by omega) (t_trk_o (by omega) (by decide))
  have t8 : x_sl Gw8 (42 + nt.toInt.toNat) 8 = some (.int (Int32.ofInt 1)) := by rw [uw8.2.1, if_pos ⟨rfl, rfl⟩]
  refine y_aln (e_29 (129, .aload_n 3, 1) (List.mem_of_getElem? (i := 72) rfl)) g3 ?_
  refine y_getf w8.1.I te (e_29 (130, .getfield 193, 3) (List.mem_of_getElem? (i := 73) rfl)) u_3_193 ⟨rfl, rfl⟩ t8 ?_
  refine y_ifc (e_29 (133, .ifCond .eq 7, 3) (List.mem_of_getElem? (i := 74) rfl)) rfl (fun hc => absurd hc (by decide)) (fun _ => ?_)
  refine y_aln (e_29 (136, .aload_n 1, 1) (List.mem_of_getElem? (i := 75) rfl)) g1 ?_
  refine y_c1 (K' := _) (e_29 (137, .invokevirtual 120, 3) (List.mem_of_getElem? (i := 76) rfl)) ⟨rfl, rfl, rfl⟩ t_3_120 ⟨by decide, by decide, by decide, by decide⟩ m_21_ok rfl (by decide) (y_recv w8.1.I w8.1.t ⟨rfl, rfl⟩) (Nat.le_of_ble_eq_true rfl) (Nat.le_of_ble_eq_true rfl) (hN7 _ _ _ _ _ _ _ _ _ _ _ _ _ w8.1) (fun r1 Gc hc1 => ?_)
  obtain ⟨rfl, hc2⟩ := hc1
  simp only [Option.toList_some, Option.toList_none, List.cons_append, List.nil_append]
  have w9 := w8.nxt hc2
  have ec : (nt + Int32.ofInt 1).toInt = nt.toInt + 1 := y_add1 (t := nt) (by omega)
  refine y_aln (e_29 (140, .aload_n 2, 1) (List.mem_of_getElem? (i := 77) rfl)) g2 ?_
  refine y_st (e_29 (141, .dup, 1) (List.mem_of_getElem? (i := 78) rfl)) ⟨rfl, rfl, rfl, rfl⟩ ?_
  refine y_getf w9.1.I th0_p.2.2.2.2.2.1 (e_29 (142, .getfield 123, 3) (List.mem_of_getElem? (i := 79) rfl)) u_3_123 ⟨rfl, rfl⟩ w9.2.a32_4 ?_
  refine y_st (e_29 (145, .iconst 1, 1) (List.mem_of_getElem? (i := 80) rfl)) ⟨rfl, rfl, rfl, rfl⟩ ?_
  refine y_st (e_29 (146, .iadd, 1) (List.mem_of_getElem? (i := 81) rfl)) ⟨rfl, rfl, rfl, rfl⟩ ?_
  refine y_putf (f := (0, 0, 8)) w9.1.I th0_p.2.2.2.2.2.1 (e_29 (147, .putfield 123, 3) (List.mem_of_getElem? (i := 82) rfl)) u_3_123 ⟨rfl, rfl, by decide, rfl, rfl⟩ ⟨_, rfl, by show (0 : Int) ≤ _; omega, by show _ ≤ (8 : Int); omega⟩ (fun Gt ut => ?_)
  have w20 : CS f n lim nx7 tk7 pl7 num7 nm7 ft fp cc np (nt + Int32.ofInt 1) nl nn oc ot (fun j => if j = nt.toInt.toNat then nm1 else tn j) ln mn Gt := ⟨w9.1.other ut (by decide) (by decide) (w9.1.I.upd ut th0_p.2.2.2.2.2.1 (y_okI rfl (by show (0 : Int) ≤ _; omega) (by show _ ≤ (8 : Int); omega))), w9.2.unt (fun c i => by rw [ut.2.1])⟩
  refine y_st (e_29 (150, .iconst 1, 1) (List.mem_of_getElem? (i := 83) rfl)) ⟨rfl, rfl, rfl, rfl⟩ ?_
  exact y_ret (e_29 (151, .ireturn, 1) (List.mem_of_getElem? (i := 84) rfl)) ⟨rfl, y_rb (Or.inr rfl)⟩ ⟨rfl, w20⟩
end CS9
