def m_20 : pM := (⟨"BreathingHill$Tape", "beginText", "(I)V"⟩, 555, 2, none, 2, 1, false, 7, 92, 553, 554)
set_option maxRecDepth 100000 in
theorem m_20_ok : pm_tab[20]? = some m_20 := rfl
theorem e_20 : ∀ q ∈ d_20, decode m_20.code q.1 = .ok (q.2.1, q.2.2) := y_dec d_20_ok m_20_ok
theorem t_3_25 : pm_ctab.find? (fun r => r.1 == 3 && r.2.1 == 25) = some (3, 25, 1, 18, 544) := by decide +kernel
theorem t_3_30 : pm_ctab.find? (fun r => r.1 == 3 && r.2.1 == 30) = some (3, 30, 1, 20, 552) := by decide +kernel
section CA3
variable {xs : Nat → Int32} {L J d : Nat} {K : Option Value → List pE → Prop} {f : Nat → Int32} {G G1 G' : List pE} {n lim ft fp : Int32} {lv : pL} {cc : Nat → Int32} {np nt nl nn oc : Int32} {ot : Nat → Nat} {tn ln mn : Nat → Int64} {nx0 pl0 num0 : Int32} {tk0 : Nat} {nm0 : Int64} {nx1 pl1 num1 : Int32} {tk1 : Nat} {nm1 : Int64} {nx2 pl2 num2 : Int32} {tk2 : Nat} {nm2 : Int64} {nx3 pl3 num3 : Int32} {tk3 : Nat} {nm3 : Int64} {nx4 pl4 num4 : Int32} {tk4 : Nat} {nm4 : Int64} {nx5 pl5 num5 : Int32} {tk5 : Nat} {nm5 : Int64} {nx6 pl6 num6 : Int32} {tk6 : Nat} {nm6 : Int64} {nx7 pl7 num7 : Int32} {tk7 : Nat} {nm7 : Int64} {nx8 pl8 num8 : Int32} {tk8 : Nat} {nm8 : Int64}
theorem TC.u2 {th : List Nat} {tp b : Nat} {G0 : List pE} {nx : Int32} {tk : Nat} {pl num : Int32} {nm : Int64} (h : TC th tp b f G0 n lim nx tk pl num nm ft fp G) {v : Int32} (u : x_upd G G1 tp 2 (.int v)) : TC th tp b f G0 n v nx tk pl num nm ft fp G1 := by
  obtain ⟨a1, a2, a3, a4, a5, c0, c1, c2, c3, c4, c5, c6, c7, c8, c9⟩ := h
  have ne : b ≠ tp := fun z => by rw [z, a2] at a3; cases a3
  exact ⟨a1.upd u a2 (y_okA rfl), a2, a3, fun i hi => by rw [u.2.1, if_neg (fun z => ne z.1)]; exact a4 i hi, fun c i hc => by rw [u.2.1, if_neg (fun z => hc z.1)]; exact a5 c i hc, by rw [u.2.1, if_neg (fun z => absurd z.2 (by decide))]; exact c0, by rw [u.2.1, if_neg (fun z => absurd z.2 (by decide))]; exact c1, by rw [u.2.1, if_pos ⟨rfl, rfl⟩], by rw [u.2.1, if_neg (fun z => absurd z.2 (by decide))]; exact c3, by rw [u.2.1, if_neg (fun z => absurd z.2 (by decide))]; exact c4, by rw [u.2.1, if_neg (fun z => absurd z.2 (by decide))]; exact c5, by rw [u.2.1, if_neg (fun z => absurd z.2 (by decide))]; exact c6, by rw [u.2.1, if_neg (fun z => absurd z.2 (by decide))]; exact c7, by rw [u.2.1, if_neg (fun z => absurd z.2 (by decide))]; exact c8, by rw [u.2.1, if_neg (fun z => absurd z.2 (by decide))]; exact c9⟩
set_option maxHeartbeats 2000000 in
set_option maxRecDepth 100000 in
theorem k_begin {G0 : List pE} {v : Int32} (h : TC th0 1 2 f G0 n lim nx0 tk0 pl0 num0 nm0 ft fp G) (hN : NXc f n v (Int32.ofInt 0) num0 nm0 nx1 tk1 pl1 num1 nm1) : x_Gd xs L J (d + 2) m_20 (fun r G' => r = none ∧ TC th0 1 2 f G0 n v nx1 tk1 pl1 num1 nm1 (Int32.ofInt 0) (Int32.ofInt 0) G') 0 (lv_args 0 [.ref 1, .int v]) [] G := by
  have g0 : pm_get (lv_args 0 [.ref 1, .int v]) 0 = some (.ref 1) := rfl
  have g1 : pm_get (lv_args 0 [.ref 1, .int v]) 1 = some (.int v) := rfl
  generalize lv_args 0 [.ref 1, .int v] = lv at g0 g1 ⊢
  refine y_aln (e_20 (0, .aload_n 0, 1) (List.mem_of_getElem? (i := 0) rfl)) g0 ?_
  refine y_iln (e_20 (1, .iload_n 1, 1) (List.mem_of_getElem? (i := 1) rfl)) g1 ?_
  refine y_putf (f := (0, -2147483648, 2147483647)) h.1 h.t (e_20 (2, .putfield 19, 3) (List.mem_of_getElem? (i := 2) rfl)) u_2_19 ⟨rfl, rfl, by decide, rfl, rfl⟩ ⟨_, rfl, (x_i32 _).1, (x_i32 _).2⟩ (fun G1 u1 => ?_)
  have w1 := h.u2 u1
  refine y_aln (e_20 (5, .aload_n 0, 1) (List.mem_of_getElem? (i := 3) rfl)) g0 ?_
  refine y_st (e_20 (6, .iconst 0, 1) (List.mem_of_getElem? (i := 4) rfl)) ⟨rfl, rfl, rfl, rfl⟩ ?_
  refine y_putf (f := (0, 0, 940)) w1.1 w1.t (e_20 (7, .putfield 22, 3) (List.mem_of_getElem? (i := 5) rfl)) u_2_22 ⟨rfl, rfl, by decide, rfl, rfl⟩ ⟨_, rfl, by decide, by decide⟩ (fun G2 u2 => ?_)
  have w2 := w1.u3 u2 ⟨by decide, by decide⟩
  refine y_aln (e_20 (10, .aload_n 0, 1) (List.mem_of_getElem? (i := 6) rfl)) g0 ?_
  refine y_st (e_20 (11, .iconst 0, 1) (List.mem_of_getElem? (i := 7) rfl)) ⟨rfl, rfl, rfl, rfl⟩ ?_
  refine y_putf (f := (0, -2147483648, 2147483647)) w2.1 w2.t (e_20 (12, .putfield 44, 3) (List.mem_of_getElem? (i := 8) rfl)) u_2_44 ⟨rfl, rfl, by decide, rfl, rfl⟩ ⟨_, rfl, (x_i32 _).1, (x_i32 _).2⟩ (fun G3 u3 => ?_)
  have w3 := w2.u8 u3
  refine y_aln (e_20 (15, .aload_n 0, 1) (List.mem_of_getElem? (i := 9) rfl)) g0 ?_
  refine y_st (e_20 (16, .iconst 0, 1) (List.mem_of_getElem? (i := 10) rfl)) ⟨rfl, rfl, rfl, rfl⟩ ?_
  refine y_putf (f := (0, -2147483648, 2147483647)) w3.1 w3.t (e_20 (17, .putfield 47, 3) (List.mem_of_getElem? (i := 11) rfl)) u_2_47 ⟨rfl, rfl, by decide, rfl, rfl⟩ ⟨_, rfl, (x_i32 _).1, (x_i32 _).2⟩ (fun G4 u4 => ?_)
  have w4 := w3.u9 u4
  refine y_aln (e_20 (20, .aload_n 0, 1) (List.mem_of_getElem? (i := 12) rfl)) g0 ?_
  refine y_c1 (K' := _) (e_20 (21, .invokevirtual 50, 3) (List.mem_of_getElem? (i := 13) rfl)) ⟨rfl, rfl, rfl⟩ t_2_50 ⟨by decide, by decide, by decide, by decide⟩ m_21_ok rfl (by decide) (y_recv w4.1 w4.t ⟨rfl, rfl⟩) (Nat.le_of_ble_eq_true rfl) (Nat.le_of_ble_eq_true rfl) (hN _ _ _ _ _ _ _ _ _ _ _ _ _ w4) (fun r1 Gc hc1 => ?_)
  obtain ⟨rfl, w5⟩ := hc1
  simp only [Option.toList_some, Option.toList_none, List.cons_append, List.nil_append]
  exact y_ret (e_20 (24, .return_, 1) (List.mem_of_getElem? (i := 14) rfl)) ⟨rfl, rfl⟩ ⟨rfl, w5⟩
set_option maxHeartbeats 2000000 in
set_option maxRecDepth 100000 in
theorem c_head (h : CZ f n lim nx0 tk0 pl0 num0 nm0 ft fp cc np nt nl nn ot tn ln mn G) (hN : NXc f n (Int16.ofInt 900).toInt32 (Int32.ofInt 0) num0 nm0 nx1 tk1 pl1 num1 nm1) (hk : ∀ (G1 : List pE) (lv1 : pL), CS f n (Int16.ofInt 900).toInt32 nx1 tk1 pl1 num1 nm1 (Int32.ofInt 0) (Int32.ofInt 0) (fun j => if j = 12 then Int32.ofInt (-1) else (fun j => if j = 11 then (Int8.ofInt 20).toInt32 else (fun j => if j = 10 then Int32.ofInt 4 else (fun j => if j = 6 + 3 then Int32.ofInt 1 else (fun j => if j = 6 + 2 then Int32.ofInt 5 else (fun j => if j = 6 + 1 then Int32.ofInt 1 else (fun j => if j = 6 + 0 then Int32.ofInt 5 else (fun j => if j = 1 then (Int8.ofInt 10).toInt32 else (fun j => if j = 0 then (Int8.ofInt 10).toInt32 else cc j) j) j) j) j) j) j) j) j) (Int32.ofInt 0) (Int32.ofInt 0) (Int32.ofInt 0) (Int32.ofInt 0) (Int32.ofInt 0) ot tn ln mn G1 → pm_get lv1 0 = some (.ref 3) → pm_get lv1 1 = some (.ref 1) → pm_get lv1 2 = some (.ref 32) → pm_get lv1 3 = some (.int (Int32.ofInt 0)) → x_Gd xs L J (d + 3) m_17 K 18 lv1 [] G1) : x_Gd xs L J (d + 3) m_17 K 0 (lv_args 0 [.ref 3, .ref 1, .ref 32]) [] G := by
  have g0 : pm_get (lv_args 0 [.ref 3, .ref 1, .ref 32]) 0 = some (.ref 3) := rfl
  have g1 : pm_get (lv_args 0 [.ref 3, .ref 1, .ref 32]) 1 = some (.ref 1) := rfl
  have g2 : pm_get (lv_args 0 [.ref 3, .ref 1, .ref 32]) 2 = some (.ref 32) := rfl
  generalize (lv_args 0 [.ref 3, .ref 1, .ref 32]) = lv at g0 g1 g2 ⊢
  refine y_aln (e_17 (0, .aload_n 2, 1) (List.mem_of_getElem? (i := 0) rfl)) g2 ?_
  refine y_c1 (K' := _) (e_17 (1, .invokevirtual 25, 3) (List.mem_of_getElem? (i := 1) rfl)) ⟨rfl, rfl, rfl⟩ t_3_25 ⟨by decide, by decide, by decide, by decide⟩ m_18_ok rfl (by decide) (y_recv h.1.I th0_p.2.2.2.2.2.1 ⟨rfl, rfl⟩) (Nat.le_of_ble_eq_true rfl) (Nat.le_of_ble_eq_true rfl) (k_mkE18 h) (fun r1 Gc hc1 => ?_)
  obtain ⟨rfl, w1⟩ := hc1
  simp only [Option.toList_some, Option.toList_none, List.cons_append, List.nil_append]
  refine y_aln (e_17 (4, .aload_n 0, 1) (List.mem_of_getElem? (i := 2) rfl)) g0 ?_
  refine y_st (e_17 (5, .iconst 0, 1) (List.mem_of_getElem? (i := 3) rfl)) ⟨rfl, rfl, rfl, rfl⟩ ?_
  refine y_putf (f := (0, 0, 5)) w1.1.I th0_p.2.2.1 (e_17 (6, .putfield 21, 3) (List.mem_of_getElem? (i := 4) rfl)) u_3_21 ⟨rfl, rfl, by decide, rfl, rfl⟩ ⟨_, rfl, by decide, by decide⟩ (fun G2 u2 => ?_)
  have w2 : CS f n lim nx0 tk0 pl0 num0 nm0 ft fp (fun j => if j = 12 then Int32.ofInt (-1) else (fun j => if j = 11 then (Int8.ofInt 20).toInt32 else (fun j => if j = 10 then Int32.ofInt 4 else (fun j => if j = 6 + 3 then Int32.ofInt 1 else (fun j => if j = 6 + 2 then Int32.ofInt 5 else (fun j => if j = 6 + 1 then Int32.ofInt 1 else (fun j => if j = 6 + 0 then Int32.ofInt 5 else (fun j => if j = 1 then (Int8.ofInt 10).toInt32 else (fun j => if j = 0 then (Int8.ofInt 10).toInt32 else cc j) j) j) j) j) j) j) j) j) (Int32.ofInt 0) (Int32.ofInt 0) (Int32.ofInt 0) (Int32.ofInt 0) (Int32.ofInt 0) ot tn ln mn G2 := ⟨w1.1.other u2 (by decide) (by decide) (w1.1.I.upd u2 th0_p.2.2.1 (y_okI rfl (by decide) (by decide))), w1.2.ext (fun c i _ => by unfold t_m0; rw [u2.2.1])⟩
  refine y_aln (e_17 (9, .aload_n 1, 1) (List.mem_of_getElem? (i := 5) rfl)) g1 ?_
  refine y_st (e_17 (10, .sipush 900, 3) (List.mem_of_getElem? (i := 6) rfl)) ⟨rfl, rfl, rfl, rfl⟩ ?_
  refine y_c2 (K' := _) (e_17 (13, .invokevirtual 30, 3) (List.mem_of_getElem? (i := 7) rfl)) ⟨rfl, rfl, rfl⟩ t_3_30 ⟨by decide, by decide, by decide, by decide⟩ m_20_ok rfl (by decide) (y_recv w2.1.I w2.1.t ⟨rfl, rfl⟩) (Nat.le_of_ble_eq_true rfl) (Nat.le_of_ble_eq_true rfl) (k_begin w2.1 hN) (fun r1 Gd hc1 => ?_)
  obtain ⟨rfl, w3⟩ := hc1
  simp only [Option.toList_some, Option.toList_none, List.cons_append, List.nil_append]
  have w4 : CS f n (Int16.ofInt 900).toInt32 nx1 tk1 pl1 num1 nm1 (Int32.ofInt 0) (Int32.ofInt 0) (fun j => if j = 12 then Int32.ofInt (-1) else (fun j => if j = 11 then (Int8.ofInt 20).toInt32 else (fun j => if j = 10 then Int32.ofInt 4 else (fun j => if j = 6 + 3 then Int32.ofInt 1 else (fun j => if j = 6 + 2 then Int32.ofInt 5 else (fun j => if j = 6 + 1 then Int32.ofInt 1 else (fun j => if j = 6 + 0 then Int32.ofInt 5 else (fun j => if j = 1 then (Int8.ofInt 10).toInt32 else (fun j => if j = 0 then (Int8.ofInt 10).toInt32 else cc j) j) j) j) j) j) j) j) j) (Int32.ofInt 0) (Int32.ofInt 0) (Int32.ofInt 0) (Int32.ofInt 0) (Int32.ofInt 0) ot tn ln mn Gd := ⟨w3.self, w2.2.ext (fun c i t => w3.ot c i (fun z => by rw [z] at t; unfold t_trk at t; simp at t))⟩
  refine y_st (e_17 (16, .iconst 0, 1) (List.mem_of_getElem? (i := 8) rfl)) ⟨rfl, rfl, rfl, rfl⟩ ?_
  refine y_isn (e_17 (17, .istore_n 3, 1) (List.mem_of_getElem? (i := 9) rfl)) (by decide) ?_
  exact hk Gd _ w4 (y_gpr g0 (by decide)) (y_gpr g1 (by decide)) (y_gpr g2 (by decide)) x_get_self
end CA3
