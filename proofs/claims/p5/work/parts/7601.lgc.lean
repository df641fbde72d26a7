def m_131 : pM := (⟨"BreathingHill$Log", "readLine", "(LBreathingHill$Tape;LBreathingHill$Hill;)Z"⟩, 1068, 6, some (FieldType.boolean), 10, 2, false, 3, 102, 1067, 25)
set_option maxRecDepth 100000 in
theorem m_131_ok : pm_tab[131]? = some m_131 := rfl
theorem e_131 : ∀ q ∈ d_131, decode m_131.code q.1 = .ok (q.2.1, q.2.2) := y_dec d_131_ok m_131_ok
theorem u_10_40 : pm_ftab.find? (fun r => r.1 == 10 && r.2.1 == 40) = some (10, 40, 7, 4, 1, 132) := by decide +kernel
theorem w_10_58 : pm_stab.find? (fun r => r.1 == 10 && r.2.1 == 58) = some (10, 58, 3, 1069) := by decide +kernel
theorem w_10_61 : pm_stab.find? (fun r => r.1 == 10 && r.2.1 == 61) = some (10, 61, 23, 1070) := by decide +kernel
theorem w_10_64 : pm_stab.find? (fun r => r.1 == 10 && r.2.1 == 64) = some (10, 64, 24, 1072) := by decide +kernel
theorem t_10_67 : pm_ctab.find? (fun r => r.1 == 10 && r.2.1 == 67) = some (10, 67, 1, 27, 1074) := by decide +kernel
theorem u_10_71 : pm_ftab.find? (fun r => r.1 == 10 && r.2.1 == 71) = some (10, 71, 7, 7, 1, 138) := by decide +kernel
theorem t_10_75 : pm_ctab.find? (fun r => r.1 == 10 && r.2.1 == 75) = some (10, 75, 1, 32, 1075) := by decide +kernel
theorem t_10_81 : pm_ctab.find? (fun r => r.1 == 10 && r.2.1 == 81) = some (10, 81, 1, 33, 1076) := by decide +kernel
theorem t_10_84 : pm_ctab.find? (fun r => r.1 == 10 && r.2.1 == 84) = some (10, 84, 1, 21, 1077) := by decide +kernel
theorem t_10_87 : pm_ctab.find? (fun r => r.1 == 10 && r.2.1 == 87) = some (10, 87, 7, 0, 1078) := by decide +kernel
theorem w_10_93 : pm_stab.find? (fun r => r.1 == 10 && r.2.1 == 93) = some (10, 93, 21, 1079) := by decide +kernel
theorem t_10_54 : pm_ctab.find? (fun r => r.1 == 10 && r.2.1 == 54) = some (10, 54, 1, 46, 1081) := by decide +kernel
theorem w_10_96 : pm_stab.find? (fun r => r.1 == 10 && r.2.1 == 96) = some (10, 96, 20, 1082) := by decide +kernel
theorem w_10_99 : pm_stab.find? (fun r => r.1 == 10 && r.2.1 == 99) = some (10, 99, 22, 1084) := by decide +kernel
theorem t_10_102 : pm_ctab.find? (fun r => r.1 == 10 && r.2.1 == 102) = some (10, 102, 1, 28, 1086) := by decide +kernel
-- ===== the class reads a line of the LOG =====
def CL (f : Nat → Int32) (n lim nx : Int32) (tk : Nat) (pl num : Int32) (nm : Int64) (ft fp : Int32) (lc : Nat) (nt nn : Int32) (tn mn : Nat → Int64) (k : Nat) (G : List pE) : Prop := TC th0 1 2 f G n lim nx tk pl num nm ft fp G ∧ th0[lc]? = some 3 ∧ x_sl G lc 3 = some (.int (Int32.ofNat k)) ∧ HPn 6 G ∧ x_sl G 6 4 = some (.int nt) ∧ x_sl G 6 6 = some (.int nn) ∧ (∀ i : Nat, (i : Int) < nt.toInt → i < 8 → x_sl G (6 + 10 + i) 0 = some (.long (tn i))) ∧ (∀ i : Nat, (i : Int) < nn.toInt → i < 4 → x_sl G (6 + 22 + i) 0 = some (.long (mn i)))
theorem th0_lg : ∀ c t : Nat, th0[c]? = some t → (t = 3 ∨ t = 21 ∨ t = 22 ∨ t = 23) → 71 < c := by
  have q : ∀ c, c < 366 → (th0[c]? = some 3 ∨ th0[c]? = some 21 ∨ th0[c]? = some 22 ∨ th0[c]? = some 23) → 71 < c := by decide +kernel
  intro c t h ht
  have := (List.getElem?_eq_some_iff.mp h).1
  rw [th2_len.2] at this
  refine q c this ?_
  rcases ht with rfl | rfl | rfl | rfl
  · exact Or.inl h
  · exact Or.inr (Or.inl h)
  · exact Or.inr (Or.inr (Or.inl h))
  · exact Or.inr (Or.inr (Or.inr h))
section LGC
variable {xs : Nat → Int32} {L J d lc k : Nat} {K : Option Value → List pE → Prop} {f : Nat → Int32} {G G1 G' : List pE} {n lim nx pl num ft fp nt nn t m : Int32} {tk tk0 : Nat} {nm : Int64} {lv : pL} {tn mn : Nat → Int64} {nx2 pl2 num2 : Int32} {tk2 : Nat} {nm2 : Int64} {nx3 pl3 num3 : Int32} {tk3 : Nat} {nm3 : Int64} {nx4 pl4 num4 : Int32} {tk4 : Nat} {nm4 : Int64}
theorem CL.keep {ft' fp' : Int32} (h : CL f n lim nx tk pl num nm ft fp lc nt nn tn mn k G) (t : TC th0 1 2 f G1 n lim nx2 tk2 pl2 num2 nm2 ft' fp' G1) (F : ∀ c i, c = lc ∨ (6 ≤ c ∧ c ≤ 31) → x_sl G1 c i = x_sl G c i) : CL f n lim nx2 tk2 pl2 num2 nm2 ft' fp' lc nt nn tn mn k G1 := by
  obtain ⟨-, a1, a2, ⟨b1, b2, b3, b4, b5, b6⟩, a4, a5, a6, a7⟩ := h
  exact ⟨t, a1, (F _ _ (Or.inl rfl)).trans a2, ⟨(F _ _ (Or.inr (by omega))).trans b1, (F _ _ (Or.inr (by omega))).trans b2, (F _ _ (Or.inr (by omega))).trans b3, fun i hi => (F _ _ (Or.inr (by omega))).trans (b4 i hi), fun i hi => (F _ _ (Or.inr (by omega))).trans (b5 i hi), fun i hi => (F _ _ (Or.inr (by omega))).trans (b6 i hi)⟩, (F _ _ (Or.inr (by omega))).trans a4, (F _ _ (Or.inr (by omega))).trans a5, fun i hi h8 => (F _ _ (Or.inr (by omega))).trans (a6 i hi h8), fun i hi h4 => (F _ _ (Or.inr (by omega))).trans (a7 i hi h4)⟩
theorem CL.l71 (h : CL f n lim nx tk pl num nm ft fp lc nt nn tn mn k G) : 71 < lc := th0_lg lc 3 h.2.1 (Or.inl rfl)
theorem CL.nxt {ft' fp' : Int32} (h : CL f n lim nx tk pl num nm ft fp lc nt nn tn mn k G) (t : TC th0 1 2 f G n lim nx2 tk2 pl2 num2 nm2 ft' fp' G1) : CL f n lim nx2 tk2 pl2 num2 nm2 ft' fp' lc nt nn tn mn k G1 := h.keep t.self (fun c i hc => t.ot c i (by have := h.l71; omega))
theorem CL.row {c i t : Nat} {v : Value} (h : CL f n lim nx tk pl num nm ft fp lc nt nn tn mn k G) (u : x_upd G G1 c i v) (tc : th0[c]? = some t) (ht : t = 21 ∨ t = 22 ∨ t = 23) (hI : xI x_tb th0 G1) : CL f n lim nx tk pl num nm ft fp lc nt nn tn mn k G1 := by
  have c71 := th0_lg c t tc (Or.inr ht)
  have hl := h.2.1
  have ne : lc ≠ c := fun z => by
    rw [z, tc] at hl
    cases hl
    rcases ht with z | z | z <;> cases z
  exact h.keep (h.1.other u (by omega) (by omega) hI) (fun c' i' hc => by rw [u.2.1, if_neg (fun z => by omega)])
theorem CL.up3 {k' : Nat} (h : CL f n lim nx tk pl num nm ft fp lc nt nn tn mn k G) (u : x_upd G G1 lc 3 (.int (Int32.ofNat k'))) (hk : k' ≤ 40) : CL f n lim nx tk pl num nm ft fp lc nt nn tn mn k' G1 := by
  have l7 := h.l71
  have e := s_toI (a := k') (by omega)
  obtain ⟨t0, a1, a2, ⟨b1, b2, b3, b4, b5, b6⟩, a4, a5, a6, a7⟩ := h
  have F : ∀ c i, 6 ≤ c ∧ c ≤ 31 → x_sl G1 c i = x_sl G c i := fun c i hc => by rw [u.2.1, if_neg (fun z => by omega)]
  exact ⟨t0.other u (by omega) (by omega) (t0.I.upd u a1 (y_okI (lo := 0) (hi := 40) rfl (by omega) (by omega))), a1, by rw [u.2.1, if_pos ⟨rfl, rfl⟩], ⟨(F _ _ (by omega)).trans b1, (F _ _ (by omega)).trans b2, (F _ _ (by omega)).trans b3, fun i hi => (F _ _ (by omega)).trans (b4 i hi), fun i hi => (F _ _ (by omega)).trans (b5 i hi), fun i hi => (F _ _ (by omega)).trans (b6 i hi)⟩, (F _ _ (by omega)).trans a4, (F _ _ (by omega)).trans a5, fun i hi h8 => (F _ _ (by omega)).trans (a6 i hi h8), fun i hi h4 => (F _ _ (by omega)).trans (a7 i hi h4)⟩
set_option maxHeartbeats 2000000 in
set_option maxRecDepth 100000 in
theorem c_lg_a (h : CL f n lim nx tk pl num nm ft fp lc nt nn tn mn k G) (hno : tk ≠ 3 ∧ tk ≠ 23 ∧ tk ≠ 24) : x_Gd xs L J (d + 3) m_131 (fun r G' => r = some (.int 0) ∧ x_sl G' 1 8 = some (.int (Int32.ofInt 1))) 0 (lv_args 0 [.ref lc, .ref 1, .ref 6]) [] G := by
  have g0 : pm_get (lv_args 0 [.ref lc, .ref 1, .ref 6]) 0 = some (.ref lc) := rfl
  have g1 : pm_get (lv_args 0 [.ref lc, .ref 1, .ref 6]) 1 = some (.ref 1) := rfl
  have g2 : pm_get (lv_args 0 [.ref lc, .ref 1, .ref 6]) 2 = some (.ref 6) := rfl
  generalize lv_args 0 [.ref lc, .ref 1, .ref 6] = lv at g0 g1 g2 ⊢
  refine y_aln (e_131 (0, .aload_n 1, 1) (List.mem_of_getElem? (i := 0) rfl)) g1 ?_
  refine y_getf h.1.I h.1.t (e_131 (1, .getfield 40, 3) (List.mem_of_getElem? (i := 1) rfl)) u_10_40 ⟨rfl, rfl⟩ h.1.s4 ?_
  refine y_asn (e_131 (4, .astore_n 3, 1) (List.mem_of_getElem? (i := 2) rfl)) (by decide) ?_
  have g0 : pm_get (pm_put1 lv 3 (.ref (pm_TB + tk))) 0 = some (.ref lc) := y_gpr g0 (by decide)
  have g1 : pm_get (pm_put1 lv 3 (.ref (pm_TB + tk))) 1 = some (.ref 1) := y_gpr g1 (by decide)
  have g2 : pm_get (pm_put1 lv 3 (.ref (pm_TB + tk))) 2 = some (.ref 6) := y_gpr g2 (by decide)
  have g3 : pm_get (pm_put1 lv 3 (.ref (pm_TB + tk))) 3 = some (.ref (pm_TB + tk)) := x_get_self
  change x_Gd _ _ _ _ _ _ _ (pm_put1 lv 3 (.ref (pm_TB + tk))) _ _
  generalize pm_put1 lv 3 (.ref (pm_TB + tk)) = lv at g0 g1 g2 g3 ⊢
  have h35 := h.1.tk35
  refine y_aln (e_131 (5, .aload_n 3, 1) (List.mem_of_getElem? (i := 3) rfl)) g3 ?_
  refine y_gst (a := pm_TB + 3) (e_131 (6, .getstatic 58, 3) (List.mem_of_getElem? (i := 4) rfl)) w_10_58 rfl ?_
  refine y_acm (e_131 (9, .if_acmp .eq 23, 3) (List.mem_of_getElem? (i := 5) rfl)) rfl h35 (by decide) (fun z => absurd z hno.1) (fun _ => ?_)
  refine y_aln (e_131 (12, .aload_n 3, 1) (List.mem_of_getElem? (i := 6) rfl)) g3 ?_
  refine y_gst (a := pm_TB + 23) (e_131 (13, .getstatic 61, 3) (List.mem_of_getElem? (i := 7) rfl)) w_10_61 rfl ?_
  refine y_acm (e_131 (16, .if_acmp .eq 16, 3) (List.mem_of_getElem? (i := 8) rfl)) rfl h35 (by decide) (fun z => absurd z hno.2.1) (fun _ => ?_)
  refine y_aln (e_131 (19, .aload_n 3, 1) (List.mem_of_getElem? (i := 9) rfl)) g3 ?_
  refine y_gst (a := pm_TB + 24) (e_131 (20, .getstatic 64, 3) (List.mem_of_getElem? (i := 10) rfl)) w_10_64 rfl ?_
  refine y_acm (e_131 (23, .if_acmp .eq 9, 3) (List.mem_of_getElem? (i := 11) rfl)) rfl h35 (by decide) (fun z => absurd z hno.2.2) (fun _ => ?_)
  refine y_aln (e_131 (26, .aload_n 1, 1) (List.mem_of_getElem? (i := 12) rfl)) g1 ?_
  refine y_st (e_131 (27, .iconst 1, 1) (List.mem_of_getElem? (i := 13) rfl)) ⟨rfl, rfl, rfl, rfl⟩ ?_
  refine y_c2 (K' := _) (e_131 (28, .invokevirtual 67, 3) (List.mem_of_getElem? (i := 14) rfl)) ⟨rfl, rfl, rfl⟩ t_10_67 ⟨by decide, by decide, by decide, by decide⟩ m_27_ok rfl (by decide) (y_recv h.1.I h.1.t ⟨rfl, rfl⟩) (Nat.le_of_ble_eq_true rfl) (Nat.le_of_ble_eq_true rfl) (k_refuse h.1 _) (fun r1 Gc hc1 => ?_)
  obtain ⟨rfl, hc2⟩ := hc1
  simp only [Option.toList_some, Option.toList_none, List.cons_append, List.nil_append]
  exact y_ret (e_131 (31, .ireturn, 1) (List.mem_of_getElem? (i := 15) rfl)) ⟨rfl, y_rb (Or.inl rfl)⟩ ⟨rfl, hc2.s8⟩
set_option maxHeartbeats 2000000 in
set_option maxRecDepth 100000 in
theorem c_lg_s (h : CL f n lim nx tk pl num nm ft fp lc nt nn tn mn k G) (hst : tk = 3 ∨ tk = 23 ∨ tk = 24) (hk32 : ∀ lv : pL, pm_get lv 0 = some (.ref lc) → pm_get lv 1 = some (.ref 1) → pm_get lv 2 = some (.ref 6) → pm_get lv 3 = some (.ref (pm_TB + tk)) → x_Gd xs L J (d + 3) m_131 K 32 lv [] G) : x_Gd xs L J (d + 3) m_131 K 0 (lv_args 0 [.ref lc, .ref 1, .ref 6]) [] G := by
  have g0 : pm_get (lv_args 0 [.ref lc, .ref 1, .ref 6]) 0 = some (.ref lc) := rfl
  have g1 : pm_get (lv_args 0 [.ref lc, .ref 1, .ref 6]) 1 = some (.ref 1) := rfl
  have g2 : pm_get (lv_args 0 [.ref lc, .ref 1, .ref 6]) 2 = some (.ref 6) := rfl
  generalize lv_args 0 [.ref lc, .ref 1, .ref 6] = lv at g0 g1 g2 ⊢
  refine y_aln (e_131 (0, .aload_n 1, 1) (List.mem_of_getElem? (i := 0) rfl)) g1 ?_
  refine y_getf h.1.I h.1.t (e_131 (1, .getfield 40, 3) (List.mem_of_getElem? (i := 1) rfl)) u_10_40 ⟨rfl, rfl⟩ h.1.s4 ?_
  refine y_asn (e_131 (4, .astore_n 3, 1) (List.mem_of_getElem? (i := 2) rfl)) (by decide) ?_
  have g0 : pm_get (pm_put1 lv 3 (.ref (pm_TB + tk))) 0 = some (.ref lc) := y_gpr g0 (by decide)
  have g1 : pm_get (pm_put1 lv 3 (.ref (pm_TB + tk))) 1 = some (.ref 1) := y_gpr g1 (by decide)
  have g2 : pm_get (pm_put1 lv 3 (.ref (pm_TB + tk))) 2 = some (.ref 6) := y_gpr g2 (by decide)
  have g3 : pm_get (pm_put1 lv 3 (.ref (pm_TB + tk))) 3 = some (.ref (pm_TB + tk)) := x_get_self
  change x_Gd _ _ _ _ _ _ _ (pm_put1 lv 3 (.ref (pm_TB + tk))) _ _
  generalize pm_put1 lv 3 (.ref (pm_TB + tk)) = lv at g0 g1 g2 g3 ⊢
  have h35 := h.1.tk35
  refine y_aln (e_131 (5, .aload_n 3, 1) (List.mem_of_getElem? (i := 3) rfl)) g3 ?_
  refine y_gst (a := pm_TB + 3) (e_131 (6, .getstatic 58, 3) (List.mem_of_getElem? (i := 4) rfl)) w_10_58 rfl ?_
  have at32 := hk32 lv g0 g1 g2 g3
  refine y_acm (e_131 (9, .if_acmp .eq 23, 3) (List.mem_of_getElem? (i := 5) rfl)) rfl h35 (by decide) (fun _ => at32) (fun z1 => ?_)
  refine y_aln (e_131 (12, .aload_n 3, 1) (List.mem_of_getElem? (i := 6) rfl)) g3 ?_
  refine y_gst (a := pm_TB + 23) (e_131 (13, .getstatic 61, 3) (List.mem_of_getElem? (i := 7) rfl)) w_10_61 rfl ?_
  refine y_acm (e_131 (16, .if_acmp .eq 16, 3) (List.mem_of_getElem? (i := 8) rfl)) rfl h35 (by decide) (fun _ => at32) (fun z2 => ?_)
  refine y_aln (e_131 (19, .aload_n 3, 1) (List.mem_of_getElem? (i := 9) rfl)) g3 ?_
  refine y_gst (a := pm_TB + 24) (e_131 (20, .getstatic 64, 3) (List.mem_of_getElem? (i := 10) rfl)) w_10_64 rfl ?_
  refine y_acm (e_131 (23, .if_acmp .eq 9, 3) (List.mem_of_getElem? (i := 11) rfl)) rfl h35 (by decide) (fun _ => at32) (fun z3 => ?_)
  omega
set_option maxHeartbeats 2000000 in
set_option maxRecDepth 100000 in
theorem c_lg_w (h : CL f n lim nx tk pl num nm ft fp lc nt nn tn mn k G) (hst : tk = 23 ∨ tk = 24) (hk99 : ∀ lv : pL, pm_get lv 0 = some (.ref lc) → pm_get lv 1 = some (.ref 1) → pm_get lv 3 = some (.ref (pm_TB + tk)) → pm_get lv 4 = some (.int (Int32.ofInt (-1))) → pm_get lv 5 = some (.int (Int32.ofInt (-1))) → x_Gd xs L J (d + 3) m_131 K 99 lv [] G) : x_Gd xs L J (d + 3) m_131 K 0 (lv_args 0 [.ref lc, .ref 1, .ref 6]) [] G := by
  have h35 := h.1.tk35
  refine c_lg_s h (Or.inr hst) (fun lv g0 g1 g2 g3 => ?_)
  refine y_aln (e_131 (32, .aload_n 3, 1) (List.mem_of_getElem? (i := 16) rfl)) g3 ?_
  refine y_gst (a := pm_TB + 3) (e_131 (33, .getstatic 58, 3) (List.mem_of_getElem? (i := 17) rfl)) w_10_58 rfl ?_
  refine y_acmN (e_131 (36, .if_acmp .ne 14, 3) (List.mem_of_getElem? (i := 18) rfl)) rfl h35 (by decide) (fun _ => ?_) (fun z => absurd z (by omega))
  refine y_st (e_131 (50, .iconst (-1), 1) (List.mem_of_getElem? (i := 24) rfl)) ⟨rfl, rfl, rfl, rfl⟩ ?_
  refine y_is (e_131 (51, .istore 4, 2) (List.mem_of_getElem? (i := 25) rfl)) (by decide) ?_
  have g0 : pm_get (pm_put1 lv 4 (.int (Int32.ofInt (-1)))) 0 = some (.ref lc) := y_gpr g0 (by decide)
  have g1 : pm_get (pm_put1 lv 4 (.int (Int32.ofInt (-1)))) 1 = some (.ref 1) := y_gpr g1 (by decide)
  have g2 : pm_get (pm_put1 lv 4 (.int (Int32.ofInt (-1)))) 2 = some (.ref 6) := y_gpr g2 (by decide)
  have g3 : pm_get (pm_put1 lv 4 (.int (Int32.ofInt (-1)))) 3 = some (.ref (pm_TB + tk)) := y_gpr g3 (by decide)
  have g4 : pm_get (pm_put1 lv 4 (.int (Int32.ofInt (-1)))) 4 = some (.int (Int32.ofInt (-1))) := x_get_self
  change x_Gd _ _ _ _ _ _ _ (pm_put1 lv 4 (.int (Int32.ofInt (-1)))) _ _
  generalize pm_put1 lv 4 (.int (Int32.ofInt (-1))) = lv at g0 g1 g2 g3 g4 ⊢
  refine y_aln (e_131 (53, .aload_n 3, 1) (List.mem_of_getElem? (i := 26) rfl)) g3 ?_
  refine y_gst (a := pm_TB + 3) (e_131 (54, .getstatic 58, 3) (List.mem_of_getElem? (i := 27) rfl)) w_10_58 rfl ?_
  refine y_acmN (e_131 (57, .if_acmp .ne 14, 3) (List.mem_of_getElem? (i := 28) rfl)) rfl h35 (by decide) (fun _ => ?_) (fun z => absurd z (by omega))
  refine y_st (e_131 (71, .iconst (-1), 1) (List.mem_of_getElem? (i := 34) rfl)) ⟨rfl, rfl, rfl, rfl⟩ ?_
  refine y_is (e_131 (72, .istore 5, 2) (List.mem_of_getElem? (i := 35) rfl)) (by decide) ?_
  have g0 : pm_get (pm_put1 lv 5 (.int (Int32.ofInt (-1)))) 0 = some (.ref lc) := y_gpr g0 (by decide)
  have g1 : pm_get (pm_put1 lv 5 (.int (Int32.ofInt (-1)))) 1 = some (.ref 1) := y_gpr g1 (by decide)
  have g2 : pm_get (pm_put1 lv 5 (.int (Int32.ofInt (-1)))) 2 = some (.ref 6) := y_gpr g2 (by decide)
  have g3 : pm_get (pm_put1 lv 5 (.int (Int32.ofInt (-1)))) 3 = some (.ref (pm_TB + tk)) := y_gpr g3 (by decide)
  have g4 : pm_get (pm_put1 lv 5 (.int (Int32.ofInt (-1)))) 4 = some (.int (Int32.ofInt (-1))) := y_gpi g4 (by decide)
  have g5 : pm_get (pm_put1 lv 5 (.int (Int32.ofInt (-1)))) 5 = some (.int (Int32.ofInt (-1))) := x_get_self
  change x_Gd _ _ _ _ _ _ _ (pm_put1 lv 5 (.int (Int32.ofInt (-1)))) _ _
  generalize pm_put1 lv 5 (.int (Int32.ofInt (-1))) = lv at g0 g1 g2 g3 g4 g5 ⊢
  refine y_aln (e_131 (74, .aload_n 3, 1) (List.mem_of_getElem? (i := 36) rfl)) g3 ?_
  refine y_gst (a := pm_TB + 3) (e_131 (75, .getstatic 58, 3) (List.mem_of_getElem? (i := 37) rfl)) w_10_58 rfl ?_
  refine y_acmN (e_131 (78, .if_acmp .ne 21, 3) (List.mem_of_getElem? (i := 38) rfl)) rfl h35 (by decide) (fun _ => ?_) (fun z => absurd z (by omega))
  exact hk99 lv g0 g1 g3 g4 g5
set_option maxHeartbeats 2000000 in
set_option maxRecDepth 100000 in
theorem c_lg_n (h : CL f n lim nx tk pl num nm ft fp lc nt nn tn mn k G) (hst : tk = 3) (c0 : 0 ≤ nt.toInt ∧ nt.toInt ≤ 8) (c1 : 0 ≤ nn.toInt ∧ nn.toInt ≤ 4) (hk3 : (¬ ∃ i : Nat, (i : Int) < nt.toInt ∧ tn i = nm) → (¬ ∃ i : Nat, (i : Int) < nn.toInt ∧ mn i = nm) → ∀ G' : List pE, x_sl G' 1 8 = some (.int (Int32.ofInt 3)) → K (some (.int 0)) G') (hk99 : ∀ (lv : pL) (t m : Int32), (t = Int32.ofInt (-1) ↔ ¬ ∃ i : Nat, (i : Int) < nt.toInt ∧ tn i = nm) → (m = Int32.ofInt (-1) ↔ ¬ ∃ i : Nat, (i : Int) < nn.toInt ∧ mn i = nm) → ¬ (t = Int32.ofInt (-1) ∧ m = Int32.ofInt (-1)) → pm_get lv 0 = some (.ref lc) → pm_get lv 1 = some (.ref 1) → pm_get lv 3 = some (.ref (pm_TB + tk)) → pm_get lv 4 = some (.int t) → pm_get lv 5 = some (.int m) → x_Gd xs L J (d + 3) m_131 K 99 lv [] G) : x_Gd xs L J (d + 3) m_131 K 0 (lv_args 0 [.ref lc, .ref 1, .ref 6]) [] G := by
  have h35 := h.1.tk35
  have hN := z_hsN 6 (by decide)
  have t6 := z_tp 6 (by decide)
  obtain ⟨-, -, -, hP, a4, a5, a6, a7⟩ := id h
  refine c_lg_s h (Or.inl hst) (fun lv g0 g1 g2 g3 => ?_)
  refine y_aln (e_131 (32, .aload_n 3, 1) (List.mem_of_getElem? (i := 16) rfl)) g3 ?_
  refine y_gst (a := pm_TB + 3) (e_131 (33, .getstatic 58, 3) (List.mem_of_getElem? (i := 17) rfl)) w_10_58 rfl ?_
  refine y_acmN (e_131 (36, .if_acmp .ne 14, 3) (List.mem_of_getElem? (i := 18) rfl)) rfl h35 (by decide) (fun z => absurd hst z) (fun _ => ?_)
  refine y_aln (e_131 (39, .aload_n 2, 1) (List.mem_of_getElem? (i := 19) rfl)) g2 ?_
  refine y_aln (e_131 (40, .aload_n 1, 1) (List.mem_of_getElem? (i := 20) rfl)) g1 ?_
  refine y_getf h.1.I h.1.t (e_131 (41, .getfield 71, 3) (List.mem_of_getElem? (i := 21) rfl)) u_10_71 ⟨rfl, rfl⟩ h.1.s7 ?_
  refine y_c2 (K' := _) (e_131 (44, .invokevirtual 75, 3) (List.mem_of_getElem? (i := 22) rfl)) ⟨rfl, rfl, rfl⟩ t_10_75 ⟨by decide, by decide, by decide, by decide⟩ m_32_ok rfl (by decide) (y_recv h.1.I t6 ⟨rfl, rfl⟩) (Nat.le_of_ble_eq_true rfl) (Nat.le_of_ble_eq_true rfl) (z_thingNamed h.1.I t6 hN hP a4 a6 nm c0.1 c0.2) (fun r1 Gc hc1 => ?_)
  obtain ⟨rfl, t, rfl, ht⟩ := hc1
  simp only [Option.toList_some, Option.toList_none, List.cons_append, List.nil_append]
  refine y_st (e_131 (47, .goto 4, 3) (List.mem_of_getElem? (i := 23) rfl)) ⟨rfl, rfl, rfl, rfl⟩ ?_
  refine y_is (e_131 (51, .istore 4, 2) (List.mem_of_getElem? (i := 25) rfl)) (by decide) ?_
  have g0 : pm_get (pm_put1 lv 4 (.int (t))) 0 = some (.ref lc) := y_gpr g0 (by decide)
  have g1 : pm_get (pm_put1 lv 4 (.int (t))) 1 = some (.ref 1) := y_gpr g1 (by decide)
  have g2 : pm_get (pm_put1 lv 4 (.int (t))) 2 = some (.ref 6) := y_gpr g2 (by decide)
  have g3 : pm_get (pm_put1 lv 4 (.int (t))) 3 = some (.ref (pm_TB + tk)) := y_gpr g3 (by decide)
  have g4 : pm_get (pm_put1 lv 4 (.int (t))) 4 = some (.int (t)) := x_get_self
  change x_Gd _ _ _ _ _ _ _ (pm_put1 lv 4 (.int (t))) _ _
  generalize pm_put1 lv 4 (.int (t)) = lv at g0 g1 g2 g3 g4 ⊢
  refine y_aln (e_131 (53, .aload_n 3, 1) (List.mem_of_getElem? (i := 26) rfl)) g3 ?_
  refine y_gst (a := pm_TB + 3) (e_131 (54, .getstatic 58, 3) (List.mem_of_getElem? (i := 27) rfl)) w_10_58 rfl ?_
  refine y_acmN (e_131 (57, .if_acmp .ne 14, 3) (List.mem_of_getElem? (i := 28) rfl)) rfl h35 (by decide) (fun z => absurd hst z) (fun _ => ?_)
  refine y_aln (e_131 (60, .aload_n 2, 1) (List.mem_of_getElem? (i := 29) rfl)) g2 ?_
  refine y_aln (e_131 (61, .aload_n 1, 1) (List.mem_of_getElem? (i := 30) rfl)) g1 ?_
  refine y_getf h.1.I h.1.t (e_131 (62, .getfield 71, 3) (List.mem_of_getElem? (i := 31) rfl)) u_10_71 ⟨rfl, rfl⟩ h.1.s7 ?_
  refine y_c2 (K' := _) (e_131 (65, .invokevirtual 81, 3) (List.mem_of_getElem? (i := 32) rfl)) ⟨rfl, rfl, rfl⟩ t_10_81 ⟨by decide, by decide, by decide, by decide⟩ m_33_ok rfl (by decide) (y_recv h.1.I t6 ⟨rfl, rfl⟩) (Nat.le_of_ble_eq_true rfl) (Nat.le_of_ble_eq_true rfl) (z_manNamed h.1.I t6 hN hP a5 a7 nm c1.1 c1.2) (fun r1 Gc hc1 => ?_)
  obtain ⟨rfl, m, rfl, hm⟩ := hc1
  simp only [Option.toList_some, Option.toList_none, List.cons_append, List.nil_append]
  refine y_st (e_131 (68, .goto 4, 3) (List.mem_of_getElem? (i := 33) rfl)) ⟨rfl, rfl, rfl, rfl⟩ ?_
  refine y_is (e_131 (72, .istore 5, 2) (List.mem_of_getElem? (i := 35) rfl)) (by decide) ?_
  have g0 : pm_get (pm_put1 lv 5 (.int (m))) 0 = some (.ref lc) := y_gpr g0 (by decide)
  have g1 : pm_get (pm_put1 lv 5 (.int (m))) 1 = some (.ref 1) := y_gpr g1 (by decide)
  have g2 : pm_get (pm_put1 lv 5 (.int (m))) 2 = some (.ref 6) := y_gpr g2 (by decide)
  have g3 : pm_get (pm_put1 lv 5 (.int (m))) 3 = some (.ref (pm_TB + tk)) := y_gpr g3 (by decide)
  have g4 : pm_get (pm_put1 lv 5 (.int (m))) 4 = some (.int (t)) := y_gpi g4 (by decide)
  have g5 : pm_get (pm_put1 lv 5 (.int (m))) 5 = some (.int (m)) := x_get_self
  change x_Gd _ _ _ _ _ _ _ (pm_put1 lv 5 (.int (m))) _ _
  generalize pm_put1 lv 5 (.int (m)) = lv at g0 g1 g2 g3 g4 g5 ⊢
  refine y_aln (e_131 (74, .aload_n 3, 1) (List.mem_of_getElem? (i := 36) rfl)) g3 ?_
  refine y_gst (a := pm_TB + 3) (e_131 (75, .getstatic 58, 3) (List.mem_of_getElem? (i := 37) rfl)) w_10_58 rfl ?_
  refine y_acmN (e_131 (78, .if_acmp .ne 21, 3) (List.mem_of_getElem? (i := 38) rfl)) rfl h35 (by decide) (fun z => absurd hst z) (fun _ => ?_)
  refine y_il (e_131 (81, .iload 4, 2) (List.mem_of_getElem? (i := 39) rfl)) g4 ?_
  refine y_st (e_131 (83, .iconst (-1), 1) (List.mem_of_getElem? (i := 40) rfl)) ⟨rfl, rfl, rfl, rfl⟩ ?_
  refine y_icm (e_131 (84, .if_icmp .ne 15, 3) (List.mem_of_getElem? (i := 41) rfl)) rfl (fun hb => hk99 lv t m ht hm (fun z => y_hI.2.2.1 hb z.1) g0 g1 g3 g4 g5) (fun hb => ?_)
  have et := y_hI.2.2.2.1 hb
  refine y_il (e_131 (87, .iload 5, 2) (List.mem_of_getElem? (i := 42) rfl)) g5 ?_
  refine y_st (e_131 (89, .iconst (-1), 1) (List.mem_of_getElem? (i := 43) rfl)) ⟨rfl, rfl, rfl, rfl⟩ ?_
  refine y_icm (e_131 (90, .if_icmp .ne 9, 3) (List.mem_of_getElem? (i := 44) rfl)) rfl (fun hb => hk99 lv t m ht hm (fun z => y_hI.2.2.1 hb z.2) g0 g1 g3 g4 g5) (fun hb => ?_)
  have em := y_hI.2.2.2.1 hb
  refine y_aln (e_131 (93, .aload_n 1, 1) (List.mem_of_getElem? (i := 45) rfl)) g1 ?_
  refine y_st (e_131 (94, .iconst 3, 1) (List.mem_of_getElem? (i := 46) rfl)) ⟨rfl, rfl, rfl, rfl⟩ ?_
  refine y_c2 (K' := _) (e_131 (95, .invokevirtual 67, 3) (List.mem_of_getElem? (i := 47) rfl)) ⟨rfl, rfl, rfl⟩ t_10_67 ⟨by decide, by decide, by decide, by decide⟩ m_27_ok rfl (by decide) (y_recv h.1.I h.1.t ⟨rfl, rfl⟩) (Nat.le_of_ble_eq_true rfl) (Nat.le_of_ble_eq_true rfl) (k_refuse h.1 _) (fun r1 Gc hc1 => ?_)
  obtain ⟨rfl, hc2⟩ := hc1
  simp only [Option.toList_some, Option.toList_none, List.cons_append, List.nil_append]
  exact y_ret (e_131 (98, .ireturn, 1) (List.mem_of_getElem? (i := 48) rfl)) ⟨rfl, y_rb (Or.inl rfl)⟩ (hk3 (ht.mp et) (hm.mp em) _ hc2.s8)
set_option maxHeartbeats 2000000 in
set_option maxRecDepth 100000 in
theorem c_lg_many (h : CL f n lim nx tk pl num nm ft fp lc nt nn tn mn 40 G) (g0 : pm_get lv 0 = some (.ref lc)) (g1 : pm_get lv 1 = some (.ref 1)) : x_Gd xs L J (d + 3) m_131 (fun r G' => r = some (.int 0) ∧ x_sl G' 1 8 = some (.int (Int32.ofInt 4))) 99 lv [] G := by
  refine y_aln (e_131 (99, .aload_n 0, 1) (List.mem_of_getElem? (i := 49) rfl)) g0 ?_
  refine y_getf h.1.I h.2.1 (e_131 (100, .getfield 24, 3) (List.mem_of_getElem? (i := 50) rfl)) u_10_24 ⟨rfl, rfl⟩ h.2.2.1 ?_
  refine y_st (e_131 (103, .bipush 40, 2) (List.mem_of_getElem? (i := 51) rfl)) ⟨rfl, rfl, rfl, rfl⟩ ?_
  refine y_icm (e_131 (105, .if_icmp .lt 9, 3) (List.mem_of_getElem? (i := 52) rfl)) rfl (fun hb => absurd hb (by decide)) (fun _ => ?_)
  refine y_aln (e_131 (108, .aload_n 1, 1) (List.mem_of_getElem? (i := 53) rfl)) g1 ?_
  refine y_st (e_131 (109, .iconst 4, 1) (List.mem_of_getElem? (i := 54) rfl)) ⟨rfl, rfl, rfl, rfl⟩ ?_
  refine y_c2 (K' := _) (e_131 (110, .invokevirtual 67, 3) (List.mem_of_getElem? (i := 55) rfl)) ⟨rfl, rfl, rfl⟩ t_10_67 ⟨by decide, by decide, by decide, by decide⟩ m_27_ok rfl (by decide) (y_recv h.1.I h.1.t ⟨rfl, rfl⟩) (Nat.le_of_ble_eq_true rfl) (Nat.le_of_ble_eq_true rfl) (k_refuse h.1 _) (fun r1 Gc hc1 => ?_)
  obtain ⟨rfl, hc2⟩ := hc1
  simp only [Option.toList_some, Option.toList_none, List.cons_append, List.nil_append]
  exact y_ret (e_131 (113, .ireturn, 1) (List.mem_of_getElem? (i := 56) rfl)) ⟨rfl, y_rb (Or.inl rfl)⟩ ⟨rfl, hc2.s8⟩
set_option maxHeartbeats 2000000 in
set_option maxRecDepth 100000 in
theorem c_lg_99 (h : CL f n lim nx tk pl num nm ft fp lc nt nn tn mn k G) (hk : k < 40) (h0 : tk < 35) (hN : NXc f n lim nx num nm nx2 tk2 pl2 num2 nm2) (g0 : pm_get lv 0 = some (.ref lc)) (g1 : pm_get lv 1 = some (.ref 1)) (g3 : pm_get lv 3 = some (.ref (pm_TB + tk))) (g4 : pm_get lv 4 = some (.int t)) (g5 : pm_get lv 5 = some (.int m)) (hk168 : ∀ G' : List pE, CL f n lim nx2 tk2 pl2 num2 nm2 ft fp lc nt nn tn mn (k + 1) G' → x_Gd xs L J (d + 3) m_131 K 168 lv [] G') : x_Gd xs L J (d + 3) m_131 K 99 lv [] G := by
  have e := s_toI (a := k) (by omega)
  have e40 : ((Int8.ofInt 40).toInt32).toInt = 40 := rfl
  refine y_aln (e_131 (99, .aload_n 0, 1) (List.mem_of_getElem? (i := 49) rfl)) g0 ?_
  refine y_getf h.1.I h.2.1 (e_131 (100, .getfield 24, 3) (List.mem_of_getElem? (i := 50) rfl)) u_10_24 ⟨rfl, rfl⟩ h.2.2.1 ?_
  refine y_st (e_131 (103, .bipush 40, 2) (List.mem_of_getElem? (i := 51) rfl)) ⟨rfl, rfl, rfl, rfl⟩ ?_
  refine y_icm (e_131 (105, .if_icmp .lt 9, 3) (List.mem_of_getElem? (i := 52) rfl)) rfl (fun _ => ?_) (fun hb => ?_)
  rotate_left
  · have := y_hI.2.2.2.2.2.2.2.2.2.1 hb
    omega
  refine y_aln (e_131 (114, .aload_n 1, 1) (List.mem_of_getElem? (i := 57) rfl)) g1 ?_
  refine y_c1 (K' := _) (e_131 (115, .invokevirtual 84, 3) (List.mem_of_getElem? (i := 58) rfl)) ⟨rfl, rfl, rfl⟩ t_10_84 ⟨by decide, by decide, by decide, by decide⟩ m_21_ok rfl (by decide) (y_recv h.1.I h.1.t ⟨rfl, rfl⟩) (Nat.le_of_ble_eq_true rfl) (Nat.le_of_ble_eq_true rfl) (hN _ _ _ _ _ _ _ _ _ _ _ _ _ h.1) (fun r1 Gc hc1 => ?_)
  obtain ⟨rfl, hc2⟩ := hc1
  simp only [Option.toList_some, Option.toList_none, List.cons_append, List.nil_append]
  have h1 := h.nxt hc2
  have h235 := h1.1.tk35
  obtain ⟨b1, k1, t1⟩ := y_fref (i := 0) (u := 21) h1.1.I h1.2.1 rfl
  obtain ⟨b2, k2, t2⟩ := y_fref (i := 1) (u := 22) h1.1.I h1.2.1 rfl
  refine y_aln (e_131 (118, .aload_n 0, 1) (List.mem_of_getElem? (i := 59) rfl)) g0 ?_
  refine y_getf h1.1.I h1.2.1 (e_131 (119, .getfield 11, 3) (List.mem_of_getElem? (i := 60) rfl)) u_10_11 ⟨rfl, rfl⟩ k1 ?_
  refine y_aln (e_131 (122, .aload_n 0, 1) (List.mem_of_getElem? (i := 61) rfl)) g0 ?_
  refine y_getf h1.1.I h1.2.1 (e_131 (123, .getfield 24, 3) (List.mem_of_getElem? (i := 62) rfl)) u_10_24 ⟨rfl, rfl⟩ h1.2.2.1 ?_
  have at141 : ∀ v : Nat, v < 35 → x_Gd xs L J (d + 3) m_131 K 141 lv (.ref (pm_TB + v) :: .int (Int32.ofNat k) :: .ref b1 :: []) Gc := fun v hv => by
    refine y_aast h1.1.I t1 (e_131 (141, .aastore, 1) (List.mem_of_getElem? (i := 70) rfl)) ⟨rfl, rfl⟩ ⟨by omega, by show _ < (40 : Int); omega⟩ hv (fun G1 u1 => ?_)
    have h2 := h1.row u1 t1 (Or.inl rfl) (h1.1.I.upd u1 t1 (s_okT (by rw [show (x_tb 21).2.2.2 = [(40, ((4 : Nat), (0 : Int), (0 : Int)))] from rfl]; exact y_one (by omega)) hv))
    have n1 : lc ≠ b1 := fun z => by rw [← z, h1.2.1] at t1; cases t1
    refine y_aln (e_131 (142, .aload_n 0, 1) (List.mem_of_getElem? (i := 71) rfl)) g0 ?_
    refine y_getf h2.1.I h2.2.1 (e_131 (143, .getfield 17, 3) (List.mem_of_getElem? (i := 72) rfl)) u_10_17 ⟨rfl, rfl⟩ (by rw [u1.2.1, if_neg (fun z => n1 z.1)]; exact k2) ?_
    refine y_aln (e_131 (146, .aload_n 0, 1) (List.mem_of_getElem? (i := 73) rfl)) g0 ?_
    refine y_getf h2.1.I h2.2.1 (e_131 (147, .getfield 24, 3) (List.mem_of_getElem? (i := 74) rfl)) u_10_24 ⟨rfl, rfl⟩ h2.2.2.1 ?_
    refine y_il (e_131 (150, .iload 4, 2) (List.mem_of_getElem? (i := 75) rfl)) g4 ?_
    refine y_il (e_131 (152, .iload 5, 2) (List.mem_of_getElem? (i := 76) rfl)) g5 ?_
    refine y_max (e_131 (154, .invokestatic 87, 3) (List.mem_of_getElem? (i := 77) rfl)) t_10_87 rfl (Nat.le_of_ble_eq_true rfl) ?_
    refine y_iast h2.1.I t2 (e_131 (157, .iastore, 1) (List.mem_of_getElem? (i := 78) rfl)) ⟨rfl, rfl⟩ ⟨by omega, by show _ < (40 : Int); omega⟩ (fun G2 u2 => ?_)
    have h3 := h2.row u2 t2 (Or.inr (Or.inl rfl)) (h2.1.I.upd u2 t2 (y_okA (by rw [show (x_tb 22).2.2.2 = [(40, ((0 : Nat), (-2147483648 : Int), (2147483647 : Int)))] from rfl]; exact y_one (by omega))))
    refine y_aln (e_131 (158, .aload_n 0, 1) (List.mem_of_getElem? (i := 79) rfl)) g0 ?_
    refine y_st (e_131 (159, .dup, 1) (List.mem_of_getElem? (i := 80) rfl)) ⟨rfl, rfl, rfl, rfl⟩ ?_
    refine y_getf h3.1.I h3.2.1 (e_131 (160, .getfield 24, 3) (List.mem_of_getElem? (i := 81) rfl)) u_10_24 ⟨rfl, rfl⟩ h3.2.2.1 ?_
    refine y_st (e_131 (163, .iconst 1, 1) (List.mem_of_getElem? (i := 82) rfl)) ⟨rfl, rfl, rfl, rfl⟩ ?_
    refine y_st (e_131 (164, .iadd, 1) (List.mem_of_getElem? (i := 83) rfl)) ⟨rfl, rfl, rfl, rfl⟩ ?_
    rw [s_inc]
    have e1 := s_toI (a := k + 1) (by omega)
    refine y_putf (f := (0, 0, 40)) h3.1.I h3.2.1 (e_131 (165, .putfield 24, 3) (List.mem_of_getElem? (i := 84) rfl)) u_10_24 ⟨rfl, rfl, by decide, rfl, rfl⟩ ⟨_, rfl, by show (0 : Int) ≤ _; omega, by show _ ≤ (40 : Int); omega⟩ (fun G3 u3 => ?_)
    exact hk168 G3 (h3.up3 u3 (by omega))
  refine y_aln (e_131 (126, .aload_n 3, 1) (List.mem_of_getElem? (i := 63) rfl)) g3 ?_
  refine y_gst (a := pm_TB + 3) (e_131 (127, .getstatic 58, 3) (List.mem_of_getElem? (i := 64) rfl)) w_10_58 rfl ?_
  refine y_acmN (e_131 (130, .if_acmp .ne 10, 3) (List.mem_of_getElem? (i := 65) rfl)) rfl h0 (by decide) (fun _ => ?_) (fun _ => ?_)
  · refine y_aln (e_131 (140, .aload_n 3, 1) (List.mem_of_getElem? (i := 69) rfl)) g3 ?_
    exact at141 tk h0
  · refine y_aln (e_131 (133, .aload_n 1, 1) (List.mem_of_getElem? (i := 66) rfl)) g1 ?_
    refine y_getf h1.1.I h1.1.t (e_131 (134, .getfield 40, 3) (List.mem_of_getElem? (i := 67) rfl)) u_10_40 ⟨rfl, rfl⟩ h1.1.s4 ?_
    refine y_st (e_131 (137, .goto 4, 3) (List.mem_of_getElem? (i := 68) rfl)) ⟨rfl, rfl, rfl, rfl⟩ ?_
    exact at141 tk2 h235
set_option maxHeartbeats 2000000 in
set_option maxRecDepth 100000 in
theorem c_lg_t1 (h : CL f n lim nx2 tk2 pl2 num2 nm2 ft fp lc nt nn tn mn (k + 1) G) (hw : tk2 = 21) (hN : NXc f n lim nx2 num2 nm2 nx3 tk3 pl3 num3 nm3) (g0 : pm_get lv 0 = some (.ref lc)) (g1 : pm_get lv 1 = some (.ref 1)) (g3 : pm_get lv 3 = some (.ref (pm_TB + tk0))) (g4 : pm_get lv 4 = some (.int t)) (g5 : pm_get lv 5 = some (.int m)) (ht : t ≠ Int32.ofInt (-1)) : x_Gd xs L J (d + 3) m_131 (fun r G' => r = some (.int 1) ∧ CL f n lim nx3 tk3 pl3 num3 nm3 ft fp lc nt nn tn mn (k + 1) G') 168 lv [] G := by
  have h35 := h.1.tk35
  refine y_il (e_131 (168, .iload 4, 2) (List.mem_of_getElem? (i := 85) rfl)) g4 ?_
  refine y_st (e_131 (170, .iconst (-1), 1) (List.mem_of_getElem? (i := 86) rfl)) ⟨rfl, rfl, rfl, rfl⟩ ?_
  refine y_icm (e_131 (171, .if_icmp .eq 31, 3) (List.mem_of_getElem? (i := 87) rfl)) rfl (fun hb => absurd (y_hI.1 hb) ht) (fun _ => ?_)
  refine y_aln (e_131 (174, .aload_n 1, 1) (List.mem_of_getElem? (i := 88) rfl)) g1 ?_
  refine y_getf h.1.I h.1.t (e_131 (175, .getfield 40, 3) (List.mem_of_getElem? (i := 89) rfl)) u_10_40 ⟨rfl, rfl⟩ h.1.s4 ?_
  refine y_gst (a := pm_TB + 21) (e_131 (178, .getstatic 93, 3) (List.mem_of_getElem? (i := 90) rfl)) w_10_93 rfl ?_
  refine y_acmN (e_131 (181, .if_acmp .ne 13, 3) (List.mem_of_getElem? (i := 91) rfl)) rfl h35 (by decide) (fun z => absurd hw z) (fun _ => ?_)
  refine y_aln (e_131 (184, .aload_n 1, 1) (List.mem_of_getElem? (i := 92) rfl)) g1 ?_
  refine y_gst (a := pm_TB + 21) (e_131 (185, .getstatic 93, 3) (List.mem_of_getElem? (i := 93) rfl)) w_10_93 rfl ?_
  refine y_c2 (K' := _) (e_131 (188, .invokevirtual 54, 3) (List.mem_of_getElem? (i := 94) rfl)) ⟨rfl, rfl, rfl⟩ t_10_54 ⟨by decide, by decide, by decide, by decide⟩ m_46_ok rfl (by decide) (y_recv h.1.I h.1.t ⟨rfl, rfl⟩) (Nat.le_of_ble_eq_true rfl) (Nat.le_of_ble_eq_true rfl) (k_take_yes h.1 (by decide) hw hN) (fun r1 Gc hc1 => ?_)
  obtain ⟨rfl, hc2⟩ := hc1
  simp only [Option.toList_some, Option.toList_none, List.cons_append, List.nil_append]
  refine y_st (e_131 (191, .goto 10, 3) (List.mem_of_getElem? (i := 95) rfl)) ⟨rfl, rfl, rfl, rfl⟩ ?_
  exact y_ret (e_131 (201, .ireturn, 1) (List.mem_of_getElem? (i := 99) rfl)) ⟨rfl, y_rb (Or.inr rfl)⟩ ⟨rfl, h.nxt hc2⟩
set_option maxHeartbeats 2000000 in
set_option maxRecDepth 100000 in
theorem c_lg_t2 (h : CL f n lim nx2 tk2 pl2 num2 nm2 ft fp lc nt nn tn mn (k + 1) G) (hw : tk2 = 20) (hN : NXc f n lim nx2 num2 nm2 nx3 tk3 pl3 num3 nm3) (g0 : pm_get lv 0 = some (.ref lc)) (g1 : pm_get lv 1 = some (.ref 1)) (g3 : pm_get lv 3 = some (.ref (pm_TB + tk0))) (g4 : pm_get lv 4 = some (.int t)) (g5 : pm_get lv 5 = some (.int m)) (ht : t ≠ Int32.ofInt (-1)) : x_Gd xs L J (d + 3) m_131 (fun r G' => r = some (.int 1) ∧ CL f n lim nx3 tk3 pl3 num3 nm3 ft fp lc nt nn tn mn (k + 1) G') 168 lv [] G := by
  have h35 := h.1.tk35
  refine y_il (e_131 (168, .iload 4, 2) (List.mem_of_getElem? (i := 85) rfl)) g4 ?_
  refine y_st (e_131 (170, .iconst (-1), 1) (List.mem_of_getElem? (i := 86) rfl)) ⟨rfl, rfl, rfl, rfl⟩ ?_
  refine y_icm (e_131 (171, .if_icmp .eq 31, 3) (List.mem_of_getElem? (i := 87) rfl)) rfl (fun hb => absurd (y_hI.1 hb) ht) (fun _ => ?_)
  refine y_aln (e_131 (174, .aload_n 1, 1) (List.mem_of_getElem? (i := 88) rfl)) g1 ?_
  refine y_getf h.1.I h.1.t (e_131 (175, .getfield 40, 3) (List.mem_of_getElem? (i := 89) rfl)) u_10_40 ⟨rfl, rfl⟩ h.1.s4 ?_
  refine y_gst (a := pm_TB + 21) (e_131 (178, .getstatic 93, 3) (List.mem_of_getElem? (i := 90) rfl)) w_10_93 rfl ?_
  refine y_acmN (e_131 (181, .if_acmp .ne 13, 3) (List.mem_of_getElem? (i := 91) rfl)) rfl h35 (by decide) (fun _ => ?_) (fun z => absurd z (by omega))
  refine y_aln (e_131 (194, .aload_n 1, 1) (List.mem_of_getElem? (i := 96) rfl)) g1 ?_
  refine y_gst (a := pm_TB + 20) (e_131 (195, .getstatic 96, 3) (List.mem_of_getElem? (i := 97) rfl)) w_10_96 rfl ?_
  refine y_c2 (K' := _) (e_131 (198, .invokevirtual 54, 3) (List.mem_of_getElem? (i := 98) rfl)) ⟨rfl, rfl, rfl⟩ t_10_54 ⟨by decide, by decide, by decide, by decide⟩ m_46_ok rfl (by decide) (y_recv h.1.I h.1.t ⟨rfl, rfl⟩) (Nat.le_of_ble_eq_true rfl) (Nat.le_of_ble_eq_true rfl) (k_take_yes h.1 (by decide) hw hN) (fun r1 Gc hc1 => ?_)
  obtain ⟨rfl, hc2⟩ := hc1
  simp only [Option.toList_some, Option.toList_none, List.cons_append, List.nil_append]
  exact y_ret (e_131 (201, .ireturn, 1) (List.mem_of_getElem? (i := 99) rfl)) ⟨rfl, y_rb (Or.inr rfl)⟩ ⟨rfl, h.nxt hc2⟩
set_option maxHeartbeats 2000000 in
set_option maxRecDepth 100000 in
theorem c_lg_t3 (h : CL f n lim nx2 tk2 pl2 num2 nm2 ft fp lc nt nn tn mn (k + 1) G) (hw : tk2 ≠ 21 ∧ tk2 ≠ 20) (g0 : pm_get lv 0 = some (.ref lc)) (g1 : pm_get lv 1 = some (.ref 1)) (g3 : pm_get lv 3 = some (.ref (pm_TB + tk0))) (g4 : pm_get lv 4 = some (.int t)) (g5 : pm_get lv 5 = some (.int m)) (ht : t ≠ Int32.ofInt (-1)) : x_Gd xs L J (d + 3) m_131 (fun r G' => r = some (.int 0) ∧ x_sl G' 1 8 = some (.int (Int32.ofInt 1))) 168 lv [] G := by
  have h35 := h.1.tk35
  refine y_il (e_131 (168, .iload 4, 2) (List.mem_of_getElem? (i := 85) rfl)) g4 ?_
  refine y_st (e_131 (170, .iconst (-1), 1) (List.mem_of_getElem? (i := 86) rfl)) ⟨rfl, rfl, rfl, rfl⟩ ?_
  refine y_icm (e_131 (171, .if_icmp .eq 31, 3) (List.mem_of_getElem? (i := 87) rfl)) rfl (fun hb => absurd (y_hI.1 hb) ht) (fun _ => ?_)
  refine y_aln (e_131 (174, .aload_n 1, 1) (List.mem_of_getElem? (i := 88) rfl)) g1 ?_
  refine y_getf h.1.I h.1.t (e_131 (175, .getfield 40, 3) (List.mem_of_getElem? (i := 89) rfl)) u_10_40 ⟨rfl, rfl⟩ h.1.s4 ?_
  refine y_gst (a := pm_TB + 21) (e_131 (178, .getstatic 93, 3) (List.mem_of_getElem? (i := 90) rfl)) w_10_93 rfl ?_
  refine y_acmN (e_131 (181, .if_acmp .ne 13, 3) (List.mem_of_getElem? (i := 91) rfl)) rfl h35 (by decide) (fun _ => ?_) (fun z => absurd z hw.1)
  refine y_aln (e_131 (194, .aload_n 1, 1) (List.mem_of_getElem? (i := 96) rfl)) g1 ?_
  refine y_gst (a := pm_TB + 20) (e_131 (195, .getstatic 96, 3) (List.mem_of_getElem? (i := 97) rfl)) w_10_96 rfl ?_
  refine y_c2 (K' := _) (e_131 (198, .invokevirtual 54, 3) (List.mem_of_getElem? (i := 98) rfl)) ⟨rfl, rfl, rfl⟩ t_10_54 ⟨by decide, by decide, by decide, by decide⟩ m_46_ok rfl (by decide) (y_recv h.1.I h.1.t ⟨rfl, rfl⟩) (Nat.le_of_ble_eq_true rfl) (Nat.le_of_ble_eq_true rfl) (k_take_no h.1 (by decide) hw.2) (fun r1 Gc hc1 => ?_)
  obtain ⟨rfl, hc2⟩ := hc1
  simp only [Option.toList_some, Option.toList_none, List.cons_append, List.nil_append]
  exact y_ret (e_131 (201, .ireturn, 1) (List.mem_of_getElem? (i := 99) rfl)) ⟨rfl, y_rb (Or.inl rfl)⟩ ⟨rfl, hc2.s8⟩
set_option maxHeartbeats 2000000 in
set_option maxRecDepth 100000 in
theorem c_lg_m1 (h : CL f n lim nx2 tk2 pl2 num2 nm2 ft fp lc nt nn tn mn (k + 1) G) (hw : tk2 ≠ 22) (g0 : pm_get lv 0 = some (.ref lc)) (g1 : pm_get lv 1 = some (.ref 1)) (g3 : pm_get lv 3 = some (.ref (pm_TB + tk0))) (g4 : pm_get lv 4 = some (.int t)) (g5 : pm_get lv 5 = some (.int m)) (ht : t = Int32.ofInt (-1)) (hm : m ≠ Int32.ofInt (-1)) : x_Gd xs L J (d + 3) m_131 (fun r G' => r = some (.int 0) ∧ x_sl G' 1 8 = some (.int (Int32.ofInt 1))) 168 lv [] G := by
  refine y_il (e_131 (168, .iload 4, 2) (List.mem_of_getElem? (i := 85) rfl)) g4 ?_
  refine y_st (e_131 (170, .iconst (-1), 1) (List.mem_of_getElem? (i := 86) rfl)) ⟨rfl, rfl, rfl, rfl⟩ ?_
  refine y_icm (e_131 (171, .if_icmp .eq 31, 3) (List.mem_of_getElem? (i := 87) rfl)) rfl (fun _ => ?_) (fun hb => absurd ht (y_hI.2.1 hb))
  refine y_il (e_131 (202, .iload 5, 2) (List.mem_of_getElem? (i := 100) rfl)) g5 ?_
  refine y_st (e_131 (204, .iconst (-1), 1) (List.mem_of_getElem? (i := 101) rfl)) ⟨rfl, rfl, rfl, rfl⟩ ?_
  refine y_icm (e_131 (205, .if_icmp .eq 39, 3) (List.mem_of_getElem? (i := 102) rfl)) rfl (fun hb => absurd (y_hI.1 hb) hm) (fun _ => ?_)
  refine y_aln (e_131 (208, .aload_n 1, 1) (List.mem_of_getElem? (i := 103) rfl)) g1 ?_
  refine y_gst (a := pm_TB + 22) (e_131 (209, .getstatic 99, 3) (List.mem_of_getElem? (i := 104) rfl)) w_10_99 rfl ?_
  refine y_c2 (K' := _) (e_131 (212, .invokevirtual 54, 3) (List.mem_of_getElem? (i := 105) rfl)) ⟨rfl, rfl, rfl⟩ t_10_54 ⟨by decide, by decide, by decide, by decide⟩ m_46_ok rfl (by decide) (y_recv h.1.I h.1.t ⟨rfl, rfl⟩) (Nat.le_of_ble_eq_true rfl) (Nat.le_of_ble_eq_true rfl) (k_take_no h.1 (by decide) hw) (fun r1 Gc hc1 => ?_)
  obtain ⟨rfl, hc2⟩ := hc1
  simp only [Option.toList_some, Option.toList_none, List.cons_append, List.nil_append]
  refine y_ifc (e_131 (215, .ifCond .eq 27, 3) (List.mem_of_getElem? (i := 106) rfl)) rfl (fun _ => ?_) (fun hb => absurd hb (by decide))
  refine y_st (e_131 (242, .iconst 0, 1) (List.mem_of_getElem? (i := 120) rfl)) ⟨rfl, rfl, rfl, rfl⟩ ?_
  exact y_ret (e_131 (243, .ireturn, 1) (List.mem_of_getElem? (i := 121) rfl)) ⟨rfl, y_rb (Or.inl rfl)⟩ ⟨rfl, hc2.s8⟩
set_option maxHeartbeats 2000000 in
set_option maxRecDepth 100000 in
theorem c_lg_m2 (h : CL f n lim nx2 tk2 pl2 num2 nm2 ft fp lc nt nn tn mn (k + 1) G) (hk : k < 40) (hw : tk2 = 22) (hN : NXc f n lim nx2 num2 nm2 nx3 tk3 pl3 num3 nm3) (hno : tk3 ≠ 2 ∨ num3.toInt < 0 ∨ 19 < num3.toInt) (g0 : pm_get lv 0 = some (.ref lc)) (g1 : pm_get lv 1 = some (.ref 1)) (g3 : pm_get lv 3 = some (.ref (pm_TB + tk0))) (g4 : pm_get lv 4 = some (.int t)) (g5 : pm_get lv 5 = some (.int m)) (ht : t = Int32.ofInt (-1)) (hm : m ≠ Int32.ofInt (-1)) : x_Gd xs L J (d + 3) m_131 (fun r G' => r = some (.int 0) ∧ x_sl G' 1 8 = some (.int (t_kd tk3))) 168 lv [] G := by
  refine y_il (e_131 (168, .iload 4, 2) (List.mem_of_getElem? (i := 85) rfl)) g4 ?_
  refine y_st (e_131 (170, .iconst (-1), 1) (List.mem_of_getElem? (i := 86) rfl)) ⟨rfl, rfl, rfl, rfl⟩ ?_
  refine y_icm (e_131 (171, .if_icmp .eq 31, 3) (List.mem_of_getElem? (i := 87) rfl)) rfl (fun _ => ?_) (fun hb => absurd ht (y_hI.2.1 hb))
  refine y_il (e_131 (202, .iload 5, 2) (List.mem_of_getElem? (i := 100) rfl)) g5 ?_
  refine y_st (e_131 (204, .iconst (-1), 1) (List.mem_of_getElem? (i := 101) rfl)) ⟨rfl, rfl, rfl, rfl⟩ ?_
  refine y_icm (e_131 (205, .if_icmp .eq 39, 3) (List.mem_of_getElem? (i := 102) rfl)) rfl (fun hb => absurd (y_hI.1 hb) hm) (fun _ => ?_)
  refine y_aln (e_131 (208, .aload_n 1, 1) (List.mem_of_getElem? (i := 103) rfl)) g1 ?_
  refine y_gst (a := pm_TB + 22) (e_131 (209, .getstatic 99, 3) (List.mem_of_getElem? (i := 104) rfl)) w_10_99 rfl ?_
  refine y_c2 (K' := _) (e_131 (212, .invokevirtual 54, 3) (List.mem_of_getElem? (i := 105) rfl)) ⟨rfl, rfl, rfl⟩ t_10_54 ⟨by decide, by decide, by decide, by decide⟩ m_46_ok rfl (by decide) (y_recv h.1.I h.1.t ⟨rfl, rfl⟩) (Nat.le_of_ble_eq_true rfl) (Nat.le_of_ble_eq_true rfl) (k_take_yes h.1 (by decide) hw hN) (fun r1 Gc hc1 => ?_)
  obtain ⟨rfl, hc2⟩ := hc1
  simp only [Option.toList_some, Option.toList_none, List.cons_append, List.nil_append]
  have h1 := h.nxt hc2
  refine y_ifc (e_131 (215, .ifCond .eq 27, 3) (List.mem_of_getElem? (i := 106) rfl)) rfl (fun hb => absurd hb (by decide)) (fun _ => ?_)
  obtain ⟨b3, k3, t3⟩ := y_fref (i := 2) (u := 23) h1.1.I h1.2.1 rfl
  refine y_aln (e_131 (218, .aload_n 1, 1) (List.mem_of_getElem? (i := 107) rfl)) g1 ?_
  refine y_st (e_131 (219, .iconst 0, 1) (List.mem_of_getElem? (i := 108) rfl)) ⟨rfl, rfl, rfl, rfl⟩ ?_
  refine y_st (e_131 (220, .bipush 19, 2) (List.mem_of_getElem? (i := 109) rfl)) ⟨rfl, rfl, rfl, rfl⟩ ?_
  refine y_aln (e_131 (222, .aload_n 0, 1) (List.mem_of_getElem? (i := 110) rfl)) g0 ?_
  refine y_getf h1.1.I h1.2.1 (e_131 (223, .getfield 21, 3) (List.mem_of_getElem? (i := 111) rfl)) u_10_21 ⟨rfl, rfl⟩ k3 ?_
  refine y_aln (e_131 (226, .aload_n 0, 1) (List.mem_of_getElem? (i := 112) rfl)) g0 ?_
  refine y_getf h1.1.I h1.2.1 (e_131 (227, .getfield 24, 3) (List.mem_of_getElem? (i := 113) rfl)) u_10_24 ⟨rfl, rfl⟩ h1.2.2.1 ?_
  refine y_st (e_131 (230, .iconst 1, 1) (List.mem_of_getElem? (i := 114) rfl)) ⟨rfl, rfl, rfl, rfl⟩ ?_
  refine y_st (e_131 (231, .isub, 1) (List.mem_of_getElem? (i := 115) rfl)) ⟨rfl, rfl, rfl, rfl⟩ ?_
  refine y_c5 (K' := _) (e_131 (232, .invokevirtual 102, 3) (List.mem_of_getElem? (i := 116) rfl)) ⟨rfl, rfl, rfl⟩ t_10_102 ⟨by decide, by decide, by decide, by decide⟩ m_28_ok rfl (by decide) (y_recv h1.1.I h1.1.t ⟨rfl, rfl⟩) (Nat.le_of_ble_eq_true rfl) (Nat.le_of_ble_eq_true rfl) (k_takeN_no h1.1 hno) (fun r1 Gc hc1 => ?_)
  obtain ⟨rfl, hc3⟩ := hc1
  simp only [Option.toList_some, Option.toList_none, List.cons_append, List.nil_append]
  refine y_ifc (e_131 (235, .ifCond .eq 7, 3) (List.mem_of_getElem? (i := 117) rfl)) rfl (fun _ => ?_) (fun hb => absurd hb (by decide))
  refine y_st (e_131 (242, .iconst 0, 1) (List.mem_of_getElem? (i := 120) rfl)) ⟨rfl, rfl, rfl, rfl⟩ ?_
  exact y_ret (e_131 (243, .ireturn, 1) (List.mem_of_getElem? (i := 121) rfl)) ⟨rfl, y_rb (Or.inl rfl)⟩ ⟨rfl, hc3.s8⟩
set_option maxHeartbeats 2000000 in
set_option maxRecDepth 100000 in
theorem c_lg_m3 (h : CL f n lim nx2 tk2 pl2 num2 nm2 ft fp lc nt nn tn mn (k + 1) G) (hk : k < 40) (hw : tk2 = 22) (hN : NXc f n lim nx2 num2 nm2 nx3 tk3 pl3 num3 nm3) (hy : tk3 = 2 ∧ 0 ≤ num3.toInt ∧ num3.toInt ≤ 19) (hN2 : NXc f n lim nx3 num3 nm3 nx4 tk4 pl4 num4 nm4) (g0 : pm_get lv 0 = some (.ref lc)) (g1 : pm_get lv 1 = some (.ref 1)) (g3 : pm_get lv 3 = some (.ref (pm_TB + tk0))) (g4 : pm_get lv 4 = some (.int t)) (g5 : pm_get lv 5 = some (.int m)) (ht : t = Int32.ofInt (-1)) (hm : m ≠ Int32.ofInt (-1)) : x_Gd xs L J (d + 3) m_131 (fun r G' => r = some (.int 1) ∧ CL f n lim nx4 tk4 pl4 num4 nm4 ft fp lc nt nn tn mn (k + 1) G') 168 lv [] G := by
  refine y_il (e_131 (168, .iload 4, 2) (List.mem_of_getElem? (i := 85) rfl)) g4 ?_
  refine y_st (e_131 (170, .iconst (-1), 1) (List.mem_of_getElem? (i := 86) rfl)) ⟨rfl, rfl, rfl, rfl⟩ ?_
  refine y_icm (e_131 (171, .if_icmp .eq 31, 3) (List.mem_of_getElem? (i := 87) rfl)) rfl (fun _ => ?_) (fun hb => absurd ht (y_hI.2.1 hb))
  refine y_il (e_131 (202, .iload 5, 2) (List.mem_of_getElem? (i := 100) rfl)) g5 ?_
  refine y_st (e_131 (204, .iconst (-1), 1) (List.mem_of_getElem? (i := 101) rfl)) ⟨rfl, rfl, rfl, rfl⟩ ?_
  refine y_icm (e_131 (205, .if_icmp .eq 39, 3) (List.mem_of_getElem? (i := 102) rfl)) rfl (fun hb => absurd (y_hI.1 hb) hm) (fun _ => ?_)
  refine y_aln (e_131 (208, .aload_n 1, 1) (List.mem_of_getElem? (i := 103) rfl)) g1 ?_
  refine y_gst (a := pm_TB + 22) (e_131 (209, .getstatic 99, 3) (List.mem_of_getElem? (i := 104) rfl)) w_10_99 rfl ?_
  refine y_c2 (K' := _) (e_131 (212, .invokevirtual 54, 3) (List.mem_of_getElem? (i := 105) rfl)) ⟨rfl, rfl, rfl⟩ t_10_54 ⟨by decide, by decide, by decide, by decide⟩ m_46_ok rfl (by decide) (y_recv h.1.I h.1.t ⟨rfl, rfl⟩) (Nat.le_of_ble_eq_true rfl) (Nat.le_of_ble_eq_true rfl) (k_take_yes h.1 (by decide) hw hN) (fun r1 Gc hc1 => ?_)
  obtain ⟨rfl, hc2⟩ := hc1
  simp only [Option.toList_some, Option.toList_none, List.cons_append, List.nil_append]
  have h1 := h.nxt hc2
  refine y_ifc (e_131 (215, .ifCond .eq 27, 3) (List.mem_of_getElem? (i := 106) rfl)) rfl (fun hb => absurd hb (by decide)) (fun _ => ?_)
  obtain ⟨b3, k3, t3⟩ := y_fref (i := 2) (u := 23) h1.1.I h1.2.1 rfl
  have b71 := th0_lg b3 23 t3 (Or.inr (Or.inr (Or.inr rfl)))
  have e := s_toI (a := k) (by omega)
  refine y_aln (e_131 (218, .aload_n 1, 1) (List.mem_of_getElem? (i := 107) rfl)) g1 ?_
  refine y_st (e_131 (219, .iconst 0, 1) (List.mem_of_getElem? (i := 108) rfl)) ⟨rfl, rfl, rfl, rfl⟩ ?_
  refine y_st (e_131 (220, .bipush 19, 2) (List.mem_of_getElem? (i := 109) rfl)) ⟨rfl, rfl, rfl, rfl⟩ ?_
  refine y_aln (e_131 (222, .aload_n 0, 1) (List.mem_of_getElem? (i := 110) rfl)) g0 ?_
  refine y_getf h1.1.I h1.2.1 (e_131 (223, .getfield 21, 3) (List.mem_of_getElem? (i := 111) rfl)) u_10_21 ⟨rfl, rfl⟩ k3 ?_
  refine y_aln (e_131 (226, .aload_n 0, 1) (List.mem_of_getElem? (i := 112) rfl)) g0 ?_
  refine y_getf h1.1.I h1.2.1 (e_131 (227, .getfield 24, 3) (List.mem_of_getElem? (i := 113) rfl)) u_10_24 ⟨rfl, rfl⟩ h1.2.2.1 ?_
  refine y_st (e_131 (230, .iconst 1, 1) (List.mem_of_getElem? (i := 114) rfl)) ⟨rfl, rfl, rfl, rfl⟩ ?_
  refine y_st (e_131 (231, .isub, 1) (List.mem_of_getElem? (i := 115) rfl)) ⟨rfl, rfl, rfl, rfl⟩ ?_
  rw [s_dec]
  refine y_c5 (K' := _) (e_131 (232, .invokevirtual 102, 3) (List.mem_of_getElem? (i := 116) rfl)) ⟨rfl, rfl, rfl⟩ t_10_102 ⟨by decide, by decide, by decide, by decide⟩ m_28_ok rfl (by decide) (y_recv h1.1.I h1.1.t ⟨rfl, rfl⟩) (Nat.le_of_ble_eq_true rfl) (Nat.le_of_ble_eq_true rfl) (k_takeN_yes h1.1 hy.1 hy.2.1 hy.2.2 t3 ⟨rfl, rfl⟩ (by decide) ⟨by omega, by show _ < (40 : Int); omega⟩ (y_okA (by rw [show (x_tb 23).2.2.2 = [(40, ((0 : Nat), (-2147483648 : Int), (2147483647 : Int)))] from rfl]; exact y_one (by omega))) (by omega) (by omega) hN2) (fun r1 Gc hc1 => ?_)
  obtain ⟨rfl, G3, u3, hc3⟩ := hc1
  simp only [Option.toList_some, Option.toList_none, List.cons_append, List.nil_append]
  have h2 := h1.row u3 t3 (Or.inr (Or.inr rfl)) (h1.1.I.upd u3 t3 (y_okA (by rw [show (x_tb 23).2.2.2 = [(40, ((0 : Nat), (-2147483648 : Int), (2147483647 : Int)))] from rfl]; exact y_one (by omega))))
  refine y_ifc (e_131 (235, .ifCond .eq 7, 3) (List.mem_of_getElem? (i := 117) rfl)) rfl (fun hb => absurd hb (by decide)) (fun _ => ?_)
  refine y_st (e_131 (238, .iconst 1, 1) (List.mem_of_getElem? (i := 118) rfl)) ⟨rfl, rfl, rfl, rfl⟩ ?_
  refine y_st (e_131 (239, .goto 4, 3) (List.mem_of_getElem? (i := 119) rfl)) ⟨rfl, rfl, rfl, rfl⟩ ?_
  exact y_ret (e_131 (243, .ireturn, 1) (List.mem_of_getElem? (i := 121) rfl)) ⟨rfl, y_rb (Or.inr rfl)⟩ ⟨rfl, h2.nxt hc3⟩
set_option maxHeartbeats 2000000 in
set_option maxRecDepth 100000 in
theorem c_lg_h0 (h : CL f n lim nx2 tk2 pl2 num2 nm2 ft fp lc nt nn tn mn (k + 1) G) (h0 : tk0 = 24) (g0 : pm_get lv 0 = some (.ref lc)) (g1 : pm_get lv 1 = some (.ref 1)) (g3 : pm_get lv 3 = some (.ref (pm_TB + tk0))) (g4 : pm_get lv 4 = some (.int t)) (g5 : pm_get lv 5 = some (.int m)) (ht : t = Int32.ofInt (-1)) (hm : m = Int32.ofInt (-1)) : x_Gd xs L J (d + 3) m_131 (fun r G' => r = some (.int 1) ∧ CL f n lim nx2 tk2 pl2 num2 nm2 ft fp lc nt nn tn mn (k + 1) G') 168 lv [] G := by
  refine y_il (e_131 (168, .iload 4, 2) (List.mem_of_getElem? (i := 85) rfl)) g4 ?_
  refine y_st (e_131 (170, .iconst (-1), 1) (List.mem_of_getElem? (i := 86) rfl)) ⟨rfl, rfl, rfl, rfl⟩ ?_
  refine y_icm (e_131 (171, .if_icmp .eq 31, 3) (List.mem_of_getElem? (i := 87) rfl)) rfl (fun _ => ?_) (fun hb => absurd ht (y_hI.2.1 hb))
  refine y_il (e_131 (202, .iload 5, 2) (List.mem_of_getElem? (i := 100) rfl)) g5 ?_
  refine y_st (e_131 (204, .iconst (-1), 1) (List.mem_of_getElem? (i := 101) rfl)) ⟨rfl, rfl, rfl, rfl⟩ ?_
  refine y_icm (e_131 (205, .if_icmp .eq 39, 3) (List.mem_of_getElem? (i := 102) rfl)) rfl (fun _ => ?_) (fun hb => absurd hm (y_hI.2.1 hb))
  refine y_aln (e_131 (244, .aload_n 3, 1) (List.mem_of_getElem? (i := 122) rfl)) g3 ?_
  refine y_gst (a := pm_TB + 24) (e_131 (245, .getstatic 64, 3) (List.mem_of_getElem? (i := 123) rfl)) w_10_64 rfl ?_
  refine y_acm (e_131 (248, .if_acmp .eq 23, 3) (List.mem_of_getElem? (i := 124) rfl)) rfl (by omega) (by decide) (fun _ => ?_) (fun z => absurd h0 z)
  refine y_st (e_131 (271, .iconst 1, 1) (List.mem_of_getElem? (i := 136) rfl)) ⟨rfl, rfl, rfl, rfl⟩ ?_
  refine y_st (e_131 (272, .goto 4, 3) (List.mem_of_getElem? (i := 137) rfl)) ⟨rfl, rfl, rfl, rfl⟩ ?_
  exact y_ret (e_131 (276, .ireturn, 1) (List.mem_of_getElem? (i := 139) rfl)) ⟨rfl, y_rb (Or.inr rfl)⟩ ⟨rfl, h⟩
set_option maxHeartbeats 2000000 in
set_option maxRecDepth 100000 in
theorem c_lg_h1 (h : CL f n lim nx2 tk2 pl2 num2 nm2 ft fp lc nt nn tn mn (k + 1) G) (hk : k < 40) (h0 : tk0 = 23) (hno : tk2 ≠ 2 ∨ num2.toInt < 1 ∨ 60 < num2.toInt) (g0 : pm_get lv 0 = some (.ref lc)) (g1 : pm_get lv 1 = some (.ref 1)) (g3 : pm_get lv 3 = some (.ref (pm_TB + tk0))) (g4 : pm_get lv 4 = some (.int t)) (g5 : pm_get lv 5 = some (.int m)) (ht : t = Int32.ofInt (-1)) (hm : m = Int32.ofInt (-1)) : x_Gd xs L J (d + 3) m_131 (fun r G' => r = some (.int 0) ∧ x_sl G' 1 8 = some (.int (t_kd tk2))) 168 lv [] G := by
  refine y_il (e_131 (168, .iload 4, 2) (List.mem_of_getElem? (i := 85) rfl)) g4 ?_
  refine y_st (e_131 (170, .iconst (-1), 1) (List.mem_of_getElem? (i := 86) rfl)) ⟨rfl, rfl, rfl, rfl⟩ ?_
  refine y_icm (e_131 (171, .if_icmp .eq 31, 3) (List.mem_of_getElem? (i := 87) rfl)) rfl (fun _ => ?_) (fun hb => absurd ht (y_hI.2.1 hb))
  refine y_il (e_131 (202, .iload 5, 2) (List.mem_of_getElem? (i := 100) rfl)) g5 ?_
  refine y_st (e_131 (204, .iconst (-1), 1) (List.mem_of_getElem? (i := 101) rfl)) ⟨rfl, rfl, rfl, rfl⟩ ?_
  refine y_icm (e_131 (205, .if_icmp .eq 39, 3) (List.mem_of_getElem? (i := 102) rfl)) rfl (fun _ => ?_) (fun hb => absurd hm (y_hI.2.1 hb))
  refine y_aln (e_131 (244, .aload_n 3, 1) (List.mem_of_getElem? (i := 122) rfl)) g3 ?_
  refine y_gst (a := pm_TB + 24) (e_131 (245, .getstatic 64, 3) (List.mem_of_getElem? (i := 123) rfl)) w_10_64 rfl ?_
  refine y_acm (e_131 (248, .if_acmp .eq 23, 3) (List.mem_of_getElem? (i := 124) rfl)) rfl (by omega) (by decide) (fun z => absurd z (by omega)) (fun _ => ?_)
  obtain ⟨b3, k3, t3⟩ := y_fref (i := 2) (u := 23) h.1.I h.2.1 rfl
  refine y_aln (e_131 (251, .aload_n 1, 1) (List.mem_of_getElem? (i := 125) rfl)) g1 ?_
  refine y_st (e_131 (252, .iconst 1, 1) (List.mem_of_getElem? (i := 126) rfl)) ⟨rfl, rfl, rfl, rfl⟩ ?_
  refine y_st (e_131 (253, .bipush 60, 2) (List.mem_of_getElem? (i := 127) rfl)) ⟨rfl, rfl, rfl, rfl⟩ ?_
  refine y_aln (e_131 (255, .aload_n 0, 1) (List.mem_of_getElem? (i := 128) rfl)) g0 ?_
  refine y_getf h.1.I h.2.1 (e_131 (256, .getfield 21, 3) (List.mem_of_getElem? (i := 129) rfl)) u_10_21 ⟨rfl, rfl⟩ k3 ?_
  refine y_aln (e_131 (259, .aload_n 0, 1) (List.mem_of_getElem? (i := 130) rfl)) g0 ?_
  refine y_getf h.1.I h.2.1 (e_131 (260, .getfield 24, 3) (List.mem_of_getElem? (i := 131) rfl)) u_10_24 ⟨rfl, rfl⟩ h.2.2.1 ?_
  refine y_st (e_131 (263, .iconst 1, 1) (List.mem_of_getElem? (i := 132) rfl)) ⟨rfl, rfl, rfl, rfl⟩ ?_
  refine y_st (e_131 (264, .isub, 1) (List.mem_of_getElem? (i := 133) rfl)) ⟨rfl, rfl, rfl, rfl⟩ ?_
  refine y_c5 (K' := _) (e_131 (265, .invokevirtual 102, 3) (List.mem_of_getElem? (i := 134) rfl)) ⟨rfl, rfl, rfl⟩ t_10_102 ⟨by decide, by decide, by decide, by decide⟩ m_28_ok rfl (by decide) (y_recv h.1.I h.1.t ⟨rfl, rfl⟩) (Nat.le_of_ble_eq_true rfl) (Nat.le_of_ble_eq_true rfl) (k_takeN_no h.1 hno) (fun r1 Gc hc1 => ?_)
  obtain ⟨rfl, hc3⟩ := hc1
  simp only [Option.toList_some, Option.toList_none, List.cons_append, List.nil_append]
  refine y_ifc (e_131 (268, .ifCond .eq 7, 3) (List.mem_of_getElem? (i := 135) rfl)) rfl (fun _ => ?_) (fun hb => absurd hb (by decide))
  refine y_st (e_131 (275, .iconst 0, 1) (List.mem_of_getElem? (i := 138) rfl)) ⟨rfl, rfl, rfl, rfl⟩ ?_
  exact y_ret (e_131 (276, .ireturn, 1) (List.mem_of_getElem? (i := 139) rfl)) ⟨rfl, y_rb (Or.inl rfl)⟩ ⟨rfl, hc3.s8⟩
set_option maxHeartbeats 2000000 in
set_option maxRecDepth 100000 in
theorem c_lg_h2 (h : CL f n lim nx2 tk2 pl2 num2 nm2 ft fp lc nt nn tn mn (k + 1) G) (hk : k < 40) (h0 : tk0 = 23) (hy : tk2 = 2 ∧ 1 ≤ num2.toInt ∧ num2.toInt ≤ 60) (hN2 : NXc f n lim nx2 num2 nm2 nx3 tk3 pl3 num3 nm3) (g0 : pm_get lv 0 = some (.ref lc)) (g1 : pm_get lv 1 = some (.ref 1)) (g3 : pm_get lv 3 = some (.ref (pm_TB + tk0))) (g4 : pm_get lv 4 = some (.int t)) (g5 : pm_get lv 5 = some (.int m)) (ht : t = Int32.ofInt (-1)) (hm : m = Int32.ofInt (-1)) : x_Gd xs L J (d + 3) m_131 (fun r G' => r = some (.int 1) ∧ CL f n lim nx3 tk3 pl3 num3 nm3 ft fp lc nt nn tn mn (k + 1) G') 168 lv [] G := by
  refine y_il (e_131 (168, .iload 4, 2) (List.mem_of_getElem? (i := 85) rfl)) g4 ?_
  refine y_st (e_131 (170, .iconst (-1), 1) (List.mem_of_getElem? (i := 86) rfl)) ⟨rfl, rfl, rfl, rfl⟩ ?_
  refine y_icm (e_131 (171, .if_icmp .eq 31, 3) (List.mem_of_getElem? (i := 87) rfl)) rfl (fun _ => ?_) (fun hb => absurd ht (y_hI.2.1 hb))
  refine y_il (e_131 (202, .iload 5, 2) (List.mem_of_getElem? (i := 100) rfl)) g5 ?_
  refine y_st (e_131 (204, .iconst (-1), 1) (List.mem_of_getElem? (i := 101) rfl)) ⟨rfl, rfl, rfl, rfl⟩ ?_
  refine y_icm (e_131 (205, .if_icmp .eq 39, 3) (List.mem_of_getElem? (i := 102) rfl)) rfl (fun _ => ?_) (fun hb => absurd hm (y_hI.2.1 hb))
  refine y_aln (e_131 (244, .aload_n 3, 1) (List.mem_of_getElem? (i := 122) rfl)) g3 ?_
  refine y_gst (a := pm_TB + 24) (e_131 (245, .getstatic 64, 3) (List.mem_of_getElem? (i := 123) rfl)) w_10_64 rfl ?_
  refine y_acm (e_131 (248, .if_acmp .eq 23, 3) (List.mem_of_getElem? (i := 124) rfl)) rfl (by omega) (by decide) (fun z => absurd z (by omega)) (fun _ => ?_)
  obtain ⟨b3, k3, t3⟩ := y_fref (i := 2) (u := 23) h.1.I h.2.1 rfl
  have b71 := th0_lg b3 23 t3 (Or.inr (Or.inr (Or.inr rfl)))
  have e := s_toI (a := k) (by omega)
  refine y_aln (e_131 (251, .aload_n 1, 1) (List.mem_of_getElem? (i := 125) rfl)) g1 ?_
  refine y_st (e_131 (252, .iconst 1, 1) (List.mem_of_getElem? (i := 126) rfl)) ⟨rfl, rfl, rfl, rfl⟩ ?_
  refine y_st (e_131 (253, .bipush 60, 2) (List.mem_of_getElem? (i := 127) rfl)) ⟨rfl, rfl, rfl, rfl⟩ ?_
  refine y_aln (e_131 (255, .aload_n 0, 1) (List.mem_of_getElem? (i := 128) rfl)) g0 ?_
  refine y_getf h.1.I h.2.1 (e_131 (256, .getfield 21, 3) (List.mem_of_getElem? (i := 129) rfl)) u_10_21 ⟨rfl, rfl⟩ k3 ?_
  refine y_aln (e_131 (259, .aload_n 0, 1) (List.mem_of_getElem? (i := 130) rfl)) g0 ?_
  refine y_getf h.1.I h.2.1 (e_131 (260, .getfield 24, 3) (List.mem_of_getElem? (i := 131) rfl)) u_10_24 ⟨rfl, rfl⟩ h.2.2.1 ?_
  refine y_st (e_131 (263, .iconst 1, 1) (List.mem_of_getElem? (i := 132) rfl)) ⟨rfl, rfl, rfl, rfl⟩ ?_
  refine y_st (e_131 (264, .isub, 1) (List.mem_of_getElem? (i := 133) rfl)) ⟨rfl, rfl, rfl, rfl⟩ ?_
  rw [s_dec]
  refine y_c5 (K' := _) (e_131 (265, .invokevirtual 102, 3) (List.mem_of_getElem? (i := 134) rfl)) ⟨rfl, rfl, rfl⟩ t_10_102 ⟨by decide, by decide, by decide, by decide⟩ m_28_ok rfl (by decide) (y_recv h.1.I h.1.t ⟨rfl, rfl⟩) (Nat.le_of_ble_eq_true rfl) (Nat.le_of_ble_eq_true rfl) (k_takeN_yes h.1 hy.1 hy.2.1 hy.2.2 t3 ⟨rfl, rfl⟩ (by decide) ⟨by omega, by show _ < (40 : Int); omega⟩ (y_okA (by rw [show (x_tb 23).2.2.2 = [(40, ((0 : Nat), (-2147483648 : Int), (2147483647 : Int)))] from rfl]; exact y_one (by omega))) (by omega) (by omega) hN2) (fun r1 Gc hc1 => ?_)
  obtain ⟨rfl, G3, u3, hc3⟩ := hc1
  simp only [Option.toList_some, Option.toList_none, List.cons_append, List.nil_append]
  have h2 := h.row u3 t3 (Or.inr (Or.inr rfl)) (h.1.I.upd u3 t3 (y_okA (by rw [show (x_tb 23).2.2.2 = [(40, ((0 : Nat), (-2147483648 : Int), (2147483647 : Int)))] from rfl]; exact y_one (by omega))))
  refine y_ifc (e_131 (268, .ifCond .eq 7, 3) (List.mem_of_getElem? (i := 135) rfl)) rfl (fun hb => absurd hb (by decide)) (fun _ => ?_)
  refine y_st (e_131 (271, .iconst 1, 1) (List.mem_of_getElem? (i := 136) rfl)) ⟨rfl, rfl, rfl, rfl⟩ ?_
  refine y_st (e_131 (272, .goto 4, 3) (List.mem_of_getElem? (i := 137) rfl)) ⟨rfl, rfl, rfl, rfl⟩ ?_
  exact y_ret (e_131 (276, .ireturn, 1) (List.mem_of_getElem? (i := 139) rfl)) ⟨rfl, y_rb (Or.inr rfl)⟩ ⟨rfl, h2.nxt hc3⟩
end LGC
