def m_130 : pM := (⟨"BreathingHill$Log", "readLog", "(LBreathingHill$Tape;LBreathingHill$Hill;)Z"⟩, 1062, 4, some (FieldType.boolean), 10, 2, false, 3, 102, 1060, 1061)
set_option maxRecDepth 100000 in
theorem m_130_ok : pm_tab[130]? = some m_130 := rfl
theorem e_130 : ∀ q ∈ d_130, decode m_130.code q.1 = .ok (q.2.1, q.2.2) := y_dec d_130_ok m_130_ok
theorem w_10_44 : pm_stab.find? (fun r => r.1 == 10 && r.2.1 == 44) = some (10, 44, 0, 1064) := by decide +kernel
theorem t_10_47 : pm_ctab.find? (fun r => r.1 == 10 && r.2.1 == 47) = some (10, 47, 1, 131, 1065) := by decide +kernel
theorem w_10_51 : pm_stab.find? (fun r => r.1 == 10 && r.2.1 == 51) = some (10, 51, 4, 1087) := by decide +kernel
-- ===== the LOG's LINES, on both sides =====
section LGL
variable {xs : Nat → Int32} {L J d lc k : Nat} {K : Option Value → List pE → Prop} {f : Nat → Int32} {G G1 : List pE} {n lim nx pl num ft fp nt nn x1 : Int32} {tk : Nat} {nm : Int64} {lv : pL} {tn mn nf : Nat → Int64} {hf : Nat → Int32} {on tok sp mu : Int32} {wd : Int64} {nx2 pl2 num2 : Int32} {tk2 : Nat} {nm2 : Int64} {tok2 sp2 mu2 : Int32} {wd2 : Int64} {nx3 pl3 num3 : Int32} {tk3 : Nat} {nm3 : Int64} {tok3 sp3 mu3 : Int32} {wd3 : Int64} {q : Int32}
set_option maxHeartbeats 2000000 in
set_option maxRecDepth 100000 in
theorem cg_end (h : CL f n lim nx tk pl num nm ft fp lc nt nn tn mn k G) (hk : k ≤ 40) (g0 : pm_get lv 0 = some (.ref lc)) (g1 : pm_get lv 1 = some (.ref 1)) (g2 : pm_get lv 2 = some (.ref 6)) (g3 : pm_get lv 3 = some (.int (Int32.ofNat k))) (c0 : tk = 0) : x_Gd xs L J (d + 4) m_130 (fun r G' => (∃ z : Int32, r = some (.int z)) ∧ x_sl G' 1 8 = some (.int (ft))) 14 lv [] G := by
  have e := s_toI (a := k) (by omega)
  have e40 : ((Int8.ofInt 40).toInt32).toInt = 40 := rfl
  have h35 := h.1.tk35
  refine y_iln (e_130 (14, .iload_n 3, 1) (List.mem_of_getElem? (i := 8) rfl)) g3 ?_
  refine y_st (e_130 (15, .bipush 40, 2) (List.mem_of_getElem? (i := 9) rfl)) ⟨rfl, rfl, rfl, rfl⟩ ?_
  refine y_icm (e_130 (17, .if_icmp .gt 42, 3) (List.mem_of_getElem? (i := 10) rfl)) rfl (fun hb => ?_) (fun _ => ?_)
  · have := y_hI.2.2.2.2.2.2.2.2.2.2.1 hb
    omega
  refine y_aln (e_130 (20, .aload_n 1, 1) (List.mem_of_getElem? (i := 11) rfl)) g1 ?_
  refine y_getf h.1.I h.1.t (e_130 (21, .getfield 40, 3) (List.mem_of_getElem? (i := 12) rfl)) u_10_40 ⟨rfl, rfl⟩ h.1.s4 ?_
  refine y_gst (a := pm_TB + 0) (e_130 (24, .getstatic 44, 3) (List.mem_of_getElem? (i := 13) rfl)) w_10_44 rfl ?_
  refine y_acmN (e_130 (27, .if_acmp .ne 5, 3) (List.mem_of_getElem? (i := 14) rfl)) rfl h35 (by decide) (fun z => absurd c0 z) (fun _ => ?_)
  refine y_st (e_130 (30, .iconst 1, 1) (List.mem_of_getElem? (i := 15) rfl)) ⟨rfl, rfl, rfl, rfl⟩ ?_
  exact y_ret (e_130 (31, .ireturn, 1) (List.mem_of_getElem? (i := 16) rfl)) ⟨rfl, y_rb (Or.inr rfl)⟩ ⟨⟨_, rfl⟩, h.1.s8⟩
set_option maxHeartbeats 2000000 in
set_option maxRecDepth 100000 in
theorem cg_no (h : CL f n lim nx tk pl num nm ft fp lc nt nn tn mn k G) (hk : k ≤ 40) (g0 : pm_get lv 0 = some (.ref lc)) (g1 : pm_get lv 1 = some (.ref 1)) (g2 : pm_get lv 2 = some (.ref 6)) (g3 : pm_get lv 3 = some (.int (Int32.ofNat k))) (c0 : tk ≠ 0) (hc : x_Gd xs L J (d + 3) m_131 (fun r G' => r = some (.int 0) ∧ x_sl G' 1 8 = some (.int q)) 0 (lv_args 0 [.ref lc, .ref 1, .ref 6]) [] G) : x_Gd xs L J (d + 4) m_130 (fun r G' => (∃ z : Int32, r = some (.int z)) ∧ x_sl G' 1 8 = some (.int (q))) 14 lv [] G := by
  have e := s_toI (a := k) (by omega)
  have e40 : ((Int8.ofInt 40).toInt32).toInt = 40 := rfl
  have h35 := h.1.tk35
  refine y_iln (e_130 (14, .iload_n 3, 1) (List.mem_of_getElem? (i := 8) rfl)) g3 ?_
  refine y_st (e_130 (15, .bipush 40, 2) (List.mem_of_getElem? (i := 9) rfl)) ⟨rfl, rfl, rfl, rfl⟩ ?_
  refine y_icm (e_130 (17, .if_icmp .gt 42, 3) (List.mem_of_getElem? (i := 10) rfl)) rfl (fun hb => ?_) (fun _ => ?_)
  · have := y_hI.2.2.2.2.2.2.2.2.2.2.1 hb
    omega
  refine y_aln (e_130 (20, .aload_n 1, 1) (List.mem_of_getElem? (i := 11) rfl)) g1 ?_
  refine y_getf h.1.I h.1.t (e_130 (21, .getfield 40, 3) (List.mem_of_getElem? (i := 12) rfl)) u_10_40 ⟨rfl, rfl⟩ h.1.s4 ?_
  refine y_gst (a := pm_TB + 0) (e_130 (24, .getstatic 44, 3) (List.mem_of_getElem? (i := 13) rfl)) w_10_44 rfl ?_
  refine y_acmN (e_130 (27, .if_acmp .ne 5, 3) (List.mem_of_getElem? (i := 14) rfl)) rfl h35 (by decide) (fun _ => ?_) (fun z => absurd z c0)
  refine y_aln (e_130 (32, .aload_n 0, 1) (List.mem_of_getElem? (i := 17) rfl)) g0 ?_
  refine y_aln (e_130 (33, .aload_n 1, 1) (List.mem_of_getElem? (i := 18) rfl)) g1 ?_
  refine y_aln (e_130 (34, .aload_n 2, 1) (List.mem_of_getElem? (i := 19) rfl)) g2 ?_
  refine y_c3 (K' := _) (e_130 (35, .invokevirtual 47, 3) (List.mem_of_getElem? (i := 20) rfl)) ⟨rfl, rfl, rfl⟩ t_10_47 ⟨by decide, by decide, by decide, by decide⟩ m_131_ok rfl (by decide) (y_recv h.1.I h.2.1 ⟨rfl, rfl⟩) (Nat.le_of_ble_eq_true rfl) (Nat.le_of_ble_eq_true rfl) (hc) (fun r1 Gc hc1 => ?_)
  obtain ⟨rfl, hc2⟩ := hc1
  simp only [Option.toList_some, Option.toList_none, List.cons_append, List.nil_append]
  refine y_ifc (e_130 (38, .ifCond .eq 13, 3) (List.mem_of_getElem? (i := 21) rfl)) rfl (fun _ => ?_) (fun hb => absurd hb (by decide))
  refine y_st (e_130 (51, .iconst 0, 1) (List.mem_of_getElem? (i := 26) rfl)) ⟨rfl, rfl, rfl, rfl⟩ ?_
  exact y_ret (e_130 (52, .ireturn, 1) (List.mem_of_getElem? (i := 27) rfl)) ⟨rfl, y_rb (Or.inl rfl)⟩ ⟨⟨_, rfl⟩, hc2⟩
set_option maxHeartbeats 2000000 in
set_option maxRecDepth 100000 in
theorem cg_semi (h : CL f n lim nx tk pl num nm ft fp lc nt nn tn mn k G) (hk : k ≤ 40) (g0 : pm_get lv 0 = some (.ref lc)) (g1 : pm_get lv 1 = some (.ref 1)) (g2 : pm_get lv 2 = some (.ref 6)) (g3 : pm_get lv 3 = some (.int (Int32.ofNat k))) (c0 : tk ≠ 0) (hc : x_Gd xs L J (d + 3) m_131 (fun r G' => r = some (.int 1) ∧ CL f n lim nx2 tk2 pl2 num2 nm2 ft fp lc nt nn tn mn (k + 1) G') 0 (lv_args 0 [.ref lc, .ref 1, .ref 6]) [] G) (c4 : tk2 ≠ 4) : x_Gd xs L J (d + 4) m_130 (fun r G' => (∃ z : Int32, r = some (.int z)) ∧ x_sl G' 1 8 = some (.int (Int32.ofInt 1))) 14 lv [] G := by
  have e := s_toI (a := k) (by omega)
  have e40 : ((Int8.ofInt 40).toInt32).toInt = 40 := rfl
  have h35 := h.1.tk35
  refine y_iln (e_130 (14, .iload_n 3, 1) (List.mem_of_getElem? (i := 8) rfl)) g3 ?_
  refine y_st (e_130 (15, .bipush 40, 2) (List.mem_of_getElem? (i := 9) rfl)) ⟨rfl, rfl, rfl, rfl⟩ ?_
  refine y_icm (e_130 (17, .if_icmp .gt 42, 3) (List.mem_of_getElem? (i := 10) rfl)) rfl (fun hb => ?_) (fun _ => ?_)
  · have := y_hI.2.2.2.2.2.2.2.2.2.2.1 hb
    omega
  refine y_aln (e_130 (20, .aload_n 1, 1) (List.mem_of_getElem? (i := 11) rfl)) g1 ?_
  refine y_getf h.1.I h.1.t (e_130 (21, .getfield 40, 3) (List.mem_of_getElem? (i := 12) rfl)) u_10_40 ⟨rfl, rfl⟩ h.1.s4 ?_
  refine y_gst (a := pm_TB + 0) (e_130 (24, .getstatic 44, 3) (List.mem_of_getElem? (i := 13) rfl)) w_10_44 rfl ?_
  refine y_acmN (e_130 (27, .if_acmp .ne 5, 3) (List.mem_of_getElem? (i := 14) rfl)) rfl h35 (by decide) (fun _ => ?_) (fun z => absurd z c0)
  refine y_aln (e_130 (32, .aload_n 0, 1) (List.mem_of_getElem? (i := 17) rfl)) g0 ?_
  refine y_aln (e_130 (33, .aload_n 1, 1) (List.mem_of_getElem? (i := 18) rfl)) g1 ?_
  refine y_aln (e_130 (34, .aload_n 2, 1) (List.mem_of_getElem? (i := 19) rfl)) g2 ?_
  refine y_c3 (K' := _) (e_130 (35, .invokevirtual 47, 3) (List.mem_of_getElem? (i := 20) rfl)) ⟨rfl, rfl, rfl⟩ t_10_47 ⟨by decide, by decide, by decide, by decide⟩ m_131_ok rfl (by decide) (y_recv h.1.I h.2.1 ⟨rfl, rfl⟩) (Nat.le_of_ble_eq_true rfl) (Nat.le_of_ble_eq_true rfl) (hc) (fun r1 Gc hc1 => ?_)
  obtain ⟨rfl, h2⟩ := hc1
  simp only [Option.toList_some, Option.toList_none, List.cons_append, List.nil_append]
  refine y_ifc (e_130 (38, .ifCond .eq 13, 3) (List.mem_of_getElem? (i := 21) rfl)) rfl (fun hb => absurd hb (by decide)) (fun _ => ?_)
  refine y_aln (e_130 (41, .aload_n 1, 1) (List.mem_of_getElem? (i := 22) rfl)) g1 ?_
  refine y_gst (a := pm_TB + 4) (e_130 (42, .getstatic 51, 3) (List.mem_of_getElem? (i := 23) rfl)) w_10_51 rfl ?_
  refine y_c2 (K' := _) (e_130 (45, .invokevirtual 54, 3) (List.mem_of_getElem? (i := 24) rfl)) ⟨rfl, rfl, rfl⟩ t_10_54 ⟨by decide, by decide, by decide, by decide⟩ m_46_ok rfl (by decide) (y_recv h2.1.I h2.1.t ⟨rfl, rfl⟩) (Nat.le_of_ble_eq_true rfl) (Nat.le_of_ble_eq_true rfl) (k_take_no h2.1 (by decide) c4) (fun r1 Gc hc1 => ?_)
  obtain ⟨rfl, hc2⟩ := hc1
  simp only [Option.toList_some, Option.toList_none, List.cons_append, List.nil_append]
  refine y_ifc (e_130 (48, .ifCond .ne 5, 3) (List.mem_of_getElem? (i := 25) rfl)) rfl (fun hb => absurd hb (by decide)) (fun _ => ?_)
  refine y_st (e_130 (51, .iconst 0, 1) (List.mem_of_getElem? (i := 26) rfl)) ⟨rfl, rfl, rfl, rfl⟩ ?_
  exact y_ret (e_130 (52, .ireturn, 1) (List.mem_of_getElem? (i := 27) rfl)) ⟨rfl, y_rb (Or.inl rfl)⟩ ⟨⟨_, rfl⟩, hc2.s8⟩
set_option maxHeartbeats 2000000 in
set_option maxRecDepth 100000 in
theorem cg_go (h : CL f n lim nx tk pl num nm ft fp lc nt nn tn mn k G) (hk : k ≤ 40) (g0 : pm_get lv 0 = some (.ref lc)) (g1 : pm_get lv 1 = some (.ref 1)) (g2 : pm_get lv 2 = some (.ref 6)) (g3 : pm_get lv 3 = some (.int (Int32.ofNat k))) (c0 : tk ≠ 0) (hc : x_Gd xs L J (d + 3) m_131 (fun r G' => r = some (.int 1) ∧ CL f n lim nx2 tk2 pl2 num2 nm2 ft fp lc nt nn tn mn (k + 1) G') 0 (lv_args 0 [.ref lc, .ref 1, .ref 6]) [] G) (c4 : tk2 = 4) (hN : NXc f n lim nx2 num2 nm2 nx3 tk3 pl3 num3 nm3) (hk14 : ∀ (G' : List pE) (lv : pL), CL f n lim nx3 tk3 pl3 num3 nm3 ft fp lc nt nn tn mn (k + 1) G' → pm_get lv 0 = some (.ref lc) → pm_get lv 1 = some (.ref 1) → pm_get lv 2 = some (.ref 6) → pm_get lv 3 = some (.int (Int32.ofNat (k + 1))) → x_Gd xs L J (d + 4) m_130 K 14 lv [] G') : x_Gd xs L J (d + 4) m_130 K 14 lv [] G := by
  have e := s_toI (a := k) (by omega)
  have e40 : ((Int8.ofInt 40).toInt32).toInt = 40 := rfl
  have h35 := h.1.tk35
  refine y_iln (e_130 (14, .iload_n 3, 1) (List.mem_of_getElem? (i := 8) rfl)) g3 ?_
  refine y_st (e_130 (15, .bipush 40, 2) (List.mem_of_getElem? (i := 9) rfl)) ⟨rfl, rfl, rfl, rfl⟩ ?_
  refine y_icm (e_130 (17, .if_icmp .gt 42, 3) (List.mem_of_getElem? (i := 10) rfl)) rfl (fun hb => ?_) (fun _ => ?_)
  · have := y_hI.2.2.2.2.2.2.2.2.2.2.1 hb
    omega
  refine y_aln (e_130 (20, .aload_n 1, 1) (List.mem_of_getElem? (i := 11) rfl)) g1 ?_
  refine y_getf h.1.I h.1.t (e_130 (21, .getfield 40, 3) (List.mem_of_getElem? (i := 12) rfl)) u_10_40 ⟨rfl, rfl⟩ h.1.s4 ?_
  refine y_gst (a := pm_TB + 0) (e_130 (24, .getstatic 44, 3) (List.mem_of_getElem? (i := 13) rfl)) w_10_44 rfl ?_
  refine y_acmN (e_130 (27, .if_acmp .ne 5, 3) (List.mem_of_getElem? (i := 14) rfl)) rfl h35 (by decide) (fun _ => ?_) (fun z => absurd z c0)
  refine y_aln (e_130 (32, .aload_n 0, 1) (List.mem_of_getElem? (i := 17) rfl)) g0 ?_
  refine y_aln (e_130 (33, .aload_n 1, 1) (List.mem_of_getElem? (i := 18) rfl)) g1 ?_
  refine y_aln (e_130 (34, .aload_n 2, 1) (List.mem_of_getElem? (i := 19) rfl)) g2 ?_
  refine y_c3 (K' := _) (e_130 (35, .invokevirtual 47, 3) (List.mem_of_getElem? (i := 20) rfl)) ⟨rfl, rfl, rfl⟩ t_10_47 ⟨by decide, by decide, by decide, by decide⟩ m_131_ok rfl (by decide) (y_recv h.1.I h.2.1 ⟨rfl, rfl⟩) (Nat.le_of_ble_eq_true rfl) (Nat.le_of_ble_eq_true rfl) (hc) (fun r1 Gc hc1 => ?_)
  obtain ⟨rfl, h2⟩ := hc1
  simp only [Option.toList_some, Option.toList_none, List.cons_append, List.nil_append]
  refine y_ifc (e_130 (38, .ifCond .eq 13, 3) (List.mem_of_getElem? (i := 21) rfl)) rfl (fun hb => absurd hb (by decide)) (fun _ => ?_)
  refine y_aln (e_130 (41, .aload_n 1, 1) (List.mem_of_getElem? (i := 22) rfl)) g1 ?_
  refine y_gst (a := pm_TB + 4) (e_130 (42, .getstatic 51, 3) (List.mem_of_getElem? (i := 23) rfl)) w_10_51 rfl ?_
  refine y_c2 (K' := _) (e_130 (45, .invokevirtual 54, 3) (List.mem_of_getElem? (i := 24) rfl)) ⟨rfl, rfl, rfl⟩ t_10_54 ⟨by decide, by decide, by decide, by decide⟩ m_46_ok rfl (by decide) (y_recv h2.1.I h2.1.t ⟨rfl, rfl⟩) (Nat.le_of_ble_eq_true rfl) (Nat.le_of_ble_eq_true rfl) (k_take_yes h2.1 (by decide) c4 hN) (fun r1 Gc hc1 => ?_)
  obtain ⟨rfl, hc2⟩ := hc1
  simp only [Option.toList_some, Option.toList_none, List.cons_append, List.nil_append]
  refine y_ifc (e_130 (48, .ifCond .ne 5, 3) (List.mem_of_getElem? (i := 25) rfl)) rfl (fun _ => ?_) (fun hb => absurd hb (by decide))
  refine y_iinc (e_130 (53, .iinc 3 1, 3) (List.mem_of_getElem? (i := 28) rfl)) g3 (by decide) ?_
  rw [s_inc]
  refine y_st (e_130 (56, .goto (-42), 3) (List.mem_of_getElem? (i := 29) rfl)) ⟨rfl, rfl, rfl, rfl⟩ ?_
  exact hk14 _ _ (h2.nxt hc2) (y_gpr g0 (by decide)) (y_gpr g1 (by decide)) (y_gpr g2 (by decide)) x_get_self
/-- the rows of the LOG and what else the model keeps while it reads one -/
def RG (k : Nat) (G : List pE) : Prop := (∃ rb rd, z_RV th0 G 349 rb rd (Int32.ofNat k) ∧ z_rows rd (Int32.ofNat k).toInt) ∧ z_Ns th0 349 G ∧ x_Q th0 G
theorem MS.o32 {v : Value} (h : MS th0 349 350 352 354 355 f n lim nx tok pl sp mu wd hf nf on G) (u : x_upd G G1 349 32 v) (hI : xI x_tb th0 G1) : MS th0 349 350 352 354 355 f n lim nx tok pl sp mu wd hf nf on G1 := by
  obtain ⟨n1, n2, n3, -, -, -, -, -, n9⟩ := h.ne
  obtain ⟨T, b1, b2, b3, c1, c2, c3, c4, d1, d2, d3⟩ := h
  exact ⟨T.other u n9 (Or.inr (by omega)) hI, b1, b2, b3, by rw [u.2.1, if_neg (fun z => by omega)]; exact c1, by rw [u.2.1, if_neg (fun z => by omega)]; exact c2, by rw [u.2.1, if_neg (fun z => by omega)]; exact c3, by rw [u.2.1, if_neg (fun z => by omega)]; exact c4, fun j hj => by rw [u.2.1, if_neg (fun z => n1 z.1)]; exact d1 j hj, fun j hj => by rw [u.2.1, if_neg (fun z => n2 z.1)]; exact d2 j hj, fun j hj => by rw [u.2.1, if_neg (fun z => n3 z.1)]; exact d3.1 j hj, by rw [u.2.1, if_neg (fun z => by omega)]; exact d3.2⟩
set_option maxHeartbeats 2000000 in
set_option maxRecDepth 100000 in
theorem vg_tail {th : List Nat} {a rb2 : Nat} {G2 : List pE} {lv2 : pL} {lives tv2 : Int32} {rd2 : Nat → Int32} {q : Int32} (hd : 307 ≤ d) (hx : 0 ≤ lives.toInt ∧ lives.toInt ≤ 1) (ta : th[a]? = some 10) (hV2 : z_RV th G2 a rb2 rd2 tv2) (hR2 : z_rows rd2 tv2.toInt) (hQ : x_Q th G2) (h15 : x_sl G2 a 15 = some (.int q)) (g02 : pm_get lv2 0 = some (.ref a)) (g12 : pm_get lv2 1 = some (.int lives)) : x_Gd xs L J (d + 2) m_243 (fun _ G' => x_sl G' a 15 = some (.int q)) 83 lv2 [] G2 := by
  have hI2 := hV2.1
  refine sg_lg83_go (d := d + 1) (by omega) (v := (y_v [(a : Int), lives.toInt])) (G0 := G2) ⟨y_v_Bd (List.forall_mem_cons.mpr ⟨(y_cellB hI2 ta), (List.forall_mem_cons.mpr ⟨(x_i32 lives), (fun _ h => absurd h List.not_mem_nil)⟩)⟩), (fun _ h => absurd h List.not_mem_nil), (List.forall_mem_cons.mpr ⟨⟨_, g02, a, rfl, (by simp only [xl_ev, xt_ev, y_v, List.getD_cons_succ, List.getD_cons_zero]; omega), ta⟩, (List.forall_mem_cons.mpr ⟨⟨_, g12, lives, rfl, (by simp only [xl_ev, xt_ev, y_v, List.getD_cons_succ, List.getD_cons_zero]; omega)⟩, (fun _ h => absurd h List.not_mem_nil)⟩)⟩), trivial, (fun _ h => absurd h List.not_mem_nil), hI2⟩ x_eff.rf (fun r G' h => ?_) (fun n hn vn lv3 G3 hag hS3 hE3 => ?_)
  · obtain ⟨v', -, -, -, -, p, hp, -⟩ := h
    exact absurd hp List.not_mem_nil
  obtain rfl : n = _ := List.mem_singleton.mp hn
  have z0 : vn 0 = (a : Int) := hag 0 (by decide)
  have z1 : vn 1 = lives.toInt := hag 1 (by decide)
  have l0 := hS3.loCe (i := 0) (t := 10) (l := ([(0, 1)], 0)) (a := a) (List.mem_of_getElem? (i := 0) rfl) (by simp only [xl_ev, xt_ev]; omega)
  have l1 := hS3.lo0e (i := 1) (l := ([(1, 1)], 0)) (x := lives) (List.mem_of_getElem? (i := 1) rfl) (by simp only [xl_ev, xt_ev]; omega)
  have l2 := hS3.lo0e (i := 2) (l := ([], -1)) (x := -1) (List.mem_of_getElem? (i := 2) rfl) rfl
  have l3 := hS3.lo0e (i := 3) (l := ([], 0)) (x := 0) (List.mem_of_getElem? (i := 3) rfl) rfl
  have hV3 := hV2.eff hS3.2.2.2.2.2 hE3 rfl (by decide)
  have hE13 : x_eff th (E_lg83 ++ E_lg2 ++ E_lg191) G2 G3 := hE3.l.l
  refine g_lgd (G0 := G3) (rb := rb2) (rd := rd2) (tv := tv2) (lives := lives) hd ta (fun G5 lv5 wr hI5 ef5 q0 q1 q2 => ?_) hR2 (x_Q_eff (by decide) hE3 hQ) _ G3 lv3 (-1) 0 rfl (by decide) (by have := hV2.rt; show (0 : Int) ≤ _; omega) hV3 x_eff.rf l0 l1 l2 l3
  refine sg_lg191_go (d := d + 1) (by omega) (v := (y_v [(a : Int), lives.toInt, wr.toInt])) (G0 := G5) ⟨y_v_Bd (List.forall_mem_cons.mpr ⟨(y_cellB hI5 ta), (List.forall_mem_cons.mpr ⟨(x_i32 lives), (List.forall_mem_cons.mpr ⟨(x_i32 wr), (fun _ h => absurd h List.not_mem_nil)⟩)⟩)⟩), (List.forall_mem_cons.mpr ⟨(by simp only [xl_ev, xt_ev, y_v, List.getD_cons_succ, List.getD_cons_zero]; omega), (List.forall_mem_cons.mpr ⟨(by simp only [xl_ev, xt_ev, y_v, List.getD_cons_succ, List.getD_cons_zero]; omega), (fun _ h => absurd h List.not_mem_nil)⟩)⟩), (List.forall_mem_cons.mpr ⟨⟨_, q0, a, rfl, (by simp only [xl_ev, xt_ev, y_v, List.getD_cons_succ, List.getD_cons_zero]; omega), ta⟩, (List.forall_mem_cons.mpr ⟨⟨_, q1, lives, rfl, (by simp only [xl_ev, xt_ev, y_v, List.getD_cons_succ, List.getD_cons_zero]; omega)⟩, (List.forall_mem_cons.mpr ⟨⟨_, q2, wr, rfl, (by simp only [xl_ev, xt_ev, y_v, List.getD_cons_succ, List.getD_cons_zero]; omega)⟩, (fun _ h => absurd h List.not_mem_nil)⟩)⟩)⟩), trivial, (fun _ h => absurd h List.not_mem_nil), hI5⟩ x_eff.rf (fun r G' h => ?_) (fun n hn => absurd hn List.not_mem_nil)
  obtain ⟨v', -, -, hI', ef, p7, hp7, -, -, pa⟩ := h
  obtain rfl : p7 = _ := List.mem_singleton.mp hp7
  obtain ⟨y, rfl, -⟩ := y_pI pa
  have e9 := (hE13.tr ef5.r.l).tr ef.r
  show x_sl G' a 15 = _
  rw [e9.at ta (by decide)]
  exact h15
set_option maxHeartbeats 2000000 in
set_option maxRecDepth 100000 in
theorem vg_end (h : MS th0 349 350 352 354 355 f n lim nx tok pl sp mu wd hf nf on G) (R : RG k G) (hd : 307 ≤ d) (hx : 0 ≤ x1.toInt ∧ x1.toInt ≤ 1) (g0 : pm_get lv 0 = some (.ref 349)) (g1 : pm_get lv 1 = some (.int x1)) (c0 : tok = Int32.ofInt 0) : x_Gd xs L J (d + 4) m_243 (fun _ G' => x_sl G' 349 15 = some (.int (Int32.ofInt 0))) 39 lv [] G := by
  obtain ⟨⟨rb, rd, hV, hR⟩, hNs, hQ⟩ := R
  subst c0
  refine y_aln (e_243 (39, .aload_n 0, 1) (List.mem_of_getElem? (i := 21) rfl)) g0 ?_
  refine y_getf h.1.I h.1.t (e_243 (40, .getfield 141, 3) (List.mem_of_getElem? (i := 22) rfl)) u_17_141 ⟨rfl, rfl⟩ h.1.s11 ?_
  exact y_ifc (e_243 (43, .ifCond .eq 40, 3) (List.mem_of_getElem? (i := 23) rfl)) rfl (fun _ => vg_tail (d := d + 2) (by omega) hx h.1.t hV hR hQ h.2.2.2.2.2.2.2.2.2.2.2 g0 g1) (fun hb => absurd hb (by decide))
set_option maxHeartbeats 2000000 in
set_option maxRecDepth 100000 in
theorem vg_no (h : MS th0 349 350 352 354 355 f n lim nx tok pl sp mu wd hf nf on G) (R : RG k G) (hd : 307 ≤ d) (g0 : pm_get lv 0 = some (.ref 349)) (g1 : pm_get lv 1 = some (.int x1)) (c0 : tok ≠ Int32.ofInt 0) (hm : x_Gd xs L J (d + 3) m_244 (fun r G' => r = some (.int 0) ∧ x_sl G' 349 15 = some (.int q)) 0 (lv_args 0 [.ref 349]) [] G) : x_Gd xs L J (d + 4) m_243 (fun _ G' => x_sl G' 349 15 = some (.int (q))) 39 lv [] G := by
  obtain ⟨⟨rb, rd, hV, hR⟩, hNs, hQ⟩ := R
  refine y_aln (e_243 (39, .aload_n 0, 1) (List.mem_of_getElem? (i := 21) rfl)) g0 ?_
  refine y_getf h.1.I h.1.t (e_243 (40, .getfield 141, 3) (List.mem_of_getElem? (i := 22) rfl)) u_17_141 ⟨rfl, rfl⟩ h.1.s11 ?_
  refine y_ifc (e_243 (43, .ifCond .eq 40, 3) (List.mem_of_getElem? (i := 23) rfl)) rfl (fun hc => absurd (y_hI.1 hc) c0) (fun _ => ?_)
  refine y_aln (e_243 (46, .aload_n 0, 1) (List.mem_of_getElem? (i := 24) rfl)) g0 ?_
  refine y_c1 (K' := _) (e_243 (47, .invokevirtual 359, 3) (List.mem_of_getElem? (i := 25) rfl)) ⟨rfl, rfl, rfl⟩ t_17_359 ⟨by decide, by decide, by decide, by decide⟩ m_244_ok rfl (by decide) (y_recv h.1.I h.1.t ⟨rfl, rfl⟩) (Nat.le_of_ble_eq_true rfl) (Nat.le_of_ble_eq_true rfl) (hm.and (g_logLineC (d := d + 2) (by omega) hV hR hNs h.1.s4)) (fun r1 G1 hc1 => ?_)
  obtain ⟨⟨rfl, h15⟩, ef1, hI1, hr⟩ := hc1
  simp only [Option.toList_some, Option.toList_none, List.cons_append, List.nil_append]
  refine y_ifc (e_243 (50, .ifCond .eq 12, 3) (List.mem_of_getElem? (i := 26) rfl)) rfl (fun _ => ?_) (fun hb => absurd hb (by decide))
  obtain ⟨fa, hfa, -⟩ := y_fint (i := 16) hI1 h.1.t rfl
  refine y_st (e_243 (62, .bipush (-2), 2) (List.mem_of_getElem? (i := 31) rfl)) ⟨rfl, rfl, rfl, rfl⟩ ?_
  refine y_aln (e_243 (64, .aload_n 0, 1) (List.mem_of_getElem? (i := 32) rfl)) g0 ?_
  refine y_getf hI1 h.1.t (e_243 (65, .getfield 161, 3) (List.mem_of_getElem? (i := 33) rfl)) u_17_161 ⟨rfl, rfl⟩ hfa ?_
  refine y_st (e_243 (68, .isub, 1) (List.mem_of_getElem? (i := 34) rfl)) ⟨rfl, rfl, rfl, rfl⟩ ?_
  exact y_ret (e_243 (69, .ireturn, 1) (List.mem_of_getElem? (i := 35) rfl)) ⟨rfl, y_ri⟩ h15
set_option maxHeartbeats 2000000 in
set_option maxRecDepth 100000 in
theorem vg_semi (h : MS th0 349 350 352 354 355 f n lim nx tok pl sp mu wd hf nf on G) (R : RG k G) (hd : 307 ≤ d) (g0 : pm_get lv 0 = some (.ref 349)) (g1 : pm_get lv 1 = some (.int x1)) (c0 : tok ≠ Int32.ofInt 0) (hm : x_Gd xs L J (d + 3) m_244 (fun r G' => r = some (.int 1) ∧ MS th0 349 350 352 354 355 f n lim nx2 tok2 pl2 sp2 mu2 wd2 hf nf on G') 0 (lv_args 0 [.ref 349]) [] G) (h4 : ¬ (tok2 = Int32.ofInt 3 ∧ mu2 = (Int8.ofInt 59).toInt32)) : x_Gd xs L J (d + 4) m_243 (fun _ G' => x_sl G' 349 15 = some (.int (Int32.ofInt 1))) 39 lv [] G := by
  obtain ⟨⟨rb, rd, hV, hR⟩, hNs, hQ⟩ := R
  refine y_aln (e_243 (39, .aload_n 0, 1) (List.mem_of_getElem? (i := 21) rfl)) g0 ?_
  refine y_getf h.1.I h.1.t (e_243 (40, .getfield 141, 3) (List.mem_of_getElem? (i := 22) rfl)) u_17_141 ⟨rfl, rfl⟩ h.1.s11 ?_
  refine y_ifc (e_243 (43, .ifCond .eq 40, 3) (List.mem_of_getElem? (i := 23) rfl)) rfl (fun hc => absurd (y_hI.1 hc) c0) (fun _ => ?_)
  refine y_aln (e_243 (46, .aload_n 0, 1) (List.mem_of_getElem? (i := 24) rfl)) g0 ?_
  refine y_c1 (K' := _) (e_243 (47, .invokevirtual 359, 3) (List.mem_of_getElem? (i := 25) rfl)) ⟨rfl, rfl, rfl⟩ t_17_359 ⟨by decide, by decide, by decide, by decide⟩ m_244_ok rfl (by decide) (y_recv h.1.I h.1.t ⟨rfl, rfl⟩) (Nat.le_of_ble_eq_true rfl) (Nat.le_of_ble_eq_true rfl) (hm.and (g_logLineC (d := d + 2) (by omega) hV hR hNs h.1.s4)) (fun r1 G1 hc1 => ?_)
  obtain ⟨⟨rfl, h2⟩, ef1, hI1, hr⟩ := hc1
  simp only [Option.toList_some, Option.toList_none, List.cons_append, List.nil_append]
  obtain ⟨-, l39, ⟨rd1, hV1, hR1⟩, -⟩ := hr.resolve_left (fun z => by cases z)
  refine y_ifc (e_243 (50, .ifCond .eq 12, 3) (List.mem_of_getElem? (i := 26) rfl)) rfl (fun hb => absurd hb (by decide)) (fun _ => ?_)
  refine y_aln (e_243 (53, .aload_n 0, 1) (List.mem_of_getElem? (i := 27) rfl)) g0 ?_
  refine y_st (e_243 (54, .bipush 59, 2) (List.mem_of_getElem? (i := 28) rfl)) ⟨rfl, rfl, rfl, rfl⟩ ?_
  refine y_c2 (K' := _) (e_243 (56, .invokevirtual 226, 3) (List.mem_of_getElem? (i := 29) rfl)) ⟨rfl, rfl, rfl⟩ t_17_226 ⟨by decide, by decide, by decide, by decide⟩ m_180_ok rfl (by decide) (y_recv h2.1.I h2.1.t ⟨rfl, rfl⟩) (Nat.le_of_ble_eq_true rfl) (Nat.le_of_ble_eq_true rfl) ((k_sign_no h2 h4).and (g_sign (d := d + 3) (by omega) hI1 h.1.t h2.1.s11 h2.1.s4)) (fun r1 G2 hc1 => ?_)
  obtain ⟨⟨rfl, h15⟩, ef2, hI2, -⟩ := hc1
  simp only [Option.toList_some, Option.toList_none, List.cons_append, List.nil_append]
  refine y_ifc (e_243 (59, .ifCond .ne 11, 3) (List.mem_of_getElem? (i := 30) rfl)) rfl (fun hb => absurd hb (by decide)) (fun _ => ?_)
  obtain ⟨fa, hfa, -⟩ := y_fint (i := 16) hI2 h.1.t rfl
  refine y_st (e_243 (62, .bipush (-2), 2) (List.mem_of_getElem? (i := 31) rfl)) ⟨rfl, rfl, rfl, rfl⟩ ?_
  refine y_aln (e_243 (64, .aload_n 0, 1) (List.mem_of_getElem? (i := 32) rfl)) g0 ?_
  refine y_getf hI2 h.1.t (e_243 (65, .getfield 161, 3) (List.mem_of_getElem? (i := 33) rfl)) u_17_161 ⟨rfl, rfl⟩ hfa ?_
  refine y_st (e_243 (68, .isub, 1) (List.mem_of_getElem? (i := 34) rfl)) ⟨rfl, rfl, rfl, rfl⟩ ?_
  exact y_ret (e_243 (69, .ireturn, 1) (List.mem_of_getElem? (i := 35) rfl)) ⟨rfl, y_ri⟩ h15.2
set_option maxHeartbeats 2000000 in
set_option maxRecDepth 100000 in
theorem vg_go (h : MS th0 349 350 352 354 355 f n lim nx tok pl sp mu wd hf nf on G) (M : MGf nt nn k G) (R : RG k G) (hd : 307 ≤ d) (hk : k < 40) (g0 : pm_get lv 0 = some (.ref 349)) (g1 : pm_get lv 1 = some (.int x1)) (c0 : tok ≠ Int32.ofInt 0) (hm : x_Gd xs L J (d + 3) m_244 (fun r G' => r = some (.int 1) ∧ MS th0 349 350 352 354 355 f n lim nx2 tok2 pl2 sp2 mu2 wd2 hf nf on G') 0 (lv_args 0 [.ref 349]) [] G) (h4 : tok2 = Int32.ofInt 3 ∧ mu2 = (Int8.ofInt 59).toInt32) (hN : NXm f n lim nx2 mu2 wd2 nx3 tok3 pl3 sp3 mu3 wd3) (hk39 : ∀ G' : List pE, MS th0 349 350 352 354 355 f n lim nx3 tok3 pl3 sp3 mu3 wd3 hf nf on G' → MGf nt nn (k + 1) G' → RG (k + 1) G' → x_Gd xs L J (d + 4) m_243 K 39 lv [] G') : x_Gd xs L J (d + 4) m_243 K 39 lv [] G := by
  obtain ⟨⟨rb, rd, hV, hR⟩, hNs, hQ⟩ := R
  refine y_aln (e_243 (39, .aload_n 0, 1) (List.mem_of_getElem? (i := 21) rfl)) g0 ?_
  refine y_getf h.1.I h.1.t (e_243 (40, .getfield 141, 3) (List.mem_of_getElem? (i := 22) rfl)) u_17_141 ⟨rfl, rfl⟩ h.1.s11 ?_
  refine y_ifc (e_243 (43, .ifCond .eq 40, 3) (List.mem_of_getElem? (i := 23) rfl)) rfl (fun hc => absurd (y_hI.1 hc) c0) (fun _ => ?_)
  refine y_aln (e_243 (46, .aload_n 0, 1) (List.mem_of_getElem? (i := 24) rfl)) g0 ?_
  refine y_c1 (K' := _) (e_243 (47, .invokevirtual 359, 3) (List.mem_of_getElem? (i := 25) rfl)) ⟨rfl, rfl, rfl⟩ t_17_359 ⟨by decide, by decide, by decide, by decide⟩ m_244_ok rfl (by decide) (y_recv h.1.I h.1.t ⟨rfl, rfl⟩) (Nat.le_of_ble_eq_true rfl) (Nat.le_of_ble_eq_true rfl) (hm.and (g_logLineC (d := d + 2) (by omega) hV hR hNs h.1.s4)) (fun r1 G1 hc1 => ?_)
  obtain ⟨⟨rfl, h2⟩, ef1, hI1, hr⟩ := hc1
  simp only [Option.toList_some, Option.toList_none, List.cons_append, List.nil_append]
  obtain ⟨-, l39, ⟨rd1, hV1, hR1⟩, -⟩ := hr.resolve_left (fun z => by cases z)
  refine y_ifc (e_243 (50, .ifCond .eq 12, 3) (List.mem_of_getElem? (i := 26) rfl)) rfl (fun hb => absurd hb (by decide)) (fun _ => ?_)
  refine y_aln (e_243 (53, .aload_n 0, 1) (List.mem_of_getElem? (i := 27) rfl)) g0 ?_
  refine y_st (e_243 (54, .bipush 59, 2) (List.mem_of_getElem? (i := 28) rfl)) ⟨rfl, rfl, rfl, rfl⟩ ?_
  refine y_c2 (K' := _) (e_243 (56, .invokevirtual 226, 3) (List.mem_of_getElem? (i := 29) rfl)) ⟨rfl, rfl, rfl⟩ t_17_226 ⟨by decide, by decide, by decide, by decide⟩ m_180_ok rfl (by decide) (y_recv h2.1.I h2.1.t ⟨rfl, rfl⟩) (Nat.le_of_ble_eq_true rfl) (Nat.le_of_ble_eq_true rfl) ((k_sign_yes h2 h4 hN).and (g_sign (d := d + 3) (by omega) hI1 h.1.t h2.1.s11 h2.1.s4)) (fun r1 G2 hc1 => ?_)
  obtain ⟨⟨rfl, h3⟩, ef2, hI2, -⟩ := hc1
  simp only [Option.toList_some, Option.toList_none, List.cons_append, List.nil_append]
  refine y_ifc (e_243 (59, .ifCond .ne 11, 3) (List.mem_of_getElem? (i := 30) rfl)) rfl (fun _ => ?_) (fun hb => absurd hb (by decide))
  have ta := h.1.t
  have hV2 := hV1.eff hI2 ef2 rfl (by decide)
  have e := s_toI (a := k) (by omega)
  have e1 := s_toI (a := k + 1) (by omega)
  refine y_aln (e_243 (70, .aload_n 0, 1) (List.mem_of_getElem? (i := 36) rfl)) g0 ?_
  refine y_st (e_243 (71, .dup, 1) (List.mem_of_getElem? (i := 37) rfl)) ⟨rfl, rfl, rfl, rfl⟩ ?_
  refine y_getf hI2 ta (e_243 (72, .getfield 356, 3) (List.mem_of_getElem? (i := 38) rfl)) u_17_356 ⟨rfl, rfl⟩ hV2.2.2.2.2.2 ?_
  refine y_st (e_243 (75, .iconst 1, 1) (List.mem_of_getElem? (i := 39) rfl)) ⟨rfl, rfl, rfl, rfl⟩ ?_
  refine y_st (e_243 (76, .iadd, 1) (List.mem_of_getElem? (i := 40) rfl)) ⟨rfl, rfl, rfl, rfl⟩ ?_
  rw [s_inc]
  refine y_putf (f := (0, 0, 40)) hI2 ta (e_243 (77, .putfield 356, 3) (List.mem_of_getElem? (i := 41) rfl)) u_17_356 ⟨rfl, rfl, by decide, rfl, rfl⟩ ⟨_, rfl, by show (0 : Int) ≤ _; omega, by show _ ≤ (40 : Int); omega⟩ (fun G3 u3 => ?_)
  have hI3 := hI2.upd u3 ta (y_okI (lo := 0) (hi := 40) rfl (by omega) (by omega))
  have ef3 : x_eff th0 [(10, 32, 32)] G2 G3 := x_eff.upd u3 ta (q := (10, 32, 32)) List.mem_cons_self rfl (by decide) (by decide)
  have hV3 : z_RV th0 G3 349 rb rd1 (Int32.ofNat (k + 1)) := ⟨hI3, ta, by rw [ef3.at ta rfl]; exact hV2.2.2.1, hV2.2.2.2.1, fun i hi => by rw [ef3.at hV2.2.2.2.1 rfl]; exact hV2.2.2.2.2.1 i hi, by rw [u3.2.1, if_pos ⟨rfl, rfl⟩]⟩
  refine y_st (e_243 (80, .goto (-41), 3) (List.mem_of_getElem? (i := 42) rfl)) ⟨rfl, rfl, rfl, rfl⟩ ?_
  refine hk39 G3 (h3.o32 u3 hI3) ⟨by rw [u3.2.1, if_pos ⟨rfl, rfl⟩], ?_, ?_, ?_⟩ ⟨⟨rb, rd1, hV3, by rw [show (Int32.ofNat (k + 1)).toInt = (Int32.ofNat k).toInt + 1 by rw [e, e1]; omega]; exact hR1⟩, ((hNs.eff ta h.1.I ef1 rfl (by decide)).eff ta hI1 ef2 rfl (by decide)).eff ta hI2 ef3 rfl (by decide), x_Q_eff (by decide) ef3 (x_Q_eff (by decide) ef2 (x_Q_eff (by decide) ef1 hQ))⟩
  · rw [ef3.at ta rfl, ef2.at ta rfl, ef1.at ta rfl]
    exact M.2.1
  · rw [ef3.at th0_351.1 rfl, ef2.at th0_351.1 rfl, ef1.at th0_351.1 rfl]
    exact M.2.2.1
  · rw [ef3.at th0_351.1 rfl, ef2.at th0_351.1 rfl, ef1.at th0_351.1 rfl]
    exact M.2.2.2
end LGL
section LGB
variable {f : Nat → Int32} {n lim : Int32} {nt nn on : Int32} {tn mn nf : Nat → Int64} {hf : Nat → Int32}
set_option maxHeartbeats 2000000 in
/-- the LINES are read on both sides with the same kind of FAULT -/
theorem p_lgloop (hn : n.toInt ≤ 940) (hfb : ∀ i, i < 940 → -128 ≤ (f i).toInt ∧ (f i).toInt ≤ 127) (hD : LGD nt nn tn mn nf) : ∀ (m k : Nat) (nx : Int32) (tk : Nat) (pl num : Int32) (nm : Int64) (tok sp mu : Int32) (wd : Int64), 40 - k = m → k ≤ 40 → (0 ≤ nx.toInt ∧ nx.toInt ≤ n.toInt) → TR tk num nm tok mu wd →
    ∃ q : Int32, (∀ (xs : Nat → Int32) (L J d lc : Nat) (ft fp : Int32) (G : List pE) (lv : pL), ft = Int32.ofInt 0 → CL f n lim nx tk pl num nm ft fp lc nt nn tn mn k G → pm_get lv 0 = some (.ref lc) → pm_get lv 1 = some (.ref 1) → pm_get lv 2 = some (.ref 6) → pm_get lv 3 = some (.int (Int32.ofNat k)) → x_Gd xs L J (d + 4) m_130 (fun r G' => (∃ z : Int32, r = some (.int z)) ∧ x_sl G' 1 8 = some (.int (q))) 14 lv [] G) ∧
      (∀ (xs : Nat → Int32) (L J d : Nat) (x1 : Int32) (G : List pE) (lv : pL), 307 ≤ d → (0 ≤ x1.toInt ∧ x1.toInt ≤ 1) → MS th0 349 350 352 354 355 f n lim nx tok pl sp mu wd hf nf on G → MGf nt nn k G → RG k G → pm_get lv 0 = some (.ref 349) → pm_get lv 1 = some (.int x1) → x_Gd xs L J (d + 4) m_243 (fun _ G' => x_sl G' 349 15 = some (.int (q))) 39 lv [] G) := by
  intro m
  induction m with
  | zero =>
    intro k nx tk pl num nm tok sp mu wd hm hk hP tr
    by_cases c0 : tk = 0
    · exact ⟨Int32.ofInt 0, fun xs L J d lc ft fp G lv e h g0 g1 g2 g3 => e ▸ cg_end h hk g0 g1 g2 g3 c0, fun xs L J d x1 G lv hd hx h M R g0 g1 => vg_end h R hd hx g0 g1 (tr.end9.mp c0)⟩
    have c0' : tok ≠ Int32.ofInt 0 := fun z => c0 (tr.end9.mpr z)
    rcases p_lgl (lim := lim) (pl := pl) (sp := sp) (hf := hf) (on := on) hn hP hfb tr hD hk with ⟨q, hc, hm⟩ | ⟨k40, -⟩
    · exact ⟨q, fun xs L J d lc ft fp G lv e h g0 g1 g2 g3 => cg_no h hk g0 g1 g2 g3 c0 (hc xs L J d lc ft fp G h), fun xs L J d x1 G lv hd hx h M R g0 g1 => vg_no h R hd g0 g1 c0' (hm xs L J d G h M)⟩
    · omega
  | succ m ih =>
    intro k nx tk pl num nm tok sp mu wd hm hk hP tr
    by_cases c0 : tk = 0
    · exact ⟨Int32.ofInt 0, fun xs L J d lc ft fp G lv e h g0 g1 g2 g3 => e ▸ cg_end h hk g0 g1 g2 g3 c0, fun xs L J d x1 G lv hd hx h M R g0 g1 => vg_end h R hd hx g0 g1 (tr.end9.mp c0)⟩
    have c0' : tok ≠ Int32.ofInt 0 := fun z => c0 (tr.end9.mpr z)
    rcases p_lgl (lim := lim) (pl := pl) (sp := sp) (hf := hf) (on := on) hn hP hfb tr hD hk with ⟨q, hc, hm⟩ | ⟨k40, nx2, tk2, pl2, num2, nm2, tok2, sp2, mu2, wd2, hP2, tr2, hc, hm⟩
    · exact ⟨q, fun xs L J d lc ft fp G lv e h g0 g1 g2 g3 => cg_no h hk g0 g1 g2 g3 c0 (hc xs L J d lc ft fp G h), fun xs L J d x1 G lv hd hx h M R g0 g1 => vg_no h R hd g0 g1 c0' (hm xs L J d G h M)⟩
    by_cases c4 : tk2 = 4
    rotate_left
    · exact ⟨Int32.ofInt 1, fun xs L J d lc ft fp G lv e h g0 g1 g2 g3 => cg_semi h hk g0 g1 g2 g3 c0 (hc xs L J d lc ft fp G h) c4, fun xs L J d x1 G lv hd hx h M R g0 g1 => vg_semi h R hd g0 g1 c0' (hm xs L J d G h M) (fun z => c4 (tr2.semi.mpr z))⟩
    obtain ⟨nx3, tk3, pl3, num3, nm3, tok3, mu3, sp3, wd3, hP3, -, tr3, N3, M3⟩ := t_nx (lim := lim) hn hP2 hfb num2 nm2 mu2 wd2
    obtain ⟨q, hc2, hm2⟩ := ih (k + 1) nx3 tk3 pl3 num3 nm3 tok3 sp3 mu3 wd3 (by omega) (by omega) hP3 tr3
    exact ⟨q, fun xs L J d lc ft fp G lv e h g0 g1 g2 g3 => cg_go h hk g0 g1 g2 g3 c0 (hc xs L J d lc ft fp G h) c4 N3 (fun G' lv' h' a0 a1 a2 a3 => hc2 xs L J d lc ft fp G' lv' e h' a0 a1 a2 a3), fun xs L J d x1 G lv hd hx h M R g0 g1 => vg_go h M R hd k40 g0 g1 c0' (hm xs L J d G h M) (tr2.semi.mp c4) M3 (fun G' h' M' R' => hm2 xs L J d x1 G' lv hd hx h' M' R' g0 g1)⟩
end LGB
