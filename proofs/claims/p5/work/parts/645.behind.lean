section ZC
variable {th : List Nat} {xs : Nat → Int32} {L J d a rb sb : Nat}
/-- effects ahead of what behind() leaves -/
theorem z_P.pre {F F0 : Nat → Option Value} {n n0 : Int} {G0 G G' : List pE} {r : Option Value} (h : z_P th G a rb sb F n r G') (he : x_eff th E_beh G0 G) (hF : F 37 = F0 37) (hn : n = n0) : z_P th G0 a rb sb F0 n0 r G' := by
  subst hn
  obtain ⟨h1, h2, h3⟩ := h
  exact ⟨he.tr h1, h2, h3.imp id (fun z => ⟨z.1, by obtain ⟨F', rd', st', c', t', w', y1, y2, y3⟩ := z.2; exact ⟨F', rd', st', c', t', w', y1, y2.trans hF, y3⟩⟩)⟩
set_option maxHeartbeats 2000000 in
set_option maxRecDepth 100000 in
theorem g_beh45 (hd : 192 ≤ d + 1) {F : Nat → Option Value} {rd st : Nat → Int32} {G : List pE} {c t : Int32} (hS : z_S th G a rb sb F rd st c t 1) (hct : c.toInt + t.toInt ≤ 39) : x_Gd xs L J (d + 2) m_251 (z_P th G a rb sb F (c.toInt + t.toInt)) 45 [(0, .ref a)] [] G := by
  obtain ⟨hV, hc, ht, c0, t0, ct, hW, hD⟩ := id hS
  have ta := hV.2.1
  refine y_aln (e_251 (45, .aload_n 0, 1) (List.mem_of_getElem? (i := 19) rfl)) rfl ?_
  refine y_getf hV.1 ta (e_251 (46, .getfield 62, 3) (List.mem_of_getElem? (i := 20) rfl)) u_17_62 ⟨rfl, rfl⟩ ((hV.2.2.1 35).trans hV.2.2.2.2.1) ?_
  refine y_aln (e_251 (49, .aload_n 0, 1) (List.mem_of_getElem? (i := 21) rfl)) rfl ?_
  refine y_getf hV.1 ta (e_251 (50, .getfield 371, 3) (List.mem_of_getElem? (i := 22) rfl)) u_17_371 ⟨rfl, rfl⟩ ((hV.2.2.1 38).trans ht) ?_
  refine y_aln (e_251 (53, .aload_n 0, 1) (List.mem_of_getElem? (i := 23) rfl)) rfl ?_
  refine y_st (e_251 (54, .ldc2_w 110, 3) (List.mem_of_getElem? (i := 24) rfl)) ⟨rfl, rfl, rfl, rfl⟩ ?_
  refine y_c2 (K' := _) (e_251 (57, .invokevirtual 198, 3) (List.mem_of_getElem? (i := 25) rfl)) ⟨rfl, rfl, rfl⟩ t_17_198 ⟨by decide, by decide, by decide, by decide⟩ m_168_ok rfl (by decide) (y_recv hS.1.1 ta ⟨rfl, rfl⟩) (Nat.le_of_ble_eq_true rfl) (Nat.le_of_ble_eq_true rfl) (g_isWord (d := d + 1) hS.1.1 ta (by omega) _) (fun r1 G1 h1 => ?_)
  obtain ⟨y, rfl, hy, hI1, ef1⟩ := h1
  simp only [Option.toList_some, Option.toList_none, List.cons_append, List.nil_append]
  have hS1 := hS.eff0 hI1 ef1
  refine y_ifc (e_251 (60, .ifCond .eq 8, 3) (List.mem_of_getElem? (i := 26) rfl)) rfl (fun hb => ?_) (fun hb => ?_)
  · refine y_st (e_251 (68, .bipush 22, 2) (List.mem_of_getElem? (i := 29) rfl)) ⟨rfl, rfl, rfl, rfl⟩ ?_
    exact (g_beh70 (x := (Int8.ofInt 22).toInt32) hd hS1 (Or.inr (by decide)) hct).mono (fun r G' h => h.pre (ef1.sub (by decide)) rfl rfl)
  · refine y_st (e_251 (63, .bipush 21, 2) (List.mem_of_getElem? (i := 27) rfl)) ⟨rfl, rfl, rfl, rfl⟩ ?_
    refine y_st (e_251 (65, .goto 5, 3) (List.mem_of_getElem? (i := 28) rfl)) ⟨rfl, rfl, rfl, rfl⟩ ?_
    exact (g_beh70 (x := (Int8.ofInt 21).toInt32) hd hS1 (Or.inl (by decide)) hct).mono (fun r G' h => h.pre (ef1.sub (by decide)) rfl rfl)
set_option maxHeartbeats 2000000 in
set_option maxRecDepth 100000 in
theorem g_beh24 (hd : 192 ≤ d + 1) {F : Nat → Option Value} {rd st : Nat → Int32} {G : List pE} {c t : Int32} (hS : z_S th G a rb sb F rd st c t 1) (hct : c.toInt + t.toInt ≤ 39) : x_Gd xs L J (d + 2) m_251 (z_P th G a rb sb F (c.toInt + t.toInt)) 24 [(0, .ref a)] [] G := by
  obtain ⟨hV, hc, ht, c0, t0, ct, hW, hD⟩ := id hS
  have ta := hV.2.1
  refine y_aln (e_251 (24, .aload_n 0, 1) (List.mem_of_getElem? (i := 10) rfl)) rfl ?_
  refine y_aln (e_251 (25, .aload_n 0, 1) (List.mem_of_getElem? (i := 11) rfl)) rfl ?_
  refine y_st (e_251 (26, .ldc2_w 110, 3) (List.mem_of_getElem? (i := 12) rfl)) ⟨rfl, rfl, rfl, rfl⟩ ?_
  refine y_c2 (K' := _) (e_251 (29, .invokevirtual 198, 3) (List.mem_of_getElem? (i := 13) rfl)) ⟨rfl, rfl, rfl⟩ t_17_198 ⟨by decide, by decide, by decide, by decide⟩ m_168_ok rfl (by decide) (y_recv hS.1.1 ta ⟨rfl, rfl⟩) (Nat.le_of_ble_eq_true rfl) (Nat.le_of_ble_eq_true rfl) (g_isWord (d := d + 1) hS.1.1 ta (by omega) _) (fun r1 G1 h1 => ?_)
  obtain ⟨y, rfl, hy, hI1, ef1⟩ := h1
  simp only [Option.toList_some, Option.toList_none, List.cons_append, List.nil_append]
  have hS1 := hS.eff0 hI1 ef1
  have tail : ∀ x : Int32, x_Gd xs L J (d + 2) m_251 (z_P th G a rb sb F (c.toInt + t.toInt)) 42 [(0, .ref a)] [.int x, .ref a] G1 := by
    intro x
    refine y_c2 (K' := _) (e_251 (42, .invokevirtual 393, 3) (List.mem_of_getElem? (i := 18) rfl)) ⟨rfl, rfl, rfl⟩ t_17_393 ⟨by decide, by decide, by decide, by decide⟩ m_250_ok rfl (by decide) (y_recv hI1 ta ⟨rfl, rfl⟩) (Nat.le_of_ble_eq_true rfl) (Nat.le_of_ble_eq_true rfl) (g_joins (d := d) t.toInt.toNat F rd G1 c t (by omega) hS1) (fun r1 G2 h1 => ?_)
    obtain ⟨rfl, ef2, F2, rd2, c2, t2, hS2, k2, s2, -⟩ := h1
    simp only [Option.toList_some, Option.toList_none, List.cons_append, List.nil_append]
    exact (g_beh45 hd hS2 (by omega)).mono (fun r G' h => h.pre ((ef1.sub (by decide)).tr (ef2.sub (by decide))) (k2 37 (by decide) (by decide) (by decide)) (by omega))
  refine y_ifc (e_251 (32, .ifCond .eq 8, 3) (List.mem_of_getElem? (i := 14) rfl)) rfl (fun hb => ?_) (fun hb => ?_)
  · refine y_st (e_251 (40, .bipush 22, 2) (List.mem_of_getElem? (i := 17) rfl)) ⟨rfl, rfl, rfl, rfl⟩ ?_
    exact tail _
  · refine y_st (e_251 (35, .bipush 21, 2) (List.mem_of_getElem? (i := 15) rfl)) ⟨rfl, rfl, rfl, rfl⟩ ?_
    refine y_st (e_251 (37, .goto 5, 3) (List.mem_of_getElem? (i := 16) rfl)) ⟨rfl, rfl, rfl, rfl⟩ ?_
    exact tail _
set_option maxHeartbeats 2000000 in
set_option maxRecDepth 100000 in
theorem g_beh92 (hd : 192 ≤ d + 1) {F : Nat → Option Value} {rd st : Nat → Int32} {G : List pE} {c t : Int32} (hS : z_S th G a rb sb F rd st c t 1) (hct : c.toInt + t.toInt ≤ 39) (h40 : F 40 = some (.int 1)) : x_Gd xs L J (d + 2) m_251 (z_P th G a rb sb F (c.toInt + t.toInt)) 92 [(0, .ref a)] [] G := by
  obtain ⟨hV, hc, ht, c0, t0, ct, hW, hD⟩ := id hS
  have ta := hV.2.1
  refine y_aln (e_251 (92, .aload_n 0, 1) (List.mem_of_getElem? (i := 44) rfl)) rfl ?_
  refine y_st (e_251 (93, .bipush 22, 2) (List.mem_of_getElem? (i := 45) rfl)) ⟨rfl, rfl, rfl, rfl⟩ ?_
  refine y_c2 (K' := _) (e_251 (95, .invokevirtual 393, 3) (List.mem_of_getElem? (i := 46) rfl)) ⟨rfl, rfl, rfl⟩ t_17_393 ⟨by decide, by decide, by decide, by decide⟩ m_250_ok rfl (by decide) (y_recv hS.1.1 ta ⟨rfl, rfl⟩) (Nat.le_of_ble_eq_true rfl) (Nat.le_of_ble_eq_true rfl) (g_joins (d := d) t.toInt.toNat F rd G c t (by omega) hS) (fun r1 G2 h1 => ?_)
  obtain ⟨rfl, ef2, F2, rd2, c2, t2, hS2, k2, s2, e2⟩ := h1
  simp only [Option.toList_some, Option.toList_none, List.cons_append, List.nil_append]
  refine y_aln (e_251 (98, .aload_n 0, 1) (List.mem_of_getElem? (i := 47) rfl)) rfl ?_
  refine y_st (e_251 (99, .bipush 41, 2) (List.mem_of_getElem? (i := 48) rfl)) ⟨rfl, rfl, rfl, rfl⟩ ?_
  refine y_c2 (K' := _) (e_251 (101, .invokevirtual 164, 3) (List.mem_of_getElem? (i := 49) rfl)) ⟨rfl, rfl, rfl⟩ t_17_164 ⟨by decide, by decide, by decide, by decide⟩ m_181_ok rfl (by decide) (y_recv hS2.1.1 ta ⟨rfl, rfl⟩) (Nat.le_of_ble_eq_true rfl) (Nat.le_of_ble_eq_true rfl) (g_isSign (d := d + 1) hS2.1.1 ta (by omega) _) (fun r1 G3 h1 => ?_)
  obtain ⟨y, rfl, hy, hI3, ef3⟩ := h1
  simp only [Option.toList_some, Option.toList_none, List.cons_append, List.nil_append]
  have hS3 := hS2.eff0 hI3 ef3
  have ef : x_eff th E_beh G G3 := (ef2.sub (by decide)).tr (ef3.sub (by decide))
  obtain ⟨hV3, hc3, ht3, c03, t03, ct3, hW3, hD3⟩ := id hS3
  refine y_ifc (e_251 (104, .ifCond .eq 10, 3) (List.mem_of_getElem? (i := 50) rfl)) rfl (fun hb => ?_) (fun hb => ?_)
  · refine y_aln (e_251 (114, .aload_n 0, 1) (List.mem_of_getElem? (i := 54) rfl)) rfl ?_
    refine y_st (e_251 (115, .iconst 1, 1) (List.mem_of_getElem? (i := 55) rfl)) ⟨rfl, rfl, rfl, rfl⟩ ?_
    refine y_c2 (K' := _) (e_251 (116, .invokevirtual 167, 3) (List.mem_of_getElem? (i := 56) rfl)) ⟨rfl, rfl, rfl⟩ t_17_167 ⟨by decide, by decide, by decide, by decide⟩ m_171_ok rfl (by decide) (y_recv hI3 ta ⟨rfl, rfl⟩) (Nat.le_of_ble_eq_true rfl) (Nat.le_of_ble_eq_true rfl) (g_bad (d := d + 1) hI3 ta (by omega) _) (fun r1 G9 h1 => ?_)
    obtain ⟨rfl, hI9, ef9⟩ := h1
    simp only [Option.toList_some, Option.toList_none, List.cons_append, List.nil_append]
    refine y_ret (e_251 (119, .ireturn, 1) (List.mem_of_getElem? (i := 57) rfl)) ⟨rfl, y_rb (by decide)⟩ ⟨(ef).tr (ef9.sub (by decide)), hI9, Or.inl rfl⟩
  · refine y_aln (e_251 (107, .aload_n 0, 1) (List.mem_of_getElem? (i := 51) rfl)) rfl ?_
    refine y_getf hV3.1 ta (e_251 (108, .getfield 371, 3) (List.mem_of_getElem? (i := 52) rfl)) u_17_371 ⟨rfl, rfl⟩ ((hV3.2.2.1 38).trans ht3) ?_
    refine y_ifc (e_251 (111, .ifCond .ne 9, 3) (List.mem_of_getElem? (i := 53) rfl)) rfl (fun b2 => ?_) (fun b2 => ?_)
    · have tn := y_hI.2.2.1 b2
      have t1 : 1 ≤ t2.toInt := by
        have : t2.toInt ≠ 0 := fun z => tn (y_i0 z)
        omega
      have e1 := y_sub1 (t := t2) t1
      have nb := (e2 (by decide)).resolve_left (by omega)
      refine y_aln (e_251 (120, .aload_n 0, 1) (List.mem_of_getElem? (i := 58) rfl)) rfl ?_
      refine y_st (e_251 (121, .dup, 1) (List.mem_of_getElem? (i := 59) rfl)) ⟨rfl, rfl, rfl, rfl⟩ ?_
      refine y_getf hV3.1 ta (e_251 (122, .getfield 371, 3) (List.mem_of_getElem? (i := 60) rfl)) u_17_371 ⟨rfl, rfl⟩ ((hV3.2.2.1 38).trans ht3) ?_
      refine y_st (e_251 (125, .iconst 1, 1) (List.mem_of_getElem? (i := 61) rfl)) ⟨rfl, rfl, rfl, rfl⟩ ?_
      refine y_st (e_251 (126, .isub, 1) (List.mem_of_getElem? (i := 62) rfl)) ⟨rfl, rfl, rfl, rfl⟩ ?_
      refine y_putf (f := (0, 0, 45)) hV3.1 ta (e_251 (127, .putfield 371, 3) (List.mem_of_getElem? (i := 63) rfl)) u_17_371 ⟨rfl, rfl, by decide, rfl, rfl⟩ ⟨_, rfl, by show (0 : Int) ≤ _; omega, by show _ ≤ (45 : Int); omega⟩ (fun G4 u4 => ?_)
      have hV4 := hV3.putF u4 (y_okI rfl (by show (0 : Int) ≤ _; omega) (by show _ ≤ (45 : Int); omega)) ⟨by decide, by decide⟩
      have ef4 := x_eff.upd (E := E_beh) u4 ta (q := (10, 36, 40)) List.mem_cons_self rfl (by decide) (by decide)
      obtain ⟨dp, hdp, -⟩ := hV4.int (i := 39) rfl
      refine y_aln (e_251 (130, .aload_n 0, 1) (List.mem_of_getElem? (i := 64) rfl)) rfl ?_
      refine y_st (e_251 (131, .dup, 1) (List.mem_of_getElem? (i := 65) rfl)) ⟨rfl, rfl, rfl, rfl⟩ ?_
      refine y_getf hV4.1 ta (e_251 (132, .getfield 378, 3) (List.mem_of_getElem? (i := 66) rfl)) u_17_378 ⟨rfl, rfl⟩ ((hV4.2.2.1 39).trans hdp) ?_
      refine y_st (e_251 (135, .iconst 1, 1) (List.mem_of_getElem? (i := 67) rfl)) ⟨rfl, rfl, rfl, rfl⟩ ?_
      refine y_st (e_251 (136, .isub, 1) (List.mem_of_getElem? (i := 68) rfl)) ⟨rfl, rfl, rfl, rfl⟩ ?_
      refine y_putf (f := (0, -2147483648, 2147483647)) hV4.1 ta (e_251 (137, .putfield 378, 3) (List.mem_of_getElem? (i := 69) rfl)) u_17_378 ⟨rfl, rfl, by decide, rfl, rfl⟩ ⟨_, rfl, (x_i32 _).1, (x_i32 _).2⟩ (fun G5 u5 => ?_)
      have hV5 := hV4.putF u5 (y_okA rfl) ⟨by decide, by decide⟩
      have ef5 := x_eff.upd (E := E_beh) u5 ta (q := (10, 36, 40)) List.mem_cons_self rfl (by decide) (by decide)
      have bt := z_B_at (st := st) (t := t2) t1
      rw [if_neg nb] at bt
      obtain ⟨wv, hwv, hw1⟩ : ∃ y : Int32, F2 40 = some (.int y) ∧ y.toInt = 1 := ⟨1, (k2 40 (by decide) (by decide) (by decide)).trans h40, rfl⟩
      have hS5 : z_S th G5 a rb sb _ rd2 st c2 (t2 - Int32.ofInt 1) 1 := ⟨hV5, hc3, rfl, c03, by omega, by omega, hW3, by rw [e1]; omega⟩
      refine y_aln (e_251 (140, .aload_n 0, 1) (List.mem_of_getElem? (i := 70) rfl)) rfl ?_
      refine y_c1 (K' := _) (e_251 (141, .invokevirtual 170, 3) (List.mem_of_getElem? (i := 71) rfl)) ⟨rfl, rfl, rfl⟩ t_17_170 ⟨by decide, by decide, by decide, by decide⟩ m_163_ok rfl (by decide) (y_recv hV5.1 ta ⟨rfl, rfl⟩) (Nat.le_of_ble_eq_true rfl) (Nat.le_of_ble_eq_true rfl) (g_next (d := d + 1) hV5.1 ta (by omega)) (fun r1 G6 h1 => ?_)
      obtain ⟨rfl, hI6, ef6⟩ := h1
      simp only [Option.toList_some, Option.toList_none, List.cons_append, List.nil_append]
      obtain ⟨F6, hS6, q37, q40⟩ := hS5.effN hI6 ef6
      refine y_st (e_251 (144, .iconst 1, 1) (List.mem_of_getElem? (i := 72) rfl)) ⟨rfl, rfl, rfl, rfl⟩ ?_
      refine y_ret (e_251 (145, .ireturn, 1) (List.mem_of_getElem? (i := 73) rfl)) ⟨rfl, y_rb (by decide)⟩ ⟨((ef.tr ef4).tr ef5).tr (ef6.sub (by decide)), hI6, Or.inr ⟨rfl, F6, rd2, st, c2, _, 1, hS6, q37.trans (k2 37 (by decide) (by decide) (by decide)), ⟨wv, q40.trans hwv, hw1⟩, Or.inr ⟨rfl, by omega⟩⟩⟩
    · refine y_aln (e_251 (114, .aload_n 0, 1) (List.mem_of_getElem? (i := 54) rfl)) rfl ?_
      refine y_st (e_251 (115, .iconst 1, 1) (List.mem_of_getElem? (i := 55) rfl)) ⟨rfl, rfl, rfl, rfl⟩ ?_
      refine y_c2 (K' := _) (e_251 (116, .invokevirtual 167, 3) (List.mem_of_getElem? (i := 56) rfl)) ⟨rfl, rfl, rfl⟩ t_17_167 ⟨by decide, by decide, by decide, by decide⟩ m_171_ok rfl (by decide) (y_recv hI3 ta ⟨rfl, rfl⟩) (Nat.le_of_ble_eq_true rfl) (Nat.le_of_ble_eq_true rfl) (g_bad (d := d + 1) hI3 ta (by omega) _) (fun r1 G9 h1 => ?_)
      obtain ⟨rfl, hI9, ef9⟩ := h1
      simp only [Option.toList_some, Option.toList_none, List.cons_append, List.nil_append]
      refine y_ret (e_251 (119, .ireturn, 1) (List.mem_of_getElem? (i := 57) rfl)) ⟨rfl, y_rb (by decide)⟩ ⟨(ef).tr (ef9.sub (by decide)), hI9, Or.inl rfl⟩
set_option maxHeartbeats 2000000 in
set_option maxRecDepth 100000 in
theorem g_behind (hd : 192 ≤ d + 1) {F : Nat → Option Value} {rd st : Nat → Int32} {G : List pE} {c t : Int32} (hS : z_S th G a rb sb F rd st c t 1) (hct : c.toInt + t.toInt ≤ 39) (h40 : F 40 = some (.int 1)) : x_Gd xs L J (d + 2) m_251 (z_P th G a rb sb F (c.toInt + t.toInt)) 0 [(0, .ref a)] [] G := by
  obtain ⟨hV, hc, ht, c0, t0, ct, hW, hD⟩ := id hS
  have ta := hV.2.1
  refine y_aln (e_251 (0, .aload_n 0, 1) (List.mem_of_getElem? (i := 0) rfl)) rfl ?_
  refine y_c1 (K' := _) (e_251 (1, .invokevirtual 390, 3) (List.mem_of_getElem? (i := 1) rfl)) ⟨rfl, rfl, rfl⟩ t_17_390 ⟨by decide, by decide, by decide, by decide⟩ m_248_ok rfl (by decide) (y_recv hS.1.1 ta ⟨rfl, rfl⟩) (Nat.le_of_ble_eq_true rfl) (Nat.le_of_ble_eq_true rfl) (g_nots (d := d) t.toInt.toNat F rd G c t (by omega) hS) (fun r1 G1 h1 => ?_)
  obtain ⟨rfl, ef1, F1, rd1, c1, t1, hS1, k1, s1⟩ := h1
  simp only [Option.toList_some, Option.toList_none, List.cons_append, List.nil_append]
  refine y_aln (e_251 (4, .aload_n 0, 1) (List.mem_of_getElem? (i := 2) rfl)) rfl ?_
  refine y_st (e_251 (5, .ldc2_w 110, 3) (List.mem_of_getElem? (i := 3) rfl)) ⟨rfl, rfl, rfl, rfl⟩ ?_
  refine y_c2 (K' := _) (e_251 (8, .invokevirtual 198, 3) (List.mem_of_getElem? (i := 4) rfl)) ⟨rfl, rfl, rfl⟩ t_17_198 ⟨by decide, by decide, by decide, by decide⟩ m_168_ok rfl (by decide) (y_recv hS1.1.1 ta ⟨rfl, rfl⟩) (Nat.le_of_ble_eq_true rfl) (Nat.le_of_ble_eq_true rfl) (g_isWord (d := d + 1) hS1.1.1 ta (by omega) _) (fun r1 G2 h1 => ?_)
  obtain ⟨y, rfl, hy, hI2, ef2⟩ := h1
  simp only [Option.toList_some, Option.toList_none, List.cons_append, List.nil_append]
  have hS2 := hS1.eff0 hI2 ef2
  have e12 : x_eff th E_beh G G2 := (ef1.sub (by decide)).tr (ef2.sub (by decide))
  have f37 := k1 37 (by decide) (by decide) (by decide)
  have f40 := (k1 40 (by decide) (by decide) (by decide)).trans h40
  refine y_ifc (e_251 (11, .ifCond .ne 13, 3) (List.mem_of_getElem? (i := 5) rfl)) rfl (fun hb => ?_) (fun hb => ?_)
  · exact (g_beh24 hd hS2 (by omega)).mono (fun r G' h => h.pre e12 f37 (by omega))
  · refine y_aln (e_251 (14, .aload_n 0, 1) (List.mem_of_getElem? (i := 6) rfl)) rfl ?_
    refine y_st (e_251 (15, .ldc2_w 108, 3) (List.mem_of_getElem? (i := 7) rfl)) ⟨rfl, rfl, rfl, rfl⟩ ?_
    refine y_c2 (K' := _) (e_251 (18, .invokevirtual 198, 3) (List.mem_of_getElem? (i := 8) rfl)) ⟨rfl, rfl, rfl⟩ t_17_198 ⟨by decide, by decide, by decide, by decide⟩ m_168_ok rfl (by decide) (y_recv hI2 ta ⟨rfl, rfl⟩) (Nat.le_of_ble_eq_true rfl) (Nat.le_of_ble_eq_true rfl) (g_isWord (d := d + 1) hI2 ta (by omega) _) (fun r1 G3 h1 => ?_)
    obtain ⟨y3, rfl, hy3, hI3, ef3⟩ := h1
    simp only [Option.toList_some, Option.toList_none, List.cons_append, List.nil_append]
    have hS3 := hS2.eff0 hI3 ef3
    have e13 : x_eff th E_beh G G3 := e12.tr (ef3.sub (by decide))
    refine y_ifc (e_251 (21, .ifCond .eq 71, 3) (List.mem_of_getElem? (i := 9) rfl)) rfl (fun b2 => ?_) (fun b2 => ?_)
    · exact (g_beh92 hd hS3 (by omega) f40).mono (fun r G' h => h.pre e13 f37 (by omega))
    · exact (g_beh24 hd hS3 (by omega)).mono (fun r G' h => h.pre e13 f37 (by omega))
end ZC
