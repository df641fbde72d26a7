def d_252 : xD := [(0, .aload_n 0, 1), (1, .ldc2_w 112, 3), (4, .invokevirtual 198, 3), (7, .istore_n 1, 1), (8, .aload_n 0, 1), (9, .bipush 40, 2), (11, .invokevirtual 164, 3), (14, .istore_n 2, 1), (15, .aload_n 0, 1), (16, .invokevirtual 381, 3), (19, .istore_n 3, 1), (20, .iload_n 1, 1), (21, .ifCond .ne 17, 3), (24, .iload_n 2, 1), (25, .ifCond .ne 13, 3), (28, .iload_n 3, 1), (29, .ifCond .ge 9, 3), (32, .aload_n 0, 1), (33, .iconst 1, 1), (34, .invokevirtual 167, 3), (37, .ireturn, 1), (38, .aload_n 0, 1), (39, .getfield 384, 3), (42, .bipush 20, 2), (44, .if_icmp .eq 12, 3), (47, .aload_n 0, 1), (48, .getfield 378, 3), (51, .bipush 8, 2), (53, .if_icmp .le 9, 3), (56, .aload_n 0, 1), (57, .iconst 4, 1), (58, .invokevirtual 167, 3), (61, .ireturn, 1), (62, .aload_n 0, 1), (63, .dup, 1), (64, .getfield 384, 3), (67, .iconst 1, 1), (68, .iadd, 1), (69, .putfield 384, 3), (72, .aload_n 0, 1), (73, .invokevirtual 170, 3), (76, .iload_n 1, 1), (77, .ifCond .ne 7, 3), (80, .iload_n 2, 1), (81, .ifCond .eq 45, 3), (84, .aload_n 0, 1), (85, .getfield 62, 3), (88, .aload_n 0, 1), (89, .getfield 371, 3), (92, .iload_n 1, 1), (93, .ifCond .eq 8, 3), (96, .bipush 20, 2), (98, .goto 5, 3), (101, .bipush 23, 2), (103, .iastore, 1), (104, .aload_n 0, 1), (105, .dup, 1), (106, .getfield 371, 3), (109, .iconst 1, 1), (110, .iadd, 1), (111, .putfield 371, 3), (114, .aload_n 0, 1), (115, .dup, 1), (116, .getfield 378, 3), (119, .iconst 1, 1), (120, .iadd, 1), (121, .putfield 378, 3), (124, .iconst 1, 1), (125, .ireturn, 1), (126, .aload_n 0, 1), (127, .iconst 1, 1), (128, .putfield 387, 3), (131, .iload_n 3, 1), (132, .iconst 4, 1), (133, .if_icmp .ge 12, 3), (136, .aload_n 0, 1), (137, .iload_n 3, 1), (138, .iconst 0, 1), (139, .iconst 0, 1), (140, .invokevirtual 374, 3), (143, .iconst 1, 1), (144, .ireturn, 1), (145, .aload_n 0, 1), (146, .getfield 141, 3), (149, .iconst 3, 1), (150, .if_icmp .ne 21, 3), (153, .aload_n 0, 1), (154, .getfield 151, 3), (157, .bipush 60, 2), (159, .if_icmp .lt 12, 3), (162, .aload_n 0, 1), (163, .getfield 151, 3), (166, .bipush 62, 2), (168, .if_icmp .le 9, 3), (171, .aload_n 0, 1), (172, .iconst 1, 1), (173, .invokevirtual 167, 3), (176, .ireturn, 1), (177, .aload_n 0, 1), (178, .getfield 151, 3), (181, .istore 4, 2), (183, .aload_n 0, 1), (184, .invokevirtual 170, 3), (187, .aload_n 0, 1), (188, .getfield 141, 3), (191, .iconst 2, 1), (192, .if_icmp .eq 9, 3), (195, .aload_n 0, 1), (196, .iconst 1, 1), (197, .invokevirtual 167, 3), (200, .ireturn, 1), (201, .aload_n 0, 1), (202, .iload_n 3, 1), (203, .iload 4, 2), (205, .aload_n 0, 1), (206, .getfield 151, 3), (209, .invokevirtual 374, 3), (212, .aload_n 0, 1), (213, .invokevirtual 170, 3), (216, .iconst 1, 1), (217, .ireturn, 1)]
set_option maxRecDepth 100000 in
theorem d_252_ok : x_dchk 252 d_252 = true := by decide +kernel
def m_252 : pM := (⟨"BreathingHillModel", "operand", "()Z"⟩, 1837, 5, some (FieldType.boolean), 17, 0, false, 10, 103, 1836, 86)
set_option maxRecDepth 100000 in
theorem m_252_ok : pm_tab[252]? = some m_252 := rfl
theorem e_252 : ∀ q ∈ d_252, decode m_252.code q.1 = .ok (q.2.1, q.2.2) := y_dec d_252_ok m_252_ok
/-- what operand() leaves -/
def z_R (th : List Nat) (G : List pE) (a rb sb : Nat) (F : Nat → Option Value) (n : Int) (r : Option Value) (G' : List pE) : Prop := x_eff th E_beh G G' ∧ xI x_tb th G' ∧ (r = some (.int 0) ∨ (r = some (.int 1) ∧ ∃ F' rd' st' c' t' w', z_S th G' a rb sb F' rd' st' c' t' w' ∧ F' 37 = F 37 ∧ (∃ y : Int32, F' 40 = some (.int y) ∧ y.toInt = w') ∧ (w' = 0 ∨ w' = 1) ∧ c'.toInt + t'.toInt + w' ≤ n + 2))
section ZO
variable {th : List Nat} {xs : Nat → Int32} {L J d a rb sb : Nat}
set_option maxHeartbeats 2000000 in
set_option maxRecDepth 100000 in
theorem g_op84 {F : Nat → Option Value} {rd st : Nat → Int32} {G : List pE} {lv : pL} {c t nt w0 : Int32} (hS : z_S th G a rb sb F rd st c t 0) (h40 : F 40 = some (.int w0)) (hw0 : w0.toInt = 0) (hct : c.toInt + t.toInt ≤ 38) (g0 : pm_get lv 0 = some (.ref a)) (g1 : pm_get lv 1 = some (.int nt)) : x_Gd xs L J d m_252 (z_R th G a rb sb F (c.toInt + t.toInt)) 84 lv [] G := by
  obtain ⟨hV, hc, ht, c0, t0, ct, hW, hD⟩ := id hS
  have ta := hV.2.1
  have ts := hV.2.2.2.2.2.2.1
  have e1 := y_add1 (t := t) (by omega)
  have tail : ∀ x : Int32, ¬ (x = 21 ∨ x = 22) → x_Gd xs L J d m_252 (z_R th G a rb sb F (c.toInt + t.toInt)) 103 lv [.int x, .int t, .ref sb] G := by
    intro x hx
    refine y_iast hV.1 ts (e_252 (103, .iastore, 1) (List.mem_of_getElem? (i := 54) rfl)) ⟨rfl, rfl⟩ ⟨t0, by show _ < (45 : Int); omega⟩ (fun G1 u1 => ?_)
    have hV1 := hV.putS u1 (by omega)
    have ef1 := x_eff.upd (E := E_beh) u1 ts (q := (45, 0, 44)) (List.mem_of_getElem? (i := 2) rfl) rfl (Nat.zero_le _) (by show _ ≤ 44; omega)
    refine y_aln (e_252 (104, .aload_n 0, 1) (List.mem_of_getElem? (i := 55) rfl)) g0 ?_
    refine y_st (e_252 (105, .dup, 1) (List.mem_of_getElem? (i := 56) rfl)) ⟨rfl, rfl, rfl, rfl⟩ ?_
    refine y_getf hV1.1 ta (e_252 (106, .getfield 371, 3) (List.mem_of_getElem? (i := 57) rfl)) u_17_371 ⟨rfl, rfl⟩ ((hV1.2.2.1 38).trans ht) ?_
    refine y_st (e_252 (109, .iconst 1, 1) (List.mem_of_getElem? (i := 58) rfl)) ⟨rfl, rfl, rfl, rfl⟩ ?_
    refine y_st (e_252 (110, .iadd, 1) (List.mem_of_getElem? (i := 59) rfl)) ⟨rfl, rfl, rfl, rfl⟩ ?_
    refine y_putf (f := (0, 0, 45)) hV1.1 ta (e_252 (111, .putfield 371, 3) (List.mem_of_getElem? (i := 60) rfl)) u_17_371 ⟨rfl, rfl, by decide, rfl, rfl⟩ ⟨_, rfl, by show (0 : Int) ≤ _; omega, by show _ ≤ (45 : Int); omega⟩ (fun G2 u2 => ?_)
    have hV2 := hV1.putF u2 (y_okI rfl (by show (0 : Int) ≤ _; omega) (by show _ ≤ (45 : Int); omega)) ⟨by decide, by decide⟩
    have ef2 := x_eff.upd (E := E_beh) u2 ta (q := (10, 36, 40)) List.mem_cons_self rfl (by decide) (by decide)
    obtain ⟨dp, hdp, -⟩ := hV2.int (i := 39) rfl
    refine y_aln (e_252 (114, .aload_n 0, 1) (List.mem_of_getElem? (i := 61) rfl)) g0 ?_
    refine y_st (e_252 (115, .dup, 1) (List.mem_of_getElem? (i := 62) rfl)) ⟨rfl, rfl, rfl, rfl⟩ ?_
    refine y_getf hV2.1 ta (e_252 (116, .getfield 378, 3) (List.mem_of_getElem? (i := 63) rfl)) u_17_378 ⟨rfl, rfl⟩ ((hV2.2.2.1 39).trans hdp) ?_
    refine y_st (e_252 (119, .iconst 1, 1) (List.mem_of_getElem? (i := 64) rfl)) ⟨rfl, rfl, rfl, rfl⟩ ?_
    refine y_st (e_252 (120, .iadd, 1) (List.mem_of_getElem? (i := 65) rfl)) ⟨rfl, rfl, rfl, rfl⟩ ?_
    refine y_putf (f := (0, -2147483648, 2147483647)) hV2.1 ta (e_252 (121, .putfield 378, 3) (List.mem_of_getElem? (i := 66) rfl)) u_17_378 ⟨rfl, rfl, by decide, rfl, rfl⟩ ⟨_, rfl, (x_i32 _).1, (x_i32 _).2⟩ (fun G3 u3 => ?_)
    have hV3 := hV2.putF u3 (y_okA rfl) ⟨by decide, by decide⟩
    have ef3 := x_eff.upd (E := E_beh) u3 ta (q := (10, 36, 40)) List.mem_cons_self rfl (by decide) (by decide)
    have hB : z_B (fun k => if k = t.toInt.toNat then x else st k) (t + Int32.ofInt 1).toInt.toNat = z_B st t.toInt.toNat := by
      rw [show (t + Int32.ofInt 1).toInt.toNat = t.toInt.toNat + 1 by omega]
      show z_B _ t.toInt.toNat + (if (if t.toInt.toNat = t.toInt.toNat then x else st t.toInt.toNat) = 21 ∨ (if t.toInt.toNat = t.toInt.toNat then x else st t.toInt.toNat) = 22 then 1 else 0) = _
      rw [if_pos rfl, if_neg hx, z_B_c (fun i hi => if_neg (by omega))]
      omega
    have hS3 : z_S th G3 a rb sb _ rd (fun k => if k = t.toInt.toNat then x else st k) c (t + Int32.ofInt 1) 0 := ⟨hV3, hc, rfl, c0, by omega, by omega, hW, by rw [hB]; omega⟩
    refine y_st (e_252 (124, .iconst 1, 1) (List.mem_of_getElem? (i := 67) rfl)) ⟨rfl, rfl, rfl, rfl⟩ ?_
    refine y_ret (e_252 (125, .ireturn, 1) (List.mem_of_getElem? (i := 68) rfl)) ⟨rfl, y_rb (by decide)⟩ ⟨(ef1.tr ef2).tr ef3, hV3.1, Or.inr ⟨rfl, _, rd, _, c, _, 0, hS3, rfl, ⟨w0, h40, hw0⟩, Or.inl rfl, by omega⟩⟩
  refine y_aln (e_252 (84, .aload_n 0, 1) (List.mem_of_getElem? (i := 45) rfl)) g0 ?_
  refine y_getf hV.1 ta (e_252 (85, .getfield 62, 3) (List.mem_of_getElem? (i := 46) rfl)) u_17_62 ⟨rfl, rfl⟩ ((hV.2.2.1 35).trans hV.2.2.2.2.1) ?_
  refine y_aln (e_252 (88, .aload_n 0, 1) (List.mem_of_getElem? (i := 47) rfl)) g0 ?_
  refine y_getf hV.1 ta (e_252 (89, .getfield 371, 3) (List.mem_of_getElem? (i := 48) rfl)) u_17_371 ⟨rfl, rfl⟩ ((hV.2.2.1 38).trans ht) ?_
  refine y_iln (e_252 (92, .iload_n 1, 1) (List.mem_of_getElem? (i := 49) rfl)) g1 ?_
  refine y_ifc (e_252 (93, .ifCond .eq 8, 3) (List.mem_of_getElem? (i := 50) rfl)) rfl (fun hb => ?_) (fun hb => ?_)
  · refine y_st (e_252 (101, .bipush 23, 2) (List.mem_of_getElem? (i := 53) rfl)) ⟨rfl, rfl, rfl, rfl⟩ ?_
    exact tail _ (by decide)
  · refine y_st (e_252 (96, .bipush 20, 2) (List.mem_of_getElem? (i := 51) rfl)) ⟨rfl, rfl, rfl, rfl⟩ ?_
    refine y_st (e_252 (98, .goto 5, 3) (List.mem_of_getElem? (i := 52) rfl)) ⟨rfl, rfl, rfl, rfl⟩ ?_
    exact tail _ (by decide)
end ZO
