def d_251 : xD := [(0, .aload_n 0, 1), (1, .invokevirtual 390, 3), (4, .aload_n 0, 1), (5, .ldc2_w 110, 3), (8, .invokevirtual 198, 3), (11, .ifCond .ne 13, 3), (14, .aload_n 0, 1), (15, .ldc2_w 108, 3), (18, .invokevirtual 198, 3), (21, .ifCond .eq 71, 3), (24, .aload_n 0, 1), (25, .aload_n 0, 1), (26, .ldc2_w 110, 3), (29, .invokevirtual 198, 3), (32, .ifCond .eq 8, 3), (35, .bipush 21, 2), (37, .goto 5, 3), (40, .bipush 22, 2), (42, .invokevirtual 393, 3), (45, .aload_n 0, 1), (46, .getfield 62, 3), (49, .aload_n 0, 1), (50, .getfield 371, 3), (53, .aload_n 0, 1), (54, .ldc2_w 110, 3), (57, .invokevirtual 198, 3), (60, .ifCond .eq 8, 3), (63, .bipush 21, 2), (65, .goto 5, 3), (68, .bipush 22, 2), (70, .iastore, 1), (71, .aload_n 0, 1), (72, .dup, 1), (73, .getfield 371, 3), (76, .iconst 1, 1), (77, .iadd, 1), (78, .putfield 371, 3), (81, .aload_n 0, 1), (82, .iconst 0, 1), (83, .putfield 387, 3), (86, .aload_n 0, 1), (87, .invokevirtual 170, 3), (90, .iconst 1, 1), (91, .ireturn, 1), (92, .aload_n 0, 1), (93, .bipush 22, 2), (95, .invokevirtual 393, 3), (98, .aload_n 0, 1), (99, .bipush 41, 2), (101, .invokevirtual 164, 3), (104, .ifCond .eq 10, 3), (107, .aload_n 0, 1), (108, .getfield 371, 3), (111, .ifCond .ne 9, 3), (114, .aload_n 0, 1), (115, .iconst 1, 1), (116, .invokevirtual 167, 3), (119, .ireturn, 1), (120, .aload_n 0, 1), (121, .dup, 1), (122, .getfield 371, 3), (125, .iconst 1, 1), (126, .isub, 1), (127, .putfield 371, 3), (130, .aload_n 0, 1), (131, .dup, 1), (132, .getfield 378, 3), (135, .iconst 1, 1), (136, .isub, 1), (137, .putfield 378, 3), (140, .aload_n 0, 1), (141, .invokevirtual 170, 3), (144, .iconst 1, 1), (145, .ireturn, 1)]
set_option maxRecDepth 100000 in
theorem d_251_ok : x_dchk 251 d_251 = true := by decide +kernel
def m_251 : pM := (⟨"BreathingHillModel", "behind", "()Z"⟩, 1833, 1, some (FieldType.boolean), 17, 0, false, 10, 103, 1832, 85)
set_option maxRecDepth 100000 in
theorem m_251_ok : pm_tab[251]? = some m_251 := rfl
theorem e_251 : ∀ q ∈ d_251, decode m_251.code q.1 = .ok (q.2.1, q.2.2) := y_dec d_251_ok m_251_ok
def E_beh : List (Nat × Nat × Nat) := E_sen ++ E_next ++ E_bad
theorem z_S.eff0 {th : List Nat} {G G' : List pE} {a rb sb : Nat} {F : Nat → Option Value} {rd st : Nat → Int32} {c t : Int32} {w : Int} (h : z_S th G a rb sb F rd st c t w) (hI : xI x_tb th G') (he : x_eff th [] G G') : z_S th G' a rb sb F rd st c t w := by
  obtain ⟨F', h1, h2⟩ := h.1.eff hI he ⟨rfl, rfl⟩ (fun _ _ => rfl) (fun _ _ => rfl)
  obtain rfl : F' = F := funext (fun k => h2 k rfl)
  exact ⟨h1, h.2⟩
/-- what behind() leaves -/
def z_P (th : List Nat) (G : List pE) (a rb sb : Nat) (F : Nat → Option Value) (n : Int) (r : Option Value) (G' : List pE) : Prop := x_eff th E_beh G G' ∧ xI x_tb th G' ∧ (r = some (.int 0) ∨ (r = some (.int 1) ∧ ∃ F' rd' st' c' t' w', z_S th G' a rb sb F' rd' st' c' t' w' ∧ F' 37 = F 37 ∧ (∃ y : Int32, F' 40 = some (.int y) ∧ y.toInt = w') ∧ ((w' = 0 ∧ c'.toInt + t'.toInt ≤ n + 1) ∨ (w' = 1 ∧ c'.toInt + t'.toInt + 1 ≤ n))))
theorem E_next_r : ∀ i, i < 135 → y_out E_next 38 i = true := by decide
theorem E_next_s : ∀ i, i < 45 → y_out E_next 45 i = true := by decide
theorem z_S.effN {th : List Nat} {G G' : List pE} {a rb sb : Nat} {F : Nat → Option Value} {rd st : Nat → Int32} {c t : Int32} {w : Int} (h : z_S th G a rb sb F rd st c t w) (hI : xI x_tb th G') (he : x_eff th E_next G G') : ∃ F', z_S th G' a rb sb F' rd st c t w ∧ F' 37 = F 37 ∧ F' 40 = F 40 := by
  obtain ⟨F', h1, h2⟩ := h.1.eff hI he ⟨rfl, rfl⟩ E_next_r E_next_s
  exact ⟨F', ⟨h1, (h2 36 rfl).trans h.2.1, (h2 38 rfl).trans h.2.2.1, h.2.2.2⟩, h2 37 rfl, h2 40 rfl⟩
section ZB
variable {th : List Nat} {xs : Nat → Int32} {L J d a rb sb : Nat} {K : Option Value → List pE → Prop}
set_option maxHeartbeats 2000000 in
set_option maxRecDepth 100000 in
theorem g_beh70 (hd : 192 ≤ d + 1) {F : Nat → Option Value} {rd st : Nat → Int32} {G : List pE} {c t x : Int32} (hS : z_S th G a rb sb F rd st c t 1) (hx : x = 21 ∨ x = 22) (hct : c.toInt + t.toInt ≤ 39) : x_Gd xs L J (d + 2) m_251 (z_P th G a rb sb F (c.toInt + t.toInt)) 70 [(0, .ref a)] [.int x, .int t, .ref sb] G := by
  obtain ⟨hV, hc, ht, c0, t0, ct, hW, hD⟩ := id hS
  have ta := hV.2.1
  have ts := hV.2.2.2.2.2.2.1
  refine y_iast hV.1 ts (e_251 (70, .iastore, 1) (List.mem_of_getElem? (i := 30) rfl)) ⟨rfl, rfl⟩ ⟨t0, by show _ < (45 : Int); omega⟩ (fun G1 u1 => ?_)
  have hV1 := hV.putS u1 (by omega)
  have ef1 := x_eff.upd (E := E_beh) u1 ts (q := (45, 0, 44)) (List.mem_of_getElem? (i := 2) rfl) rfl (Nat.zero_le _) (by show _ ≤ 44; omega)
  have e1 := y_add1 (t := t) (by omega)
  refine y_aln (e_251 (71, .aload_n 0, 1) (List.mem_of_getElem? (i := 31) rfl)) rfl ?_
  refine y_st (e_251 (72, .dup, 1) (List.mem_of_getElem? (i := 32) rfl)) ⟨rfl, rfl, rfl, rfl⟩ ?_
  refine y_getf hV1.1 ta (e_251 (73, .getfield 371, 3) (List.mem_of_getElem? (i := 33) rfl)) u_17_371 ⟨rfl, rfl⟩ ((hV1.2.2.1 38).trans ht) ?_
  refine y_st (e_251 (76, .iconst 1, 1) (List.mem_of_getElem? (i := 34) rfl)) ⟨rfl, rfl, rfl, rfl⟩ ?_
  refine y_st (e_251 (77, .iadd, 1) (List.mem_of_getElem? (i := 35) rfl)) ⟨rfl, rfl, rfl, rfl⟩ ?_
  refine y_putf (f := (0, 0, 45)) hV1.1 ta (e_251 (78, .putfield 371, 3) (List.mem_of_getElem? (i := 36) rfl)) u_17_371 ⟨rfl, rfl, by decide, rfl, rfl⟩ ⟨_, rfl, by show (0 : Int) ≤ _; omega, by show _ ≤ (45 : Int); omega⟩ (fun G2 u2 => ?_)
  have hV2 := hV1.putF u2 (y_okI rfl (by show (0 : Int) ≤ _; omega) (by show _ ≤ (45 : Int); omega)) ⟨by decide, by decide⟩
  have ef2 := x_eff.upd (E := E_beh) u2 ta (q := (10, 36, 40)) List.mem_cons_self rfl (by decide) (by decide)
  refine y_aln (e_251 (81, .aload_n 0, 1) (List.mem_of_getElem? (i := 37) rfl)) rfl ?_
  refine y_st (e_251 (82, .iconst 0, 1) (List.mem_of_getElem? (i := 38) rfl)) ⟨rfl, rfl, rfl, rfl⟩ ?_
  refine y_putf (f := (0, 0, 1)) hV2.1 ta (e_251 (83, .putfield 387, 3) (List.mem_of_getElem? (i := 39) rfl)) u_17_387 ⟨rfl, rfl, by decide, rfl, rfl⟩ ⟨_, rfl, by decide, by decide⟩ (fun G3 u3 => ?_)
  have hV3 := hV2.putF u3 (y_okI rfl (by decide) (by decide)) ⟨by decide, by decide⟩
  have ef3 := x_eff.upd (E := E_beh) u3 ta (q := (10, 36, 40)) List.mem_cons_self rfl (by decide) (by decide)
  have hB : z_B (fun k => if k = t.toInt.toNat then x else st k) (t + Int32.ofInt 1).toInt.toNat = z_B st t.toInt.toNat + 1 := by
    rw [show (t + Int32.ofInt 1).toInt.toNat = t.toInt.toNat + 1 by omega]
    show z_B _ t.toInt.toNat + (if (if t.toInt.toNat = t.toInt.toNat then x else st t.toInt.toNat) = 21 ∨ (if t.toInt.toNat = t.toInt.toNat then x else st t.toInt.toNat) = 22 then 1 else 0) = _
    rw [if_pos rfl, if_pos hx, z_B_c (fun i hi => if_neg (by omega))]
  have hS3 : z_S th G3 a rb sb _ rd (fun k => if k = t.toInt.toNat then x else st k) c (t + Int32.ofInt 1) 0 := ⟨hV3, hc, rfl, c0, by omega, by omega, hW, by rw [hB]; omega⟩
  refine y_aln (e_251 (86, .aload_n 0, 1) (List.mem_of_getElem? (i := 40) rfl)) rfl ?_
  refine y_c1 (K' := _) (e_251 (87, .invokevirtual 170, 3) (List.mem_of_getElem? (i := 41) rfl)) ⟨rfl, rfl, rfl⟩ t_17_170 ⟨by decide, by decide, by decide, by decide⟩ m_163_ok rfl (by decide) (y_recv hV3.1 ta ⟨rfl, rfl⟩) (Nat.le_of_ble_eq_true rfl) (Nat.le_of_ble_eq_true rfl) (g_next (d := d + 1) hV3.1 ta (by omega)) (fun r1 G4 h1 => ?_)
  obtain ⟨rfl, hI4, ef4⟩ := h1
  simp only [Option.toList_some, Option.toList_none, List.cons_append, List.nil_append]
  obtain ⟨F4, hS4, q37, q40⟩ := hS3.effN hI4 ef4
  refine y_st (e_251 (90, .iconst 1, 1) (List.mem_of_getElem? (i := 42) rfl)) ⟨rfl, rfl, rfl, rfl⟩ ?_
  refine y_ret (e_251 (91, .ireturn, 1) (List.mem_of_getElem? (i := 43) rfl)) ⟨rfl, y_rb (by decide)⟩ ⟨((ef1.tr ef2).tr ef3).tr (ef4.sub (by decide)), hI4, Or.inr ⟨rfl, F4, rd, _, c, _, 0, hS4, q37, ⟨_, q40, rfl⟩, Or.inl ⟨rfl, by omega⟩⟩⟩
end ZB
