def E_o1 : List (Nat × Nat × Nat) := [(10, 37, 37), (10, 4, 4), (10, 11, 14), (10, 17, 17), (10, 15, 16)]
def E_o2 : List (Nat × Nat × Nat) := [(10, 4, 4), (10, 11, 14), (10, 17, 17), (10, 15, 16)]
theorem E_o1_r : ∀ i, i < 135 → y_out E_o1 38 i = true := by decide
theorem E_o1_s : ∀ i, i < 45 → y_out E_o1 45 i = true := by decide
theorem E_o2_r : ∀ i, i < 135 → y_out E_o2 38 i = true := by decide
theorem E_o2_s : ∀ i, i < 45 → y_out E_o2 45 i = true := by decide
def sg_op0_ns : List xN := []
def sg_op0_os : List xN := [(84, [(0, (20, ([(0, 1)], 0))), (1, (0, ([(2, 1)], 0)))], [(10, ([(0, 1)], 0), 37, (0, ([(1, 1)], 1)))], [([(1, 1)], 0), ([(1, -1)], 19)], 3, [([], 0), ([], 0), ([], 0), ([], 0), ([], 0)]), (126, [(0, (20, ([(0, 1)], 0))), (3, (0, ([(2, 1)], 0)))], [(10, ([(0, 1)], 0), 37, (0, ([(1, 1)], 1)))], [([(2, 1)], 0), ([(2, -1)], 7), ([(1, 1)], 0), ([(1, -1)], 19)], 3, [([], 0), ([], 0), ([], 0), ([], 0), ([], 0)])]
def sg_op0_g : xG := ([([(1, 1)], 0), ([(1, -1)], 20)], [(0, (20, ([(0, 1)], 0)))], [], [(10, ([(0, 1)], 0), 37, (0, ([(1, 1)], 0)))], 2)
def sg_op0_ps : List xP := [(some (0, ([], 0)), [], [])]
set_option maxRecDepth 100000 in
set_option maxHeartbeats 4000000 in
theorem sg_op0_ok : x_seg x_tb [c_188, c_189, c_190, c_191, c_301] m_252 d_252 E_o1 2 sg_op0_ps sg_op0_ns sg_op0_os 47 false 0 sg_op0_g = true := by decide +kernel
set_option maxRecDepth 100000 in
theorem sg_op0_go {th : List Nat} {xs : Nat → Int32} {L J d : Nat} {K : Option Value → List pE → Prop} (hd : 302 ≤ d) {v : Nat → Int} {lv : pL} {ws : List Value} {G0 G : List pE} (hS : x_S x_tb th v sg_op0_g lv ws G) (hE : x_eff th E_o1 G0 G) (hK : ∀ r G', x_Post x_tb th E_o1 sg_op0_ps 2 v G0 r G' → K r G') (hO : ∀ n ∈ sg_op0_os, ∀ (vn : Nat → Int) (lv : pL) (G1 : List pE), x_ag 2 v vn → x_S x_tb th vn (n.2.2.2.1, n.2.1, [], n.2.2.1, n.2.2.2.2.1) lv [] G1 → x_eff th E_o1 G0 G1 → x_Gd xs L J (d + 1) m_252 K n.1 lv [] G1) : x_Gd xs L J (d + 1) m_252 K 0 lv ws G :=
  x_seg_ok (dm := 302) x_tb_wf ⟨rfl, rfl, rfl⟩ e_252 (List.forall_mem_cons.mpr ⟨(h_188 th xs L J).mono (by omega), List.forall_mem_cons.mpr ⟨(h_189 th xs L J).mono (by omega), List.forall_mem_cons.mpr ⟨(h_190 th xs L J).mono (by omega), List.forall_mem_cons.mpr ⟨(h_191 th xs L J).mono (by omega), List.forall_mem_cons.mpr ⟨(h_301 th xs L J).mono (by omega), fun _ h => absurd h List.not_mem_nil⟩⟩⟩⟩⟩) hd sg_op0_ok hS hE (fun z => by cases z) hK hO
def sg_op145_ns : List xN := []
def sg_op145_os : List xN := [(201, [(0, (20, ([(0, 1)], 0))), (3, (0, ([(1, 1)], 0))), (4, (0, ([(2, 1)], 0)))], [], [], 3, [([], 0), ([], 0), ([], 0), ([], 0), ([], 0)])]
def sg_op145_g : xG := ([], [(0, (20, ([(0, 1)], 0))), (3, (0, ([(1, 1)], 0)))], [], [], 2)
def sg_op145_ps : List xP := [(some (0, ([], 0)), [], [])]
set_option maxRecDepth 100000 in
set_option maxHeartbeats 4000000 in
theorem sg_op145_ok : x_seg x_tb [c_188, c_189] m_252 d_252 E_o2 2 sg_op145_ps sg_op145_ns sg_op145_os 34 false 145 sg_op145_g = true := by decide +kernel
set_option maxRecDepth 100000 in
theorem sg_op145_go {th : List Nat} {xs : Nat → Int32} {L J d : Nat} {K : Option Value → List pE → Prop} (hd : 190 ≤ d) {v : Nat → Int} {lv : pL} {ws : List Value} {G0 G : List pE} (hS : x_S x_tb th v sg_op145_g lv ws G) (hE : x_eff th E_o2 G0 G) (hK : ∀ r G', x_Post x_tb th E_o2 sg_op145_ps 2 v G0 r G' → K r G') (hO : ∀ n ∈ sg_op145_os, ∀ (vn : Nat → Int) (lv : pL) (G1 : List pE), x_ag 2 v vn → x_S x_tb th vn (n.2.2.2.1, n.2.1, [], n.2.2.1, n.2.2.2.2.1) lv [] G1 → x_eff th E_o2 G0 G1 → x_Gd xs L J (d + 1) m_252 K n.1 lv [] G1) : x_Gd xs L J (d + 1) m_252 K 145 lv ws G :=
  x_seg_ok (dm := 190) x_tb_wf ⟨rfl, rfl, rfl⟩ e_252 (List.forall_mem_cons.mpr ⟨(h_188 th xs L J).mono (by omega), List.forall_mem_cons.mpr ⟨(h_189 th xs L J).mono (by omega), fun _ h => absurd h List.not_mem_nil⟩⟩) hd sg_op145_ok hS hE (fun z => by cases z) hK hO
/-- what operand() leaves, in the end -/
def z_O (th : List Nat) (G : List pE) (a rb sb : Nat) (o : Int32) (r : Option Value) (G' : List pE) : Prop := x_eff th E_beh G G' ∧ xI x_tb th G' ∧ (r = some (.int 0) ∨ (r = some (.int 1) ∧ ∃ F' rd' st' c' t' w' o', z_S th G' a rb sb F' rd' st' c' t' w' ∧ F' 37 = some (.int o') ∧ o'.toInt = o.toInt + 1 ∧ o'.toInt ≤ 20 ∧ (∃ y : Int32, F' 40 = some (.int y) ∧ y.toInt = w') ∧ (w' = 0 ∨ w' = 1) ∧ c'.toInt + t'.toInt + w' ≤ 2 * o'.toInt))
section ZQ
variable {th : List Nat} {xs : Nat → Int32} {L J d a rb sb : Nat}
theorem z_R.pre {F F0 : Nat → Option Value} {n : Int} {G0 G G' : List pE} {r : Option Value} (h : z_R th G a rb sb F n r G') (he : x_eff th E_beh G0 G) (hF : F 37 = F0 37) : z_R th G0 a rb sb F0 n r G' := by
  obtain ⟨h1, h2, h3⟩ := h
  exact ⟨he.tr h1, h2, h3.imp id (fun z => ⟨z.1, by obtain ⟨F', rd', st', c', t', w', y1, y2, y3⟩ := z.2; exact ⟨F', rd', st', c', t', w', y1, y2.trans hF, y3⟩⟩)⟩
theorem z_R.toO {F : Nat → Option Value} {n : Int} {G0 G G' : List pE} {r : Option Value} {o o' : Int32} (h : z_R th G a rb sb F n r G') (he : x_eff th E_beh G0 G) (hF : F 37 = some (.int o')) (ho : o'.toInt = o.toInt + 1) (ho2 : o'.toInt ≤ 20) (hn : n + 2 ≤ 2 * o'.toInt) : z_O th G0 a rb sb o r G' := by
  obtain ⟨h1, h2, h3⟩ := h
  refine ⟨he.tr h1, h2, h3.imp id (fun z => ⟨z.1, ?_⟩)⟩
  obtain ⟨F', rd', st', c', t', w', y1, y2, y3, y4, y5⟩ := z.2
  exact ⟨F', rd', st', c', t', w', o', y1, y2.trans hF, ho, ho2, y3, y4, by omega⟩
set_option maxHeartbeats 2000000 in
set_option maxRecDepth 100000 in
theorem g_op201 (hd : 302 ≤ d) {F : Nat → Option Value} {rd st : Nat → Int32} {G : List pE} {lv : pL} {c t leaf : Int32} (hS : z_S th G a rb sb F rd st c t 0) {sg : Int32} (h40 : F 40 = some (.int 1)) (hct : c.toInt + t.toInt ≤ 38) (g0 : pm_get lv 0 = some (.ref a)) (g3 : pm_get lv 3 = some (.int leaf)) (g4 : pm_get lv 4 = some (.int sg)) (hl : leaf ≠ 20 ∧ leaf ≠ 21 ∧ leaf ≠ 22) : x_Gd xs L J (d + 1) m_252 (z_R th G a rb sb F (c.toInt + t.toInt)) 201 lv [] G := by
  obtain ⟨hV, hc, ht, c0, t0, ct, hW, hD⟩ := id hS
  have ta := hV.2.1
  have e1 : (c + 1).toInt = c.toInt + 1 := y_add1 (by omega)
  obtain ⟨nm, hnm, -⟩ := hV.int (i := 14) rfl
  refine y_aln (e_252 (201, .aload_n 0, 1) (List.mem_of_getElem? (i := 111) rfl)) g0 ?_
  refine y_iln (e_252 (202, .iload_n 3, 1) (List.mem_of_getElem? (i := 112) rfl)) g3 ?_
  refine y_il (e_252 (203, .iload 4, 2) (List.mem_of_getElem? (i := 113) rfl)) g4 ?_
  refine y_aln (e_252 (205, .aload_n 0, 1) (List.mem_of_getElem? (i := 114) rfl)) g0 ?_
  refine y_getf hV.1 ta (e_252 (206, .getfield 151, 3) (List.mem_of_getElem? (i := 115) rfl)) u_17_151 ⟨rfl, rfl⟩ ((hV.2.2.1 14).trans hnm) ?_
  refine y_c4 (K' := _) (e_252 (209, .invokevirtual 374, 3) (List.mem_of_getElem? (i := 116) rfl)) ⟨rfl, rfl, rfl⟩ t_17_374 ⟨by decide, by decide, by decide, by decide⟩ m_249_ok rfl (by decide) (y_recv hV.1 ta ⟨rfl, rfl⟩) (Nat.le_of_ble_eq_true rfl) (Nat.le_of_ble_eq_true rfl) (g_code (d := d) hV hc c0 (by omega) leaf sg nm) (fun r1 G1 h1 => ?_)
  obtain ⟨rfl, ef1, rd1, hV1, r1, r2⟩ := h1
  simp only [Option.toList_some, Option.toList_none, List.cons_append, List.nil_append]
  have hS1 := hS.code hV1 r1 r2 hl (by omega)
  refine y_aln (e_252 (212, .aload_n 0, 1) (List.mem_of_getElem? (i := 117) rfl)) g0 ?_
  refine y_c1 (K' := _) (e_252 (213, .invokevirtual 170, 3) (List.mem_of_getElem? (i := 118) rfl)) ⟨rfl, rfl, rfl⟩ t_17_170 ⟨by decide, by decide, by decide, by decide⟩ m_163_ok rfl (by decide) (y_recv hV1.1 ta ⟨rfl, rfl⟩) (Nat.le_of_ble_eq_true rfl) (Nat.le_of_ble_eq_true rfl) (g_next (d := d) hV1.1 ta (by omega)) (fun r1 G2 h1 => ?_)
  obtain ⟨rfl, hI2, ef2⟩ := h1
  simp only [Option.toList_some, Option.toList_none, List.cons_append, List.nil_append]
  obtain ⟨F2, hS2, q37, q40⟩ := hS1.effN hI2 ef2
  refine y_st (e_252 (216, .iconst 1, 1) (List.mem_of_getElem? (i := 119) rfl)) ⟨rfl, rfl, rfl, rfl⟩ ?_
  refine y_ret (e_252 (217, .ireturn, 1) (List.mem_of_getElem? (i := 120) rfl)) ⟨rfl, y_rb (by decide)⟩ ⟨(ef1.sub (by decide)).tr (ef2.sub (by decide)), hI2, Or.inr ⟨rfl, F2, rd1, st, _, t, 1, hS2, q37, ⟨1, q40.trans h40, rfl⟩, Or.inr rfl, by omega⟩⟩
set_option maxHeartbeats 2000000 in
set_option maxRecDepth 100000 in
theorem g_op126 (hd : 302 ≤ d) {F : Nat → Option Value} {rd st : Nat → Int32} {G : List pE} {lv : pL} {c t leaf : Int32} (hS : z_S th G a rb sb F rd st c t 0) (hct : c.toInt + t.toInt ≤ 38) (g0 : pm_get lv 0 = some (.ref a)) (g3 : pm_get lv 3 = some (.int leaf)) (hl7 : 0 ≤ leaf.toInt ∧ leaf.toInt ≤ 7) : x_Gd xs L J (d + 1) m_252 (z_R th G a rb sb F (c.toInt + t.toInt)) 126 lv [] G := by
  obtain ⟨hV, hc, ht, c0, t0, ct, hW, hD⟩ := id hS
  have ta := hV.2.1
  have e1 : (c + 1).toInt = c.toInt + 1 := y_add1 (by omega)
  have hl : leaf ≠ 20 ∧ leaf ≠ 21 ∧ leaf ≠ 22 := by
    refine ⟨fun z => ?_, fun z => ?_, fun z => ?_⟩ <;> (rw [z] at hl7; exact absurd hl7.2 (by decide))
  refine y_aln (e_252 (126, .aload_n 0, 1) (List.mem_of_getElem? (i := 69) rfl)) g0 ?_
  refine y_st (e_252 (127, .iconst 1, 1) (List.mem_of_getElem? (i := 70) rfl)) ⟨rfl, rfl, rfl, rfl⟩ ?_
  refine y_putf (f := (0, 0, 1)) hV.1 ta (e_252 (128, .putfield 387, 3) (List.mem_of_getElem? (i := 71) rfl)) u_17_387 ⟨rfl, rfl, by decide, rfl, rfl⟩ ⟨_, rfl, by decide, by decide⟩ (fun G1 u1 => ?_)
  have hV1 := hV.putF u1 (y_okI rfl (by decide) (by decide)) ⟨by decide, by decide⟩
  have ef1 := x_eff.upd (E := E_beh) u1 ta (q := (10, 36, 40)) List.mem_cons_self rfl (by decide) (by decide)
  have hS1 : z_S th G1 a rb sb _ rd st c t 0 := ⟨hV1, hc, ht, c0, t0, ct, hW, hD⟩
  refine y_iln (e_252 (131, .iload_n 3, 1) (List.mem_of_getElem? (i := 72) rfl)) g3 ?_
  refine y_st (e_252 (132, .iconst 4, 1) (List.mem_of_getElem? (i := 73) rfl)) ⟨rfl, rfl, rfl, rfl⟩ ?_
  refine y_icm (e_252 (133, .if_icmp .ge 12, 3) (List.mem_of_getElem? (i := 74) rfl)) rfl (fun hb => ?_) (fun hb => ?_)
  · refine sg_op145_go (d := d) (by omega) (v := (y_v [(a : Int), leaf.toInt])) (G0 := G1) ⟨y_v_Bd (List.forall_mem_cons.mpr ⟨(y_cellB hV1.1 ta), (List.forall_mem_cons.mpr ⟨(x_i32 leaf), (fun _ h => absurd h List.not_mem_nil)⟩)⟩), (fun _ h => absurd h List.not_mem_nil), (List.forall_mem_cons.mpr ⟨⟨_, g0, a, rfl, (by simp only [xl_ev, xt_ev, y_v, List.getD_cons_succ, List.getD_cons_zero]; omega), ta⟩, (List.forall_mem_cons.mpr ⟨⟨_, g3, leaf, rfl, (by simp only [xl_ev, xt_ev, y_v, List.getD_cons_succ, List.getD_cons_zero]; omega)⟩, (fun _ h => absurd h List.not_mem_nil)⟩)⟩), trivial, (fun _ h => absurd h List.not_mem_nil), hV1.1⟩ x_eff.rf (fun r G' h => ?_) (fun n hn vn lv1 G2 hag hS2 hE2 => ?_)
    · obtain ⟨v', -, -, hI', ef, p, hp, -, -, pa⟩ := h
      obtain rfl : p = _ := List.mem_singleton.mp hp
      obtain ⟨y, rfl, hy⟩ := y_p1 pa
      obtain rfl : y = 0 := y_i0 hy
      exact ⟨ef1.tr (ef.sub (by decide)), hI', Or.inl rfl⟩
    · obtain rfl : n = _ := List.mem_singleton.mp hn
      have e0 : vn 0 = (a : Int) := hag 0 (by decide)
      have e1 : vn 1 = leaf.toInt := hag 1 (by decide)
      have l0 := hS2.loCe (i := 0) (t := 10) (l := ([(0, 1)], 0)) (a := a) (List.mem_of_getElem? (i := 0) rfl) (by simp only [xl_ev, xt_ev]; omega)
      have l3 := hS2.lo0e (i := 3) (l := ([(1, 1)], 0)) (x := leaf) (List.mem_of_getElem? (i := 1) rfl) (by simp only [xl_ev, xt_ev]; omega)
      obtain ⟨sg, l4, -⟩ := hS2.lo0 (i := 4) (l := ([(2, 1)], 0)) (List.mem_of_getElem? (i := 2) rfl)
      obtain ⟨F2, hS3, k2⟩ := hS1.effE hS2.2.2.2.2.2 hE2 rfl E_o2_r E_o2_s
      exact (g_op201 hd hS3 (k2 40 rfl) hct l0 l3 l4 hl).mono (fun r G' h => h.pre (ef1.tr (hE2.sub (by decide))) (k2 37 rfl))
  · refine y_aln (e_252 (136, .aload_n 0, 1) (List.mem_of_getElem? (i := 75) rfl)) g0 ?_
    refine y_iln (e_252 (137, .iload_n 3, 1) (List.mem_of_getElem? (i := 76) rfl)) g3 ?_
    refine y_st (e_252 (138, .iconst 0, 1) (List.mem_of_getElem? (i := 77) rfl)) ⟨rfl, rfl, rfl, rfl⟩ ?_
    refine y_st (e_252 (139, .iconst 0, 1) (List.mem_of_getElem? (i := 78) rfl)) ⟨rfl, rfl, rfl, rfl⟩ ?_
    refine y_c4 (K' := _) (e_252 (140, .invokevirtual 374, 3) (List.mem_of_getElem? (i := 79) rfl)) ⟨rfl, rfl, rfl⟩ t_17_374 ⟨by decide, by decide, by decide, by decide⟩ m_249_ok rfl (by decide) (y_recv hV1.1 ta ⟨rfl, rfl⟩) (Nat.le_of_ble_eq_true rfl) (Nat.le_of_ble_eq_true rfl) (g_code (d := d) hV1 hc c0 (by omega) leaf _ _) (fun r1 G2 h1 => ?_)
    obtain ⟨rfl, ef2, rd2, hV2, r1, r2⟩ := h1
    simp only [Option.toList_some, Option.toList_none, List.cons_append, List.nil_append]
    have hS2 := hS1.code hV2 r1 r2 hl (by omega)
    refine y_st (e_252 (143, .iconst 1, 1) (List.mem_of_getElem? (i := 80) rfl)) ⟨rfl, rfl, rfl, rfl⟩ ?_
    refine y_ret (e_252 (144, .ireturn, 1) (List.mem_of_getElem? (i := 81) rfl)) ⟨rfl, y_rb (by decide)⟩ ⟨ef1.tr (ef2.sub (by decide)), hV2.1, Or.inr ⟨rfl, _, rd2, st, _, t, 1, hS2, rfl, ⟨1, rfl, rfl⟩, Or.inr rfl, by omega⟩⟩
set_option maxHeartbeats 2000000 in
set_option maxRecDepth 100000 in
theorem g_operand (hd : 302 ≤ d) {F : Nat → Option Value} {rd st : Nat → Int32} {G : List pE} {c t o w0 : Int32} (hS : z_S th G a rb sb F rd st c t 0) (h37 : F 37 = some (.int o)) (o0 : 0 ≤ o.toInt) (o1 : o.toInt ≤ 20) (hct : c.toInt + t.toInt ≤ 2 * o.toInt) (h40 : F 40 = some (.int w0)) (hw0 : w0.toInt = 0) : x_Gd xs L J (d + 1) m_252 (z_O th G a rb sb o) 0 [(0, .ref a)] [] G := by
  obtain ⟨hV, hc, ht, c0, t0, ct, hW, hD⟩ := id hS
  have ta := hV.2.1
  refine sg_op0_go (d := d) hd (v := (y_v [(a : Int), o.toInt])) (G0 := G) ⟨y_v_Bd (List.forall_mem_cons.mpr ⟨(y_cellB hV.1 ta), (List.forall_mem_cons.mpr ⟨(x_i32 o), (fun _ h => absurd h List.not_mem_nil)⟩)⟩), (List.forall_mem_cons.mpr ⟨(by simp only [xl_ev, xt_ev, y_v, List.getD_cons_succ, List.getD_cons_zero]; omega), (List.forall_mem_cons.mpr ⟨(by simp only [xl_ev, xt_ev, y_v, List.getD_cons_succ, List.getD_cons_zero]; omega), (fun _ h => absurd h List.not_mem_nil)⟩)⟩), (List.forall_mem_cons.mpr ⟨⟨_, rfl, a, rfl, (by simp only [xl_ev, xt_ev, y_v, List.getD_cons_succ, List.getD_cons_zero]; omega), ta⟩, (fun _ h => absurd h List.not_mem_nil)⟩), trivial, (List.forall_mem_cons.mpr ⟨⟨a, (by simp only [xl_ev, xt_ev, y_v, List.getD_cons_succ, List.getD_cons_zero]; omega), ta, _, ((hV.2.2.1 37).trans h37), o, rfl, (by simp only [xl_ev, xt_ev, y_v, List.getD_cons_succ, List.getD_cons_zero]; omega)⟩, (fun _ h => absurd h List.not_mem_nil)⟩), hV.1⟩ x_eff.rf (fun r G' h => ?_) (fun n hn vn lv G1 hag hS1 hE1 => ?_)
  · obtain ⟨v', -, -, hI', ef, p, hp, -, -, pa⟩ := h
    obtain rfl : p = _ := List.mem_singleton.mp hp
    obtain ⟨y, rfl, hy⟩ := y_p1 pa
    obtain rfl : y = 0 := y_i0 hy
    exact ⟨ef.sub (by decide), hI', Or.inl rfl⟩
  · have e0 : vn 0 = (a : Int) := hag 0 (by decide)
    have e1 : vn 1 = o.toInt := hag 1 (by decide)
    obtain ⟨F1, hS2, k1⟩ := hS.effE hS1.2.2.2.2.2 hE1 rfl E_o1_r E_o1_s
    rcases List.mem_cons.mp hn with rfl | hn
    · have l0 := hS1.loCe (i := 0) (t := 10) (l := ([(0, 1)], 0)) (a := a) (List.mem_of_getElem? (i := 0) rfl) (by simp only [xl_ev, xt_ev]; omega)
      obtain ⟨nt, l1, -⟩ := hS1.lo0 (i := 1) (l := ([(2, 1)], 0)) (List.mem_of_getElem? (i := 1) rfl)
      obtain ⟨o', f1, f2⟩ := hS1.fa0 (i := 37) (t := 10) (cl := ([(0, 1)], 0)) (l := ([(1, 1)], 1)) (a := a) (List.mem_of_getElem? (i := 0) rfl) (by simp only [xl_ev, xt_ev]; omega)
      have c19 := hS1.2.1 ([(1, -1)], 19) (List.mem_of_getElem? (i := 1) rfl)
      simp only [xl_ev, xt_ev] at f2 c19
      exact (g_op84 hS2 ((k1 40 rfl).trans h40) hw0 (by omega) l0 l1).mono (fun r G' h => h.toO (hE1.sub (by decide)) ((hS2.1.2.2.1 37).symm.trans f1) (by omega) (by omega) (by omega))
    · obtain rfl : n = _ := List.mem_singleton.mp hn
      have l0 := hS1.loCe (i := 0) (t := 10) (l := ([(0, 1)], 0)) (a := a) (List.mem_of_getElem? (i := 0) rfl) (by simp only [xl_ev, xt_ev]; omega)
      obtain ⟨leaf, l3, f3⟩ := hS1.lo0 (i := 3) (l := ([(2, 1)], 0)) (List.mem_of_getElem? (i := 1) rfl)
      obtain ⟨o', f1, f2⟩ := hS1.fa0 (i := 37) (t := 10) (cl := ([(0, 1)], 0)) (l := ([(1, 1)], 1)) (a := a) (List.mem_of_getElem? (i := 0) rfl) (by simp only [xl_ev, xt_ev]; omega)
      have c0' := hS1.2.1 ([(2, 1)], 0) (List.mem_of_getElem? (i := 0) rfl)
      have c7 := hS1.2.1 ([(2, -1)], 7) (List.mem_of_getElem? (i := 1) rfl)
      have c19 := hS1.2.1 ([(1, -1)], 19) (List.mem_of_getElem? (i := 3) rfl)
      simp only [xl_ev, xt_ev] at f2 f3 c0' c7 c19
      exact (g_op126 hd hS2 (by omega) l0 l3 (by omega)).mono (fun r G' h => h.toO (hE1.sub (by decide)) ((hS2.1.2.2.1 37).symm.trans f1) (by omega) (by omega) (by omega))
end ZQ
