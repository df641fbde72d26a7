def m_167 : pM := (⟨"BreathingHillModel", "line", "()Z"⟩, 1500, 2, some (FieldType.boolean), 17, 0, false, 10, 103, 1499, 37)
set_option maxRecDepth 100000 in
theorem m_167_ok : pm_tab[167]? = some m_167 := rfl
theorem e_167 : ∀ q ∈ d_167, decode m_167.code q.1 = .ok (q.2.1, q.2.2) := y_dec d_167_ok m_167_ok
def E_ln : List (Nat × Nat × Nat) := [(10, 4, 4), (10, 11, 18), (10, 20, 20), (37, 0, 2), (37, 4, 4), (37, 6, 24), (37, 65, 72), (39, 24, 27)]
def sg_ln_ns : List xN := []
def sg_ln_os : List xN := [(324, [(0, (20, ([(0, 1)], 0)))], [], [], 3, [([], 0), ([], 0), ([], 0), ([], 0), ([], 0)]), (424, [(0, (20, ([(0, 1)], 0))), (1, (0, ([(2, 1)], 0)))], [], [([(2, -1)], 3)], 3, [([], 0), ([], 0), ([], 0), ([], 0), ([], 0)])]
def sg_ln_g : xG := ([([(2, 1)], 0), ([(2, -1)], 4)], [(0, (20, ([(0, 1)], 0)))], [], [(10, ([(0, 1)], 0), 7, (47, ([(1, 1)], 0))), (37, ([(1, 1)], 0), 5, (0, ([(2, 1)], 0)))], 3)
def sg_ln_ps : List xP := [(some (0, ([(3, 1)], 0)), [([(3, 1)], 0), ([(3, -1)], 1)], [])]
set_option maxRecDepth 100000 in
set_option maxHeartbeats 4000000 in
theorem sg_ln_ok : x_seg x_tb [c_188, c_189, c_190, c_195, c_196, c_197, c_198, c_199, c_200, c_201, c_213, c_215] m_167 d_167 E_ln 3 sg_ln_ps sg_ln_ns sg_ln_os 77 false 0 sg_ln_g = true := by decide +kernel
set_option maxRecDepth 100000 in
theorem sg_ln_go {th : List Nat} {xs : Nat → Int32} {L J d : Nat} {K : Option Value → List pE → Prop} (hd : 216 ≤ d) {v : Nat → Int} {lv : pL} {ws : List Value} {G0 G : List pE} (hS : x_S x_tb th v sg_ln_g lv ws G) (hE : x_eff th E_ln G0 G) (hK : ∀ r G', x_Post x_tb th E_ln sg_ln_ps 3 v G0 r G' → K r G') (hO : ∀ n ∈ sg_ln_os, ∀ (vn : Nat → Int) (lv : pL) (G1 : List pE), x_ag 3 v vn → x_S x_tb th vn (n.2.2.2.1, n.2.1, [], n.2.2.1, n.2.2.2.2.1) lv [] G1 → x_eff th E_ln G0 G1 → x_Gd xs L J (d + 1) m_167 K n.1 lv [] G1) : x_Gd xs L J (d + 1) m_167 K 0 lv ws G :=
  x_seg_ok (dm := 216) x_tb_wf ⟨rfl, rfl, rfl⟩ e_167 (List.forall_mem_cons.mpr ⟨(h_188 th xs L J).mono (by omega), List.forall_mem_cons.mpr ⟨(h_189 th xs L J).mono (by omega), List.forall_mem_cons.mpr ⟨(h_190 th xs L J).mono (by omega), List.forall_mem_cons.mpr ⟨(h_195 th xs L J).mono (by omega), List.forall_mem_cons.mpr ⟨(h_196 th xs L J).mono (by omega), List.forall_mem_cons.mpr ⟨(h_197 th xs L J).mono (by omega), List.forall_mem_cons.mpr ⟨(h_198 th xs L J).mono (by omega), List.forall_mem_cons.mpr ⟨(h_199 th xs L J).mono (by omega), List.forall_mem_cons.mpr ⟨(h_200 th xs L J).mono (by omega), List.forall_mem_cons.mpr ⟨(h_201 th xs L J).mono (by omega), List.forall_mem_cons.mpr ⟨(h_213 th xs L J).mono (by omega), List.forall_mem_cons.mpr ⟨(h_215 th xs L J).mono (by omega), fun _ h => absurd h List.not_mem_nil⟩⟩⟩⟩⟩⟩⟩⟩⟩⟩⟩⟩) hd sg_ln_ok hS hE (fun z => by cases z) hK hO
theorem E_ln_1 : ∀ i, i < 8 → y_out E_ln 39 (16 + i) = true := by decide
theorem E_ln_2 : ∀ i, i < 4 → y_out E_ln 39 (28 + i) = true := by decide
section ZK
variable {th : List Nat} {xs : Nat → Int32} {L J d a nb hb : Nat} {nm : Nat → Int64} {w : Int64} {h3 h4 h5 : Int32} {G : List pE}
set_option maxHeartbeats 2000000 in
set_option maxRecDepth 100000 in
theorem g_line (hd : 305 ≤ d) (hN : z_H th G a nb hb nm w h3 h4 h5) (hD : z_D8 nm h3 h5) : x_Gd xs L J (d + 4) m_167 (z_Ln th a nb hb) 0 (lv_args 0 [.ref a]) [] G := by
  obtain ⟨hI, ta, n1, n2, n3, n4, n5, n6, n7, n8, n9⟩ := id hN
  have r3 := hN.r3
  have r5 := hN.r5
  refine sg_ln_go (d := d + 3) (by omega) (v := (y_v [(a : Int), (hb : Int), h5.toInt])) (G0 := G) ⟨y_v_Bd (List.forall_mem_cons.mpr ⟨(y_cellB hI ta), (List.forall_mem_cons.mpr ⟨(y_cellB hI n6), (List.forall_mem_cons.mpr ⟨(x_i32 h5), (fun _ h => absurd h List.not_mem_nil)⟩)⟩)⟩), (List.forall_mem_cons.mpr ⟨(by simp only [xl_ev, xt_ev, y_v, List.getD_cons_succ, List.getD_cons_zero]; omega), (List.forall_mem_cons.mpr ⟨(by simp only [xl_ev, xt_ev, y_v, List.getD_cons_succ, List.getD_cons_zero]; omega), (fun _ h => absurd h List.not_mem_nil)⟩)⟩), (List.forall_mem_cons.mpr ⟨⟨_, rfl, a, rfl, (by simp only [xl_ev, xt_ev, y_v, List.getD_cons_succ, List.getD_cons_zero]; omega), ta⟩, (fun _ h => absurd h List.not_mem_nil)⟩), trivial, (List.forall_mem_cons.mpr ⟨⟨a, (by simp only [xl_ev, xt_ev, y_v, List.getD_cons_succ, List.getD_cons_zero]; omega), ta, _, n5, hb, rfl, (by simp only [xl_ev, xt_ev, y_v, List.getD_cons_succ, List.getD_cons_zero]; omega), n6⟩, (List.forall_mem_cons.mpr ⟨⟨hb, (by simp only [xl_ev, xt_ev, y_v, List.getD_cons_succ, List.getD_cons_zero]; omega), n6, _, n9, h5, rfl, (by simp only [xl_ev, xt_ev, y_v, List.getD_cons_succ, List.getD_cons_zero]; omega)⟩, (fun _ h => absurd h List.not_mem_nil)⟩)⟩), hI⟩ x_eff.rf (fun r G' h => ?_) (fun n hn vn lv G1 hag hS1 hE1 => ?_)
  · obtain ⟨v', -, -, hI', ef, p, hp, pc, -, pa⟩ := h
    obtain rfl : p = _ := List.mem_singleton.mp hp
    have c0 := pc ([(3, 1)], 0) (List.mem_of_getElem? (i := 0) rfl)
    have c1 := pc ([(3, -1)], 1) (List.mem_of_getElem? (i := 1) rfl)
    obtain ⟨y, rfl, hy⟩ := y_pI pa
    simp only [xl_ev, xt_ev] at c0 c1 hy
    exact z_Ln.of ⟨y, rfl, (show y.toInt = 0 ∨ y.toInt = 1 by omega).imp y_i0 y_i1⟩ hN hD hI' ef rfl (by decide) (by decide)
  have z0 : vn 0 = (a : Int) := hag 0 (by decide)
  have z2 : vn 2 = h5.toInt := hag 2 (by decide)
  have hI1 := hS1.2.2.2.2.2
  obtain ⟨nm1, w1, h41, hN1, en⟩ := hN.eff2 hI1 hE1 rfl
  have hD1 : z_D8 nm1 h3 h5 := fun i j hi hj => by
    rw [en _ (by omega) (E_ln_1 i (by omega)), en _ (by omega) (E_ln_2 j (by omega))]
    exact hD i j hi hj
  rcases List.mem_cons.mp hn with rfl | hn
  · have g0 := hS1.loCe (i := 0) (t := 10) (l := ([(0, 1)], 0)) (a := a) (List.mem_of_getElem? (i := 0) rfl) (by simp only [xl_ev, xt_ev]; omega)
    refine y_aln (e_167 (324, .aload_n 0, 1) (List.mem_of_getElem? (i := 172) rfl)) g0 ?_
    refine y_c1 (K' := _) (e_167 (325, .invokevirtual 208, 3) (List.mem_of_getElem? (i := 173) rfl)) ⟨rfl, rfl, rfl⟩ t_17_208 ⟨by decide, by decide, by decide, by decide⟩ m_175_ok rfl (by decide) (y_recv hI1 ta ⟨rfl, rfl⟩) (Nat.le_of_ble_eq_true rfl) (Nat.le_of_ble_eq_true rfl) (g_readThing (d := d) hd hN1 hD1) (fun r1 G2 h1 => ?_)
    obtain ⟨⟨y, rfl, hy⟩, h1⟩ := h1
    simp only [Option.toList_some, Option.toList_none, List.cons_append, List.nil_append]
    refine y_ret (e_167 (328, .ireturn, 1) (List.mem_of_getElem? (i := 174) rfl)) ⟨rfl, y_rb hy⟩ ⟨⟨y, rfl, hy⟩, h1⟩
  · obtain rfl : n = _ := List.mem_singleton.mp hn
    have g0 := hS1.loCe (i := 0) (t := 10) (l := ([(0, 1)], 0)) (a := a) (List.mem_of_getElem? (i := 0) rfl) (by simp only [xl_ev, xt_ev]; omega)
    have g1 := hS1.lo0e (i := 1) (l := ([(2, 1)], 0)) (x := h5) (List.mem_of_getElem? (i := 1) rfl) (by simp only [xl_ev, xt_ev]; omega)
    have c3 := hS1.2.1 ([(2, -1)], 3) (List.mem_of_getElem? (i := 0) rfl)
    simp only [xl_ev, xt_ev] at c3
    have f28 : ((Int8.ofInt 28).toInt32).toInt = 28 := by decide
    have f73 : ((Int8.ofInt 73).toInt32).toInt = 73 := by decide
    have f77 : ((Int8.ofInt 77).toInt32).toInt = 77 := by decide
    have e28 : ((Int8.ofInt 28).toInt32 + h5).toInt = 28 + h5.toInt := by rw [y_add (by omega) (by omega)]; omega
    have e73 : ((Int8.ofInt 73).toInt32 + h5).toInt = 73 + h5.toInt := by rw [y_add (by omega) (by omega)]; omega
    have e77 : ((Int8.ofInt 77).toInt32 + h5).toInt = 77 + h5.toInt := by rw [y_add (by omega) (by omega)]; omega
    refine y_aln (e_167 (424, .aload_n 0, 1) (List.mem_of_getElem? (i := 235) rfl)) g0 ?_
    refine y_st (e_167 (425, .bipush 28, 2) (List.mem_of_getElem? (i := 236) rfl)) ⟨rfl, rfl, rfl, rfl⟩ ?_
    refine y_iln (e_167 (427, .iload_n 1, 1) (List.mem_of_getElem? (i := 237) rfl)) g1 ?_
    refine y_st (e_167 (428, .iadd, 1) (List.mem_of_getElem? (i := 238) rfl)) ⟨rfl, rfl, rfl, rfl⟩ ?_
    refine y_st (e_167 (429, .bipush 73, 2) (List.mem_of_getElem? (i := 239) rfl)) ⟨rfl, rfl, rfl, rfl⟩ ?_
    refine y_iln (e_167 (431, .iload_n 1, 1) (List.mem_of_getElem? (i := 240) rfl)) g1 ?_
    refine y_st (e_167 (432, .iadd, 1) (List.mem_of_getElem? (i := 241) rfl)) ⟨rfl, rfl, rfl, rfl⟩ ?_
    refine y_st (e_167 (433, .bipush 77, 2) (List.mem_of_getElem? (i := 242) rfl)) ⟨rfl, rfl, rfl, rfl⟩ ?_
    refine y_iln (e_167 (435, .iload_n 1, 1) (List.mem_of_getElem? (i := 243) rfl)) g1 ?_
    refine y_st (e_167 (436, .iadd, 1) (List.mem_of_getElem? (i := 244) rfl)) ⟨rfl, rfl, rfl, rfl⟩ ?_
    refine y_c4 (K' := _) (e_167 (437, .invokevirtual 211, 3) (List.mem_of_getElem? (i := 245) rfl)) ⟨rfl, rfl, rfl⟩ t_17_211 ⟨by decide, by decide, by decide, by decide⟩ m_176_ok rfl (by decide) (y_recv hI1 ta ⟨rfl, rfl⟩) (Nat.le_of_ble_eq_true rfl) (Nat.le_of_ble_eq_true rfl) (g_rpM (d := d + 1) (by omega) (by omega) (by omega) (by omega) (by omega) (by omega) (by omega) hN1) (fun r1 G2 h1 => ?_)
    obtain ⟨hI2, ef2, hr⟩ := h1
    rw [e28] at ef2 hr
    rw [show (28 + h5.toInt).toNat = 28 + h5.toInt.toNat by omega] at ef2 hr
    obtain ⟨nm2, w2, h42, hN2, en2⟩ := hN1.eff2 hI2 ef2 (by rw [Bool.and_eq_true, Bool.and_eq_true, Bool.and_eq_true]; exact ⟨⟨⟨y_app rfl (y_fr rfl (fun z => by cases z)), y_app rfl (y_fr rfl (fun z => by cases z))⟩, y_app rfl (y_fr rfl (fun z => by cases z))⟩, y_app rfl (y_fr rfl (fun z => by cases z))⟩)
    have o28 : ∀ i : Nat, i < 32 → i ≠ 28 + h5.toInt.toNat → nm2 i = nm1 i := fun i hi hne => en2 i hi (y_app rfl (y_fr rfl (fun _ => hne)))
    have hD2 : z_D8 nm2 h3 h5 := fun i j hi hj => by
      rw [o28 _ (by omega) (by omega), o28 _ (by omega) (by omega)]
      exact hD1 i j hi hj
    rcases hr with rfl | ⟨rfl, wn, q1, q2, q3⟩
    · simp only [Option.toList_some, Option.toList_none, List.cons_append, List.nil_append]
      refine y_ifc (e_167 (440, .ifCond .ne 5, 3) (List.mem_of_getElem? (i := 246) rfl)) rfl (fun hb => absurd hb (by decide)) (fun _ => ?_)
      refine y_st (e_167 (443, .iconst 0, 1) (List.mem_of_getElem? (i := 247) rfl)) ⟨rfl, rfl, rfl, rfl⟩ ?_
      refine y_ret (e_167 (444, .ireturn, 1) (List.mem_of_getElem? (i := 248) rfl)) ⟨rfl, y_rb (by decide)⟩ ⟨⟨0, rfl, Or.inl rfl⟩, nm2, w2, h3, h42, h5, hN2, hD2⟩
    · simp only [Option.toList_some, Option.toList_none, List.cons_append, List.nil_append]
      refine y_ifc (e_167 (440, .ifCond .ne 5, 3) (List.mem_of_getElem? (i := 246) rfl)) rfl (fun _ => ?_) (fun hb => absurd hb (by decide))
      obtain ⟨-, -, m1, m2, m3, m4, m5, m6, m7, m8, m9⟩ := id hN2
      have e1 := y_add1 (t := h5) (by omega)
      have wn3 : nm2 (28 + h5.toInt.toNat) = wn := by
        have e := m3 (28 + h5.toInt.toNat) (by omega)
        rw [q1] at e
        exact (Value.long.inj (Option.some.inj e)).symm
      refine y_aln (e_167 (445, .aload_n 0, 1) (List.mem_of_getElem? (i := 249) rfl)) g0 ?_
      refine y_getf hI2 ta (e_167 (446, .getfield 37, 3) (List.mem_of_getElem? (i := 250) rfl)) u_17_37 ⟨rfl, rfl⟩ m5 ?_
      refine y_st (e_167 (449, .iconst 5, 1) (List.mem_of_getElem? (i := 251) rfl)) ⟨rfl, rfl, rfl, rfl⟩ ?_
      refine y_st (e_167 (450, .dup2, 1) (List.mem_of_getElem? (i := 252) rfl)) ⟨rfl, rfl, rfl, rfl⟩ ?_
      refine y_iald hI2 m6 (e_167 (451, .iaload, 1) (List.mem_of_getElem? (i := 253) rfl)) ⟨rfl, rfl⟩ (by decide) m9 ?_
      refine y_st (e_167 (452, .iconst 1, 1) (List.mem_of_getElem? (i := 254) rfl)) ⟨rfl, rfl, rfl, rfl⟩ ?_
      refine y_st (e_167 (453, .iadd, 1) (List.mem_of_getElem? (i := 255) rfl)) ⟨rfl, rfl, rfl, rfl⟩ ?_
      refine y_iast hI2 m6 (e_167 (454, .iastore, 1) (List.mem_of_getElem? (i := 256) rfl)) ⟨rfl, rfl⟩ ⟨by decide, by decide⟩ (fun G4 u4 => ?_)
      rw [show (Int32.ofInt 5).toInt.toNat = 5 by decide] at u4
      have hI4 : xI x_tb th G4 := hI2.upd u4 m6 (y_okI (lo := 0) (hi := 4) rfl (by omega) (by omega))
      refine y_st (e_167 (455, .iconst 1, 1) (List.mem_of_getElem? (i := 257) rfl)) ⟨rfl, rfl, rfl, rfl⟩ ?_
      refine y_ret (e_167 (456, .ireturn, 1) (List.mem_of_getElem? (i := 258) rfl)) ⟨rfl, y_rb (by decide)⟩ ⟨⟨1, rfl, Or.inr rfl⟩, nm2, w2, h3, h42, h5 + Int32.ofInt 1, ⟨hI4, ta, ?_, m2, fun i hi => ?_, ?_, ?_, m6, ?_, ?_, ?_⟩, fun i j hi hj => ?_⟩
      · rw [u4.2.1, if_neg (fun z => by rw [z.1, m6] at ta; cases ta)]; exact m1
      · rw [u4.2.1, if_neg (fun z => by rw [z.1, m6] at m2; cases m2)]; exact m3 i hi
      · rw [u4.2.1, if_neg (fun z => by rw [z.1, m6] at ta; cases ta)]; exact m4
      · rw [u4.2.1, if_neg (fun z => by rw [z.1, m6] at ta; cases ta)]; exact m5
      · rw [u4.2.1, if_neg (fun z => by omega)]; exact m7
      · rw [u4.2.1, if_neg (fun z => by omega)]; exact m8
      · rw [u4.2.1, if_pos ⟨rfl, rfl⟩]
      · by_cases hj5 : (j : Int) < h5.toInt
        · exact hD2 i j hi hj5
        · obtain rfl : j = h5.toInt.toNat := by omega
          rw [wn3, o28 _ (by omega) (by omega)]
          exact q2 i hi
end ZK
