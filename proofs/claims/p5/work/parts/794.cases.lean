section LX
variable {p : Program} {l : Launch} {e : Env} {R : Room} {s : State} {m : MethodId} {args : Array Value} {below : List Frame} {meth : Method} {c : Code} {Q : State → Prop} {o : Om} {M : pM} {pc cs ss : Nat} {lv : pL} {st : List Value} {G : List pE}
/-- script[i + j] -/
theorem l_argx {j : Int} {i : Int32} (hF : pm_Fix p s m meth c M) (hK : pm_K o s) (hR : cs ≤ R.cells ∧ ss ≤ R.slots) (g0 : pm_get lv 0 = some (.ref pm_SB)) (g4 : pm_get lv 4 = some (.int i)) (d0 : decode M.code pc = .ok (Instr.aload_n 0, 1)) (d1 : decode M.code (pc + 1) = .ok (Instr.iload 4, 2)) (d2 : decode M.code (pc + 3) = .ok (Instr.iconst j, 1)) (d3 : decode M.code (pc + 4) = .ok (Instr.iadd, 1)) (d4 : decode M.code (pc + 5) = .ok (Instr.iaload, 1)) (hb : pm_bad (i + Int32.ofInt j) o.L = false) (kk : PW p l e R s m args below meth c Q o M (pc + 6) lv (.int (o.xs (i + Int32.ofInt j).toNatClampNeg) :: st) G cs ss) : PW p l e R s m args below meth c Q o M pc lv st G cs ss := by
  refine l_aln hF hK hR d0 g0 ?_
  refine l_il hF hK hR d1 g4 ?_
  refine l_s0 hF hK hR d2 ⟨rfl, rfl⟩ ?_
  refine l_s0 hF hK hR d3 ⟨rfl, rfl⟩ ?_
  refine l_s0 (pc' := pc + 6) (lv' := lv) (st' := .int (o.xs (i + Int32.ofInt j).toNatClampNeg) :: st) (G' := G) hF hK hR d4 ⟨rfl, ?_⟩ kk
  dsimp only [pm_step]
  rw [if_pos rfl, hb]
  rfl
end LX
theorem th0_tx : th0[0]? = some 9 := by decide +kernel
theorem th0_ta : th0[349]? = some 10 := by decide +kernel
set_option maxRecDepth 100000 in
theorem th0_36 : ∀ b, b < 366 → th0[b]? = some 36 → b = 351 := by decide +kernel
theorem th0_len : th0.length = 366 := by decide +kernel
theorem th0_U : ∀ b b' : Nat, th0[b]? = some 36 → th0[b']? = some 36 → b = b' := by
  have key : ∀ b : Nat, th0[b]? = some 36 → b = 351 := fun b hb => by
    have := (List.getElem?_eq_some_iff.mp hb).1
    rw [th0_len] at this
    exact th0_36 b this hb
  intro b b' h1 h2
  rw [key b h1, key b' h2]
section LC
variable {p : Program} {l : Launch} {e : Env} {R : Room} {s : State} {m : MethodId} {args : Array Value} {below : List Frame} {meth : Method} {c : Code} {Q : State → Prop} {o : Om} {cs ss : Nat} {lv : pL} {G : List pE} {i sz : Int32}
set_option maxHeartbeats 4000000 in
set_option maxRecDepth 100000 in
theorem law_feed (hF : pm_Fix p s m meth c m_law) (hK : pm_K o s) (hR : cs ≤ R.cells ∧ ss ≤ R.slots) (hRf : 320 + 1 ≤ R.frames ∧ 28 * (320 + 1) ≤ R.locals) (g0 : pm_get lv 0 = some (.ref pm_SB)) (g1 : pm_get lv 1 = some (.ref 0)) (g2 : pm_get lv 2 = some (.ref 349)) (g4 : pm_get lv 4 = some (.int i)) (hb : ∀ j : Int, 0 ≤ j → j ≤ 5 → pm_bad (i + Int32.ofInt j) o.L = false) (h : z_IN th0 0 349 G sz sz) (kk : ∀ (G' : List pE) (sz' : Int32), z_IN th0 0 349 G' sz' sz' → PW p l e R s m args below meth c Q o m_law 1466 lv [] G' cs ss) : PW p l e R s m args below meth c Q o m_law 212 lv [] G cs ss := by
  refine l_aln hF hK hR (e_law0 (212, .aload_n 1, 1) (List.mem_of_getElem? (i := 25) rfl)) g1 ?_
  refine l_argx (j := 1) hF hK hR g0 g4 (e_law0 (213, .aload_n 0, 1) (List.mem_of_getElem? (i := 26) rfl)) (e_law0 (214, .iload 4, 2) (List.mem_of_getElem? (i := 27) rfl)) (e_law0 (216, .iconst 1, 1) (List.mem_of_getElem? (i := 28) rfl)) (e_law0 (217, .iadd, 1) (List.mem_of_getElem? (i := 29) rfl)) (e_law0 (218, .iaload, 1) (List.mem_of_getElem? (i := 30) rfl)) (hb 1 (by decide) (by decide)) ?_
  refine l_argx (j := 2) hF hK hR g0 g4 (e_law0 (219, .aload_n 0, 1) (List.mem_of_getElem? (i := 31) rfl)) (e_law0 (220, .iload 4, 2) (List.mem_of_getElem? (i := 32) rfl)) (e_law0 (222, .iconst 2, 1) (List.mem_of_getElem? (i := 33) rfl)) (e_law0 (223, .iadd, 1) (List.mem_of_getElem? (i := 34) rfl)) (e_law0 (224, .iaload, 1) (List.mem_of_getElem? (i := 35) rfl)) (hb 2 (by decide) (by decide)) ?_
  refine l_argx (j := 3) hF hK hR g0 g4 (e_law0 (225, .aload_n 0, 1) (List.mem_of_getElem? (i := 36) rfl)) (e_law0 (226, .iload 4, 2) (List.mem_of_getElem? (i := 37) rfl)) (e_law0 (228, .iconst 3, 1) (List.mem_of_getElem? (i := 38) rfl)) (e_law0 (229, .iadd, 1) (List.mem_of_getElem? (i := 39) rfl)) (e_law0 (230, .iaload, 1) (List.mem_of_getElem? (i := 40) rfl)) (hb 3 (by decide) (by decide)) ?_
  refine l_argx (j := 4) hF hK hR g0 g4 (e_law0 (231, .aload_n 0, 1) (List.mem_of_getElem? (i := 41) rfl)) (e_law0 (232, .iload 4, 2) (List.mem_of_getElem? (i := 42) rfl)) (e_law0 (234, .iconst 4, 1) (List.mem_of_getElem? (i := 43) rfl)) (e_law0 (235, .iadd, 1) (List.mem_of_getElem? (i := 44) rfl)) (e_law0 (236, .iaload, 1) (List.mem_of_getElem? (i := 45) rfl)) (hb 4 (by decide) (by decide)) ?_
  refine l_argx (j := 5) hF hK hR g0 g4 (e_law0 (237, .aload_n 0, 1) (List.mem_of_getElem? (i := 46) rfl)) (e_law0 (238, .iload 4, 2) (List.mem_of_getElem? (i := 47) rfl)) (e_law0 (240, .iconst 5, 1) (List.mem_of_getElem? (i := 48) rfl)) (e_law0 (241, .iadd, 1) (List.mem_of_getElem? (i := 49) rfl)) (e_law0 (242, .iaload, 1) (List.mem_of_getElem? (i := 50) rfl)) (hb 5 (by decide) (by decide)) ?_
  refine l_c6 (d := 320) (K' := _) hF hK hR hRf (e_law0 (243, .invokevirtual 19, 3) (List.mem_of_getElem? (i := 51) rfl)) ⟨rfl, rfl⟩ t_18_19 ⟨by decide, by decide, by decide, by decide⟩ (by decide) m_11_ok (by decide) rfl (y_recv h.1 th0_tx ⟨rfl, rfl⟩) (Nat.le_of_ble_eq_true rfl) (Nat.le_of_ble_eq_true rfl) (b_feed (by decide) th0_tx th0_ta h _ _ _ _ _) (fun r1 G1 h1 => ?_)
  obtain ⟨y1, s1, rfl, h_1, q1⟩ := h1
  simp only [Option.toList_some, Option.toList_none, List.cons_append, List.nil_append]
  refine l_s0 hF hK hR (e_law0 (246, .pop, 1) (List.mem_of_getElem? (i := 52) rfl)) ⟨rfl, rfl⟩ ?_
  refine l_aln hF hK hR (e_law0 (247, .aload_n 2, 1) (List.mem_of_getElem? (i := 53) rfl)) g2 ?_
  refine l_argx (j := 1) hF hK hR g0 g4 (e_law0 (248, .aload_n 0, 1) (List.mem_of_getElem? (i := 54) rfl)) (e_law0 (249, .iload 4, 2) (List.mem_of_getElem? (i := 55) rfl)) (e_law0 (251, .iconst 1, 1) (List.mem_of_getElem? (i := 56) rfl)) (e_law0 (252, .iadd, 1) (List.mem_of_getElem? (i := 57) rfl)) (e_law0 (253, .iaload, 1) (List.mem_of_getElem? (i := 58) rfl)) (hb 1 (by decide) (by decide)) ?_
  refine l_argx (j := 2) hF hK hR g0 g4 (e_law0 (254, .aload_n 0, 1) (List.mem_of_getElem? (i := 59) rfl)) (e_law0 (255, .iload 4, 2) (List.mem_of_getElem? (i := 60) rfl)) (e_law0 (257, .iconst 2, 1) (List.mem_of_getElem? (i := 61) rfl)) (e_law0 (258, .iadd, 1) (List.mem_of_getElem? (i := 62) rfl)) (e_law0 (259, .iaload, 1) (List.mem_of_getElem? (i := 63) rfl)) (hb 2 (by decide) (by decide)) ?_
  refine l_argx (j := 3) hF hK hR g0 g4 (e_law0 (260, .aload_n 0, 1) (List.mem_of_getElem? (i := 64) rfl)) (e_law0 (261, .iload 4, 2) (List.mem_of_getElem? (i := 65) rfl)) (e_law0 (263, .iconst 3, 1) (List.mem_of_getElem? (i := 66) rfl)) (e_law0 (264, .iadd, 1) (List.mem_of_getElem? (i := 67) rfl)) (e_law0 (265, .iaload, 1) (List.mem_of_getElem? (i := 68) rfl)) (hb 3 (by decide) (by decide)) ?_
  refine l_argx (j := 4) hF hK hR g0 g4 (e_law0 (266, .aload_n 0, 1) (List.mem_of_getElem? (i := 69) rfl)) (e_law0 (267, .iload 4, 2) (List.mem_of_getElem? (i := 70) rfl)) (e_law0 (269, .iconst 4, 1) (List.mem_of_getElem? (i := 71) rfl)) (e_law0 (270, .iadd, 1) (List.mem_of_getElem? (i := 72) rfl)) (e_law0 (271, .iaload, 1) (List.mem_of_getElem? (i := 73) rfl)) (hb 4 (by decide) (by decide)) ?_
  refine l_argx (j := 5) hF hK hR g0 g4 (e_law0 (272, .aload_n 0, 1) (List.mem_of_getElem? (i := 74) rfl)) (e_law0 (273, .iload 4, 2) (List.mem_of_getElem? (i := 75) rfl)) (e_law0 (275, .iconst 5, 1) (List.mem_of_getElem? (i := 76) rfl)) (e_law0 (276, .iadd, 1) (List.mem_of_getElem? (i := 77) rfl)) (e_law0 (277, .iaload, 1) (List.mem_of_getElem? (i := 78) rfl)) (hb 5 (by decide) (by decide)) ?_
  refine l_c6 (d := 320) (K' := _) hF hK hR hRf (e_law0 (278, .invokevirtual 23, 3) (List.mem_of_getElem? (i := 79) rfl)) ⟨rfl, rfl⟩ t_18_23 ⟨by decide, by decide, by decide, by decide⟩ (by decide) m_156_ok (by decide) rfl (y_recv h_1.1 th0_ta ⟨rfl, rfl⟩) (Nat.le_of_ble_eq_true rfl) (Nat.le_of_ble_eq_true rfl) (n_feed (by decide) th0_tx th0_ta _ _ _ _ _ h_1) (fun r1 G2 h1 => ?_)
  obtain ⟨y2, s2, rfl, h_2, q2⟩ := h1
  simp only [Option.toList_some, Option.toList_none, List.cons_append, List.nil_append]
  refine l_s0 hF hK hR (e_law0 (281, .pop, 1) (List.mem_of_getElem? (i := 80) rfl)) ⟨rfl, rfl⟩ ?_
  refine l_s0 hF hK hR (e_law0 (282, .goto 1184, 3) (List.mem_of_getElem? (i := 81) rfl)) ⟨rfl, rfl⟩ ?_
  have es : s1 = s2 := Int32.toInt_inj.mp (by rcases q1 with q1 | q1 <;> rcases q2 with q2 | q2 <;> omega)
  subst es
  exact kk _ _ h_2
set_option maxHeartbeats 4000000 in
set_option maxRecDepth 100000 in
theorem law_end (hF : pm_Fix p s m meth c m_law) (hK : pm_K o s) (hR : cs ≤ R.cells ∧ ss ≤ R.slots) (hRf : 320 + 1 ≤ R.frames ∧ 28 * (320 + 1) ≤ R.locals) (g0 : pm_get lv 0 = some (.ref pm_SB)) (g1 : pm_get lv 1 = some (.ref 0)) (g2 : pm_get lv 2 = some (.ref 349)) (g4 : pm_get lv 4 = some (.int i)) (hb : ∀ j : Int, 0 ≤ j → j ≤ 5 → pm_bad (i + Int32.ofInt j) o.L = false) (h : z_IN th0 0 349 G sz sz) (kk : ∀ (G' : List pE) (sz' : Int32), z_IN th0 0 349 G' sz' sz' → PW p l e R s m args below meth c Q o m_law 1466 lv [] G' cs ss) : PW p l e R s m args below meth c Q o m_law 285 lv [] G cs ss := by
  refine l_aln hF hK hR (e_law0 (285, .aload_n 1, 1) (List.mem_of_getElem? (i := 82) rfl)) g1 ?_
  refine l_argx (j := 1) hF hK hR g0 g4 (e_law0 (286, .aload_n 0, 1) (List.mem_of_getElem? (i := 83) rfl)) (e_law0 (287, .iload 4, 2) (List.mem_of_getElem? (i := 84) rfl)) (e_law0 (289, .iconst 1, 1) (List.mem_of_getElem? (i := 85) rfl)) (e_law0 (290, .iadd, 1) (List.mem_of_getElem? (i := 86) rfl)) (e_law0 (291, .iaload, 1) (List.mem_of_getElem? (i := 87) rfl)) (hb 1 (by decide) (by decide)) ?_
  refine l_c2 (d := 320) (K' := _) hF hK hR hRf (e_law0 (292, .invokevirtual 24, 3) (List.mem_of_getElem? (i := 88) rfl)) ⟨rfl, rfl⟩ t_18_24 ⟨by decide, by decide, by decide, by decide⟩ (by decide) m_14_ok (by decide) rfl (y_recv h.1 th0_tx ⟨rfl, rfl⟩) (Nat.le_of_ble_eq_true rfl) (Nat.le_of_ble_eq_true rfl) (b_end (by decide) th0_tx th0_ta h _) (fun r1 G1 h1 => ?_)
  obtain ⟨y1, s1, rfl, h_1, q1⟩ := h1
  simp only [Option.toList_some, Option.toList_none, List.cons_append, List.nil_append]
  refine l_s0 hF hK hR (e_law0 (295, .pop, 1) (List.mem_of_getElem? (i := 89) rfl)) ⟨rfl, rfl⟩ ?_
  refine l_aln hF hK hR (e_law0 (296, .aload_n 2, 1) (List.mem_of_getElem? (i := 90) rfl)) g2 ?_
  refine l_argx (j := 1) hF hK hR g0 g4 (e_law0 (297, .aload_n 0, 1) (List.mem_of_getElem? (i := 91) rfl)) (e_law0 (298, .iload 4, 2) (List.mem_of_getElem? (i := 92) rfl)) (e_law0 (300, .iconst 1, 1) (List.mem_of_getElem? (i := 93) rfl)) (e_law0 (301, .iadd, 1) (List.mem_of_getElem? (i := 94) rfl)) (e_law0 (302, .iaload, 1) (List.mem_of_getElem? (i := 95) rfl)) (hb 1 (by decide) (by decide)) ?_
  refine l_c2 (d := 320) (K' := _) hF hK hR hRf (e_law0 (303, .invokevirtual 28, 3) (List.mem_of_getElem? (i := 96) rfl)) ⟨rfl, rfl⟩ t_18_28 ⟨by decide, by decide, by decide, by decide⟩ (by decide) m_158_ok (by decide) rfl (y_recv h_1.1 th0_ta ⟨rfl, rfl⟩) (Nat.le_of_ble_eq_true rfl) (Nat.le_of_ble_eq_true rfl) (n_end (by decide) th0_tx th0_ta h_1 _) (fun r1 G2 h1 => ?_)
  obtain ⟨y2, s2, rfl, h_2, q2⟩ := h1
  simp only [Option.toList_some, Option.toList_none, List.cons_append, List.nil_append]
  refine l_s0 hF hK hR (e_law0 (306, .pop, 1) (List.mem_of_getElem? (i := 97) rfl)) ⟨rfl, rfl⟩ ?_
  refine l_s0 hF hK hR (e_law0 (307, .goto 1159, 3) (List.mem_of_getElem? (i := 98) rfl)) ⟨rfl, rfl⟩ ?_
  have es : s1 = s2 := by
    rcases q1 with ⟨a1, a2, a3, a4⟩ | ⟨a1, a2, a3⟩
    · rcases q2 with ⟨b1, b2, b3, b4⟩ | ⟨b1, b2, b3⟩
      · rw [a4, b4]
      · exact absurd ⟨a2, a3⟩ b2
    · rcases q2 with ⟨b1, b2, b3, b4⟩ | ⟨b1, b2, b3⟩
      · exact absurd ⟨b2, b3⟩ a2
      · rw [a3, b3]
  subst es
  exact kk _ _ h_2
set_option maxHeartbeats 4000000 in
set_option maxRecDepth 100000 in
theorem law_land (hF : pm_Fix p s m meth c m_law) (hK : pm_K o s) (hR : cs ≤ R.cells ∧ ss ≤ R.slots) (hRf : 320 + 1 ≤ R.frames ∧ 28 * (320 + 1) ≤ R.locals) (g0 : pm_get lv 0 = some (.ref pm_SB)) (g1 : pm_get lv 1 = some (.ref 0)) (g2 : pm_get lv 2 = some (.ref 349)) (g4 : pm_get lv 4 = some (.int i)) (hb : ∀ j : Int, 0 ≤ j → j ≤ 5 → pm_bad (i + Int32.ofInt j) o.L = false) (h : z_IN th0 0 349 G sz sz) (kk : ∀ (G' : List pE) (sz' : Int32), z_IN th0 0 349 G' sz' sz' → PW p l e R s m args below meth c Q o m_law 1466 lv [] G' cs ss) : PW p l e R s m args below meth c Q o m_law 310 lv [] G cs ss := by
  refine l_aln hF hK hR (e_law0 (310, .aload_n 1, 1) (List.mem_of_getElem? (i := 99) rfl)) g1 ?_
  refine l_c1 (d := 320) (K' := _) hF hK hR hRf (e_law1 (311, .invokevirtual 29, 3) (List.mem_of_getElem? (i := 0) rfl)) ⟨rfl, rfl⟩ t_18_29 ⟨by decide, by decide, by decide, by decide⟩ (by decide) m_16_ok (by decide) rfl (y_recv h.1 th0_tx ⟨rfl, rfl⟩) (Nat.le_of_ble_eq_true rfl) (Nat.le_of_ble_eq_true rfl) (b_land (by decide) th0_tx th0_ta h ) (fun r1 G1 h1 => ?_)
  obtain ⟨y1, rfl, h_1⟩ := h1
  simp only [Option.toList_some, Option.toList_none, List.cons_append, List.nil_append]
  refine l_s0 hF hK hR (e_law1 (314, .pop, 1) (List.mem_of_getElem? (i := 1) rfl)) ⟨rfl, rfl⟩ ?_
  refine l_aln hF hK hR (e_law1 (315, .aload_n 2, 1) (List.mem_of_getElem? (i := 2) rfl)) g2 ?_
  refine l_c1 (d := 320) (K' := _) hF hK hR hRf (e_law1 (316, .invokevirtual 33, 3) (List.mem_of_getElem? (i := 3) rfl)) ⟨rfl, rfl⟩ t_18_33 ⟨by decide, by decide, by decide, by decide⟩ (by decide) m_161_ok (by decide) rfl (y_recv h_1.1 th0_ta ⟨rfl, rfl⟩) (Nat.le_of_ble_eq_true rfl) (Nat.le_of_ble_eq_true rfl) (n_land (by decide) th0_tx th0_ta th0_U h_1) (fun r1 G2 h1 => ?_)
  obtain ⟨y2, rfl, h_2⟩ := h1
  simp only [Option.toList_some, Option.toList_none, List.cons_append, List.nil_append]
  refine l_s0 hF hK hR (e_law1 (319, .pop, 1) (List.mem_of_getElem? (i := 4) rfl)) ⟨rfl, rfl⟩ ?_
  refine l_s0 hF hK hR (e_law1 (320, .goto 1146, 3) (List.mem_of_getElem? (i := 5) rfl)) ⟨rfl, rfl⟩ ?_
  exact kk _ _ h_2
set_option maxHeartbeats 4000000 in
set_option maxRecDepth 100000 in
theorem law_fault (hF : pm_Fix p s m meth c m_law) (hK : pm_K o s) (hR : cs ≤ R.cells ∧ ss ≤ R.slots) (hRf : 320 + 1 ≤ R.frames ∧ 28 * (320 + 1) ≤ R.locals) (g0 : pm_get lv 0 = some (.ref pm_SB)) (g1 : pm_get lv 1 = some (.ref 0)) (g2 : pm_get lv 2 = some (.ref 349)) (g4 : pm_get lv 4 = some (.int i)) (hb : ∀ j : Int, 0 ≤ j → j ≤ 5 → pm_bad (i + Int32.ofInt j) o.L = false) (h : z_IN th0 0 349 G sz sz) (kk : ∀ (G' : List pE) (sz' : Int32), z_IN th0 0 349 G' sz' sz' → PW p l e R s m args below meth c Q o m_law 1466 lv [] G' cs ss) : PW p l e R s m args below meth c Q o m_law 323 lv [] G cs ss := by
  refine l_aln hF hK hR (e_law1 (323, .aload_n 1, 1) (List.mem_of_getElem? (i := 6) rfl)) g1 ?_
  refine l_c1 (d := 320) (K' := _) hF hK hR hRf (e_law1 (324, .invokevirtual 34, 3) (List.mem_of_getElem? (i := 7) rfl)) ⟨rfl, rfl⟩ t_18_34 ⟨by decide, by decide, by decide, by decide⟩ (by decide) m_53_ok (by decide) rfl (y_recv h.1 th0_tx ⟨rfl, rfl⟩) (Nat.le_of_ble_eq_true rfl) (Nat.le_of_ble_eq_true rfl) (b_fault (by decide) th0_tx th0_ta h ) (fun r1 G1 h1 => ?_)
  obtain ⟨⟨y1, rfl, q1⟩, h_1⟩ := h1
  simp only [Option.toList_some, Option.toList_none, List.cons_append, List.nil_append]
  refine l_aln hF hK hR (e_law1 (327, .aload_n 2, 1) (List.mem_of_getElem? (i := 8) rfl)) g2 ?_
  refine l_c1 (d := 320) (K' := _) hF hK hR hRf (e_law1 (328, .invokevirtual 37, 3) (List.mem_of_getElem? (i := 9) rfl)) ⟨rfl, rfl⟩ t_18_37 ⟨by decide, by decide, by decide, by decide⟩ (by decide) m_182_ok (by decide) rfl (y_recv h_1.1 th0_ta ⟨rfl, rfl⟩) (Nat.le_of_ble_eq_true rfl) (Nat.le_of_ble_eq_true rfl) (n_fault (by decide) th0_tx th0_ta h_1 ) (fun r1 G2 h1 => ?_)
  obtain ⟨⟨y2, rfl, q2⟩, h_2⟩ := h1
  simp only [Option.toList_some, Option.toList_none, List.cons_append, List.nil_append]
  have ey : y1 = y2 := Value.int.inj (Option.some.inj (q1.symm.trans q2))
  refine l_icm hF hK hR (e_law1 (331, .if_icmp .eq 1135, 3) (List.mem_of_getElem? (i := 10) rfl)) rfl (fun _ => ?_) (fun hc => absurd ey (y_hI.2.1 hc))
  exact kk _ _ h_2
set_option maxHeartbeats 4000000 in
set_option maxRecDepth 100000 in
theorem law_mill (hF : pm_Fix p s m meth c m_law) (hK : pm_K o s) (hR : cs ≤ R.cells ∧ ss ≤ R.slots) (hRf : 320 + 1 ≤ R.frames ∧ 28 * (320 + 1) ≤ R.locals) (g0 : pm_get lv 0 = some (.ref pm_SB)) (g1 : pm_get lv 1 = some (.ref 0)) (g2 : pm_get lv 2 = some (.ref 349)) (g4 : pm_get lv 4 = some (.int i)) (hb : ∀ j : Int, 0 ≤ j → j ≤ 5 → pm_bad (i + Int32.ofInt j) o.L = false) (h : z_IN th0 0 349 G sz sz) (kk : ∀ (G' : List pE) (sz' : Int32), z_IN th0 0 349 G' sz' sz' → PW p l e R s m args below meth c Q o m_law 1466 lv [] G' cs ss) : PW p l e R s m args below meth c Q o m_law 376 lv [] G cs ss := by
  refine l_aln hF hK hR (e_law1 (376, .aload_n 1, 1) (List.mem_of_getElem? (i := 41) rfl)) g1 ?_
  refine l_argx (j := 1) hF hK hR g0 g4 (e_law1 (377, .aload_n 0, 1) (List.mem_of_getElem? (i := 42) rfl)) (e_law1 (378, .iload 4, 2) (List.mem_of_getElem? (i := 43) rfl)) (e_law1 (380, .iconst 1, 1) (List.mem_of_getElem? (i := 44) rfl)) (e_law1 (381, .iadd, 1) (List.mem_of_getElem? (i := 45) rfl)) (e_law1 (382, .iaload, 1) (List.mem_of_getElem? (i := 46) rfl)) (hb 1 (by decide) (by decide)) ?_
  refine l_argx (j := 2) hF hK hR g0 g4 (e_law1 (383, .aload_n 0, 1) (List.mem_of_getElem? (i := 47) rfl)) (e_law1 (384, .iload 4, 2) (List.mem_of_getElem? (i := 48) rfl)) (e_law1 (386, .iconst 2, 1) (List.mem_of_getElem? (i := 49) rfl)) (e_law1 (387, .iadd, 1) (List.mem_of_getElem? (i := 50) rfl)) (e_law1 (388, .iaload, 1) (List.mem_of_getElem? (i := 51) rfl)) (hb 2 (by decide) (by decide)) ?_
  refine l_c3 (d := 320) (K' := _) hF hK hR hRf (e_law1 (389, .invokevirtual 44, 3) (List.mem_of_getElem? (i := 52) rfl)) ⟨rfl, rfl⟩ t_18_44 ⟨by decide, by decide, by decide, by decide⟩ (by decide) m_54_ok (by decide) rfl (y_recv h.1 th0_tx ⟨rfl, rfl⟩) (Nat.le_of_ble_eq_true rfl) (Nat.le_of_ble_eq_true rfl) (b_mill (by decide) th0_tx th0_ta h _ _) (fun r1 G1 h1 => ?_)
  obtain ⟨⟨y1, rfl⟩, h_1⟩ := h1
  simp only [Option.toList_some, Option.toList_none, List.cons_append, List.nil_append]
  refine l_s0 hF hK hR (e_law1 (392, .pop, 1) (List.mem_of_getElem? (i := 53) rfl)) ⟨rfl, rfl⟩ ?_
  refine l_aln hF hK hR (e_law1 (393, .aload_n 2, 1) (List.mem_of_getElem? (i := 54) rfl)) g2 ?_
  refine l_argx (j := 1) hF hK hR g0 g4 (e_law1 (394, .aload_n 0, 1) (List.mem_of_getElem? (i := 55) rfl)) (e_law1 (395, .iload 4, 2) (List.mem_of_getElem? (i := 56) rfl)) (e_law1 (397, .iconst 1, 1) (List.mem_of_getElem? (i := 57) rfl)) (e_law1 (398, .iadd, 1) (List.mem_of_getElem? (i := 58) rfl)) (e_law1 (399, .iaload, 1) (List.mem_of_getElem? (i := 59) rfl)) (hb 1 (by decide) (by decide)) ?_
  refine l_argx (j := 2) hF hK hR g0 g4 (e_law1 (400, .aload_n 0, 1) (List.mem_of_getElem? (i := 60) rfl)) (e_law1 (401, .iload 4, 2) (List.mem_of_getElem? (i := 61) rfl)) (e_law1 (403, .iconst 2, 1) (List.mem_of_getElem? (i := 62) rfl)) (e_law1 (404, .iadd, 1) (List.mem_of_getElem? (i := 63) rfl)) (e_law1 (405, .iaload, 1) (List.mem_of_getElem? (i := 64) rfl)) (hb 2 (by decide) (by decide)) ?_
  refine l_c3 (d := 320) (K' := _) hF hK hR hRf (e_law1 (406, .invokevirtual 47, 3) (List.mem_of_getElem? (i := 65) rfl)) ⟨rfl, rfl⟩ t_18_47 ⟨by decide, by decide, by decide, by decide⟩ (by decide) m_186_ok (by decide) rfl (y_recv h_1.1 th0_ta ⟨rfl, rfl⟩) (Nat.le_of_ble_eq_true rfl) (Nat.le_of_ble_eq_true rfl) (n_mill (by decide) th0_tx th0_ta h_1 _ _) (fun r1 G2 h1 => ?_)
  obtain ⟨⟨y2, rfl⟩, h_2⟩ := h1
  simp only [Option.toList_some, Option.toList_none, List.cons_append, List.nil_append]
  refine l_s0 hF hK hR (e_law1 (409, .pop, 1) (List.mem_of_getElem? (i := 66) rfl)) ⟨rfl, rfl⟩ ?_
  refine l_s0 hF hK hR (e_law1 (410, .goto 1056, 3) (List.mem_of_getElem? (i := 67) rfl)) ⟨rfl, rfl⟩ ?_
  exact kk _ _ h_2
set_option maxHeartbeats 4000000 in
set_option maxRecDepth 100000 in
theorem law_man (hF : pm_Fix p s m meth c m_law) (hK : pm_K o s) (hR : cs ≤ R.cells ∧ ss ≤ R.slots) (hRf : 320 + 1 ≤ R.frames ∧ 28 * (320 + 1) ≤ R.locals) (g0 : pm_get lv 0 = some (.ref pm_SB)) (g1 : pm_get lv 1 = some (.ref 0)) (g2 : pm_get lv 2 = some (.ref 349)) (g4 : pm_get lv 4 = some (.int i)) (hb : ∀ j : Int, 0 ≤ j → j ≤ 5 → pm_bad (i + Int32.ofInt j) o.L = false) (h : z_IN th0 0 349 G sz sz) (kk : ∀ (G' : List pE) (sz' : Int32), z_IN th0 0 349 G' sz' sz' → PW p l e R s m args below meth c Q o m_law 1466 lv [] G' cs ss) : PW p l e R s m args below meth c Q o m_law 413 lv [] G cs ss := by
  refine l_aln hF hK hR (e_law1 (413, .aload_n 1, 1) (List.mem_of_getElem? (i := 68) rfl)) g1 ?_
  refine l_argx (j := 1) hF hK hR g0 g4 (e_law1 (414, .aload_n 0, 1) (List.mem_of_getElem? (i := 69) rfl)) (e_law1 (415, .iload 4, 2) (List.mem_of_getElem? (i := 70) rfl)) (e_law1 (417, .iconst 1, 1) (List.mem_of_getElem? (i := 71) rfl)) (e_law1 (418, .iadd, 1) (List.mem_of_getElem? (i := 72) rfl)) (e_law1 (419, .iaload, 1) (List.mem_of_getElem? (i := 73) rfl)) (hb 1 (by decide) (by decide)) ?_
  refine l_argx (j := 2) hF hK hR g0 g4 (e_law1 (420, .aload_n 0, 1) (List.mem_of_getElem? (i := 74) rfl)) (e_law1 (421, .iload 4, 2) (List.mem_of_getElem? (i := 75) rfl)) (e_law1 (423, .iconst 2, 1) (List.mem_of_getElem? (i := 76) rfl)) (e_law1 (424, .iadd, 1) (List.mem_of_getElem? (i := 77) rfl)) (e_law1 (425, .iaload, 1) (List.mem_of_getElem? (i := 78) rfl)) (hb 2 (by decide) (by decide)) ?_
  refine l_c3 (d := 320) (K' := _) hF hK hR hRf (e_law1 (426, .invokevirtual 48, 3) (List.mem_of_getElem? (i := 79) rfl)) ⟨rfl, rfl⟩ t_18_48 ⟨by decide, by decide, by decide, by decide⟩ (by decide) m_56_ok (by decide) rfl (y_recv h.1 th0_tx ⟨rfl, rfl⟩) (Nat.le_of_ble_eq_true rfl) (Nat.le_of_ble_eq_true rfl) (b_man (by decide) th0_tx th0_ta h _ _) (fun r1 G1 h1 => ?_)
  obtain ⟨⟨y1, rfl⟩, h_1⟩ := h1
  simp only [Option.toList_some, Option.toList_none, List.cons_append, List.nil_append]
  refine l_s0 hF hK hR (e_law1 (429, .pop, 1) (List.mem_of_getElem? (i := 80) rfl)) ⟨rfl, rfl⟩ ?_
  refine l_aln hF hK hR (e_law1 (430, .aload_n 2, 1) (List.mem_of_getElem? (i := 81) rfl)) g2 ?_
  refine l_argx (j := 1) hF hK hR g0 g4 (e_law1 (431, .aload_n 0, 1) (List.mem_of_getElem? (i := 82) rfl)) (e_law1 (432, .iload 4, 2) (List.mem_of_getElem? (i := 83) rfl)) (e_law1 (434, .iconst 1, 1) (List.mem_of_getElem? (i := 84) rfl)) (e_law1 (435, .iadd, 1) (List.mem_of_getElem? (i := 85) rfl)) (e_law1 (436, .iaload, 1) (List.mem_of_getElem? (i := 86) rfl)) (hb 1 (by decide) (by decide)) ?_
  refine l_argx (j := 2) hF hK hR g0 g4 (e_law1 (437, .aload_n 0, 1) (List.mem_of_getElem? (i := 87) rfl)) (e_law1 (438, .iload 4, 2) (List.mem_of_getElem? (i := 88) rfl)) (e_law1 (440, .iconst 2, 1) (List.mem_of_getElem? (i := 89) rfl)) (e_law1 (441, .iadd, 1) (List.mem_of_getElem? (i := 90) rfl)) (e_law1 (442, .iaload, 1) (List.mem_of_getElem? (i := 91) rfl)) (hb 2 (by decide) (by decide)) ?_
  refine l_c3 (d := 320) (K' := _) hF hK hR hRf (e_law1 (443, .invokevirtual 51, 3) (List.mem_of_getElem? (i := 92) rfl)) ⟨rfl, rfl⟩ t_18_51 ⟨by decide, by decide, by decide, by decide⟩ (by decide) m_187_ok (by decide) rfl (y_recv h_1.1 th0_ta ⟨rfl, rfl⟩) (Nat.le_of_ble_eq_true rfl) (Nat.le_of_ble_eq_true rfl) (n_man (by decide) th0_tx th0_ta h_1 _ _) (fun r1 G2 h1 => ?_)
  obtain ⟨⟨y2, rfl⟩, h_2⟩ := h1
  simp only [Option.toList_some, Option.toList_none, List.cons_append, List.nil_append]
  refine l_s0 hF hK hR (e_law1 (446, .pop, 1) (List.mem_of_getElem? (i := 93) rfl)) ⟨rfl, rfl⟩ ?_
  refine l_s0 hF hK hR (e_law1 (447, .goto 1019, 3) (List.mem_of_getElem? (i := 94) rfl)) ⟨rfl, rfl⟩ ?_
  exact kk _ _ h_2
set_option maxHeartbeats 4000000 in
set_option maxRecDepth 100000 in
theorem law_passage (hF : pm_Fix p s m meth c m_law) (hK : pm_K o s) (hR : cs ≤ R.cells ∧ ss ≤ R.slots) (hRf : 320 + 1 ≤ R.frames ∧ 28 * (320 + 1) ≤ R.locals) (g0 : pm_get lv 0 = some (.ref pm_SB)) (g1 : pm_get lv 1 = some (.ref 0)) (g2 : pm_get lv 2 = some (.ref 349)) (g4 : pm_get lv 4 = some (.int i)) (hb : ∀ j : Int, 0 ≤ j → j ≤ 5 → pm_bad (i + Int32.ofInt j) o.L = false) (h : z_IN th0 0 349 G sz sz) (kk : ∀ (G' : List pE) (sz' : Int32), z_IN th0 0 349 G' sz' sz' → PW p l e R s m args below meth c Q o m_law 1466 lv [] G' cs ss) : PW p l e R s m args below meth c Q o m_law 450 lv [] G cs ss := by
  refine l_aln hF hK hR (e_law1 (450, .aload_n 1, 1) (List.mem_of_getElem? (i := 95) rfl)) g1 ?_
  refine l_argx (j := 1) hF hK hR g0 g4 (e_law1 (451, .aload_n 0, 1) (List.mem_of_getElem? (i := 96) rfl)) (e_law1 (452, .iload 4, 2) (List.mem_of_getElem? (i := 97) rfl)) (e_law1 (454, .iconst 1, 1) (List.mem_of_getElem? (i := 98) rfl)) (e_law1 (455, .iadd, 1) (List.mem_of_getElem? (i := 99) rfl)) (e_law2 (456, .iaload, 1) (List.mem_of_getElem? (i := 0) rfl)) (hb 1 (by decide) (by decide)) ?_
  refine l_argx (j := 2) hF hK hR g0 g4 (e_law2 (457, .aload_n 0, 1) (List.mem_of_getElem? (i := 1) rfl)) (e_law2 (458, .iload 4, 2) (List.mem_of_getElem? (i := 2) rfl)) (e_law2 (460, .iconst 2, 1) (List.mem_of_getElem? (i := 3) rfl)) (e_law2 (461, .iadd, 1) (List.mem_of_getElem? (i := 4) rfl)) (e_law2 (462, .iaload, 1) (List.mem_of_getElem? (i := 5) rfl)) (hb 2 (by decide) (by decide)) ?_
  refine l_c3 (d := 320) (K' := _) hF hK hR hRf (e_law2 (463, .invokevirtual 52, 3) (List.mem_of_getElem? (i := 6) rfl)) ⟨rfl, rfl⟩ t_18_52 ⟨by decide, by decide, by decide, by decide⟩ (by decide) m_58_ok (by decide) rfl (y_recv h.1 th0_tx ⟨rfl, rfl⟩) (Nat.le_of_ble_eq_true rfl) (Nat.le_of_ble_eq_true rfl) (b_passage (by decide) th0_tx th0_ta h _ _) (fun r1 G1 h1 => ?_)
  obtain ⟨⟨y1, rfl⟩, h_1⟩ := h1
  simp only [Option.toList_some, Option.toList_none, List.cons_append, List.nil_append]
  refine l_s0 hF hK hR (e_law2 (466, .pop, 1) (List.mem_of_getElem? (i := 7) rfl)) ⟨rfl, rfl⟩ ?_
  refine l_aln hF hK hR (e_law2 (467, .aload_n 2, 1) (List.mem_of_getElem? (i := 8) rfl)) g2 ?_
  refine l_argx (j := 1) hF hK hR g0 g4 (e_law2 (468, .aload_n 0, 1) (List.mem_of_getElem? (i := 9) rfl)) (e_law2 (469, .iload 4, 2) (List.mem_of_getElem? (i := 10) rfl)) (e_law2 (471, .iconst 1, 1) (List.mem_of_getElem? (i := 11) rfl)) (e_law2 (472, .iadd, 1) (List.mem_of_getElem? (i := 12) rfl)) (e_law2 (473, .iaload, 1) (List.mem_of_getElem? (i := 13) rfl)) (hb 1 (by decide) (by decide)) ?_
  refine l_argx (j := 2) hF hK hR g0 g4 (e_law2 (474, .aload_n 0, 1) (List.mem_of_getElem? (i := 14) rfl)) (e_law2 (475, .iload 4, 2) (List.mem_of_getElem? (i := 15) rfl)) (e_law2 (477, .iconst 2, 1) (List.mem_of_getElem? (i := 16) rfl)) (e_law2 (478, .iadd, 1) (List.mem_of_getElem? (i := 17) rfl)) (e_law2 (479, .iaload, 1) (List.mem_of_getElem? (i := 18) rfl)) (hb 2 (by decide) (by decide)) ?_
  refine l_c3 (d := 320) (K' := _) hF hK hR hRf (e_law2 (480, .invokevirtual 55, 3) (List.mem_of_getElem? (i := 19) rfl)) ⟨rfl, rfl⟩ t_18_55 ⟨by decide, by decide, by decide, by decide⟩ (by decide) m_189_ok (by decide) rfl (y_recv h_1.1 th0_ta ⟨rfl, rfl⟩) (Nat.le_of_ble_eq_true rfl) (Nat.le_of_ble_eq_true rfl) (n_passage (by decide) th0_tx th0_ta h_1 _ _) (fun r1 G2 h1 => ?_)
  obtain ⟨⟨y2, rfl⟩, h_2⟩ := h1
  simp only [Option.toList_some, Option.toList_none, List.cons_append, List.nil_append]
  refine l_s0 hF hK hR (e_law2 (483, .pop, 1) (List.mem_of_getElem? (i := 20) rfl)) ⟨rfl, rfl⟩ ?_
  refine l_s0 hF hK hR (e_law2 (484, .goto 982, 3) (List.mem_of_getElem? (i := 21) rfl)) ⟨rfl, rfl⟩ ?_
  exact kk _ _ h_2
set_option maxHeartbeats 4000000 in
set_option maxRecDepth 100000 in
theorem law_now (hF : pm_Fix p s m meth c m_law) (hK : pm_K o s) (hR : cs ≤ R.cells ∧ ss ≤ R.slots) (hRf : 320 + 1 ≤ R.frames ∧ 28 * (320 + 1) ≤ R.locals) (g0 : pm_get lv 0 = some (.ref pm_SB)) (g1 : pm_get lv 1 = some (.ref 0)) (g2 : pm_get lv 2 = some (.ref 349)) (g4 : pm_get lv 4 = some (.int i)) (hb : ∀ j : Int, 0 ≤ j → j ≤ 5 → pm_bad (i + Int32.ofInt j) o.L = false) (h : z_IN th0 0 349 G sz sz) (kk : ∀ (G' : List pE) (sz' : Int32), z_IN th0 0 349 G' sz' sz' → PW p l e R s m args below meth c Q o m_law 1466 lv [] G' cs ss) : PW p l e R s m args below meth c Q o m_law 487 lv [] G cs ss := by
  refine l_aln hF hK hR (e_law2 (487, .aload_n 1, 1) (List.mem_of_getElem? (i := 22) rfl)) g1 ?_
  refine l_argx (j := 1) hF hK hR g0 g4 (e_law2 (488, .aload_n 0, 1) (List.mem_of_getElem? (i := 23) rfl)) (e_law2 (489, .iload 4, 2) (List.mem_of_getElem? (i := 24) rfl)) (e_law2 (491, .iconst 1, 1) (List.mem_of_getElem? (i := 25) rfl)) (e_law2 (492, .iadd, 1) (List.mem_of_getElem? (i := 26) rfl)) (e_law2 (493, .iaload, 1) (List.mem_of_getElem? (i := 27) rfl)) (hb 1 (by decide) (by decide)) ?_
  refine l_c2 (d := 320) (K' := _) hF hK hR hRf (e_law2 (494, .invokevirtual 56, 3) (List.mem_of_getElem? (i := 28) rfl)) ⟨rfl, rfl⟩ t_18_56 ⟨by decide, by decide, by decide, by decide⟩ (by decide) m_61_ok (by decide) rfl (y_recv h.1 th0_tx ⟨rfl, rfl⟩) (Nat.le_of_ble_eq_true rfl) (Nat.le_of_ble_eq_true rfl) (b_now (by decide) th0_tx th0_ta h _) (fun r1 G1 h1 => ?_)
  obtain ⟨⟨y1, rfl⟩, h_1⟩ := h1
  simp only [Option.toList_some, Option.toList_none, List.cons_append, List.nil_append]
  refine l_s0 hF hK hR (e_law2 (497, .pop, 1) (List.mem_of_getElem? (i := 29) rfl)) ⟨rfl, rfl⟩ ?_
  refine l_aln hF hK hR (e_law2 (498, .aload_n 2, 1) (List.mem_of_getElem? (i := 30) rfl)) g2 ?_
  refine l_argx (j := 1) hF hK hR g0 g4 (e_law2 (499, .aload_n 0, 1) (List.mem_of_getElem? (i := 31) rfl)) (e_law2 (500, .iload 4, 2) (List.mem_of_getElem? (i := 32) rfl)) (e_law2 (502, .iconst 1, 1) (List.mem_of_getElem? (i := 33) rfl)) (e_law2 (503, .iadd, 1) (List.mem_of_getElem? (i := 34) rfl)) (e_law2 (504, .iaload, 1) (List.mem_of_getElem? (i := 35) rfl)) (hb 1 (by decide) (by decide)) ?_
  refine l_c2 (d := 320) (K' := _) hF hK hR hRf (e_law2 (505, .invokevirtual 60, 3) (List.mem_of_getElem? (i := 36) rfl)) ⟨rfl, rfl⟩ t_18_60 ⟨by decide, by decide, by decide, by decide⟩ (by decide) m_196_ok (by decide) rfl (y_recv h_1.1 th0_ta ⟨rfl, rfl⟩) (Nat.le_of_ble_eq_true rfl) (Nat.le_of_ble_eq_true rfl) (n_now (by decide) th0_tx th0_ta h_1 _) (fun r1 G2 h1 => ?_)
  obtain ⟨⟨y2, rfl⟩, h_2⟩ := h1
  simp only [Option.toList_some, Option.toList_none, List.cons_append, List.nil_append]
  refine l_s0 hF hK hR (e_law2 (508, .pop, 1) (List.mem_of_getElem? (i := 37) rfl)) ⟨rfl, rfl⟩ ?_
  refine l_s0 hF hK hR (e_law2 (509, .goto 957, 3) (List.mem_of_getElem? (i := 38) rfl)) ⟨rfl, rfl⟩ ?_
  exact kk _ _ h_2
set_option maxHeartbeats 4000000 in
set_option maxRecDepth 100000 in
theorem law_air (hF : pm_Fix p s m meth c m_law) (hK : pm_K o s) (hR : cs ≤ R.cells ∧ ss ≤ R.slots) (hRf : 320 + 1 ≤ R.frames ∧ 28 * (320 + 1) ≤ R.locals) (g0 : pm_get lv 0 = some (.ref pm_SB)) (g1 : pm_get lv 1 = some (.ref 0)) (g2 : pm_get lv 2 = some (.ref 349)) (g4 : pm_get lv 4 = some (.int i)) (hb : ∀ j : Int, 0 ≤ j → j ≤ 5 → pm_bad (i + Int32.ofInt j) o.L = false) (h : z_IN th0 0 349 G sz sz) (kk : ∀ (G' : List pE) (sz' : Int32), z_IN th0 0 349 G' sz' sz' → PW p l e R s m args below meth c Q o m_law 1466 lv [] G' cs ss) : PW p l e R s m args below meth c Q o m_law 512 lv [] G cs ss := by
  refine l_aln hF hK hR (e_law2 (512, .aload_n 1, 1) (List.mem_of_getElem? (i := 39) rfl)) g1 ?_
  refine l_argx (j := 1) hF hK hR g0 g4 (e_law2 (513, .aload_n 0, 1) (List.mem_of_getElem? (i := 40) rfl)) (e_law2 (514, .iload 4, 2) (List.mem_of_getElem? (i := 41) rfl)) (e_law2 (516, .iconst 1, 1) (List.mem_of_getElem? (i := 42) rfl)) (e_law2 (517, .iadd, 1) (List.mem_of_getElem? (i := 43) rfl)) (e_law2 (518, .iaload, 1) (List.mem_of_getElem? (i := 44) rfl)) (hb 1 (by decide) (by decide)) ?_
  refine l_argx (j := 2) hF hK hR g0 g4 (e_law2 (519, .aload_n 0, 1) (List.mem_of_getElem? (i := 45) rfl)) (e_law2 (520, .iload 4, 2) (List.mem_of_getElem? (i := 46) rfl)) (e_law2 (522, .iconst 2, 1) (List.mem_of_getElem? (i := 47) rfl)) (e_law2 (523, .iadd, 1) (List.mem_of_getElem? (i := 48) rfl)) (e_law2 (524, .iaload, 1) (List.mem_of_getElem? (i := 49) rfl)) (hb 2 (by decide) (by decide)) ?_
  refine l_c3 (d := 320) (K' := _) hF hK hR hRf (e_law2 (525, .invokevirtual 61, 3) (List.mem_of_getElem? (i := 50) rfl)) ⟨rfl, rfl⟩ t_18_61 ⟨by decide, by decide, by decide, by decide⟩ (by decide) m_67_ok (by decide) rfl (y_recv h.1 th0_tx ⟨rfl, rfl⟩) (Nat.le_of_ble_eq_true rfl) (Nat.le_of_ble_eq_true rfl) (b_air (by decide) th0_tx th0_ta h _ _) (fun r1 G1 h1 => ?_)
  obtain ⟨⟨y1, rfl⟩, h_1⟩ := h1
  simp only [Option.toList_some, Option.toList_none, List.cons_append, List.nil_append]
  refine l_s0 hF hK hR (e_law2 (528, .pop, 1) (List.mem_of_getElem? (i := 51) rfl)) ⟨rfl, rfl⟩ ?_
  refine l_aln hF hK hR (e_law2 (529, .aload_n 2, 1) (List.mem_of_getElem? (i := 52) rfl)) g2 ?_
  refine l_argx (j := 1) hF hK hR g0 g4 (e_law2 (530, .aload_n 0, 1) (List.mem_of_getElem? (i := 53) rfl)) (e_law2 (531, .iload 4, 2) (List.mem_of_getElem? (i := 54) rfl)) (e_law2 (533, .iconst 1, 1) (List.mem_of_getElem? (i := 55) rfl)) (e_law2 (534, .iadd, 1) (List.mem_of_getElem? (i := 56) rfl)) (e_law2 (535, .iaload, 1) (List.mem_of_getElem? (i := 57) rfl)) (hb 1 (by decide) (by decide)) ?_
  refine l_argx (j := 2) hF hK hR g0 g4 (e_law2 (536, .aload_n 0, 1) (List.mem_of_getElem? (i := 58) rfl)) (e_law2 (537, .iload 4, 2) (List.mem_of_getElem? (i := 59) rfl)) (e_law2 (539, .iconst 2, 1) (List.mem_of_getElem? (i := 60) rfl)) (e_law2 (540, .iadd, 1) (List.mem_of_getElem? (i := 61) rfl)) (e_law2 (541, .iaload, 1) (List.mem_of_getElem? (i := 62) rfl)) (hb 2 (by decide) (by decide)) ?_
  refine l_c3 (d := 320) (K' := _) hF hK hR hRf (e_law2 (542, .invokevirtual 64, 3) (List.mem_of_getElem? (i := 63) rfl)) ⟨rfl, rfl⟩ t_18_64 ⟨by decide, by decide, by decide, by decide⟩ (by decide) m_190_ok (by decide) rfl (y_recv h_1.1 th0_ta ⟨rfl, rfl⟩) (Nat.le_of_ble_eq_true rfl) (Nat.le_of_ble_eq_true rfl) (n_air (by decide) th0_tx th0_ta h_1 _ _) (fun r1 G2 h1 => ?_)
  obtain ⟨⟨y2, rfl⟩, h_2⟩ := h1
  simp only [Option.toList_some, Option.toList_none, List.cons_append, List.nil_append]
  refine l_s0 hF hK hR (e_law2 (545, .pop, 1) (List.mem_of_getElem? (i := 64) rfl)) ⟨rfl, rfl⟩ ?_
  refine l_s0 hF hK hR (e_law2 (546, .goto 920, 3) (List.mem_of_getElem? (i := 65) rfl)) ⟨rfl, rfl⟩ ?_
  exact kk _ _ h_2
set_option maxHeartbeats 4000000 in
set_option maxRecDepth 100000 in
theorem law_force (hF : pm_Fix p s m meth c m_law) (hK : pm_K o s) (hR : cs ≤ R.cells ∧ ss ≤ R.slots) (hRf : 320 + 1 ≤ R.frames ∧ 28 * (320 + 1) ≤ R.locals) (g0 : pm_get lv 0 = some (.ref pm_SB)) (g1 : pm_get lv 1 = some (.ref 0)) (g2 : pm_get lv 2 = some (.ref 349)) (g4 : pm_get lv 4 = some (.int i)) (hb : ∀ j : Int, 0 ≤ j → j ≤ 5 → pm_bad (i + Int32.ofInt j) o.L = false) (h : z_IN th0 0 349 G sz sz) (kk : ∀ (G' : List pE) (sz' : Int32), z_IN th0 0 349 G' sz' sz' → PW p l e R s m args below meth c Q o m_law 1466 lv [] G' cs ss) : PW p l e R s m args below meth c Q o m_law 549 lv [] G cs ss := by
  refine l_aln hF hK hR (e_law2 (549, .aload_n 1, 1) (List.mem_of_getElem? (i := 66) rfl)) g1 ?_
  refine l_argx (j := 1) hF hK hR g0 g4 (e_law2 (550, .aload_n 0, 1) (List.mem_of_getElem? (i := 67) rfl)) (e_law2 (551, .iload 4, 2) (List.mem_of_getElem? (i := 68) rfl)) (e_law2 (553, .iconst 1, 1) (List.mem_of_getElem? (i := 69) rfl)) (e_law2 (554, .iadd, 1) (List.mem_of_getElem? (i := 70) rfl)) (e_law2 (555, .iaload, 1) (List.mem_of_getElem? (i := 71) rfl)) (hb 1 (by decide) (by decide)) ?_
  refine l_argx (j := 2) hF hK hR g0 g4 (e_law2 (556, .aload_n 0, 1) (List.mem_of_getElem? (i := 72) rfl)) (e_law2 (557, .iload 4, 2) (List.mem_of_getElem? (i := 73) rfl)) (e_law2 (559, .iconst 2, 1) (List.mem_of_getElem? (i := 74) rfl)) (e_law2 (560, .iadd, 1) (List.mem_of_getElem? (i := 75) rfl)) (e_law2 (561, .iaload, 1) (List.mem_of_getElem? (i := 76) rfl)) (hb 2 (by decide) (by decide)) ?_
  refine l_c3 (d := 320) (K' := _) hF hK hR hRf (e_law2 (562, .invokevirtual 65, 3) (List.mem_of_getElem? (i := 77) rfl)) ⟨rfl, rfl⟩ t_18_65 ⟨by decide, by decide, by decide, by decide⟩ (by decide) m_69_ok (by decide) rfl (y_recv h.1 th0_tx ⟨rfl, rfl⟩) (Nat.le_of_ble_eq_true rfl) (Nat.le_of_ble_eq_true rfl) (b_force (by decide) th0_tx th0_ta h _ _) (fun r1 G1 h1 => ?_)
  obtain ⟨⟨y1, rfl⟩, h_1⟩ := h1
  simp only [Option.toList_some, Option.toList_none, List.cons_append, List.nil_append]
  refine l_s0 hF hK hR (e_law2 (565, .pop, 1) (List.mem_of_getElem? (i := 78) rfl)) ⟨rfl, rfl⟩ ?_
  refine l_aln hF hK hR (e_law2 (566, .aload_n 2, 1) (List.mem_of_getElem? (i := 79) rfl)) g2 ?_
  refine l_argx (j := 1) hF hK hR g0 g4 (e_law2 (567, .aload_n 0, 1) (List.mem_of_getElem? (i := 80) rfl)) (e_law2 (568, .iload 4, 2) (List.mem_of_getElem? (i := 81) rfl)) (e_law2 (570, .iconst 1, 1) (List.mem_of_getElem? (i := 82) rfl)) (e_law2 (571, .iadd, 1) (List.mem_of_getElem? (i := 83) rfl)) (e_law2 (572, .iaload, 1) (List.mem_of_getElem? (i := 84) rfl)) (hb 1 (by decide) (by decide)) ?_
  refine l_argx (j := 2) hF hK hR g0 g4 (e_law2 (573, .aload_n 0, 1) (List.mem_of_getElem? (i := 85) rfl)) (e_law2 (574, .iload 4, 2) (List.mem_of_getElem? (i := 86) rfl)) (e_law2 (576, .iconst 2, 1) (List.mem_of_getElem? (i := 87) rfl)) (e_law2 (577, .iadd, 1) (List.mem_of_getElem? (i := 88) rfl)) (e_law2 (578, .iaload, 1) (List.mem_of_getElem? (i := 89) rfl)) (hb 2 (by decide) (by decide)) ?_
  refine l_c3 (d := 320) (K' := _) hF hK hR hRf (e_law2 (579, .invokevirtual 68, 3) (List.mem_of_getElem? (i := 90) rfl)) ⟨rfl, rfl⟩ t_18_68 ⟨by decide, by decide, by decide, by decide⟩ (by decide) m_193_ok (by decide) rfl (y_recv h_1.1 th0_ta ⟨rfl, rfl⟩) (Nat.le_of_ble_eq_true rfl) (Nat.le_of_ble_eq_true rfl) (n_force (by decide) th0_tx th0_ta h_1 _ _) (fun r1 G2 h1 => ?_)
  obtain ⟨⟨y2, rfl⟩, h_2⟩ := h1
  simp only [Option.toList_some, Option.toList_none, List.cons_append, List.nil_append]
  refine l_s0 hF hK hR (e_law2 (582, .pop, 1) (List.mem_of_getElem? (i := 91) rfl)) ⟨rfl, rfl⟩ ?_
  refine l_s0 hF hK hR (e_law2 (583, .goto 883, 3) (List.mem_of_getElem? (i := 92) rfl)) ⟨rfl, rfl⟩ ?_
  exact kk _ _ h_2
set_option maxHeartbeats 4000000 in
set_option maxRecDepth 100000 in
theorem law_tie (hF : pm_Fix p s m meth c m_law) (hK : pm_K o s) (hR : cs ≤ R.cells ∧ ss ≤ R.slots) (hRf : 320 + 1 ≤ R.frames ∧ 28 * (320 + 1) ≤ R.locals) (g0 : pm_get lv 0 = some (.ref pm_SB)) (g1 : pm_get lv 1 = some (.ref 0)) (g2 : pm_get lv 2 = some (.ref 349)) (g4 : pm_get lv 4 = some (.int i)) (hb : ∀ j : Int, 0 ≤ j → j ≤ 5 → pm_bad (i + Int32.ofInt j) o.L = false) (h : z_IN th0 0 349 G sz sz) (kk : ∀ (G' : List pE) (sz' : Int32), z_IN th0 0 349 G' sz' sz' → PW p l e R s m args below meth c Q o m_law 1466 lv [] G' cs ss) : PW p l e R s m args below meth c Q o m_law 586 lv [] G cs ss := by
  refine l_aln hF hK hR (e_law2 (586, .aload_n 1, 1) (List.mem_of_getElem? (i := 93) rfl)) g1 ?_
  refine l_argx (j := 1) hF hK hR g0 g4 (e_law2 (587, .aload_n 0, 1) (List.mem_of_getElem? (i := 94) rfl)) (e_law2 (588, .iload 4, 2) (List.mem_of_getElem? (i := 95) rfl)) (e_law2 (590, .iconst 1, 1) (List.mem_of_getElem? (i := 96) rfl)) (e_law2 (591, .iadd, 1) (List.mem_of_getElem? (i := 97) rfl)) (e_law2 (592, .iaload, 1) (List.mem_of_getElem? (i := 98) rfl)) (hb 1 (by decide) (by decide)) ?_
  refine l_argx (j := 2) hF hK hR g0 g4 (e_law2 (593, .aload_n 0, 1) (List.mem_of_getElem? (i := 99) rfl)) (e_law3 (594, .iload 4, 2) (List.mem_of_getElem? (i := 0) rfl)) (e_law3 (596, .iconst 2, 1) (List.mem_of_getElem? (i := 1) rfl)) (e_law3 (597, .iadd, 1) (List.mem_of_getElem? (i := 2) rfl)) (e_law3 (598, .iaload, 1) (List.mem_of_getElem? (i := 3) rfl)) (hb 2 (by decide) (by decide)) ?_
  refine l_c3 (d := 320) (K' := _) hF hK hR hRf (e_law3 (599, .invokevirtual 69, 3) (List.mem_of_getElem? (i := 4) rfl)) ⟨rfl, rfl⟩ t_18_69 ⟨by decide, by decide, by decide, by decide⟩ (by decide) m_73_ok (by decide) rfl (y_recv h.1 th0_tx ⟨rfl, rfl⟩) (Nat.le_of_ble_eq_true rfl) (Nat.le_of_ble_eq_true rfl) (b_tie (by decide) th0_tx th0_ta h _ _) (fun r1 G1 h1 => ?_)
  obtain ⟨⟨y1, rfl⟩, h_1⟩ := h1
  simp only [Option.toList_some, Option.toList_none, List.cons_append, List.nil_append]
  refine l_s0 hF hK hR (e_law3 (602, .pop, 1) (List.mem_of_getElem? (i := 5) rfl)) ⟨rfl, rfl⟩ ?_
  refine l_aln hF hK hR (e_law3 (603, .aload_n 2, 1) (List.mem_of_getElem? (i := 6) rfl)) g2 ?_
  refine l_argx (j := 1) hF hK hR g0 g4 (e_law3 (604, .aload_n 0, 1) (List.mem_of_getElem? (i := 7) rfl)) (e_law3 (605, .iload 4, 2) (List.mem_of_getElem? (i := 8) rfl)) (e_law3 (607, .iconst 1, 1) (List.mem_of_getElem? (i := 9) rfl)) (e_law3 (608, .iadd, 1) (List.mem_of_getElem? (i := 10) rfl)) (e_law3 (609, .iaload, 1) (List.mem_of_getElem? (i := 11) rfl)) (hb 1 (by decide) (by decide)) ?_
  refine l_argx (j := 2) hF hK hR g0 g4 (e_law3 (610, .aload_n 0, 1) (List.mem_of_getElem? (i := 12) rfl)) (e_law3 (611, .iload 4, 2) (List.mem_of_getElem? (i := 13) rfl)) (e_law3 (613, .iconst 2, 1) (List.mem_of_getElem? (i := 14) rfl)) (e_law3 (614, .iadd, 1) (List.mem_of_getElem? (i := 15) rfl)) (e_law3 (615, .iaload, 1) (List.mem_of_getElem? (i := 16) rfl)) (hb 2 (by decide) (by decide)) ?_
  refine l_c3 (d := 320) (K' := _) hF hK hR hRf (e_law3 (616, .invokevirtual 72, 3) (List.mem_of_getElem? (i := 17) rfl)) ⟨rfl, rfl⟩ t_18_72 ⟨by decide, by decide, by decide, by decide⟩ (by decide) m_198_ok (by decide) rfl (y_recv h_1.1 th0_ta ⟨rfl, rfl⟩) (Nat.le_of_ble_eq_true rfl) (Nat.le_of_ble_eq_true rfl) (n_tie (by decide) th0_tx th0_ta h_1 _ _) (fun r1 G2 h1 => ?_)
  obtain ⟨⟨y2, rfl⟩, h_2⟩ := h1
  simp only [Option.toList_some, Option.toList_none, List.cons_append, List.nil_append]
  refine l_s0 hF hK hR (e_law3 (619, .pop, 1) (List.mem_of_getElem? (i := 18) rfl)) ⟨rfl, rfl⟩ ?_
  refine l_s0 hF hK hR (e_law3 (620, .goto 846, 3) (List.mem_of_getElem? (i := 19) rfl)) ⟨rfl, rfl⟩ ?_
  exact kk _ _ h_2
set_option maxHeartbeats 4000000 in
set_option maxRecDepth 100000 in
theorem law_walk (hF : pm_Fix p s m meth c m_law) (hK : pm_K o s) (hR : cs ≤ R.cells ∧ ss ≤ R.slots) (hRf : 320 + 1 ≤ R.frames ∧ 28 * (320 + 1) ≤ R.locals) (g0 : pm_get lv 0 = some (.ref pm_SB)) (g1 : pm_get lv 1 = some (.ref 0)) (g2 : pm_get lv 2 = some (.ref 349)) (g4 : pm_get lv 4 = some (.int i)) (hb : ∀ j : Int, 0 ≤ j → j ≤ 5 → pm_bad (i + Int32.ofInt j) o.L = false) (h : z_IN th0 0 349 G sz sz) (kk : ∀ (G' : List pE) (sz' : Int32), z_IN th0 0 349 G' sz' sz' → PW p l e R s m args below meth c Q o m_law 1466 lv [] G' cs ss) : PW p l e R s m args below meth c Q o m_law 623 lv [] G cs ss := by
  refine l_aln hF hK hR (e_law3 (623, .aload_n 1, 1) (List.mem_of_getElem? (i := 20) rfl)) g1 ?_
  refine l_argx (j := 1) hF hK hR g0 g4 (e_law3 (624, .aload_n 0, 1) (List.mem_of_getElem? (i := 21) rfl)) (e_law3 (625, .iload 4, 2) (List.mem_of_getElem? (i := 22) rfl)) (e_law3 (627, .iconst 1, 1) (List.mem_of_getElem? (i := 23) rfl)) (e_law3 (628, .iadd, 1) (List.mem_of_getElem? (i := 24) rfl)) (e_law3 (629, .iaload, 1) (List.mem_of_getElem? (i := 25) rfl)) (hb 1 (by decide) (by decide)) ?_
  refine l_argx (j := 2) hF hK hR g0 g4 (e_law3 (630, .aload_n 0, 1) (List.mem_of_getElem? (i := 26) rfl)) (e_law3 (631, .iload 4, 2) (List.mem_of_getElem? (i := 27) rfl)) (e_law3 (633, .iconst 2, 1) (List.mem_of_getElem? (i := 28) rfl)) (e_law3 (634, .iadd, 1) (List.mem_of_getElem? (i := 29) rfl)) (e_law3 (635, .iaload, 1) (List.mem_of_getElem? (i := 30) rfl)) (hb 2 (by decide) (by decide)) ?_
  refine l_c3 (d := 320) (K' := _) hF hK hR hRf (e_law3 (636, .invokevirtual 73, 3) (List.mem_of_getElem? (i := 31) rfl)) ⟨rfl, rfl⟩ t_18_73 ⟨by decide, by decide, by decide, by decide⟩ (by decide) m_79_ok (by decide) rfl (y_recv h.1 th0_tx ⟨rfl, rfl⟩) (Nat.le_of_ble_eq_true rfl) (Nat.le_of_ble_eq_true rfl) (b_walk (by decide) th0_tx th0_ta h _ _) (fun r1 G1 h1 => ?_)
  obtain ⟨⟨y1, rfl⟩, h_1⟩ := h1
  simp only [Option.toList_some, Option.toList_none, List.cons_append, List.nil_append]
  refine l_s0 hF hK hR (e_law3 (639, .pop, 1) (List.mem_of_getElem? (i := 32) rfl)) ⟨rfl, rfl⟩ ?_
  refine l_aln hF hK hR (e_law3 (640, .aload_n 2, 1) (List.mem_of_getElem? (i := 33) rfl)) g2 ?_
  refine l_argx (j := 1) hF hK hR g0 g4 (e_law3 (641, .aload_n 0, 1) (List.mem_of_getElem? (i := 34) rfl)) (e_law3 (642, .iload 4, 2) (List.mem_of_getElem? (i := 35) rfl)) (e_law3 (644, .iconst 1, 1) (List.mem_of_getElem? (i := 36) rfl)) (e_law3 (645, .iadd, 1) (List.mem_of_getElem? (i := 37) rfl)) (e_law3 (646, .iaload, 1) (List.mem_of_getElem? (i := 38) rfl)) (hb 1 (by decide) (by decide)) ?_
  refine l_argx (j := 2) hF hK hR g0 g4 (e_law3 (647, .aload_n 0, 1) (List.mem_of_getElem? (i := 39) rfl)) (e_law3 (648, .iload 4, 2) (List.mem_of_getElem? (i := 40) rfl)) (e_law3 (650, .iconst 2, 1) (List.mem_of_getElem? (i := 41) rfl)) (e_law3 (651, .iadd, 1) (List.mem_of_getElem? (i := 42) rfl)) (e_law3 (652, .iaload, 1) (List.mem_of_getElem? (i := 43) rfl)) (hb 2 (by decide) (by decide)) ?_
  refine l_c3 (d := 320) (K' := _) hF hK hR hRf (e_law3 (653, .invokevirtual 76, 3) (List.mem_of_getElem? (i := 44) rfl)) ⟨rfl, rfl⟩ t_18_76 ⟨by decide, by decide, by decide, by decide⟩ (by decide) m_202_ok (by decide) rfl (y_recv h_1.1 th0_ta ⟨rfl, rfl⟩) (Nat.le_of_ble_eq_true rfl) (Nat.le_of_ble_eq_true rfl) (n_walk (by decide) th0_tx th0_ta h_1 _ _) (fun r1 G2 h1 => ?_)
  obtain ⟨⟨y2, rfl⟩, h_2⟩ := h1
  simp only [Option.toList_some, Option.toList_none, List.cons_append, List.nil_append]
  refine l_s0 hF hK hR (e_law3 (656, .pop, 1) (List.mem_of_getElem? (i := 45) rfl)) ⟨rfl, rfl⟩ ?_
  refine l_s0 hF hK hR (e_law3 (657, .goto 809, 3) (List.mem_of_getElem? (i := 46) rfl)) ⟨rfl, rfl⟩ ?_
  exact kk _ _ h_2
set_option maxHeartbeats 4000000 in
set_option maxRecDepth 100000 in
theorem law_cough (hF : pm_Fix p s m meth c m_law) (hK : pm_K o s) (hR : cs ≤ R.cells ∧ ss ≤ R.slots) (hRf : 320 + 1 ≤ R.frames ∧ 28 * (320 + 1) ≤ R.locals) (g0 : pm_get lv 0 = some (.ref pm_SB)) (g1 : pm_get lv 1 = some (.ref 0)) (g2 : pm_get lv 2 = some (.ref 349)) (g4 : pm_get lv 4 = some (.int i)) (hb : ∀ j : Int, 0 ≤ j → j ≤ 5 → pm_bad (i + Int32.ofInt j) o.L = false) (h : z_IN th0 0 349 G sz sz) (kk : ∀ (G' : List pE) (sz' : Int32), z_IN th0 0 349 G' sz' sz' → PW p l e R s m args below meth c Q o m_law 1466 lv [] G' cs ss) : PW p l e R s m args below meth c Q o m_law 660 lv [] G cs ss := by
  refine l_aln hF hK hR (e_law3 (660, .aload_n 1, 1) (List.mem_of_getElem? (i := 47) rfl)) g1 ?_
  refine l_c1 (d := 320) (K' := _) hF hK hR hRf (e_law3 (661, .invokevirtual 77, 3) (List.mem_of_getElem? (i := 48) rfl)) ⟨rfl, rfl⟩ t_18_77 ⟨by decide, by decide, by decide, by decide⟩ (by decide) m_93_ok (by decide) rfl (y_recv h.1 th0_tx ⟨rfl, rfl⟩) (Nat.le_of_ble_eq_true rfl) (Nat.le_of_ble_eq_true rfl) (b_cough (by decide) th0_tx th0_ta h ) (fun r1 G1 h1 => ?_)
  obtain ⟨⟨y1, rfl⟩, h_1⟩ := h1
  simp only [Option.toList_some, Option.toList_none, List.cons_append, List.nil_append]
  refine l_s0 hF hK hR (e_law3 (664, .pop, 1) (List.mem_of_getElem? (i := 49) rfl)) ⟨rfl, rfl⟩ ?_
  refine l_aln hF hK hR (e_law3 (665, .aload_n 2, 1) (List.mem_of_getElem? (i := 50) rfl)) g2 ?_
  refine l_c1 (d := 320) (K' := _) hF hK hR hRf (e_law3 (666, .invokevirtual 80, 3) (List.mem_of_getElem? (i := 51) rfl)) ⟨rfl, rfl⟩ t_18_80 ⟨by decide, by decide, by decide, by decide⟩ (by decide) m_212_ok (by decide) rfl (y_recv h_1.1 th0_ta ⟨rfl, rfl⟩) (Nat.le_of_ble_eq_true rfl) (Nat.le_of_ble_eq_true rfl) (n_cough (by decide) th0_tx th0_ta h_1 ) (fun r1 G2 h1 => ?_)
  obtain ⟨⟨y2, rfl⟩, h_2⟩ := h1
  simp only [Option.toList_some, Option.toList_none, List.cons_append, List.nil_append]
  refine l_s0 hF hK hR (e_law3 (669, .pop, 1) (List.mem_of_getElem? (i := 52) rfl)) ⟨rfl, rfl⟩ ?_
  refine l_s0 hF hK hR (e_law3 (670, .goto 796, 3) (List.mem_of_getElem? (i := 53) rfl)) ⟨rfl, rfl⟩ ?_
  exact kk _ _ h_2
set_option maxHeartbeats 4000000 in
set_option maxRecDepth 100000 in
theorem law_hours (hF : pm_Fix p s m meth c m_law) (hK : pm_K o s) (hR : cs ≤ R.cells ∧ ss ≤ R.slots) (hRf : 320 + 1 ≤ R.frames ∧ 28 * (320 + 1) ≤ R.locals) (g0 : pm_get lv 0 = some (.ref pm_SB)) (g1 : pm_get lv 1 = some (.ref 0)) (g2 : pm_get lv 2 = some (.ref 349)) (g4 : pm_get lv 4 = some (.int i)) (hb : ∀ j : Int, 0 ≤ j → j ≤ 5 → pm_bad (i + Int32.ofInt j) o.L = false) (h : z_IN th0 0 349 G sz sz) (kk : ∀ (G' : List pE) (sz' : Int32), z_IN th0 0 349 G' sz' sz' → PW p l e R s m args below meth c Q o m_law 1466 lv [] G' cs ss) : PW p l e R s m args below meth c Q o m_law 673 lv [] G cs ss := by
  refine l_aln hF hK hR (e_law3 (673, .aload_n 1, 1) (List.mem_of_getElem? (i := 54) rfl)) g1 ?_
  refine l_argx (j := 1) hF hK hR g0 g4 (e_law3 (674, .aload_n 0, 1) (List.mem_of_getElem? (i := 55) rfl)) (e_law3 (675, .iload 4, 2) (List.mem_of_getElem? (i := 56) rfl)) (e_law3 (677, .iconst 1, 1) (List.mem_of_getElem? (i := 57) rfl)) (e_law3 (678, .iadd, 1) (List.mem_of_getElem? (i := 58) rfl)) (e_law3 (679, .iaload, 1) (List.mem_of_getElem? (i := 59) rfl)) (hb 1 (by decide) (by decide)) ?_
  refine l_c2 (d := 320) (K' := _) hF hK hR hRf (e_law3 (680, .invokevirtual 81, 3) (List.mem_of_getElem? (i := 60) rfl)) ⟨rfl, rfl⟩ t_18_81 ⟨by decide, by decide, by decide, by decide⟩ (by decide) m_95_ok (by decide) rfl (y_recv h.1 th0_tx ⟨rfl, rfl⟩) (Nat.le_of_ble_eq_true rfl) (Nat.le_of_ble_eq_true rfl) (b_hours (by decide) th0_tx th0_ta h _) (fun r1 G1 h1 => ?_)
  obtain ⟨⟨y1, rfl⟩, h_1⟩ := h1
  simp only [Option.toList_some, Option.toList_none, List.cons_append, List.nil_append]
  refine l_s0 hF hK hR (e_law3 (683, .pop, 1) (List.mem_of_getElem? (i := 61) rfl)) ⟨rfl, rfl⟩ ?_
  refine l_aln hF hK hR (e_law3 (684, .aload_n 2, 1) (List.mem_of_getElem? (i := 62) rfl)) g2 ?_
  refine l_argx (j := 1) hF hK hR g0 g4 (e_law3 (685, .aload_n 0, 1) (List.mem_of_getElem? (i := 63) rfl)) (e_law3 (686, .iload 4, 2) (List.mem_of_getElem? (i := 64) rfl)) (e_law3 (688, .iconst 1, 1) (List.mem_of_getElem? (i := 65) rfl)) (e_law3 (689, .iadd, 1) (List.mem_of_getElem? (i := 66) rfl)) (e_law3 (690, .iaload, 1) (List.mem_of_getElem? (i := 67) rfl)) (hb 1 (by decide) (by decide)) ?_
  refine l_c2 (d := 320) (K' := _) hF hK hR hRf (e_law3 (691, .invokevirtual 84, 3) (List.mem_of_getElem? (i := 68) rfl)) ⟨rfl, rfl⟩ t_18_84 ⟨by decide, by decide, by decide, by decide⟩ (by decide) m_214_ok (by decide) rfl (y_recv h_1.1 th0_ta ⟨rfl, rfl⟩) (Nat.le_of_ble_eq_true rfl) (Nat.le_of_ble_eq_true rfl) (n_hours (by decide) th0_tx th0_ta h_1 _) (fun r1 G2 h1 => ?_)
  obtain ⟨⟨y2, rfl⟩, h_2⟩ := h1
  simp only [Option.toList_some, Option.toList_none, List.cons_append, List.nil_append]
  refine l_s0 hF hK hR (e_law3 (694, .pop, 1) (List.mem_of_getElem? (i := 69) rfl)) ⟨rfl, rfl⟩ ?_
  refine l_s0 hF hK hR (e_law3 (695, .goto 771, 3) (List.mem_of_getElem? (i := 70) rfl)) ⟨rfl, rfl⟩ ?_
  exact kk _ _ h_2
set_option maxHeartbeats 4000000 in
set_option maxRecDepth 100000 in
theorem law_undo (hF : pm_Fix p s m meth c m_law) (hK : pm_K o s) (hR : cs ≤ R.cells ∧ ss ≤ R.slots) (hRf : 320 + 1 ≤ R.frames ∧ 28 * (320 + 1) ≤ R.locals) (g0 : pm_get lv 0 = some (.ref pm_SB)) (g1 : pm_get lv 1 = some (.ref 0)) (g2 : pm_get lv 2 = some (.ref 349)) (g4 : pm_get lv 4 = some (.int i)) (hb : ∀ j : Int, 0 ≤ j → j ≤ 5 → pm_bad (i + Int32.ofInt j) o.L = false) (h : z_IN th0 0 349 G sz sz) (kk : ∀ (G' : List pE) (sz' : Int32), z_IN th0 0 349 G' sz' sz' → PW p l e R s m args below meth c Q o m_law 1466 lv [] G' cs ss) : PW p l e R s m args below meth c Q o m_law 698 lv [] G cs ss := by
  refine l_aln hF hK hR (e_law3 (698, .aload_n 1, 1) (List.mem_of_getElem? (i := 71) rfl)) g1 ?_
  refine l_c1 (d := 320) (K' := _) hF hK hR hRf (e_law3 (699, .invokevirtual 85, 3) (List.mem_of_getElem? (i := 72) rfl)) ⟨rfl, rfl⟩ t_18_85 ⟨by decide, by decide, by decide, by decide⟩ (by decide) m_103_ok (by decide) rfl (y_recv h.1 th0_tx ⟨rfl, rfl⟩) (Nat.le_of_ble_eq_true rfl) (Nat.le_of_ble_eq_true rfl) (b_undo (by decide) th0_tx th0_ta h ) (fun r1 G1 h1 => ?_)
  obtain ⟨⟨y1, rfl⟩, h_1⟩ := h1
  simp only [Option.toList_some, Option.toList_none, List.cons_append, List.nil_append]
  refine l_s0 hF hK hR (e_law3 (702, .pop, 1) (List.mem_of_getElem? (i := 73) rfl)) ⟨rfl, rfl⟩ ?_
  refine l_aln hF hK hR (e_law3 (703, .aload_n 2, 1) (List.mem_of_getElem? (i := 74) rfl)) g2 ?_
  refine l_c1 (d := 320) (K' := _) hF hK hR hRf (e_law3 (704, .invokevirtual 88, 3) (List.mem_of_getElem? (i := 75) rfl)) ⟨rfl, rfl⟩ t_18_88 ⟨by decide, by decide, by decide, by decide⟩ (by decide) m_216_ok (by decide) rfl (y_recv h_1.1 th0_ta ⟨rfl, rfl⟩) (Nat.le_of_ble_eq_true rfl) (Nat.le_of_ble_eq_true rfl) (n_undo (by decide) th0_tx th0_ta h_1 ) (fun r1 G2 h1 => ?_)
  obtain ⟨⟨y2, rfl⟩, h_2⟩ := h1
  simp only [Option.toList_some, Option.toList_none, List.cons_append, List.nil_append]
  refine l_s0 hF hK hR (e_law3 (707, .pop, 1) (List.mem_of_getElem? (i := 76) rfl)) ⟨rfl, rfl⟩ ?_
  refine l_s0 hF hK hR (e_law3 (708, .goto 758, 3) (List.mem_of_getElem? (i := 77) rfl)) ⟨rfl, rfl⟩ ?_
  exact kk _ _ h_2
set_option maxHeartbeats 4000000 in
set_option maxRecDepth 100000 in
theorem law_letter (hF : pm_Fix p s m meth c m_law) (hK : pm_K o s) (hR : cs ≤ R.cells ∧ ss ≤ R.slots) (hRf : 320 + 1 ≤ R.frames ∧ 28 * (320 + 1) ≤ R.locals) (g0 : pm_get lv 0 = some (.ref pm_SB)) (g1 : pm_get lv 1 = some (.ref 0)) (g2 : pm_get lv 2 = some (.ref 349)) (g4 : pm_get lv 4 = some (.int i)) (hb : ∀ j : Int, 0 ≤ j → j ≤ 5 → pm_bad (i + Int32.ofInt j) o.L = false) (h : z_IN th0 0 349 G sz sz) (kk : ∀ (G' : List pE) (sz' : Int32), z_IN th0 0 349 G' sz' sz' → PW p l e R s m args below meth c Q o m_law 1466 lv [] G' cs ss) : PW p l e R s m args below meth c Q o m_law 711 lv [] G cs ss := by
  refine l_aln hF hK hR (e_law3 (711, .aload_n 1, 1) (List.mem_of_getElem? (i := 78) rfl)) g1 ?_
  refine l_argx (j := 1) hF hK hR g0 g4 (e_law3 (712, .aload_n 0, 1) (List.mem_of_getElem? (i := 79) rfl)) (e_law3 (713, .iload 4, 2) (List.mem_of_getElem? (i := 80) rfl)) (e_law3 (715, .iconst 1, 1) (List.mem_of_getElem? (i := 81) rfl)) (e_law3 (716, .iadd, 1) (List.mem_of_getElem? (i := 82) rfl)) (e_law3 (717, .iaload, 1) (List.mem_of_getElem? (i := 83) rfl)) (hb 1 (by decide) (by decide)) ?_
  refine l_argx (j := 2) hF hK hR g0 g4 (e_law3 (718, .aload_n 0, 1) (List.mem_of_getElem? (i := 84) rfl)) (e_law3 (719, .iload 4, 2) (List.mem_of_getElem? (i := 85) rfl)) (e_law3 (721, .iconst 2, 1) (List.mem_of_getElem? (i := 86) rfl)) (e_law3 (722, .iadd, 1) (List.mem_of_getElem? (i := 87) rfl)) (e_law3 (723, .iaload, 1) (List.mem_of_getElem? (i := 88) rfl)) (hb 2 (by decide) (by decide)) ?_
  refine l_argx (j := 3) hF hK hR g0 g4 (e_law3 (724, .aload_n 0, 1) (List.mem_of_getElem? (i := 89) rfl)) (e_law3 (725, .iload 4, 2) (List.mem_of_getElem? (i := 90) rfl)) (e_law3 (727, .iconst 3, 1) (List.mem_of_getElem? (i := 91) rfl)) (e_law3 (728, .iadd, 1) (List.mem_of_getElem? (i := 92) rfl)) (e_law3 (729, .iaload, 1) (List.mem_of_getElem? (i := 93) rfl)) (hb 3 (by decide) (by decide)) ?_
  refine l_argx (j := 4) hF hK hR g0 g4 (e_law3 (730, .aload_n 0, 1) (List.mem_of_getElem? (i := 94) rfl)) (e_law3 (731, .iload 4, 2) (List.mem_of_getElem? (i := 95) rfl)) (e_law3 (733, .iconst 4, 1) (List.mem_of_getElem? (i := 96) rfl)) (e_law3 (734, .iadd, 1) (List.mem_of_getElem? (i := 97) rfl)) (e_law3 (735, .iaload, 1) (List.mem_of_getElem? (i := 98) rfl)) (hb 4 (by decide) (by decide)) ?_
  refine l_c5 (d := 320) (K' := _) hF hK hR hRf (e_law3 (736, .invokevirtual 89, 3) (List.mem_of_getElem? (i := 99) rfl)) ⟨rfl, rfl⟩ t_18_89 ⟨by decide, by decide, by decide, by decide⟩ (by decide) m_104_ok (by decide) rfl (y_recv h.1 th0_tx ⟨rfl, rfl⟩) (Nat.le_of_ble_eq_true rfl) (Nat.le_of_ble_eq_true rfl) (b_letter (by decide) th0_tx th0_ta h _ _ _ _) (fun r1 G1 h1 => ?_)
  obtain ⟨⟨y1, rfl⟩, h_1⟩ := h1
  simp only [Option.toList_some, Option.toList_none, List.cons_append, List.nil_append]
  refine l_s0 hF hK hR (e_law4 (739, .pop, 1) (List.mem_of_getElem? (i := 0) rfl)) ⟨rfl, rfl⟩ ?_
  refine l_aln hF hK hR (e_law4 (740, .aload_n 2, 1) (List.mem_of_getElem? (i := 1) rfl)) g2 ?_
  refine l_argx (j := 1) hF hK hR g0 g4 (e_law4 (741, .aload_n 0, 1) (List.mem_of_getElem? (i := 2) rfl)) (e_law4 (742, .iload 4, 2) (List.mem_of_getElem? (i := 3) rfl)) (e_law4 (744, .iconst 1, 1) (List.mem_of_getElem? (i := 4) rfl)) (e_law4 (745, .iadd, 1) (List.mem_of_getElem? (i := 5) rfl)) (e_law4 (746, .iaload, 1) (List.mem_of_getElem? (i := 6) rfl)) (hb 1 (by decide) (by decide)) ?_
  refine l_argx (j := 2) hF hK hR g0 g4 (e_law4 (747, .aload_n 0, 1) (List.mem_of_getElem? (i := 7) rfl)) (e_law4 (748, .iload 4, 2) (List.mem_of_getElem? (i := 8) rfl)) (e_law4 (750, .iconst 2, 1) (List.mem_of_getElem? (i := 9) rfl)) (e_law4 (751, .iadd, 1) (List.mem_of_getElem? (i := 10) rfl)) (e_law4 (752, .iaload, 1) (List.mem_of_getElem? (i := 11) rfl)) (hb 2 (by decide) (by decide)) ?_
  refine l_argx (j := 3) hF hK hR g0 g4 (e_law4 (753, .aload_n 0, 1) (List.mem_of_getElem? (i := 12) rfl)) (e_law4 (754, .iload 4, 2) (List.mem_of_getElem? (i := 13) rfl)) (e_law4 (756, .iconst 3, 1) (List.mem_of_getElem? (i := 14) rfl)) (e_law4 (757, .iadd, 1) (List.mem_of_getElem? (i := 15) rfl)) (e_law4 (758, .iaload, 1) (List.mem_of_getElem? (i := 16) rfl)) (hb 3 (by decide) (by decide)) ?_
  refine l_argx (j := 4) hF hK hR g0 g4 (e_law4 (759, .aload_n 0, 1) (List.mem_of_getElem? (i := 17) rfl)) (e_law4 (760, .iload 4, 2) (List.mem_of_getElem? (i := 18) rfl)) (e_law4 (762, .iconst 4, 1) (List.mem_of_getElem? (i := 19) rfl)) (e_law4 (763, .iadd, 1) (List.mem_of_getElem? (i := 20) rfl)) (e_law4 (764, .iaload, 1) (List.mem_of_getElem? (i := 21) rfl)) (hb 4 (by decide) (by decide)) ?_
  refine l_c5 (d := 320) (K' := _) hF hK hR hRf (e_law4 (765, .invokevirtual 93, 3) (List.mem_of_getElem? (i := 22) rfl)) ⟨rfl, rfl⟩ t_18_93 ⟨by decide, by decide, by decide, by decide⟩ (by decide) m_217_ok (by decide) rfl (y_recv h_1.1 th0_ta ⟨rfl, rfl⟩) (Nat.le_of_ble_eq_true rfl) (Nat.le_of_ble_eq_true rfl) (n_letter (by decide) th0_tx th0_ta h_1 _ _ _ _) (fun r1 G2 h1 => ?_)
  obtain ⟨⟨y2, rfl⟩, h_2⟩ := h1
  simp only [Option.toList_some, Option.toList_none, List.cons_append, List.nil_append]
  refine l_s0 hF hK hR (e_law4 (768, .pop, 1) (List.mem_of_getElem? (i := 23) rfl)) ⟨rfl, rfl⟩ ?_
  refine l_s0 hF hK hR (e_law4 (769, .goto 697, 3) (List.mem_of_getElem? (i := 24) rfl)) ⟨rfl, rfl⟩ ?_
  exact kk _ _ h_2
set_option maxHeartbeats 4000000 in
set_option maxRecDepth 100000 in
theorem law_heaviest (hF : pm_Fix p s m meth c m_law) (hK : pm_K o s) (hR : cs ≤ R.cells ∧ ss ≤ R.slots) (hRf : 320 + 1 ≤ R.frames ∧ 28 * (320 + 1) ≤ R.locals) (g0 : pm_get lv 0 = some (.ref pm_SB)) (g1 : pm_get lv 1 = some (.ref 0)) (g2 : pm_get lv 2 = some (.ref 349)) (g4 : pm_get lv 4 = some (.int i)) (hb : ∀ j : Int, 0 ≤ j → j ≤ 5 → pm_bad (i + Int32.ofInt j) o.L = false) (h : z_IN th0 0 349 G sz sz) (kk : ∀ (G' : List pE) (sz' : Int32), z_IN th0 0 349 G' sz' sz' → PW p l e R s m args below meth c Q o m_law 1466 lv [] G' cs ss) : PW p l e R s m args below meth c Q o m_law 772 lv [] G cs ss := by
  refine l_aln hF hK hR (e_law4 (772, .aload_n 1, 1) (List.mem_of_getElem? (i := 25) rfl)) g1 ?_
  refine l_argx (j := 1) hF hK hR g0 g4 (e_law4 (773, .aload_n 0, 1) (List.mem_of_getElem? (i := 26) rfl)) (e_law4 (774, .iload 4, 2) (List.mem_of_getElem? (i := 27) rfl)) (e_law4 (776, .iconst 1, 1) (List.mem_of_getElem? (i := 28) rfl)) (e_law4 (777, .iadd, 1) (List.mem_of_getElem? (i := 29) rfl)) (e_law4 (778, .iaload, 1) (List.mem_of_getElem? (i := 30) rfl)) (hb 1 (by decide) (by decide)) ?_
  refine l_argx (j := 2) hF hK hR g0 g4 (e_law4 (779, .aload_n 0, 1) (List.mem_of_getElem? (i := 31) rfl)) (e_law4 (780, .iload 4, 2) (List.mem_of_getElem? (i := 32) rfl)) (e_law4 (782, .iconst 2, 1) (List.mem_of_getElem? (i := 33) rfl)) (e_law4 (783, .iadd, 1) (List.mem_of_getElem? (i := 34) rfl)) (e_law4 (784, .iaload, 1) (List.mem_of_getElem? (i := 35) rfl)) (hb 2 (by decide) (by decide)) ?_
  refine l_argx (j := 3) hF hK hR g0 g4 (e_law4 (785, .aload_n 0, 1) (List.mem_of_getElem? (i := 36) rfl)) (e_law4 (786, .iload 4, 2) (List.mem_of_getElem? (i := 37) rfl)) (e_law4 (788, .iconst 3, 1) (List.mem_of_getElem? (i := 38) rfl)) (e_law4 (789, .iadd, 1) (List.mem_of_getElem? (i := 39) rfl)) (e_law4 (790, .iaload, 1) (List.mem_of_getElem? (i := 40) rfl)) (hb 3 (by decide) (by decide)) ?_
  refine l_argx (j := 4) hF hK hR g0 g4 (e_law4 (791, .aload_n 0, 1) (List.mem_of_getElem? (i := 41) rfl)) (e_law4 (792, .iload 4, 2) (List.mem_of_getElem? (i := 42) rfl)) (e_law4 (794, .iconst 4, 1) (List.mem_of_getElem? (i := 43) rfl)) (e_law4 (795, .iadd, 1) (List.mem_of_getElem? (i := 44) rfl)) (e_law4 (796, .iaload, 1) (List.mem_of_getElem? (i := 45) rfl)) (hb 4 (by decide) (by decide)) ?_
  refine l_c5 (d := 320) (K' := _) hF hK hR hRf (e_law4 (797, .invokevirtual 94, 3) (List.mem_of_getElem? (i := 46) rfl)) ⟨rfl, rfl⟩ t_18_94 ⟨by decide, by decide, by decide, by decide⟩ (by decide) m_107_ok (by decide) rfl (y_recv h.1 th0_tx ⟨rfl, rfl⟩) (Nat.le_of_ble_eq_true rfl) (Nat.le_of_ble_eq_true rfl) (b_heaviest (by decide) th0_tx th0_ta h _ _ _ _) (fun r1 G1 h1 => ?_)
  obtain ⟨⟨y1, rfl⟩, h_1⟩ := h1
  simp only [Option.toList_some, Option.toList_none, List.cons_append, List.nil_append]
  refine l_s0 hF hK hR (e_law4 (800, .pop, 1) (List.mem_of_getElem? (i := 47) rfl)) ⟨rfl, rfl⟩ ?_
  refine l_aln hF hK hR (e_law4 (801, .aload_n 2, 1) (List.mem_of_getElem? (i := 48) rfl)) g2 ?_
  refine l_argx (j := 1) hF hK hR g0 g4 (e_law4 (802, .aload_n 0, 1) (List.mem_of_getElem? (i := 49) rfl)) (e_law4 (803, .iload 4, 2) (List.mem_of_getElem? (i := 50) rfl)) (e_law4 (805, .iconst 1, 1) (List.mem_of_getElem? (i := 51) rfl)) (e_law4 (806, .iadd, 1) (List.mem_of_getElem? (i := 52) rfl)) (e_law4 (807, .iaload, 1) (List.mem_of_getElem? (i := 53) rfl)) (hb 1 (by decide) (by decide)) ?_
  refine l_argx (j := 2) hF hK hR g0 g4 (e_law4 (808, .aload_n 0, 1) (List.mem_of_getElem? (i := 54) rfl)) (e_law4 (809, .iload 4, 2) (List.mem_of_getElem? (i := 55) rfl)) (e_law4 (811, .iconst 2, 1) (List.mem_of_getElem? (i := 56) rfl)) (e_law4 (812, .iadd, 1) (List.mem_of_getElem? (i := 57) rfl)) (e_law4 (813, .iaload, 1) (List.mem_of_getElem? (i := 58) rfl)) (hb 2 (by decide) (by decide)) ?_
  refine l_argx (j := 3) hF hK hR g0 g4 (e_law4 (814, .aload_n 0, 1) (List.mem_of_getElem? (i := 59) rfl)) (e_law4 (815, .iload 4, 2) (List.mem_of_getElem? (i := 60) rfl)) (e_law4 (817, .iconst 3, 1) (List.mem_of_getElem? (i := 61) rfl)) (e_law4 (818, .iadd, 1) (List.mem_of_getElem? (i := 62) rfl)) (e_law4 (819, .iaload, 1) (List.mem_of_getElem? (i := 63) rfl)) (hb 3 (by decide) (by decide)) ?_
  refine l_argx (j := 4) hF hK hR g0 g4 (e_law4 (820, .aload_n 0, 1) (List.mem_of_getElem? (i := 64) rfl)) (e_law4 (821, .iload 4, 2) (List.mem_of_getElem? (i := 65) rfl)) (e_law4 (823, .iconst 4, 1) (List.mem_of_getElem? (i := 66) rfl)) (e_law4 (824, .iadd, 1) (List.mem_of_getElem? (i := 67) rfl)) (e_law4 (825, .iaload, 1) (List.mem_of_getElem? (i := 68) rfl)) (hb 4 (by decide) (by decide)) ?_
  refine l_c5 (d := 320) (K' := _) hF hK hR hRf (e_law4 (826, .invokevirtual 97, 3) (List.mem_of_getElem? (i := 69) rfl)) ⟨rfl, rfl⟩ t_18_97 ⟨by decide, by decide, by decide, by decide⟩ (by decide) m_219_ok (by decide) rfl (y_recv h_1.1 th0_ta ⟨rfl, rfl⟩) (Nat.le_of_ble_eq_true rfl) (Nat.le_of_ble_eq_true rfl) (n_heaviest (by decide) th0_tx th0_ta h_1 _ _ _ _) (fun r1 G2 h1 => ?_)
  obtain ⟨⟨y2, rfl⟩, h_2⟩ := h1
  simp only [Option.toList_some, Option.toList_none, List.cons_append, List.nil_append]
  refine l_s0 hF hK hR (e_law4 (829, .pop, 1) (List.mem_of_getElem? (i := 70) rfl)) ⟨rfl, rfl⟩ ?_
  refine l_s0 hF hK hR (e_law4 (830, .goto 636, 3) (List.mem_of_getElem? (i := 71) rfl)) ⟨rfl, rfl⟩ ?_
  exact kk _ _ h_2
set_option maxHeartbeats 4000000 in
set_option maxRecDepth 100000 in
theorem law_best (hF : pm_Fix p s m meth c m_law) (hK : pm_K o s) (hR : cs ≤ R.cells ∧ ss ≤ R.slots) (hRf : 320 + 1 ≤ R.frames ∧ 28 * (320 + 1) ≤ R.locals) (g0 : pm_get lv 0 = some (.ref pm_SB)) (g1 : pm_get lv 1 = some (.ref 0)) (g2 : pm_get lv 2 = some (.ref 349)) (g4 : pm_get lv 4 = some (.int i)) (hb : ∀ j : Int, 0 ≤ j → j ≤ 5 → pm_bad (i + Int32.ofInt j) o.L = false) (h : z_IN th0 0 349 G sz sz) (kk : ∀ (G' : List pE) (sz' : Int32), z_IN th0 0 349 G' sz' sz' → PW p l e R s m args below meth c Q o m_law 1466 lv [] G' cs ss) : PW p l e R s m args below meth c Q o m_law 833 lv [] G cs ss := by
  refine l_aln hF hK hR (e_law4 (833, .aload_n 1, 1) (List.mem_of_getElem? (i := 72) rfl)) g1 ?_
  refine l_argx (j := 1) hF hK hR g0 g4 (e_law4 (834, .aload_n 0, 1) (List.mem_of_getElem? (i := 73) rfl)) (e_law4 (835, .iload 4, 2) (List.mem_of_getElem? (i := 74) rfl)) (e_law4 (837, .iconst 1, 1) (List.mem_of_getElem? (i := 75) rfl)) (e_law4 (838, .iadd, 1) (List.mem_of_getElem? (i := 76) rfl)) (e_law4 (839, .iaload, 1) (List.mem_of_getElem? (i := 77) rfl)) (hb 1 (by decide) (by decide)) ?_
  refine l_argx (j := 2) hF hK hR g0 g4 (e_law4 (840, .aload_n 0, 1) (List.mem_of_getElem? (i := 78) rfl)) (e_law4 (841, .iload 4, 2) (List.mem_of_getElem? (i := 79) rfl)) (e_law4 (843, .iconst 2, 1) (List.mem_of_getElem? (i := 80) rfl)) (e_law4 (844, .iadd, 1) (List.mem_of_getElem? (i := 81) rfl)) (e_law4 (845, .iaload, 1) (List.mem_of_getElem? (i := 82) rfl)) (hb 2 (by decide) (by decide)) ?_
  refine l_argx (j := 3) hF hK hR g0 g4 (e_law4 (846, .aload_n 0, 1) (List.mem_of_getElem? (i := 83) rfl)) (e_law4 (847, .iload 4, 2) (List.mem_of_getElem? (i := 84) rfl)) (e_law4 (849, .iconst 3, 1) (List.mem_of_getElem? (i := 85) rfl)) (e_law4 (850, .iadd, 1) (List.mem_of_getElem? (i := 86) rfl)) (e_law4 (851, .iaload, 1) (List.mem_of_getElem? (i := 87) rfl)) (hb 3 (by decide) (by decide)) ?_
  refine l_c4 (d := 320) (K' := _) hF hK hR hRf (e_law4 (852, .invokevirtual 98, 3) (List.mem_of_getElem? (i := 88) rfl)) ⟨rfl, rfl⟩ t_18_98 ⟨by decide, by decide, by decide, by decide⟩ (by decide) m_108_ok (by decide) rfl (y_recv h.1 th0_tx ⟨rfl, rfl⟩) (Nat.le_of_ble_eq_true rfl) (Nat.le_of_ble_eq_true rfl) (b_best (by decide) th0_tx th0_ta h _ _ _) (fun r1 G1 h1 => ?_)
  obtain ⟨⟨y1, rfl⟩, h_1⟩ := h1
  simp only [Option.toList_some, Option.toList_none, List.cons_append, List.nil_append]
  refine l_s0 hF hK hR (e_law4 (855, .pop, 1) (List.mem_of_getElem? (i := 89) rfl)) ⟨rfl, rfl⟩ ?_
  refine l_aln hF hK hR (e_law4 (856, .aload_n 2, 1) (List.mem_of_getElem? (i := 90) rfl)) g2 ?_
  refine l_argx (j := 1) hF hK hR g0 g4 (e_law4 (857, .aload_n 0, 1) (List.mem_of_getElem? (i := 91) rfl)) (e_law4 (858, .iload 4, 2) (List.mem_of_getElem? (i := 92) rfl)) (e_law4 (860, .iconst 1, 1) (List.mem_of_getElem? (i := 93) rfl)) (e_law4 (861, .iadd, 1) (List.mem_of_getElem? (i := 94) rfl)) (e_law4 (862, .iaload, 1) (List.mem_of_getElem? (i := 95) rfl)) (hb 1 (by decide) (by decide)) ?_
  refine l_argx (j := 2) hF hK hR g0 g4 (e_law4 (863, .aload_n 0, 1) (List.mem_of_getElem? (i := 96) rfl)) (e_law4 (864, .iload 4, 2) (List.mem_of_getElem? (i := 97) rfl)) (e_law4 (866, .iconst 2, 1) (List.mem_of_getElem? (i := 98) rfl)) (e_law4 (867, .iadd, 1) (List.mem_of_getElem? (i := 99) rfl)) (e_law5 (868, .iaload, 1) (List.mem_of_getElem? (i := 0) rfl)) (hb 2 (by decide) (by decide)) ?_
  refine l_argx (j := 3) hF hK hR g0 g4 (e_law5 (869, .aload_n 0, 1) (List.mem_of_getElem? (i := 1) rfl)) (e_law5 (870, .iload 4, 2) (List.mem_of_getElem? (i := 2) rfl)) (e_law5 (872, .iconst 3, 1) (List.mem_of_getElem? (i := 3) rfl)) (e_law5 (873, .iadd, 1) (List.mem_of_getElem? (i := 4) rfl)) (e_law5 (874, .iaload, 1) (List.mem_of_getElem? (i := 5) rfl)) (hb 3 (by decide) (by decide)) ?_
  refine l_c4 (d := 320) (K' := _) hF hK hR hRf (e_law5 (875, .invokevirtual 102, 3) (List.mem_of_getElem? (i := 6) rfl)) ⟨rfl, rfl⟩ t_18_102 ⟨by decide, by decide, by decide, by decide⟩ (by decide) m_220_ok (by decide) rfl (y_recv h_1.1 th0_ta ⟨rfl, rfl⟩) (Nat.le_of_ble_eq_true rfl) (Nat.le_of_ble_eq_true rfl) (n_best (by decide) th0_tx th0_ta h_1 _ _ _) (fun r1 G2 h1 => ?_)
  obtain ⟨⟨y2, rfl⟩, h_2⟩ := h1
  simp only [Option.toList_some, Option.toList_none, List.cons_append, List.nil_append]
  refine l_s0 hF hK hR (e_law5 (878, .pop, 1) (List.mem_of_getElem? (i := 7) rfl)) ⟨rfl, rfl⟩ ?_
  refine l_s0 hF hK hR (e_law5 (879, .goto 587, 3) (List.mem_of_getElem? (i := 8) rfl)) ⟨rfl, rfl⟩ ?_
  exact kk _ _ h_2
set_option maxHeartbeats 4000000 in
set_option maxRecDepth 100000 in
theorem law_soonest (hF : pm_Fix p s m meth c m_law) (hK : pm_K o s) (hR : cs ≤ R.cells ∧ ss ≤ R.slots) (hRf : 320 + 1 ≤ R.frames ∧ 28 * (320 + 1) ≤ R.locals) (g0 : pm_get lv 0 = some (.ref pm_SB)) (g1 : pm_get lv 1 = some (.ref 0)) (g2 : pm_get lv 2 = some (.ref 349)) (g4 : pm_get lv 4 = some (.int i)) (hb : ∀ j : Int, 0 ≤ j → j ≤ 5 → pm_bad (i + Int32.ofInt j) o.L = false) (h : z_IN th0 0 349 G sz sz) (kk : ∀ (G' : List pE) (sz' : Int32), z_IN th0 0 349 G' sz' sz' → PW p l e R s m args below meth c Q o m_law 1466 lv [] G' cs ss) : PW p l e R s m args below meth c Q o m_law 882 lv [] G cs ss := by
  refine l_aln hF hK hR (e_law5 (882, .aload_n 1, 1) (List.mem_of_getElem? (i := 9) rfl)) g1 ?_
  refine l_argx (j := 1) hF hK hR g0 g4 (e_law5 (883, .aload_n 0, 1) (List.mem_of_getElem? (i := 10) rfl)) (e_law5 (884, .iload 4, 2) (List.mem_of_getElem? (i := 11) rfl)) (e_law5 (886, .iconst 1, 1) (List.mem_of_getElem? (i := 12) rfl)) (e_law5 (887, .iadd, 1) (List.mem_of_getElem? (i := 13) rfl)) (e_law5 (888, .iaload, 1) (List.mem_of_getElem? (i := 14) rfl)) (hb 1 (by decide) (by decide)) ?_
  refine l_argx (j := 2) hF hK hR g0 g4 (e_law5 (889, .aload_n 0, 1) (List.mem_of_getElem? (i := 15) rfl)) (e_law5 (890, .iload 4, 2) (List.mem_of_getElem? (i := 16) rfl)) (e_law5 (892, .iconst 2, 1) (List.mem_of_getElem? (i := 17) rfl)) (e_law5 (893, .iadd, 1) (List.mem_of_getElem? (i := 18) rfl)) (e_law5 (894, .iaload, 1) (List.mem_of_getElem? (i := 19) rfl)) (hb 2 (by decide) (by decide)) ?_
  refine l_c3 (d := 320) (K' := _) hF hK hR hRf (e_law5 (895, .invokevirtual 103, 3) (List.mem_of_getElem? (i := 20) rfl)) ⟨rfl, rfl⟩ t_18_103 ⟨by decide, by decide, by decide, by decide⟩ (by decide) m_109_ok (by decide) rfl (y_recv h.1 th0_tx ⟨rfl, rfl⟩) (Nat.le_of_ble_eq_true rfl) (Nat.le_of_ble_eq_true rfl) (b_soonest (by decide) th0_tx th0_ta h _ _) (fun r1 G1 h1 => ?_)
  obtain ⟨⟨y1, rfl⟩, h_1⟩ := h1
  simp only [Option.toList_some, Option.toList_none, List.cons_append, List.nil_append]
  refine l_s0 hF hK hR (e_law5 (898, .pop, 1) (List.mem_of_getElem? (i := 21) rfl)) ⟨rfl, rfl⟩ ?_
  refine l_aln hF hK hR (e_law5 (899, .aload_n 2, 1) (List.mem_of_getElem? (i := 22) rfl)) g2 ?_
  refine l_argx (j := 1) hF hK hR g0 g4 (e_law5 (900, .aload_n 0, 1) (List.mem_of_getElem? (i := 23) rfl)) (e_law5 (901, .iload 4, 2) (List.mem_of_getElem? (i := 24) rfl)) (e_law5 (903, .iconst 1, 1) (List.mem_of_getElem? (i := 25) rfl)) (e_law5 (904, .iadd, 1) (List.mem_of_getElem? (i := 26) rfl)) (e_law5 (905, .iaload, 1) (List.mem_of_getElem? (i := 27) rfl)) (hb 1 (by decide) (by decide)) ?_
  refine l_argx (j := 2) hF hK hR g0 g4 (e_law5 (906, .aload_n 0, 1) (List.mem_of_getElem? (i := 28) rfl)) (e_law5 (907, .iload 4, 2) (List.mem_of_getElem? (i := 29) rfl)) (e_law5 (909, .iconst 2, 1) (List.mem_of_getElem? (i := 30) rfl)) (e_law5 (910, .iadd, 1) (List.mem_of_getElem? (i := 31) rfl)) (e_law5 (911, .iaload, 1) (List.mem_of_getElem? (i := 32) rfl)) (hb 2 (by decide) (by decide)) ?_
  refine l_c3 (d := 320) (K' := _) hF hK hR hRf (e_law5 (912, .invokevirtual 106, 3) (List.mem_of_getElem? (i := 33) rfl)) ⟨rfl, rfl⟩ t_18_106 ⟨by decide, by decide, by decide, by decide⟩ (by decide) m_221_ok (by decide) rfl (y_recv h_1.1 th0_ta ⟨rfl, rfl⟩) (Nat.le_of_ble_eq_true rfl) (Nat.le_of_ble_eq_true rfl) (n_soonest (by decide) th0_tx th0_ta h_1 _ _) (fun r1 G2 h1 => ?_)
  obtain ⟨⟨y2, rfl⟩, h_2⟩ := h1
  simp only [Option.toList_some, Option.toList_none, List.cons_append, List.nil_append]
  refine l_s0 hF hK hR (e_law5 (915, .pop, 1) (List.mem_of_getElem? (i := 34) rfl)) ⟨rfl, rfl⟩ ?_
  refine l_s0 hF hK hR (e_law5 (916, .goto 550, 3) (List.mem_of_getElem? (i := 35) rfl)) ⟨rfl, rfl⟩ ?_
  exact kk _ _ h_2
set_option maxHeartbeats 4000000 in
set_option maxRecDepth 100000 in
theorem law_reach (hF : pm_Fix p s m meth c m_law) (hK : pm_K o s) (hR : cs ≤ R.cells ∧ ss ≤ R.slots) (hRf : 320 + 1 ≤ R.frames ∧ 28 * (320 + 1) ≤ R.locals) (g0 : pm_get lv 0 = some (.ref pm_SB)) (g1 : pm_get lv 1 = some (.ref 0)) (g2 : pm_get lv 2 = some (.ref 349)) (g4 : pm_get lv 4 = some (.int i)) (hb : ∀ j : Int, 0 ≤ j → j ≤ 5 → pm_bad (i + Int32.ofInt j) o.L = false) (h : z_IN th0 0 349 G sz sz) (kk : ∀ (G' : List pE) (sz' : Int32), z_IN th0 0 349 G' sz' sz' → PW p l e R s m args below meth c Q o m_law 1466 lv [] G' cs ss) : PW p l e R s m args below meth c Q o m_law 919 lv [] G cs ss := by
  refine l_aln hF hK hR (e_law5 (919, .aload_n 1, 1) (List.mem_of_getElem? (i := 36) rfl)) g1 ?_
  refine l_argx (j := 1) hF hK hR g0 g4 (e_law5 (920, .aload_n 0, 1) (List.mem_of_getElem? (i := 37) rfl)) (e_law5 (921, .iload 4, 2) (List.mem_of_getElem? (i := 38) rfl)) (e_law5 (923, .iconst 1, 1) (List.mem_of_getElem? (i := 39) rfl)) (e_law5 (924, .iadd, 1) (List.mem_of_getElem? (i := 40) rfl)) (e_law5 (925, .iaload, 1) (List.mem_of_getElem? (i := 41) rfl)) (hb 1 (by decide) (by decide)) ?_
  refine l_argx (j := 2) hF hK hR g0 g4 (e_law5 (926, .aload_n 0, 1) (List.mem_of_getElem? (i := 42) rfl)) (e_law5 (927, .iload 4, 2) (List.mem_of_getElem? (i := 43) rfl)) (e_law5 (929, .iconst 2, 1) (List.mem_of_getElem? (i := 44) rfl)) (e_law5 (930, .iadd, 1) (List.mem_of_getElem? (i := 45) rfl)) (e_law5 (931, .iaload, 1) (List.mem_of_getElem? (i := 46) rfl)) (hb 2 (by decide) (by decide)) ?_
  refine l_c3 (d := 320) (K' := _) hF hK hR hRf (e_law5 (932, .invokevirtual 107, 3) (List.mem_of_getElem? (i := 47) rfl)) ⟨rfl, rfl⟩ t_18_107 ⟨by decide, by decide, by decide, by decide⟩ (by decide) m_110_ok (by decide) rfl (y_recv h.1 th0_tx ⟨rfl, rfl⟩) (Nat.le_of_ble_eq_true rfl) (Nat.le_of_ble_eq_true rfl) (b_reach (by decide) th0_tx th0_ta h _ _) (fun r1 G1 h1 => ?_)
  obtain ⟨⟨y1, rfl⟩, h_1⟩ := h1
  simp only [Option.toList_some, Option.toList_none, List.cons_append, List.nil_append]
  refine l_s0 hF hK hR (e_law5 (935, .pop, 1) (List.mem_of_getElem? (i := 48) rfl)) ⟨rfl, rfl⟩ ?_
  refine l_aln hF hK hR (e_law5 (936, .aload_n 2, 1) (List.mem_of_getElem? (i := 49) rfl)) g2 ?_
  refine l_argx (j := 1) hF hK hR g0 g4 (e_law5 (937, .aload_n 0, 1) (List.mem_of_getElem? (i := 50) rfl)) (e_law5 (938, .iload 4, 2) (List.mem_of_getElem? (i := 51) rfl)) (e_law5 (940, .iconst 1, 1) (List.mem_of_getElem? (i := 52) rfl)) (e_law5 (941, .iadd, 1) (List.mem_of_getElem? (i := 53) rfl)) (e_law5 (942, .iaload, 1) (List.mem_of_getElem? (i := 54) rfl)) (hb 1 (by decide) (by decide)) ?_
  refine l_argx (j := 2) hF hK hR g0 g4 (e_law5 (943, .aload_n 0, 1) (List.mem_of_getElem? (i := 55) rfl)) (e_law5 (944, .iload 4, 2) (List.mem_of_getElem? (i := 56) rfl)) (e_law5 (946, .iconst 2, 1) (List.mem_of_getElem? (i := 57) rfl)) (e_law5 (947, .iadd, 1) (List.mem_of_getElem? (i := 58) rfl)) (e_law5 (948, .iaload, 1) (List.mem_of_getElem? (i := 59) rfl)) (hb 2 (by decide) (by decide)) ?_
  refine l_c3 (d := 320) (K' := _) hF hK hR hRf (e_law5 (949, .invokevirtual 110, 3) (List.mem_of_getElem? (i := 60) rfl)) ⟨rfl, rfl⟩ t_18_110 ⟨by decide, by decide, by decide, by decide⟩ (by decide) m_222_ok (by decide) rfl (y_recv h_1.1 th0_ta ⟨rfl, rfl⟩) (Nat.le_of_ble_eq_true rfl) (Nat.le_of_ble_eq_true rfl) (n_reach (by decide) th0_tx th0_ta h_1 _ _) (fun r1 G2 h1 => ?_)
  obtain ⟨⟨y2, rfl⟩, h_2⟩ := h1
  simp only [Option.toList_some, Option.toList_none, List.cons_append, List.nil_append]
  refine l_s0 hF hK hR (e_law5 (952, .pop, 1) (List.mem_of_getElem? (i := 61) rfl)) ⟨rfl, rfl⟩ ?_
  refine l_s0 hF hK hR (e_law5 (953, .goto 513, 3) (List.mem_of_getElem? (i := 62) rfl)) ⟨rfl, rfl⟩ ?_
  exact kk _ _ h_2
set_option maxHeartbeats 4000000 in
set_option maxRecDepth 100000 in
theorem law_dry (hF : pm_Fix p s m meth c m_law) (hK : pm_K o s) (hR : cs ≤ R.cells ∧ ss ≤ R.slots) (hRf : 320 + 1 ≤ R.frames ∧ 28 * (320 + 1) ≤ R.locals) (g0 : pm_get lv 0 = some (.ref pm_SB)) (g1 : pm_get lv 1 = some (.ref 0)) (g2 : pm_get lv 2 = some (.ref 349)) (g4 : pm_get lv 4 = some (.int i)) (hb : ∀ j : Int, 0 ≤ j → j ≤ 5 → pm_bad (i + Int32.ofInt j) o.L = false) (h : z_IN th0 0 349 G sz sz) (kk : ∀ (G' : List pE) (sz' : Int32), z_IN th0 0 349 G' sz' sz' → PW p l e R s m args below meth c Q o m_law 1466 lv [] G' cs ss) : PW p l e R s m args below meth c Q o m_law 956 lv [] G cs ss := by
  refine l_aln hF hK hR (e_law5 (956, .aload_n 1, 1) (List.mem_of_getElem? (i := 63) rfl)) g1 ?_
  refine l_argx (j := 1) hF hK hR g0 g4 (e_law5 (957, .aload_n 0, 1) (List.mem_of_getElem? (i := 64) rfl)) (e_law5 (958, .iload 4, 2) (List.mem_of_getElem? (i := 65) rfl)) (e_law5 (960, .iconst 1, 1) (List.mem_of_getElem? (i := 66) rfl)) (e_law5 (961, .iadd, 1) (List.mem_of_getElem? (i := 67) rfl)) (e_law5 (962, .iaload, 1) (List.mem_of_getElem? (i := 68) rfl)) (hb 1 (by decide) (by decide)) ?_
  refine l_argx (j := 2) hF hK hR g0 g4 (e_law5 (963, .aload_n 0, 1) (List.mem_of_getElem? (i := 69) rfl)) (e_law5 (964, .iload 4, 2) (List.mem_of_getElem? (i := 70) rfl)) (e_law5 (966, .iconst 2, 1) (List.mem_of_getElem? (i := 71) rfl)) (e_law5 (967, .iadd, 1) (List.mem_of_getElem? (i := 72) rfl)) (e_law5 (968, .iaload, 1) (List.mem_of_getElem? (i := 73) rfl)) (hb 2 (by decide) (by decide)) ?_
  refine l_argx (j := 3) hF hK hR g0 g4 (e_law5 (969, .aload_n 0, 1) (List.mem_of_getElem? (i := 74) rfl)) (e_law5 (970, .iload 4, 2) (List.mem_of_getElem? (i := 75) rfl)) (e_law5 (972, .iconst 3, 1) (List.mem_of_getElem? (i := 76) rfl)) (e_law5 (973, .iadd, 1) (List.mem_of_getElem? (i := 77) rfl)) (e_law5 (974, .iaload, 1) (List.mem_of_getElem? (i := 78) rfl)) (hb 3 (by decide) (by decide)) ?_
  refine l_c4 (d := 320) (K' := _) hF hK hR hRf (e_law5 (975, .invokevirtual 111, 3) (List.mem_of_getElem? (i := 79) rfl)) ⟨rfl, rfl⟩ t_18_111 ⟨by decide, by decide, by decide, by decide⟩ (by decide) m_111_ok (by decide) rfl (y_recv h.1 th0_tx ⟨rfl, rfl⟩) (Nat.le_of_ble_eq_true rfl) (Nat.le_of_ble_eq_true rfl) (b_dry (by decide) th0_tx th0_ta h _ _ _) (fun r1 G1 h1 => ?_)
  obtain ⟨⟨y1, rfl⟩, h_1⟩ := h1
  simp only [Option.toList_some, Option.toList_none, List.cons_append, List.nil_append]
  refine l_s0 hF hK hR (e_law5 (978, .pop, 1) (List.mem_of_getElem? (i := 80) rfl)) ⟨rfl, rfl⟩ ?_
  refine l_aln hF hK hR (e_law5 (979, .aload_n 2, 1) (List.mem_of_getElem? (i := 81) rfl)) g2 ?_
  refine l_argx (j := 1) hF hK hR g0 g4 (e_law5 (980, .aload_n 0, 1) (List.mem_of_getElem? (i := 82) rfl)) (e_law5 (981, .iload 4, 2) (List.mem_of_getElem? (i := 83) rfl)) (e_law5 (983, .iconst 1, 1) (List.mem_of_getElem? (i := 84) rfl)) (e_law5 (984, .iadd, 1) (List.mem_of_getElem? (i := 85) rfl)) (e_law5 (985, .iaload, 1) (List.mem_of_getElem? (i := 86) rfl)) (hb 1 (by decide) (by decide)) ?_
  refine l_argx (j := 2) hF hK hR g0 g4 (e_law5 (986, .aload_n 0, 1) (List.mem_of_getElem? (i := 87) rfl)) (e_law5 (987, .iload 4, 2) (List.mem_of_getElem? (i := 88) rfl)) (e_law5 (989, .iconst 2, 1) (List.mem_of_getElem? (i := 89) rfl)) (e_law5 (990, .iadd, 1) (List.mem_of_getElem? (i := 90) rfl)) (e_law5 (991, .iaload, 1) (List.mem_of_getElem? (i := 91) rfl)) (hb 2 (by decide) (by decide)) ?_
  refine l_argx (j := 3) hF hK hR g0 g4 (e_law5 (992, .aload_n 0, 1) (List.mem_of_getElem? (i := 92) rfl)) (e_law5 (993, .iload 4, 2) (List.mem_of_getElem? (i := 93) rfl)) (e_law5 (995, .iconst 3, 1) (List.mem_of_getElem? (i := 94) rfl)) (e_law5 (996, .iadd, 1) (List.mem_of_getElem? (i := 95) rfl)) (e_law5 (997, .iaload, 1) (List.mem_of_getElem? (i := 96) rfl)) (hb 3 (by decide) (by decide)) ?_
  refine l_c4 (d := 320) (K' := _) hF hK hR hRf (e_law5 (998, .invokevirtual 114, 3) (List.mem_of_getElem? (i := 97) rfl)) ⟨rfl, rfl⟩ t_18_114 ⟨by decide, by decide, by decide, by decide⟩ (by decide) m_223_ok (by decide) rfl (y_recv h_1.1 th0_ta ⟨rfl, rfl⟩) (Nat.le_of_ble_eq_true rfl) (Nat.le_of_ble_eq_true rfl) (n_dry (by decide) th0_tx th0_ta h_1 _ _ _) (fun r1 G2 h1 => ?_)
  obtain ⟨⟨y2, rfl⟩, h_2⟩ := h1
  simp only [Option.toList_some, Option.toList_none, List.cons_append, List.nil_append]
  refine l_s0 hF hK hR (e_law5 (1001, .pop, 1) (List.mem_of_getElem? (i := 98) rfl)) ⟨rfl, rfl⟩ ?_
  refine l_s0 hF hK hR (e_law5 (1002, .goto 464, 3) (List.mem_of_getElem? (i := 99) rfl)) ⟨rfl, rfl⟩ ?_
  exact kk _ _ h_2
set_option maxHeartbeats 4000000 in
set_option maxRecDepth 100000 in
theorem law_which (hF : pm_Fix p s m meth c m_law) (hK : pm_K o s) (hR : cs ≤ R.cells ∧ ss ≤ R.slots) (hRf : 320 + 1 ≤ R.frames ∧ 28 * (320 + 1) ≤ R.locals) (g0 : pm_get lv 0 = some (.ref pm_SB)) (g1 : pm_get lv 1 = some (.ref 0)) (g2 : pm_get lv 2 = some (.ref 349)) (g4 : pm_get lv 4 = some (.int i)) (hb : ∀ j : Int, 0 ≤ j → j ≤ 5 → pm_bad (i + Int32.ofInt j) o.L = false) (h : z_IN th0 0 349 G sz sz) (kk : ∀ (G' : List pE) (sz' : Int32), z_IN th0 0 349 G' sz' sz' → PW p l e R s m args below meth c Q o m_law 1466 lv [] G' cs ss) : PW p l e R s m args below meth c Q o m_law 1005 lv [] G cs ss := by
  refine l_aln hF hK hR (e_law6 (1005, .aload_n 1, 1) (List.mem_of_getElem? (i := 0) rfl)) g1 ?_
  refine l_c1 (d := 320) (K' := _) hF hK hR hRf (e_law6 (1006, .invokevirtual 115, 3) (List.mem_of_getElem? (i := 1) rfl)) ⟨rfl, rfl⟩ t_18_115 ⟨by decide, by decide, by decide, by decide⟩ (by decide) m_112_ok (by decide) rfl (y_recv h.1 th0_tx ⟨rfl, rfl⟩) (Nat.le_of_ble_eq_true rfl) (Nat.le_of_ble_eq_true rfl) (b_which (by decide) th0_tx th0_ta h ) (fun r1 G1 h1 => ?_)
  obtain ⟨y1, rfl, h_1⟩ := h1
  simp only [Option.toList_some, Option.toList_none, List.cons_append, List.nil_append]
  refine l_s0 hF hK hR (e_law6 (1009, .pop, 1) (List.mem_of_getElem? (i := 2) rfl)) ⟨rfl, rfl⟩ ?_
  refine l_aln hF hK hR (e_law6 (1010, .aload_n 2, 1) (List.mem_of_getElem? (i := 3) rfl)) g2 ?_
  refine l_c1 (d := 320) (K' := _) hF hK hR hRf (e_law6 (1011, .invokevirtual 118, 3) (List.mem_of_getElem? (i := 4) rfl)) ⟨rfl, rfl⟩ t_18_118 ⟨by decide, by decide, by decide, by decide⟩ (by decide) m_224_ok (by decide) rfl (y_recv h_1.1 th0_ta ⟨rfl, rfl⟩) (Nat.le_of_ble_eq_true rfl) (Nat.le_of_ble_eq_true rfl) (n_which (by decide) th0_tx th0_ta h_1 ) (fun r1 G2 h1 => ?_)
  obtain ⟨y2, rfl, h_2⟩ := h1
  simp only [Option.toList_some, Option.toList_none, List.cons_append, List.nil_append]
  refine l_s0 hF hK hR (e_law6 (1014, .pop, 1) (List.mem_of_getElem? (i := 5) rfl)) ⟨rfl, rfl⟩ ?_
  refine l_s0 hF hK hR (e_law6 (1015, .goto 451, 3) (List.mem_of_getElem? (i := 6) rfl)) ⟨rfl, rfl⟩ ?_
  exact kk _ _ h_2
set_option maxHeartbeats 4000000 in
set_option maxRecDepth 100000 in
theorem law_ties (hF : pm_Fix p s m meth c m_law) (hK : pm_K o s) (hR : cs ≤ R.cells ∧ ss ≤ R.slots) (hRf : 320 + 1 ≤ R.frames ∧ 28 * (320 + 1) ≤ R.locals) (g0 : pm_get lv 0 = some (.ref pm_SB)) (g1 : pm_get lv 1 = some (.ref 0)) (g2 : pm_get lv 2 = some (.ref 349)) (g4 : pm_get lv 4 = some (.int i)) (hb : ∀ j : Int, 0 ≤ j → j ≤ 5 → pm_bad (i + Int32.ofInt j) o.L = false) (h : z_IN th0 0 349 G sz sz) (kk : ∀ (G' : List pE) (sz' : Int32), z_IN th0 0 349 G' sz' sz' → PW p l e R s m args below meth c Q o m_law 1466 lv [] G' cs ss) : PW p l e R s m args below meth c Q o m_law 1018 lv [] G cs ss := by
  refine l_aln hF hK hR (e_law6 (1018, .aload_n 1, 1) (List.mem_of_getElem? (i := 7) rfl)) g1 ?_
  refine l_argx (j := 1) hF hK hR g0 g4 (e_law6 (1019, .aload_n 0, 1) (List.mem_of_getElem? (i := 8) rfl)) (e_law6 (1020, .iload 4, 2) (List.mem_of_getElem? (i := 9) rfl)) (e_law6 (1022, .iconst 1, 1) (List.mem_of_getElem? (i := 10) rfl)) (e_law6 (1023, .iadd, 1) (List.mem_of_getElem? (i := 11) rfl)) (e_law6 (1024, .iaload, 1) (List.mem_of_getElem? (i := 12) rfl)) (hb 1 (by decide) (by decide)) ?_
  refine l_argx (j := 2) hF hK hR g0 g4 (e_law6 (1025, .aload_n 0, 1) (List.mem_of_getElem? (i := 13) rfl)) (e_law6 (1026, .iload 4, 2) (List.mem_of_getElem? (i := 14) rfl)) (e_law6 (1028, .iconst 2, 1) (List.mem_of_getElem? (i := 15) rfl)) (e_law6 (1029, .iadd, 1) (List.mem_of_getElem? (i := 16) rfl)) (e_law6 (1030, .iaload, 1) (List.mem_of_getElem? (i := 17) rfl)) (hb 2 (by decide) (by decide)) ?_
  refine l_c3 (d := 320) (K' := _) hF hK hR hRf (e_law6 (1031, .invokevirtual 119, 3) (List.mem_of_getElem? (i := 18) rfl)) ⟨rfl, rfl⟩ t_18_119 ⟨by decide, by decide, by decide, by decide⟩ (by decide) m_115_ok (by decide) rfl (y_recv h.1 th0_tx ⟨rfl, rfl⟩) (Nat.le_of_ble_eq_true rfl) (Nat.le_of_ble_eq_true rfl) (b_ties (by decide) th0_tx th0_ta h _ _) (fun r1 G1 h1 => ?_)
  obtain ⟨⟨y1, rfl⟩, h_1⟩ := h1
  simp only [Option.toList_some, Option.toList_none, List.cons_append, List.nil_append]
  refine l_s0 hF hK hR (e_law6 (1034, .pop, 1) (List.mem_of_getElem? (i := 19) rfl)) ⟨rfl, rfl⟩ ?_
  refine l_aln hF hK hR (e_law6 (1035, .aload_n 2, 1) (List.mem_of_getElem? (i := 20) rfl)) g2 ?_
  refine l_argx (j := 1) hF hK hR g0 g4 (e_law6 (1036, .aload_n 0, 1) (List.mem_of_getElem? (i := 21) rfl)) (e_law6 (1037, .iload 4, 2) (List.mem_of_getElem? (i := 22) rfl)) (e_law6 (1039, .iconst 1, 1) (List.mem_of_getElem? (i := 23) rfl)) (e_law6 (1040, .iadd, 1) (List.mem_of_getElem? (i := 24) rfl)) (e_law6 (1041, .iaload, 1) (List.mem_of_getElem? (i := 25) rfl)) (hb 1 (by decide) (by decide)) ?_
  refine l_argx (j := 2) hF hK hR g0 g4 (e_law6 (1042, .aload_n 0, 1) (List.mem_of_getElem? (i := 26) rfl)) (e_law6 (1043, .iload 4, 2) (List.mem_of_getElem? (i := 27) rfl)) (e_law6 (1045, .iconst 2, 1) (List.mem_of_getElem? (i := 28) rfl)) (e_law6 (1046, .iadd, 1) (List.mem_of_getElem? (i := 29) rfl)) (e_law6 (1047, .iaload, 1) (List.mem_of_getElem? (i := 30) rfl)) (hb 2 (by decide) (by decide)) ?_
  refine l_c3 (d := 320) (K' := _) hF hK hR hRf (e_law6 (1048, .invokevirtual 122, 3) (List.mem_of_getElem? (i := 31) rfl)) ⟨rfl, rfl⟩ t_18_122 ⟨by decide, by decide, by decide, by decide⟩ (by decide) m_227_ok (by decide) rfl (y_recv h_1.1 th0_ta ⟨rfl, rfl⟩) (Nat.le_of_ble_eq_true rfl) (Nat.le_of_ble_eq_true rfl) (n_ties (by decide) th0_tx th0_ta h_1 _ _) (fun r1 G2 h1 => ?_)
  obtain ⟨⟨y2, rfl⟩, h_2⟩ := h1
  simp only [Option.toList_some, Option.toList_none, List.cons_append, List.nil_append]
  refine l_s0 hF hK hR (e_law6 (1051, .pop, 1) (List.mem_of_getElem? (i := 32) rfl)) ⟨rfl, rfl⟩ ?_
  refine l_s0 hF hK hR (e_law6 (1052, .goto 414, 3) (List.mem_of_getElem? (i := 33) rfl)) ⟨rfl, rfl⟩ ?_
  exact kk _ _ h_2
set_option maxHeartbeats 4000000 in
set_option maxRecDepth 100000 in
theorem law_turn (hF : pm_Fix p s m meth c m_law) (hK : pm_K o s) (hR : cs ≤ R.cells ∧ ss ≤ R.slots) (hRf : 320 + 1 ≤ R.frames ∧ 28 * (320 + 1) ≤ R.locals) (g0 : pm_get lv 0 = some (.ref pm_SB)) (g1 : pm_get lv 1 = some (.ref 0)) (g2 : pm_get lv 2 = some (.ref 349)) (g4 : pm_get lv 4 = some (.int i)) (hb : ∀ j : Int, 0 ≤ j → j ≤ 5 → pm_bad (i + Int32.ofInt j) o.L = false) (h : z_IN th0 0 349 G sz sz) (kk : ∀ (G' : List pE) (sz' : Int32), z_IN th0 0 349 G' sz' sz' → PW p l e R s m args below meth c Q o m_law 1466 lv [] G' cs ss) : PW p l e R s m args below meth c Q o m_law 1055 lv [] G cs ss := by
  refine l_aln hF hK hR (e_law6 (1055, .aload_n 1, 1) (List.mem_of_getElem? (i := 34) rfl)) g1 ?_
  refine l_argx (j := 1) hF hK hR g0 g4 (e_law6 (1056, .aload_n 0, 1) (List.mem_of_getElem? (i := 35) rfl)) (e_law6 (1057, .iload 4, 2) (List.mem_of_getElem? (i := 36) rfl)) (e_law6 (1059, .iconst 1, 1) (List.mem_of_getElem? (i := 37) rfl)) (e_law6 (1060, .iadd, 1) (List.mem_of_getElem? (i := 38) rfl)) (e_law6 (1061, .iaload, 1) (List.mem_of_getElem? (i := 39) rfl)) (hb 1 (by decide) (by decide)) ?_
  refine l_c2 (d := 320) (K' := _) hF hK hR hRf (e_law6 (1062, .invokevirtual 123, 3) (List.mem_of_getElem? (i := 40) rfl)) ⟨rfl, rfl⟩ t_18_123 ⟨by decide, by decide, by decide, by decide⟩ (by decide) m_118_ok (by decide) rfl (y_recv h.1 th0_tx ⟨rfl, rfl⟩) (Nat.le_of_ble_eq_true rfl) (Nat.le_of_ble_eq_true rfl) (b_turn (by decide) th0_tx th0_ta h _) (fun r1 G1 h1 => ?_)
  obtain ⟨⟨y1, rfl⟩, h_1⟩ := h1
  simp only [Option.toList_some, Option.toList_none, List.cons_append, List.nil_append]
  refine l_s0 hF hK hR (e_law6 (1065, .pop, 1) (List.mem_of_getElem? (i := 41) rfl)) ⟨rfl, rfl⟩ ?_
  refine l_aln hF hK hR (e_law6 (1066, .aload_n 2, 1) (List.mem_of_getElem? (i := 42) rfl)) g2 ?_
  refine l_argx (j := 1) hF hK hR g0 g4 (e_law6 (1067, .aload_n 0, 1) (List.mem_of_getElem? (i := 43) rfl)) (e_law6 (1068, .iload 4, 2) (List.mem_of_getElem? (i := 44) rfl)) (e_law6 (1070, .iconst 1, 1) (List.mem_of_getElem? (i := 45) rfl)) (e_law6 (1071, .iadd, 1) (List.mem_of_getElem? (i := 46) rfl)) (e_law6 (1072, .iaload, 1) (List.mem_of_getElem? (i := 47) rfl)) (hb 1 (by decide) (by decide)) ?_
  refine l_c2 (d := 320) (K' := _) hF hK hR hRf (e_law6 (1073, .invokevirtual 126, 3) (List.mem_of_getElem? (i := 48) rfl)) ⟨rfl, rfl⟩ t_18_126 ⟨by decide, by decide, by decide, by decide⟩ (by decide) m_229_ok (by decide) rfl (y_recv h_1.1 th0_ta ⟨rfl, rfl⟩) (Nat.le_of_ble_eq_true rfl) (Nat.le_of_ble_eq_true rfl) (n_turn (by decide) th0_tx th0_ta h_1 _) (fun r1 G2 h1 => ?_)
  obtain ⟨⟨y2, rfl⟩, h_2⟩ := h1
  simp only [Option.toList_some, Option.toList_none, List.cons_append, List.nil_append]
  refine l_s0 hF hK hR (e_law6 (1076, .pop, 1) (List.mem_of_getElem? (i := 49) rfl)) ⟨rfl, rfl⟩ ?_
  refine l_s0 hF hK hR (e_law6 (1077, .goto 389, 3) (List.mem_of_getElem? (i := 50) rfl)) ⟨rfl, rfl⟩ ?_
  exact kk _ _ h_2
set_option maxHeartbeats 4000000 in
set_option maxRecDepth 100000 in
theorem law_guard (hF : pm_Fix p s m meth c m_law) (hK : pm_K o s) (hR : cs ≤ R.cells ∧ ss ≤ R.slots) (hRf : 320 + 1 ≤ R.frames ∧ 28 * (320 + 1) ≤ R.locals) (g0 : pm_get lv 0 = some (.ref pm_SB)) (g1 : pm_get lv 1 = some (.ref 0)) (g2 : pm_get lv 2 = some (.ref 349)) (g4 : pm_get lv 4 = some (.int i)) (hb : ∀ j : Int, 0 ≤ j → j ≤ 5 → pm_bad (i + Int32.ofInt j) o.L = false) (h : z_IN th0 0 349 G sz sz) (kk : ∀ (G' : List pE) (sz' : Int32), z_IN th0 0 349 G' sz' sz' → PW p l e R s m args below meth c Q o m_law 1466 lv [] G' cs ss) : PW p l e R s m args below meth c Q o m_law 1080 lv [] G cs ss := by
  refine l_aln hF hK hR (e_law6 (1080, .aload_n 1, 1) (List.mem_of_getElem? (i := 51) rfl)) g1 ?_
  refine l_argx (j := 1) hF hK hR g0 g4 (e_law6 (1081, .aload_n 0, 1) (List.mem_of_getElem? (i := 52) rfl)) (e_law6 (1082, .iload 4, 2) (List.mem_of_getElem? (i := 53) rfl)) (e_law6 (1084, .iconst 1, 1) (List.mem_of_getElem? (i := 54) rfl)) (e_law6 (1085, .iadd, 1) (List.mem_of_getElem? (i := 55) rfl)) (e_law6 (1086, .iaload, 1) (List.mem_of_getElem? (i := 56) rfl)) (hb 1 (by decide) (by decide)) ?_
  refine l_c2 (d := 320) (K' := _) hF hK hR hRf (e_law6 (1087, .invokevirtual 127, 3) (List.mem_of_getElem? (i := 57) rfl)) ⟨rfl, rfl⟩ t_18_127 ⟨by decide, by decide, by decide, by decide⟩ (by decide) m_119_ok (by decide) rfl (y_recv h.1 th0_tx ⟨rfl, rfl⟩) (Nat.le_of_ble_eq_true rfl) (Nat.le_of_ble_eq_true rfl) (b_guard (by decide) th0_tx th0_ta h _) (fun r1 G1 h1 => ?_)
  obtain ⟨⟨y1, rfl⟩, h_1⟩ := h1
  simp only [Option.toList_some, Option.toList_none, List.cons_append, List.nil_append]
  refine l_s0 hF hK hR (e_law6 (1090, .pop, 1) (List.mem_of_getElem? (i := 58) rfl)) ⟨rfl, rfl⟩ ?_
  refine l_aln hF hK hR (e_law6 (1091, .aload_n 2, 1) (List.mem_of_getElem? (i := 59) rfl)) g2 ?_
  refine l_argx (j := 1) hF hK hR g0 g4 (e_law6 (1092, .aload_n 0, 1) (List.mem_of_getElem? (i := 60) rfl)) (e_law6 (1093, .iload 4, 2) (List.mem_of_getElem? (i := 61) rfl)) (e_law6 (1095, .iconst 1, 1) (List.mem_of_getElem? (i := 62) rfl)) (e_law6 (1096, .iadd, 1) (List.mem_of_getElem? (i := 63) rfl)) (e_law6 (1097, .iaload, 1) (List.mem_of_getElem? (i := 64) rfl)) (hb 1 (by decide) (by decide)) ?_
  refine l_c2 (d := 320) (K' := _) hF hK hR hRf (e_law6 (1098, .invokevirtual 130, 3) (List.mem_of_getElem? (i := 65) rfl)) ⟨rfl, rfl⟩ t_18_130 ⟨by decide, by decide, by decide, by decide⟩ (by decide) m_230_ok (by decide) rfl (y_recv h_1.1 th0_ta ⟨rfl, rfl⟩) (Nat.le_of_ble_eq_true rfl) (Nat.le_of_ble_eq_true rfl) (n_guard (by decide) th0_tx th0_ta h_1 _) (fun r1 G2 h1 => ?_)
  obtain ⟨⟨y2, rfl⟩, h_2⟩ := h1
  simp only [Option.toList_some, Option.toList_none, List.cons_append, List.nil_append]
  refine l_s0 hF hK hR (e_law6 (1101, .pop, 1) (List.mem_of_getElem? (i := 66) rfl)) ⟨rfl, rfl⟩ ?_
  refine l_s0 hF hK hR (e_law6 (1102, .goto 364, 3) (List.mem_of_getElem? (i := 67) rfl)) ⟨rfl, rfl⟩ ?_
  exact kk _ _ h_2
set_option maxHeartbeats 4000000 in
set_option maxRecDepth 100000 in
theorem law_prices (hF : pm_Fix p s m meth c m_law) (hK : pm_K o s) (hR : cs ≤ R.cells ∧ ss ≤ R.slots) (hRf : 320 + 1 ≤ R.frames ∧ 28 * (320 + 1) ≤ R.locals) (g0 : pm_get lv 0 = some (.ref pm_SB)) (g1 : pm_get lv 1 = some (.ref 0)) (g2 : pm_get lv 2 = some (.ref 349)) (g4 : pm_get lv 4 = some (.int i)) (hb : ∀ j : Int, 0 ≤ j → j ≤ 5 → pm_bad (i + Int32.ofInt j) o.L = false) (h : z_IN th0 0 349 G sz sz) (kk : ∀ (G' : List pE) (sz' : Int32), z_IN th0 0 349 G' sz' sz' → PW p l e R s m args below meth c Q o m_law 1466 lv [] G' cs ss) : PW p l e R s m args below meth c Q o m_law 1105 lv [] G cs ss := by
  refine l_aln hF hK hR (e_law6 (1105, .aload_n 1, 1) (List.mem_of_getElem? (i := 68) rfl)) g1 ?_
  refine l_c1 (d := 320) (K' := _) hF hK hR hRf (e_law6 (1106, .invokevirtual 131, 3) (List.mem_of_getElem? (i := 69) rfl)) ⟨rfl, rfl⟩ t_18_131 ⟨by decide, by decide, by decide, by decide⟩ (by decide) m_121_ok (by decide) rfl (y_recv h.1 th0_tx ⟨rfl, rfl⟩) (Nat.le_of_ble_eq_true rfl) (Nat.le_of_ble_eq_true rfl) (b_prices (by decide) th0_tx th0_ta h ) (fun r1 G1 h1 => ?_)
  obtain ⟨⟨y1, rfl⟩, h_1⟩ := h1
  simp only [Option.toList_some, Option.toList_none, List.cons_append, List.nil_append]
  refine l_s0 hF hK hR (e_law6 (1109, .pop, 1) (List.mem_of_getElem? (i := 70) rfl)) ⟨rfl, rfl⟩ ?_
  refine l_aln hF hK hR (e_law6 (1110, .aload_n 2, 1) (List.mem_of_getElem? (i := 71) rfl)) g2 ?_
  refine l_c1 (d := 320) (K' := _) hF hK hR hRf (e_law6 (1111, .invokevirtual 134, 3) (List.mem_of_getElem? (i := 72) rfl)) ⟨rfl, rfl⟩ t_18_134 ⟨by decide, by decide, by decide, by decide⟩ (by decide) m_231_ok (by decide) rfl (y_recv h_1.1 th0_ta ⟨rfl, rfl⟩) (Nat.le_of_ble_eq_true rfl) (Nat.le_of_ble_eq_true rfl) (n_prices (by decide) th0_tx th0_ta h_1 ) (fun r1 G2 h1 => ?_)
  obtain ⟨⟨y2, rfl⟩, h_2⟩ := h1
  simp only [Option.toList_some, Option.toList_none, List.cons_append, List.nil_append]
  refine l_s0 hF hK hR (e_law6 (1114, .pop, 1) (List.mem_of_getElem? (i := 73) rfl)) ⟨rfl, rfl⟩ ?_
  refine l_s0 hF hK hR (e_law6 (1115, .goto 351, 3) (List.mem_of_getElem? (i := 74) rfl)) ⟨rfl, rfl⟩ ?_
  exact kk _ _ h_2
set_option maxHeartbeats 4000000 in
set_option maxRecDepth 100000 in
theorem law_price (hF : pm_Fix p s m meth c m_law) (hK : pm_K o s) (hR : cs ≤ R.cells ∧ ss ≤ R.slots) (hRf : 320 + 1 ≤ R.frames ∧ 28 * (320 + 1) ≤ R.locals) (g0 : pm_get lv 0 = some (.ref pm_SB)) (g1 : pm_get lv 1 = some (.ref 0)) (g2 : pm_get lv 2 = some (.ref 349)) (g4 : pm_get lv 4 = some (.int i)) (hb : ∀ j : Int, 0 ≤ j → j ≤ 5 → pm_bad (i + Int32.ofInt j) o.L = false) (h : z_IN th0 0 349 G sz sz) (kk : ∀ (G' : List pE) (sz' : Int32), z_IN th0 0 349 G' sz' sz' → PW p l e R s m args below meth c Q o m_law 1466 lv [] G' cs ss) : PW p l e R s m args below meth c Q o m_law 1118 lv [] G cs ss := by
  refine l_aln hF hK hR (e_law6 (1118, .aload_n 1, 1) (List.mem_of_getElem? (i := 75) rfl)) g1 ?_
  refine l_argx (j := 1) hF hK hR g0 g4 (e_law6 (1119, .aload_n 0, 1) (List.mem_of_getElem? (i := 76) rfl)) (e_law6 (1120, .iload 4, 2) (List.mem_of_getElem? (i := 77) rfl)) (e_law6 (1122, .iconst 1, 1) (List.mem_of_getElem? (i := 78) rfl)) (e_law6 (1123, .iadd, 1) (List.mem_of_getElem? (i := 79) rfl)) (e_law6 (1124, .iaload, 1) (List.mem_of_getElem? (i := 80) rfl)) (hb 1 (by decide) (by decide)) ?_
  refine l_c2 (d := 320) (K' := _) hF hK hR hRf (e_law6 (1125, .invokevirtual 135, 3) (List.mem_of_getElem? (i := 81) rfl)) ⟨rfl, rfl⟩ t_18_135 ⟨by decide, by decide, by decide, by decide⟩ (by decide) m_123_ok (by decide) rfl (y_recv h.1 th0_tx ⟨rfl, rfl⟩) (Nat.le_of_ble_eq_true rfl) (Nat.le_of_ble_eq_true rfl) (b_price (by decide) th0_tx th0_ta h _) (fun r1 G1 h1 => ?_)
  obtain ⟨⟨y1, rfl⟩, h_1⟩ := h1
  simp only [Option.toList_some, Option.toList_none, List.cons_append, List.nil_append]
  refine l_s0 hF hK hR (e_law6 (1128, .pop, 1) (List.mem_of_getElem? (i := 82) rfl)) ⟨rfl, rfl⟩ ?_
  refine l_aln hF hK hR (e_law6 (1129, .aload_n 2, 1) (List.mem_of_getElem? (i := 83) rfl)) g2 ?_
  refine l_argx (j := 1) hF hK hR g0 g4 (e_law6 (1130, .aload_n 0, 1) (List.mem_of_getElem? (i := 84) rfl)) (e_law6 (1131, .iload 4, 2) (List.mem_of_getElem? (i := 85) rfl)) (e_law6 (1133, .iconst 1, 1) (List.mem_of_getElem? (i := 86) rfl)) (e_law6 (1134, .iadd, 1) (List.mem_of_getElem? (i := 87) rfl)) (e_law6 (1135, .iaload, 1) (List.mem_of_getElem? (i := 88) rfl)) (hb 1 (by decide) (by decide)) ?_
  refine l_c2 (d := 320) (K' := _) hF hK hR hRf (e_law6 (1136, .invokevirtual 138, 3) (List.mem_of_getElem? (i := 89) rfl)) ⟨rfl, rfl⟩ t_18_138 ⟨by decide, by decide, by decide, by decide⟩ (by decide) m_235_ok (by decide) rfl (y_recv h_1.1 th0_ta ⟨rfl, rfl⟩) (Nat.le_of_ble_eq_true rfl) (Nat.le_of_ble_eq_true rfl) (n_price (by decide) th0_tx th0_ta h_1 _) (fun r1 G2 h1 => ?_)
  obtain ⟨⟨y2, rfl⟩, h_2⟩ := h1
  simp only [Option.toList_some, Option.toList_none, List.cons_append, List.nil_append]
  refine l_s0 hF hK hR (e_law6 (1139, .pop, 1) (List.mem_of_getElem? (i := 90) rfl)) ⟨rfl, rfl⟩ ?_
  refine l_s0 hF hK hR (e_law6 (1140, .goto 326, 3) (List.mem_of_getElem? (i := 91) rfl)) ⟨rfl, rfl⟩ ?_
  exact kk _ _ h_2
set_option maxHeartbeats 4000000 in
set_option maxRecDepth 100000 in
theorem law_later (hF : pm_Fix p s m meth c m_law) (hK : pm_K o s) (hR : cs ≤ R.cells ∧ ss ≤ R.slots) (hRf : 320 + 1 ≤ R.frames ∧ 28 * (320 + 1) ≤ R.locals) (g0 : pm_get lv 0 = some (.ref pm_SB)) (g1 : pm_get lv 1 = some (.ref 0)) (g2 : pm_get lv 2 = some (.ref 349)) (g4 : pm_get lv 4 = some (.int i)) (hb : ∀ j : Int, 0 ≤ j → j ≤ 5 → pm_bad (i + Int32.ofInt j) o.L = false) (h : z_IN th0 0 349 G sz sz) (kk : ∀ (G' : List pE) (sz' : Int32), z_IN th0 0 349 G' sz' sz' → PW p l e R s m args below meth c Q o m_law 1466 lv [] G' cs ss) : PW p l e R s m args below meth c Q o m_law 1143 lv [] G cs ss := by
  refine l_aln hF hK hR (e_law6 (1143, .aload_n 1, 1) (List.mem_of_getElem? (i := 92) rfl)) g1 ?_
  refine l_argx (j := 1) hF hK hR g0 g4 (e_law6 (1144, .aload_n 0, 1) (List.mem_of_getElem? (i := 93) rfl)) (e_law6 (1145, .iload 4, 2) (List.mem_of_getElem? (i := 94) rfl)) (e_law6 (1147, .iconst 1, 1) (List.mem_of_getElem? (i := 95) rfl)) (e_law6 (1148, .iadd, 1) (List.mem_of_getElem? (i := 96) rfl)) (e_law6 (1149, .iaload, 1) (List.mem_of_getElem? (i := 97) rfl)) (hb 1 (by decide) (by decide)) ?_
  refine l_argx (j := 2) hF hK hR g0 g4 (e_law6 (1150, .aload_n 0, 1) (List.mem_of_getElem? (i := 98) rfl)) (e_law6 (1151, .iload 4, 2) (List.mem_of_getElem? (i := 99) rfl)) (e_law7 (1153, .iconst 2, 1) (List.mem_of_getElem? (i := 0) rfl)) (e_law7 (1154, .iadd, 1) (List.mem_of_getElem? (i := 1) rfl)) (e_law7 (1155, .iaload, 1) (List.mem_of_getElem? (i := 2) rfl)) (hb 2 (by decide) (by decide)) ?_
  refine l_c3 (d := 320) (K' := _) hF hK hR hRf (e_law7 (1156, .invokevirtual 139, 3) (List.mem_of_getElem? (i := 3) rfl)) ⟨rfl, rfl⟩ t_18_139 ⟨by decide, by decide, by decide, by decide⟩ (by decide) m_124_ok (by decide) rfl (y_recv h.1 th0_tx ⟨rfl, rfl⟩) (Nat.le_of_ble_eq_true rfl) (Nat.le_of_ble_eq_true rfl) (b_later (by decide) th0_tx th0_ta h _ _) (fun r1 G1 h1 => ?_)
  obtain ⟨⟨y1, rfl⟩, h_1⟩ := h1
  simp only [Option.toList_some, Option.toList_none, List.cons_append, List.nil_append]
  refine l_s0 hF hK hR (e_law7 (1159, .pop, 1) (List.mem_of_getElem? (i := 4) rfl)) ⟨rfl, rfl⟩ ?_
  refine l_aln hF hK hR (e_law7 (1160, .aload_n 2, 1) (List.mem_of_getElem? (i := 5) rfl)) g2 ?_
  refine l_argx (j := 1) hF hK hR g0 g4 (e_law7 (1161, .aload_n 0, 1) (List.mem_of_getElem? (i := 6) rfl)) (e_law7 (1162, .iload 4, 2) (List.mem_of_getElem? (i := 7) rfl)) (e_law7 (1164, .iconst 1, 1) (List.mem_of_getElem? (i := 8) rfl)) (e_law7 (1165, .iadd, 1) (List.mem_of_getElem? (i := 9) rfl)) (e_law7 (1166, .iaload, 1) (List.mem_of_getElem? (i := 10) rfl)) (hb 1 (by decide) (by decide)) ?_
  refine l_argx (j := 2) hF hK hR g0 g4 (e_law7 (1167, .aload_n 0, 1) (List.mem_of_getElem? (i := 11) rfl)) (e_law7 (1168, .iload 4, 2) (List.mem_of_getElem? (i := 12) rfl)) (e_law7 (1170, .iconst 2, 1) (List.mem_of_getElem? (i := 13) rfl)) (e_law7 (1171, .iadd, 1) (List.mem_of_getElem? (i := 14) rfl)) (e_law7 (1172, .iaload, 1) (List.mem_of_getElem? (i := 15) rfl)) (hb 2 (by decide) (by decide)) ?_
  refine l_c3 (d := 320) (K' := _) hF hK hR hRf (e_law7 (1173, .invokevirtual 142, 3) (List.mem_of_getElem? (i := 16) rfl)) ⟨rfl, rfl⟩ t_18_142 ⟨by decide, by decide, by decide, by decide⟩ (by decide) m_236_ok (by decide) rfl (y_recv h_1.1 th0_ta ⟨rfl, rfl⟩) (Nat.le_of_ble_eq_true rfl) (Nat.le_of_ble_eq_true rfl) (n_later (by decide) th0_tx th0_ta h_1 _ _) (fun r1 G2 h1 => ?_)
  obtain ⟨⟨y2, rfl⟩, h_2⟩ := h1
  simp only [Option.toList_some, Option.toList_none, List.cons_append, List.nil_append]
  refine l_s0 hF hK hR (e_law7 (1176, .pop, 1) (List.mem_of_getElem? (i := 17) rfl)) ⟨rfl, rfl⟩ ?_
  refine l_s0 hF hK hR (e_law7 (1177, .goto 289, 3) (List.mem_of_getElem? (i := 18) rfl)) ⟨rfl, rfl⟩ ?_
  exact kk _ _ h_2
set_option maxHeartbeats 4000000 in
set_option maxRecDepth 100000 in
theorem law_meet (hF : pm_Fix p s m meth c m_law) (hK : pm_K o s) (hR : cs ≤ R.cells ∧ ss ≤ R.slots) (hRf : 320 + 1 ≤ R.frames ∧ 28 * (320 + 1) ≤ R.locals) (g0 : pm_get lv 0 = some (.ref pm_SB)) (g1 : pm_get lv 1 = some (.ref 0)) (g2 : pm_get lv 2 = some (.ref 349)) (g4 : pm_get lv 4 = some (.int i)) (hb : ∀ j : Int, 0 ≤ j → j ≤ 5 → pm_bad (i + Int32.ofInt j) o.L = false) (h : z_IN th0 0 349 G sz sz) (kk : ∀ (G' : List pE) (sz' : Int32), z_IN th0 0 349 G' sz' sz' → PW p l e R s m args below meth c Q o m_law 1466 lv [] G' cs ss) : PW p l e R s m args below meth c Q o m_law 1180 lv [] G cs ss := by
  refine l_aln hF hK hR (e_law7 (1180, .aload_n 1, 1) (List.mem_of_getElem? (i := 19) rfl)) g1 ?_
  refine l_argx (j := 1) hF hK hR g0 g4 (e_law7 (1181, .aload_n 0, 1) (List.mem_of_getElem? (i := 20) rfl)) (e_law7 (1182, .iload 4, 2) (List.mem_of_getElem? (i := 21) rfl)) (e_law7 (1184, .iconst 1, 1) (List.mem_of_getElem? (i := 22) rfl)) (e_law7 (1185, .iadd, 1) (List.mem_of_getElem? (i := 23) rfl)) (e_law7 (1186, .iaload, 1) (List.mem_of_getElem? (i := 24) rfl)) (hb 1 (by decide) (by decide)) ?_
  refine l_argx (j := 2) hF hK hR g0 g4 (e_law7 (1187, .aload_n 0, 1) (List.mem_of_getElem? (i := 25) rfl)) (e_law7 (1188, .iload 4, 2) (List.mem_of_getElem? (i := 26) rfl)) (e_law7 (1190, .iconst 2, 1) (List.mem_of_getElem? (i := 27) rfl)) (e_law7 (1191, .iadd, 1) (List.mem_of_getElem? (i := 28) rfl)) (e_law7 (1192, .iaload, 1) (List.mem_of_getElem? (i := 29) rfl)) (hb 2 (by decide) (by decide)) ?_
  refine l_c3 (d := 320) (K' := _) hF hK hR hRf (e_law7 (1193, .invokevirtual 143, 3) (List.mem_of_getElem? (i := 30) rfl)) ⟨rfl, rfl⟩ t_18_143 ⟨by decide, by decide, by decide, by decide⟩ (by decide) m_125_ok (by decide) rfl (y_recv h.1 th0_tx ⟨rfl, rfl⟩) (Nat.le_of_ble_eq_true rfl) (Nat.le_of_ble_eq_true rfl) (b_meet (by decide) th0_tx th0_ta h _ _) (fun r1 G1 h1 => ?_)
  obtain ⟨⟨y1, rfl⟩, h_1⟩ := h1
  simp only [Option.toList_some, Option.toList_none, List.cons_append, List.nil_append]
  refine l_s0 hF hK hR (e_law7 (1196, .pop, 1) (List.mem_of_getElem? (i := 31) rfl)) ⟨rfl, rfl⟩ ?_
  refine l_aln hF hK hR (e_law7 (1197, .aload_n 2, 1) (List.mem_of_getElem? (i := 32) rfl)) g2 ?_
  refine l_argx (j := 1) hF hK hR g0 g4 (e_law7 (1198, .aload_n 0, 1) (List.mem_of_getElem? (i := 33) rfl)) (e_law7 (1199, .iload 4, 2) (List.mem_of_getElem? (i := 34) rfl)) (e_law7 (1201, .iconst 1, 1) (List.mem_of_getElem? (i := 35) rfl)) (e_law7 (1202, .iadd, 1) (List.mem_of_getElem? (i := 36) rfl)) (e_law7 (1203, .iaload, 1) (List.mem_of_getElem? (i := 37) rfl)) (hb 1 (by decide) (by decide)) ?_
  refine l_argx (j := 2) hF hK hR g0 g4 (e_law7 (1204, .aload_n 0, 1) (List.mem_of_getElem? (i := 38) rfl)) (e_law7 (1205, .iload 4, 2) (List.mem_of_getElem? (i := 39) rfl)) (e_law7 (1207, .iconst 2, 1) (List.mem_of_getElem? (i := 40) rfl)) (e_law7 (1208, .iadd, 1) (List.mem_of_getElem? (i := 41) rfl)) (e_law7 (1209, .iaload, 1) (List.mem_of_getElem? (i := 42) rfl)) (hb 2 (by decide) (by decide)) ?_
  refine l_c3 (d := 320) (K' := _) hF hK hR hRf (e_law7 (1210, .invokevirtual 146, 3) (List.mem_of_getElem? (i := 43) rfl)) ⟨rfl, rfl⟩ t_18_146 ⟨by decide, by decide, by decide, by decide⟩ (by decide) m_237_ok (by decide) rfl (y_recv h_1.1 th0_ta ⟨rfl, rfl⟩) (Nat.le_of_ble_eq_true rfl) (Nat.le_of_ble_eq_true rfl) (n_meet (by decide) th0_tx th0_ta h_1 _ _) (fun r1 G2 h1 => ?_)
  obtain ⟨⟨y2, rfl⟩, h_2⟩ := h1
  simp only [Option.toList_some, Option.toList_none, List.cons_append, List.nil_append]
  refine l_s0 hF hK hR (e_law7 (1213, .pop, 1) (List.mem_of_getElem? (i := 44) rfl)) ⟨rfl, rfl⟩ ?_
  refine l_s0 hF hK hR (e_law7 (1214, .goto 252, 3) (List.mem_of_getElem? (i := 45) rfl)) ⟨rfl, rfl⟩ ?_
  exact kk _ _ h_2
set_option maxHeartbeats 4000000 in
set_option maxRecDepth 100000 in
theorem law_drawn (hF : pm_Fix p s m meth c m_law) (hK : pm_K o s) (hR : cs ≤ R.cells ∧ ss ≤ R.slots) (hRf : 320 + 1 ≤ R.frames ∧ 28 * (320 + 1) ≤ R.locals) (g0 : pm_get lv 0 = some (.ref pm_SB)) (g1 : pm_get lv 1 = some (.ref 0)) (g2 : pm_get lv 2 = some (.ref 349)) (g4 : pm_get lv 4 = some (.int i)) (hb : ∀ j : Int, 0 ≤ j → j ≤ 5 → pm_bad (i + Int32.ofInt j) o.L = false) (h : z_IN th0 0 349 G sz sz) (kk : ∀ (G' : List pE) (sz' : Int32), z_IN th0 0 349 G' sz' sz' → PW p l e R s m args below meth c Q o m_law 1466 lv [] G' cs ss) : PW p l e R s m args below meth c Q o m_law 1217 lv [] G cs ss := by
  refine l_aln hF hK hR (e_law7 (1217, .aload_n 1, 1) (List.mem_of_getElem? (i := 46) rfl)) g1 ?_
  refine l_argx (j := 1) hF hK hR g0 g4 (e_law7 (1218, .aload_n 0, 1) (List.mem_of_getElem? (i := 47) rfl)) (e_law7 (1219, .iload 4, 2) (List.mem_of_getElem? (i := 48) rfl)) (e_law7 (1221, .iconst 1, 1) (List.mem_of_getElem? (i := 49) rfl)) (e_law7 (1222, .iadd, 1) (List.mem_of_getElem? (i := 50) rfl)) (e_law7 (1223, .iaload, 1) (List.mem_of_getElem? (i := 51) rfl)) (hb 1 (by decide) (by decide)) ?_
  refine l_argx (j := 2) hF hK hR g0 g4 (e_law7 (1224, .aload_n 0, 1) (List.mem_of_getElem? (i := 52) rfl)) (e_law7 (1225, .iload 4, 2) (List.mem_of_getElem? (i := 53) rfl)) (e_law7 (1227, .iconst 2, 1) (List.mem_of_getElem? (i := 54) rfl)) (e_law7 (1228, .iadd, 1) (List.mem_of_getElem? (i := 55) rfl)) (e_law7 (1229, .iaload, 1) (List.mem_of_getElem? (i := 56) rfl)) (hb 2 (by decide) (by decide)) ?_
  refine l_c3 (d := 320) (K' := _) hF hK hR hRf (e_law7 (1230, .invokevirtual 147, 3) (List.mem_of_getElem? (i := 57) rfl)) ⟨rfl, rfl⟩ t_18_147 ⟨by decide, by decide, by decide, by decide⟩ (by decide) m_98_ok (by decide) rfl (y_recv h.1 th0_tx ⟨rfl, rfl⟩) (Nat.le_of_ble_eq_true rfl) (Nat.le_of_ble_eq_true rfl) (b_drawn (by decide) th0_tx th0_ta h _ _) (fun r1 G1 h1 => ?_)
  obtain ⟨⟨y1, rfl⟩, h_1⟩ := h1
  simp only [Option.toList_some, Option.toList_none, List.cons_append, List.nil_append]
  refine l_s0 hF hK hR (e_law7 (1233, .pop, 1) (List.mem_of_getElem? (i := 58) rfl)) ⟨rfl, rfl⟩ ?_
  refine l_aln hF hK hR (e_law7 (1234, .aload_n 2, 1) (List.mem_of_getElem? (i := 59) rfl)) g2 ?_
  refine l_argx (j := 1) hF hK hR g0 g4 (e_law7 (1235, .aload_n 0, 1) (List.mem_of_getElem? (i := 60) rfl)) (e_law7 (1236, .iload 4, 2) (List.mem_of_getElem? (i := 61) rfl)) (e_law7 (1238, .iconst 1, 1) (List.mem_of_getElem? (i := 62) rfl)) (e_law7 (1239, .iadd, 1) (List.mem_of_getElem? (i := 63) rfl)) (e_law7 (1240, .iaload, 1) (List.mem_of_getElem? (i := 64) rfl)) (hb 1 (by decide) (by decide)) ?_
  refine l_argx (j := 2) hF hK hR g0 g4 (e_law7 (1241, .aload_n 0, 1) (List.mem_of_getElem? (i := 65) rfl)) (e_law7 (1242, .iload 4, 2) (List.mem_of_getElem? (i := 66) rfl)) (e_law7 (1244, .iconst 2, 1) (List.mem_of_getElem? (i := 67) rfl)) (e_law7 (1245, .iadd, 1) (List.mem_of_getElem? (i := 68) rfl)) (e_law7 (1246, .iaload, 1) (List.mem_of_getElem? (i := 69) rfl)) (hb 2 (by decide) (by decide)) ?_
  refine l_c3 (d := 320) (K' := _) hF hK hR hRf (e_law7 (1247, .invokevirtual 150, 3) (List.mem_of_getElem? (i := 70) rfl)) ⟨rfl, rfl⟩ t_18_150 ⟨by decide, by decide, by decide, by decide⟩ (by decide) m_238_ok (by decide) rfl (y_recv h_1.1 th0_ta ⟨rfl, rfl⟩) (Nat.le_of_ble_eq_true rfl) (Nat.le_of_ble_eq_true rfl) (n_drawn (by decide) th0_tx th0_ta h_1 _ _) (fun r1 G2 h1 => ?_)
  obtain ⟨⟨y2, rfl⟩, h_2⟩ := h1
  simp only [Option.toList_some, Option.toList_none, List.cons_append, List.nil_append]
  refine l_s0 hF hK hR (e_law7 (1250, .pop, 1) (List.mem_of_getElem? (i := 71) rfl)) ⟨rfl, rfl⟩ ?_
  refine l_s0 hF hK hR (e_law7 (1251, .goto 215, 3) (List.mem_of_getElem? (i := 72) rfl)) ⟨rfl, rfl⟩ ?_
  exact kk _ _ h_2
set_option maxHeartbeats 4000000 in
set_option maxRecDepth 100000 in
theorem law_odds (hF : pm_Fix p s m meth c m_law) (hK : pm_K o s) (hR : cs ≤ R.cells ∧ ss ≤ R.slots) (hRf : 320 + 1 ≤ R.frames ∧ 28 * (320 + 1) ≤ R.locals) (g0 : pm_get lv 0 = some (.ref pm_SB)) (g1 : pm_get lv 1 = some (.ref 0)) (g2 : pm_get lv 2 = some (.ref 349)) (g4 : pm_get lv 4 = some (.int i)) (hb : ∀ j : Int, 0 ≤ j → j ≤ 5 → pm_bad (i + Int32.ofInt j) o.L = false) (h : z_IN th0 0 349 G sz sz) (kk : ∀ (G' : List pE) (sz' : Int32), z_IN th0 0 349 G' sz' sz' → PW p l e R s m args below meth c Q o m_law 1466 lv [] G' cs ss) : PW p l e R s m args below meth c Q o m_law 1254 lv [] G cs ss := by
  refine l_aln hF hK hR (e_law7 (1254, .aload_n 1, 1) (List.mem_of_getElem? (i := 73) rfl)) g1 ?_
  refine l_argx (j := 1) hF hK hR g0 g4 (e_law7 (1255, .aload_n 0, 1) (List.mem_of_getElem? (i := 74) rfl)) (e_law7 (1256, .iload 4, 2) (List.mem_of_getElem? (i := 75) rfl)) (e_law7 (1258, .iconst 1, 1) (List.mem_of_getElem? (i := 76) rfl)) (e_law7 (1259, .iadd, 1) (List.mem_of_getElem? (i := 77) rfl)) (e_law7 (1260, .iaload, 1) (List.mem_of_getElem? (i := 78) rfl)) (hb 1 (by decide) (by decide)) ?_
  refine l_argx (j := 2) hF hK hR g0 g4 (e_law7 (1261, .aload_n 0, 1) (List.mem_of_getElem? (i := 79) rfl)) (e_law7 (1262, .iload 4, 2) (List.mem_of_getElem? (i := 80) rfl)) (e_law7 (1264, .iconst 2, 1) (List.mem_of_getElem? (i := 81) rfl)) (e_law7 (1265, .iadd, 1) (List.mem_of_getElem? (i := 82) rfl)) (e_law7 (1266, .iaload, 1) (List.mem_of_getElem? (i := 83) rfl)) (hb 2 (by decide) (by decide)) ?_
  refine l_argx (j := 3) hF hK hR g0 g4 (e_law7 (1267, .aload_n 0, 1) (List.mem_of_getElem? (i := 84) rfl)) (e_law7 (1268, .iload 4, 2) (List.mem_of_getElem? (i := 85) rfl)) (e_law7 (1270, .iconst 3, 1) (List.mem_of_getElem? (i := 86) rfl)) (e_law7 (1271, .iadd, 1) (List.mem_of_getElem? (i := 87) rfl)) (e_law7 (1272, .iaload, 1) (List.mem_of_getElem? (i := 88) rfl)) (hb 3 (by decide) (by decide)) ?_
  refine l_c4 (d := 320) (K' := _) hF hK hR hRf (e_law7 (1273, .invokevirtual 151, 3) (List.mem_of_getElem? (i := 89) rfl)) ⟨rfl, rfl⟩ t_18_151 ⟨by decide, by decide, by decide, by decide⟩ (by decide) m_127_ok (by decide) rfl (y_recv h.1 th0_tx ⟨rfl, rfl⟩) (Nat.le_of_ble_eq_true rfl) (Nat.le_of_ble_eq_true rfl) (b_odds (by decide) th0_tx th0_ta h _ _ _) (fun r1 G1 h1 => ?_)
  obtain ⟨⟨y1, rfl⟩, h_1⟩ := h1
  simp only [Option.toList_some, Option.toList_none, List.cons_append, List.nil_append]
  refine l_s0 hF hK hR (e_law7 (1276, .pop, 1) (List.mem_of_getElem? (i := 90) rfl)) ⟨rfl, rfl⟩ ?_
  refine l_aln hF hK hR (e_law7 (1277, .aload_n 2, 1) (List.mem_of_getElem? (i := 91) rfl)) g2 ?_
  refine l_argx (j := 1) hF hK hR g0 g4 (e_law7 (1278, .aload_n 0, 1) (List.mem_of_getElem? (i := 92) rfl)) (e_law7 (1279, .iload 4, 2) (List.mem_of_getElem? (i := 93) rfl)) (e_law7 (1281, .iconst 1, 1) (List.mem_of_getElem? (i := 94) rfl)) (e_law7 (1282, .iadd, 1) (List.mem_of_getElem? (i := 95) rfl)) (e_law7 (1283, .iaload, 1) (List.mem_of_getElem? (i := 96) rfl)) (hb 1 (by decide) (by decide)) ?_
  refine l_argx (j := 2) hF hK hR g0 g4 (e_law7 (1284, .aload_n 0, 1) (List.mem_of_getElem? (i := 97) rfl)) (e_law7 (1285, .iload 4, 2) (List.mem_of_getElem? (i := 98) rfl)) (e_law7 (1287, .iconst 2, 1) (List.mem_of_getElem? (i := 99) rfl)) (e_law8 (1288, .iadd, 1) (List.mem_of_getElem? (i := 0) rfl)) (e_law8 (1289, .iaload, 1) (List.mem_of_getElem? (i := 1) rfl)) (hb 2 (by decide) (by decide)) ?_
  refine l_argx (j := 3) hF hK hR g0 g4 (e_law8 (1290, .aload_n 0, 1) (List.mem_of_getElem? (i := 2) rfl)) (e_law8 (1291, .iload 4, 2) (List.mem_of_getElem? (i := 3) rfl)) (e_law8 (1293, .iconst 3, 1) (List.mem_of_getElem? (i := 4) rfl)) (e_law8 (1294, .iadd, 1) (List.mem_of_getElem? (i := 5) rfl)) (e_law8 (1295, .iaload, 1) (List.mem_of_getElem? (i := 6) rfl)) (hb 3 (by decide) (by decide)) ?_
  refine l_c4 (d := 320) (K' := _) hF hK hR hRf (e_law8 (1296, .invokevirtual 154, 3) (List.mem_of_getElem? (i := 7) rfl)) ⟨rfl, rfl⟩ t_18_154 ⟨by decide, by decide, by decide, by decide⟩ (by decide) m_241_ok (by decide) rfl (y_recv h_1.1 th0_ta ⟨rfl, rfl⟩) (Nat.le_of_ble_eq_true rfl) (Nat.le_of_ble_eq_true rfl) (n_odds (by decide) th0_tx th0_ta h_1 _ _ _) (fun r1 G2 h1 => ?_)
  obtain ⟨⟨y2, rfl⟩, h_2⟩ := h1
  simp only [Option.toList_some, Option.toList_none, List.cons_append, List.nil_append]
  refine l_s0 hF hK hR (e_law8 (1299, .pop, 1) (List.mem_of_getElem? (i := 8) rfl)) ⟨rfl, rfl⟩ ?_
  refine l_s0 hF hK hR (e_law8 (1300, .goto 166, 3) (List.mem_of_getElem? (i := 9) rfl)) ⟨rfl, rfl⟩ ?_
  exact kk _ _ h_2
set_option maxHeartbeats 4000000 in
set_option maxRecDepth 100000 in
theorem law_log (hF : pm_Fix p s m meth c m_law) (hK : pm_K o s) (hR : cs ≤ R.cells ∧ ss ≤ R.slots) (hRf : 320 + 1 ≤ R.frames ∧ 28 * (320 + 1) ≤ R.locals) (g0 : pm_get lv 0 = some (.ref pm_SB)) (g1 : pm_get lv 1 = some (.ref 0)) (g2 : pm_get lv 2 = some (.ref 349)) (g4 : pm_get lv 4 = some (.int i)) (hb : ∀ j : Int, 0 ≤ j → j ≤ 5 → pm_bad (i + Int32.ofInt j) o.L = false) (h : z_IN th0 0 349 G sz sz) (kk : ∀ (G' : List pE) (sz' : Int32), z_IN th0 0 349 G' sz' sz' → PW p l e R s m args below meth c Q o m_law 1466 lv [] G' cs ss) : PW p l e R s m args below meth c Q o m_law 1303 lv [] G cs ss := by
  refine l_aln hF hK hR (e_law8 (1303, .aload_n 1, 1) (List.mem_of_getElem? (i := 10) rfl)) g1 ?_
  refine l_argx (j := 1) hF hK hR g0 g4 (e_law8 (1304, .aload_n 0, 1) (List.mem_of_getElem? (i := 11) rfl)) (e_law8 (1305, .iload 4, 2) (List.mem_of_getElem? (i := 12) rfl)) (e_law8 (1307, .iconst 1, 1) (List.mem_of_getElem? (i := 13) rfl)) (e_law8 (1308, .iadd, 1) (List.mem_of_getElem? (i := 14) rfl)) (e_law8 (1309, .iaload, 1) (List.mem_of_getElem? (i := 15) rfl)) (hb 1 (by decide) (by decide)) ?_
  refine l_c2 (d := 320) (K' := _) hF hK hR hRf (e_law8 (1310, .invokevirtual 155, 3) (List.mem_of_getElem? (i := 16) rfl)) ⟨rfl, rfl⟩ t_18_155 ⟨by decide, by decide, by decide, by decide⟩ (by decide) m_129_ok (by decide) rfl (y_recv h.1 th0_tx ⟨rfl, rfl⟩) (Nat.le_of_ble_eq_true rfl) (Nat.le_of_ble_eq_true rfl) (b_log (by decide) th0_tx th0_ta h _) (fun r1 G1 h1 => ?_)
  obtain ⟨y1, s1, rfl, h_1, q1⟩ := h1
  simp only [Option.toList_some, Option.toList_none, List.cons_append, List.nil_append]
  refine l_s0 hF hK hR (e_law8 (1313, .pop, 1) (List.mem_of_getElem? (i := 17) rfl)) ⟨rfl, rfl⟩ ?_
  refine l_aln hF hK hR (e_law8 (1314, .aload_n 2, 1) (List.mem_of_getElem? (i := 18) rfl)) g2 ?_
  refine l_argx (j := 1) hF hK hR g0 g4 (e_law8 (1315, .aload_n 0, 1) (List.mem_of_getElem? (i := 19) rfl)) (e_law8 (1316, .iload 4, 2) (List.mem_of_getElem? (i := 20) rfl)) (e_law8 (1318, .iconst 1, 1) (List.mem_of_getElem? (i := 21) rfl)) (e_law8 (1319, .iadd, 1) (List.mem_of_getElem? (i := 22) rfl)) (e_law8 (1320, .iaload, 1) (List.mem_of_getElem? (i := 23) rfl)) (hb 1 (by decide) (by decide)) ?_
  refine l_c2 (d := 320) (K' := _) hF hK hR hRf (e_law8 (1321, .invokevirtual 158, 3) (List.mem_of_getElem? (i := 24) rfl)) ⟨rfl, rfl⟩ t_18_158 ⟨by decide, by decide, by decide, by decide⟩ (by decide) m_243_ok (by decide) rfl (y_recv h_1.1 th0_ta ⟨rfl, rfl⟩) (Nat.le_of_ble_eq_true rfl) (Nat.le_of_ble_eq_true rfl) (n_log (by decide) th0_tx th0_ta h_1) (fun r1 G2 h1 => ?_)
  obtain ⟨y2, s2, rfl, h_2, q2⟩ := h1
  simp only [Option.toList_some, Option.toList_none, List.cons_append, List.nil_append]
  refine l_s0 hF hK hR (e_law8 (1324, .pop, 1) (List.mem_of_getElem? (i := 25) rfl)) ⟨rfl, rfl⟩ ?_
  refine l_s0 hF hK hR (e_law8 (1325, .goto 141, 3) (List.mem_of_getElem? (i := 26) rfl)) ⟨rfl, rfl⟩ ?_
  have es : s1 = s2 := by
    rcases q1 with ⟨a1, a2, a3⟩ | ⟨a1, a2⟩
    · rcases q2 with ⟨b1, b2, b3⟩ | ⟨b1, b2⟩
      · rw [a3, b3]
      · exact absurd ⟨a1, a2⟩ b1
    · rcases q2 with ⟨b1, b2, b3⟩ | ⟨b1, b2⟩
      · exact absurd ⟨b1, b2⟩ a1
      · rw [a2, b2]
  subst es
  exact kk _ _ h_2
set_option maxHeartbeats 4000000 in
set_option maxRecDepth 100000 in
theorem law_logged (hF : pm_Fix p s m meth c m_law) (hK : pm_K o s) (hR : cs ≤ R.cells ∧ ss ≤ R.slots) (hRf : 320 + 1 ≤ R.frames ∧ 28 * (320 + 1) ≤ R.locals) (g0 : pm_get lv 0 = some (.ref pm_SB)) (g1 : pm_get lv 1 = some (.ref 0)) (g2 : pm_get lv 2 = some (.ref 349)) (g4 : pm_get lv 4 = some (.int i)) (hb : ∀ j : Int, 0 ≤ j → j ≤ 5 → pm_bad (i + Int32.ofInt j) o.L = false) (h : z_IN th0 0 349 G sz sz) (kk : ∀ (G' : List pE) (sz' : Int32), z_IN th0 0 349 G' sz' sz' → PW p l e R s m args below meth c Q o m_law 1466 lv [] G' cs ss) : PW p l e R s m args below meth c Q o m_law 1328 lv [] G cs ss := by
  refine l_aln hF hK hR (e_law8 (1328, .aload_n 1, 1) (List.mem_of_getElem? (i := 27) rfl)) g1 ?_
  refine l_argx (j := 1) hF hK hR g0 g4 (e_law8 (1329, .aload_n 0, 1) (List.mem_of_getElem? (i := 28) rfl)) (e_law8 (1330, .iload 4, 2) (List.mem_of_getElem? (i := 29) rfl)) (e_law8 (1332, .iconst 1, 1) (List.mem_of_getElem? (i := 30) rfl)) (e_law8 (1333, .iadd, 1) (List.mem_of_getElem? (i := 31) rfl)) (e_law8 (1334, .iaload, 1) (List.mem_of_getElem? (i := 32) rfl)) (hb 1 (by decide) (by decide)) ?_
  refine l_c2 (d := 320) (K' := _) hF hK hR hRf (e_law8 (1335, .invokevirtual 159, 3) (List.mem_of_getElem? (i := 33) rfl)) ⟨rfl, rfl⟩ t_18_159 ⟨by decide, by decide, by decide, by decide⟩ (by decide) m_135_ok (by decide) rfl (y_recv h.1 th0_tx ⟨rfl, rfl⟩) (Nat.le_of_ble_eq_true rfl) (Nat.le_of_ble_eq_true rfl) (b_logged (by decide) th0_tx th0_ta h _) (fun r1 G1 h1 => ?_)
  obtain ⟨⟨y1, rfl⟩, h_1⟩ := h1
  simp only [Option.toList_some, Option.toList_none, List.cons_append, List.nil_append]
  refine l_s0 hF hK hR (e_law8 (1338, .pop, 1) (List.mem_of_getElem? (i := 34) rfl)) ⟨rfl, rfl⟩ ?_
  refine l_aln hF hK hR (e_law8 (1339, .aload_n 2, 1) (List.mem_of_getElem? (i := 35) rfl)) g2 ?_
  refine l_argx (j := 1) hF hK hR g0 g4 (e_law8 (1340, .aload_n 0, 1) (List.mem_of_getElem? (i := 36) rfl)) (e_law8 (1341, .iload 4, 2) (List.mem_of_getElem? (i := 37) rfl)) (e_law8 (1343, .iconst 1, 1) (List.mem_of_getElem? (i := 38) rfl)) (e_law8 (1344, .iadd, 1) (List.mem_of_getElem? (i := 39) rfl)) (e_law8 (1345, .iaload, 1) (List.mem_of_getElem? (i := 40) rfl)) (hb 1 (by decide) (by decide)) ?_
  refine l_c2 (d := 320) (K' := _) hF hK hR hRf (e_law8 (1346, .invokevirtual 162, 3) (List.mem_of_getElem? (i := 41) rfl)) ⟨rfl, rfl⟩ t_18_162 ⟨by decide, by decide, by decide, by decide⟩ (by decide) m_246_ok (by decide) rfl (y_recv h_1.1 th0_ta ⟨rfl, rfl⟩) (Nat.le_of_ble_eq_true rfl) (Nat.le_of_ble_eq_true rfl) (n_logged (by decide) th0_tx th0_ta h_1 _) (fun r1 G2 h1 => ?_)
  obtain ⟨⟨y2, rfl⟩, h_2⟩ := h1
  simp only [Option.toList_some, Option.toList_none, List.cons_append, List.nil_append]
  refine l_s0 hF hK hR (e_law8 (1349, .pop, 1) (List.mem_of_getElem? (i := 42) rfl)) ⟨rfl, rfl⟩ ?_
  refine l_s0 hF hK hR (e_law8 (1350, .goto 116, 3) (List.mem_of_getElem? (i := 43) rfl)) ⟨rfl, rfl⟩ ?_
  exact kk _ _ h_2
set_option maxHeartbeats 4000000 in
set_option maxRecDepth 100000 in
theorem law_sentence (hF : pm_Fix p s m meth c m_law) (hK : pm_K o s) (hR : cs ≤ R.cells ∧ ss ≤ R.slots) (hRf : 320 + 1 ≤ R.frames ∧ 28 * (320 + 1) ≤ R.locals) (g0 : pm_get lv 0 = some (.ref pm_SB)) (g1 : pm_get lv 1 = some (.ref 0)) (g2 : pm_get lv 2 = some (.ref 349)) (g4 : pm_get lv 4 = some (.int i)) (hb : ∀ j : Int, 0 ≤ j → j ≤ 5 → pm_bad (i + Int32.ofInt j) o.L = false) (h : z_IN th0 0 349 G sz sz) (kk : ∀ (G' : List pE) (sz' : Int32), z_IN th0 0 349 G' sz' sz' → PW p l e R s m args below meth c Q o m_law 1466 lv [] G' cs ss) : PW p l e R s m args below meth c Q o m_law 1353 lv [] G cs ss := by
  refine l_aln hF hK hR (e_law8 (1353, .aload_n 1, 1) (List.mem_of_getElem? (i := 44) rfl)) g1 ?_
  refine l_c1 (d := 320) (K' := _) hF hK hR hRf (e_law8 (1354, .invokevirtual 163, 3) (List.mem_of_getElem? (i := 45) rfl)) ⟨rfl, rfl⟩ t_18_163 ⟨by decide, by decide, by decide, by decide⟩ (by decide) m_136_ok (by decide) rfl (y_recv h.1 th0_tx ⟨rfl, rfl⟩) (Nat.le_of_ble_eq_true rfl) (Nat.le_of_ble_eq_true rfl) (b_sentence (by decide) th0_tx th0_ta h ) (fun r1 G1 h1 => ?_)
  obtain ⟨y1, rfl, h_1⟩ := h1
  simp only [Option.toList_some, Option.toList_none, List.cons_append, List.nil_append]
  refine l_s0 hF hK hR (e_law8 (1357, .pop, 1) (List.mem_of_getElem? (i := 46) rfl)) ⟨rfl, rfl⟩ ?_
  refine l_aln hF hK hR (e_law8 (1358, .aload_n 2, 1) (List.mem_of_getElem? (i := 47) rfl)) g2 ?_
  refine l_c1 (d := 320) (K' := _) hF hK hR hRf (e_law8 (1359, .invokevirtual 166, 3) (List.mem_of_getElem? (i := 48) rfl)) ⟨rfl, rfl⟩ t_18_166 ⟨by decide, by decide, by decide, by decide⟩ (by decide) m_247_ok (by decide) rfl (y_recv h_1.1 th0_ta ⟨rfl, rfl⟩) (Nat.le_of_ble_eq_true rfl) (Nat.le_of_ble_eq_true rfl) (n_sentence (by decide) th0_tx th0_ta th0_U h_1) (fun r1 G2 h1 => ?_)
  obtain ⟨y2, rfl, h_2⟩ := h1
  simp only [Option.toList_some, Option.toList_none, List.cons_append, List.nil_append]
  refine l_s0 hF hK hR (e_law8 (1362, .pop, 1) (List.mem_of_getElem? (i := 49) rfl)) ⟨rfl, rfl⟩ ?_
  refine l_s0 hF hK hR (e_law8 (1363, .goto 103, 3) (List.mem_of_getElem? (i := 50) rfl)) ⟨rfl, rfl⟩ ?_
  exact kk _ _ h_2
set_option maxHeartbeats 4000000 in
set_option maxRecDepth 100000 in
theorem law_said (hF : pm_Fix p s m meth c m_law) (hK : pm_K o s) (hR : cs ≤ R.cells ∧ ss ≤ R.slots) (hRf : 320 + 1 ≤ R.frames ∧ 28 * (320 + 1) ≤ R.locals) (g0 : pm_get lv 0 = some (.ref pm_SB)) (g1 : pm_get lv 1 = some (.ref 0)) (g2 : pm_get lv 2 = some (.ref 349)) (g4 : pm_get lv 4 = some (.int i)) (hb : ∀ j : Int, 0 ≤ j → j ≤ 5 → pm_bad (i + Int32.ofInt j) o.L = false) (h : z_IN th0 0 349 G sz sz) (kk : ∀ (G' : List pE) (sz' : Int32), z_IN th0 0 349 G' sz' sz' → PW p l e R s m args below meth c Q o m_law 1466 lv [] G' cs ss) : PW p l e R s m args below meth c Q o m_law 1366 lv [] G cs ss := by
  refine l_aln hF hK hR (e_law8 (1366, .aload_n 1, 1) (List.mem_of_getElem? (i := 51) rfl)) g1 ?_
  refine l_argx (j := 1) hF hK hR g0 g4 (e_law8 (1367, .aload_n 0, 1) (List.mem_of_getElem? (i := 52) rfl)) (e_law8 (1368, .iload 4, 2) (List.mem_of_getElem? (i := 53) rfl)) (e_law8 (1370, .iconst 1, 1) (List.mem_of_getElem? (i := 54) rfl)) (e_law8 (1371, .iadd, 1) (List.mem_of_getElem? (i := 55) rfl)) (e_law8 (1372, .iaload, 1) (List.mem_of_getElem? (i := 56) rfl)) (hb 1 (by decide) (by decide)) ?_
  refine l_c2 (d := 320) (K' := _) hF hK hR hRf (e_law8 (1373, .invokevirtual 167, 3) (List.mem_of_getElem? (i := 57) rfl)) ⟨rfl, rfl⟩ t_18_167 ⟨by decide, by decide, by decide, by decide⟩ (by decide) m_146_ok (by decide) rfl (y_recv h.1 th0_tx ⟨rfl, rfl⟩) (Nat.le_of_ble_eq_true rfl) (Nat.le_of_ble_eq_true rfl) (b_said (by decide) th0_tx th0_ta h _) (fun r1 G1 h1 => ?_)
  obtain ⟨⟨y1, rfl⟩, h_1⟩ := h1
  simp only [Option.toList_some, Option.toList_none, List.cons_append, List.nil_append]
  refine l_s0 hF hK hR (e_law8 (1376, .pop, 1) (List.mem_of_getElem? (i := 58) rfl)) ⟨rfl, rfl⟩ ?_
  refine l_aln hF hK hR (e_law8 (1377, .aload_n 2, 1) (List.mem_of_getElem? (i := 59) rfl)) g2 ?_
  refine l_argx (j := 1) hF hK hR g0 g4 (e_law8 (1378, .aload_n 0, 1) (List.mem_of_getElem? (i := 60) rfl)) (e_law8 (1379, .iload 4, 2) (List.mem_of_getElem? (i := 61) rfl)) (e_law8 (1381, .iconst 1, 1) (List.mem_of_getElem? (i := 62) rfl)) (e_law8 (1382, .iadd, 1) (List.mem_of_getElem? (i := 63) rfl)) (e_law8 (1383, .iaload, 1) (List.mem_of_getElem? (i := 64) rfl)) (hb 1 (by decide) (by decide)) ?_
  refine l_c2 (d := 320) (K' := _) hF hK hR hRf (e_law8 (1384, .invokevirtual 170, 3) (List.mem_of_getElem? (i := 65) rfl)) ⟨rfl, rfl⟩ t_18_170 ⟨by decide, by decide, by decide, by decide⟩ (by decide) m_254_ok (by decide) rfl (y_recv h_1.1 th0_ta ⟨rfl, rfl⟩) (Nat.le_of_ble_eq_true rfl) (Nat.le_of_ble_eq_true rfl) (n_said (by decide) th0_tx th0_ta h_1 _) (fun r1 G2 h1 => ?_)
  obtain ⟨⟨y2, rfl⟩, h_2⟩ := h1
  simp only [Option.toList_some, Option.toList_none, List.cons_append, List.nil_append]
  refine l_s0 hF hK hR (e_law8 (1387, .pop, 1) (List.mem_of_getElem? (i := 66) rfl)) ⟨rfl, rfl⟩ ?_
  refine l_s0 hF hK hR (e_law8 (1388, .goto 78, 3) (List.mem_of_getElem? (i := 67) rfl)) ⟨rfl, rfl⟩ ?_
  exact kk _ _ h_2
set_option maxHeartbeats 4000000 in
set_option maxRecDepth 100000 in
theorem law_image (hF : pm_Fix p s m meth c m_law) (hK : pm_K o s) (hR : cs ≤ R.cells ∧ ss ≤ R.slots) (hRf : 320 + 1 ≤ R.frames ∧ 28 * (320 + 1) ≤ R.locals) (g0 : pm_get lv 0 = some (.ref pm_SB)) (g1 : pm_get lv 1 = some (.ref 0)) (g2 : pm_get lv 2 = some (.ref 349)) (g4 : pm_get lv 4 = some (.int i)) (hb : ∀ j : Int, 0 ≤ j → j ≤ 5 → pm_bad (i + Int32.ofInt j) o.L = false) (h : z_IN th0 0 349 G sz sz) (kk : ∀ (G' : List pE) (sz' : Int32), z_IN th0 0 349 G' sz' sz' → PW p l e R s m args below meth c Q o m_law 1466 lv [] G' cs ss) : PW p l e R s m args below meth c Q o m_law 1391 lv [] G cs ss := by
  refine l_aln hF hK hR (e_law8 (1391, .aload_n 1, 1) (List.mem_of_getElem? (i := 68) rfl)) g1 ?_
  refine l_argx (j := 1) hF hK hR g0 g4 (e_law8 (1392, .aload_n 0, 1) (List.mem_of_getElem? (i := 69) rfl)) (e_law8 (1393, .iload 4, 2) (List.mem_of_getElem? (i := 70) rfl)) (e_law8 (1395, .iconst 1, 1) (List.mem_of_getElem? (i := 71) rfl)) (e_law8 (1396, .iadd, 1) (List.mem_of_getElem? (i := 72) rfl)) (e_law8 (1397, .iaload, 1) (List.mem_of_getElem? (i := 73) rfl)) (hb 1 (by decide) (by decide)) ?_
  refine l_c2 (d := 320) (K' := _) hF hK hR hRf (e_law8 (1398, .invokevirtual 171, 3) (List.mem_of_getElem? (i := 74) rfl)) ⟨rfl, rfl⟩ t_18_171 ⟨by decide, by decide, by decide, by decide⟩ (by decide) m_153_ok (by decide) rfl (y_recv h.1 th0_tx ⟨rfl, rfl⟩) (Nat.le_of_ble_eq_true rfl) (Nat.le_of_ble_eq_true rfl) (b_image (by decide) th0_tx th0_ta h _) (fun r1 G1 h1 => ?_)
  obtain ⟨⟨y1, rfl⟩, h_1⟩ := h1
  simp only [Option.toList_some, Option.toList_none, List.cons_append, List.nil_append]
  refine l_s0 hF hK hR (e_law8 (1401, .pop, 1) (List.mem_of_getElem? (i := 75) rfl)) ⟨rfl, rfl⟩ ?_
  refine l_aln hF hK hR (e_law8 (1402, .aload_n 2, 1) (List.mem_of_getElem? (i := 76) rfl)) g2 ?_
  refine l_argx (j := 1) hF hK hR g0 g4 (e_law8 (1403, .aload_n 0, 1) (List.mem_of_getElem? (i := 77) rfl)) (e_law8 (1404, .iload 4, 2) (List.mem_of_getElem? (i := 78) rfl)) (e_law8 (1406, .iconst 1, 1) (List.mem_of_getElem? (i := 79) rfl)) (e_law8 (1407, .iadd, 1) (List.mem_of_getElem? (i := 80) rfl)) (e_law8 (1408, .iaload, 1) (List.mem_of_getElem? (i := 81) rfl)) (hb 1 (by decide) (by decide)) ?_
  refine l_c2 (d := 320) (K' := _) hF hK hR hRf (e_law8 (1409, .invokevirtual 174, 3) (List.mem_of_getElem? (i := 82) rfl)) ⟨rfl, rfl⟩ t_18_174 ⟨by decide, by decide, by decide, by decide⟩ (by decide) m_257_ok (by decide) rfl (y_recv h_1.1 th0_ta ⟨rfl, rfl⟩) (Nat.le_of_ble_eq_true rfl) (Nat.le_of_ble_eq_true rfl) (n_image (by decide) th0_tx th0_ta th0_U h_1) (fun r1 G2 h1 => ?_)
  obtain ⟨⟨y2, rfl⟩, h_2⟩ := h1
  simp only [Option.toList_some, Option.toList_none, List.cons_append, List.nil_append]
  refine l_s0 hF hK hR (e_law8 (1412, .pop, 1) (List.mem_of_getElem? (i := 83) rfl)) ⟨rfl, rfl⟩ ?_
  refine l_s0 hF hK hR (e_law8 (1413, .goto 53, 3) (List.mem_of_getElem? (i := 84) rfl)) ⟨rfl, rfl⟩ ?_
  exact kk _ _ h_2
set_option maxHeartbeats 4000000 in
set_option maxRecDepth 100000 in
theorem law_restore (hF : pm_Fix p s m meth c m_law) (hK : pm_K o s) (hR : cs ≤ R.cells ∧ ss ≤ R.slots) (hRf : 320 + 1 ≤ R.frames ∧ 28 * (320 + 1) ≤ R.locals) (g0 : pm_get lv 0 = some (.ref pm_SB)) (g1 : pm_get lv 1 = some (.ref 0)) (g2 : pm_get lv 2 = some (.ref 349)) (g4 : pm_get lv 4 = some (.int i)) (hb : ∀ j : Int, 0 ≤ j → j ≤ 5 → pm_bad (i + Int32.ofInt j) o.L = false) (h : z_IN th0 0 349 G sz sz) (kk : ∀ (G' : List pE) (sz' : Int32), z_IN th0 0 349 G' sz' sz' → PW p l e R s m args below meth c Q o m_law 1466 lv [] G' cs ss) : PW p l e R s m args below meth c Q o m_law 1416 lv [] G cs ss := by
  refine l_aln hF hK hR (e_law8 (1416, .aload_n 1, 1) (List.mem_of_getElem? (i := 85) rfl)) g1 ?_
  refine l_argx (j := 1) hF hK hR g0 g4 (e_law8 (1417, .aload_n 0, 1) (List.mem_of_getElem? (i := 86) rfl)) (e_law8 (1418, .iload 4, 2) (List.mem_of_getElem? (i := 87) rfl)) (e_law8 (1420, .iconst 1, 1) (List.mem_of_getElem? (i := 88) rfl)) (e_law8 (1421, .iadd, 1) (List.mem_of_getElem? (i := 89) rfl)) (e_law8 (1422, .iaload, 1) (List.mem_of_getElem? (i := 90) rfl)) (hb 1 (by decide) (by decide)) ?_
  refine l_c2 (d := 320) (K' := _) hF hK hR hRf (e_law8 (1423, .invokevirtual 175, 3) (List.mem_of_getElem? (i := 91) rfl)) ⟨rfl, rfl⟩ t_18_175 ⟨by decide, by decide, by decide, by decide⟩ (by decide) m_154_ok (by decide) rfl (y_recv h.1 th0_tx ⟨rfl, rfl⟩) (Nat.le_of_ble_eq_true rfl) (Nat.le_of_ble_eq_true rfl) (b_restore (by decide) th0_tx th0_ta h _) (fun r1 G1 h1 => ?_)
  obtain ⟨⟨y1, rfl⟩, h_1⟩ := h1
  simp only [Option.toList_some, Option.toList_none, List.cons_append, List.nil_append]
  refine l_s0 hF hK hR (e_law8 (1426, .pop, 1) (List.mem_of_getElem? (i := 92) rfl)) ⟨rfl, rfl⟩ ?_
  refine l_aln hF hK hR (e_law8 (1427, .aload_n 2, 1) (List.mem_of_getElem? (i := 93) rfl)) g2 ?_
  refine l_argx (j := 1) hF hK hR g0 g4 (e_law8 (1428, .aload_n 0, 1) (List.mem_of_getElem? (i := 94) rfl)) (e_law8 (1429, .iload 4, 2) (List.mem_of_getElem? (i := 95) rfl)) (e_law8 (1431, .iconst 1, 1) (List.mem_of_getElem? (i := 96) rfl)) (e_law8 (1432, .iadd, 1) (List.mem_of_getElem? (i := 97) rfl)) (e_law8 (1433, .iaload, 1) (List.mem_of_getElem? (i := 98) rfl)) (hb 1 (by decide) (by decide)) ?_
  refine l_c2 (d := 320) (K' := _) hF hK hR hRf (e_law8 (1434, .invokevirtual 178, 3) (List.mem_of_getElem? (i := 99) rfl)) ⟨rfl, rfl⟩ t_18_178 ⟨by decide, by decide, by decide, by decide⟩ (by decide) m_258_ok (by decide) rfl (y_recv h_1.1 th0_ta ⟨rfl, rfl⟩) (Nat.le_of_ble_eq_true rfl) (Nat.le_of_ble_eq_true rfl) (n_restore (by decide) th0_tx th0_ta th0_U h_1) (fun r1 G2 h1 => ?_)
  obtain ⟨⟨y2, rfl⟩, h_2⟩ := h1
  simp only [Option.toList_some, Option.toList_none, List.cons_append, List.nil_append]
  refine l_s0 hF hK hR (e_law9 (1437, .pop, 1) (List.mem_of_getElem? (i := 0) rfl)) ⟨rfl, rfl⟩ ?_
  refine l_s0 hF hK hR (e_law9 (1438, .goto 28, 3) (List.mem_of_getElem? (i := 1) rfl)) ⟨rfl, rfl⟩ ?_
  exact kk _ _ h_2
set_option maxHeartbeats 4000000 in
set_option maxRecDepth 100000 in
theorem law_count (hF : pm_Fix p s m meth c m_law) (hK : pm_K o s) (hR : cs ≤ R.cells ∧ ss ≤ R.slots) (hRf : 320 + 1 ≤ R.frames ∧ 28 * (320 + 1) ≤ R.locals) (g0 : pm_get lv 0 = some (.ref pm_SB)) (g1 : pm_get lv 1 = some (.ref 0)) (g2 : pm_get lv 2 = some (.ref 349)) (g4 : pm_get lv 4 = some (.int i)) (hb : ∀ j : Int, 0 ≤ j → j ≤ 5 → pm_bad (i + Int32.ofInt j) o.L = false) (h : z_IN th0 0 349 G sz sz) (kk : ∀ (G' : List pE) (sz' : Int32), z_IN th0 0 349 G' sz' sz' → PW p l e R s m args below meth c Q o m_law 1466 lv [] G' cs ss) : PW p l e R s m args below meth c Q o m_law 1441 lv [] G cs ss := by
  refine l_aln hF hK hR (e_law9 (1441, .aload_n 1, 1) (List.mem_of_getElem? (i := 2) rfl)) g1 ?_
  refine l_argx (j := 1) hF hK hR g0 g4 (e_law9 (1442, .aload_n 0, 1) (List.mem_of_getElem? (i := 3) rfl)) (e_law9 (1443, .iload 4, 2) (List.mem_of_getElem? (i := 4) rfl)) (e_law9 (1445, .iconst 1, 1) (List.mem_of_getElem? (i := 5) rfl)) (e_law9 (1446, .iadd, 1) (List.mem_of_getElem? (i := 6) rfl)) (e_law9 (1447, .iaload, 1) (List.mem_of_getElem? (i := 7) rfl)) (hb 1 (by decide) (by decide)) ?_
  refine l_c2 (d := 320) (K' := _) hF hK hR hRf (e_law9 (1448, .invokevirtual 179, 3) (List.mem_of_getElem? (i := 8) rfl)) ⟨rfl, rfl⟩ t_18_179 ⟨by decide, by decide, by decide, by decide⟩ (by decide) m_72_ok (by decide) rfl (y_recv h.1 th0_tx ⟨rfl, rfl⟩) (Nat.le_of_ble_eq_true rfl) (Nat.le_of_ble_eq_true rfl) (b_count (by decide) th0_tx th0_ta h _) (fun r1 G1 h1 => ?_)
  obtain ⟨⟨y1, rfl⟩, h_1⟩ := h1
  simp only [Option.toList_some, Option.toList_none, List.cons_append, List.nil_append]
  refine l_s0 hF hK hR (e_law9 (1451, .pop, 1) (List.mem_of_getElem? (i := 9) rfl)) ⟨rfl, rfl⟩ ?_
  refine l_aln hF hK hR (e_law9 (1452, .aload_n 2, 1) (List.mem_of_getElem? (i := 10) rfl)) g2 ?_
  refine l_argx (j := 1) hF hK hR g0 g4 (e_law9 (1453, .aload_n 0, 1) (List.mem_of_getElem? (i := 11) rfl)) (e_law9 (1454, .iload 4, 2) (List.mem_of_getElem? (i := 12) rfl)) (e_law9 (1456, .iconst 1, 1) (List.mem_of_getElem? (i := 13) rfl)) (e_law9 (1457, .iadd, 1) (List.mem_of_getElem? (i := 14) rfl)) (e_law9 (1458, .iaload, 1) (List.mem_of_getElem? (i := 15) rfl)) (hb 1 (by decide) (by decide)) ?_
  refine l_c2 (d := 320) (K' := _) hF hK hR hRf (e_law9 (1459, .invokevirtual 182, 3) (List.mem_of_getElem? (i := 16) rfl)) ⟨rfl, rfl⟩ t_18_182 ⟨by decide, by decide, by decide, by decide⟩ (by decide) m_259_ok (by decide) rfl (y_recv h_1.1 th0_ta ⟨rfl, rfl⟩) (Nat.le_of_ble_eq_true rfl) (Nat.le_of_ble_eq_true rfl) (n_count (by decide) th0_tx th0_ta h_1 _) (fun r1 G2 h1 => ?_)
  obtain ⟨⟨y2, rfl⟩, h_2⟩ := h1
  simp only [Option.toList_some, Option.toList_none, List.cons_append, List.nil_append]
  refine l_s0 hF hK hR (e_law9 (1462, .pop, 1) (List.mem_of_getElem? (i := 17) rfl)) ⟨rfl, rfl⟩ ?_
  refine l_s0 hF hK hR (e_law9 (1463, .goto 3, 3) (List.mem_of_getElem? (i := 18) rfl)) ⟨rfl, rfl⟩ ?_
  exact kk _ _ h_2
end LC
