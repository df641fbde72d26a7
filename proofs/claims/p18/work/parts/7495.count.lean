theorem u_0_192 : pm_ftab.find? (fun r => r.1 == 0 && r.2.1 == 192) = some (0, 192, 0, 0, 1, 359) := by decide +kernel
theorem u_0_240 : pm_ftab.find? (fun r => r.1 == 0 && r.2.1 == 240) = some (0, 240, 1, 0, 1, 199) := by decide +kernel
theorem u_0_243 : pm_ftab.find? (fun r => r.1 == 0 && r.2.1 == 243) = some (0, 243, 1, 5, 1, 210) := by decide +kernel
theorem u_0_246 : pm_ftab.find? (fun r => r.1 == 0 && r.2.1 == 246) = some (0, 246, 0, 4, 1, 374) := by decide +kernel
theorem u_0_249 : pm_ftab.find? (fun r => r.1 == 0 && r.2.1 == 249) = some (0, 249, 0, 5, 1, 377) := by decide +kernel
theorem u_0_252 : pm_ftab.find? (fun r => r.1 == 0 && r.2.1 == 252) = some (0, 252, 0, 6, 1, 380) := by decide +kernel
theorem t_0_255 : pm_ctab.find? (fun r => r.1 == 0 && r.2.1 == 255) = some (0, 255, 1, 63, 796) := by decide +kernel
def m_63 : pM := (⟨"BreathingHill$Land", "breathHours", "()I"⟩, 759, 1, some (FieldType.int), 5, 0, false, 1, 97, 757, 758)
set_option maxRecDepth 100000 in
theorem m_63_ok : pm_tab[63]? = some m_63 := rfl
theorem e_63 : ∀ q ∈ d_63, decode m_63.code q.1 = .ok (q.2.1, q.2.2) := y_dec d_63_ok m_63_ok
/-- what count answers -/
def z_ct (s : Nat → Option Value) (sz x : Int32) (r : Option Value) : Prop := (0 ≤ x.toInt → x.toInt ≤ 5 → r = s x.toInt.toNat) ∧ (x.toInt = 6 → ∃ b0 b1 b2 b3 : Int32, s 6 = some (.int b0) ∧ s 7 = some (.int b1) ∧ s 8 = some (.int b2) ∧ s 9 = some (.int b3) ∧ r = some (.int (b0 + b1 + b2 + b3))) ∧ (x.toInt = 7 → r = some (.int sz)) ∧ (x.toInt < 0 ∨ 7 < x.toInt → r = some (.int (Int32.ofInt (-1))))
theorem z_ct.eq {s : Nat → Option Value} {sz x y y' : Int32} (h : z_ct s sz x (some (.int y))) (h' : z_ct s sz x (some (.int y'))) : y = y' := by
  have key : some (Value.int y) = some (.int y') := by
    by_cases c : x.toInt < 0 ∨ 7 < x.toInt
    · rw [h.2.2.2 c, h'.2.2.2 c]
    · by_cases c7 : x.toInt = 7
      · rw [h.2.2.1 c7, h'.2.2.1 c7]
      · by_cases c6 : x.toInt = 6
        · obtain ⟨b0, b1, b2, b3, e0, e1, e2, e3, e⟩ := h.2.1 c6
          obtain ⟨a0, a1, a2, a3, f0, f1, f2, f3, f⟩ := h'.2.1 c6
          rw [e0] at f0
          rw [e1] at f1
          rw [e2] at f2
          rw [e3] at f3
          cases f0
          cases f1
          cases f2
          cases f3
          rw [e, f]
        · rw [h.1 (by omega) (by omega), h'.1 (by omega) (by omega)]
  cases key
  rfl
section CT
variable {xs : Nat → Int32} {L J d : Nat} {G : List pE} {w : Nat → Nat → Option Value} {s : Nat → Option Value}
set_option maxHeartbeats 2000000 in
set_option maxRecDepth 100000 in
theorem z_brh {b0 b1 b2 b3 : Int32} (hI : xI x_tb th0 G) (a1 : th0[7]? = some 1) (a3 : th0[9]? = some 15) (hp : x_sl G 7 1 = some (.ref 9)) (e0 : x_sl G 9 0 = some (.int b0)) (e1 : x_sl G 9 1 = some (.int b1)) (e2 : x_sl G 9 2 = some (.int b2)) (e3 : x_sl G 9 3 = some (.int b3)) : x_Gd xs L J d m_63 (fun r _ => r = some (.int (b0 + b1 + b2 + b3))) 0 (lv_args 0 [.ref 7]) [] G := by
  have g0 : pm_get (lv_args 0 [.ref 7]) 0 = some (.ref 7) := rfl
  generalize lv_args 0 [.ref 7] = lv at g0 ⊢
  refine y_aln (e_63 (0, .aload_n 0, 1) (List.mem_of_getElem? (i := 0) rfl)) g0 ?_
  refine y_getf hI a1 (e_63 (1, .getfield 15, 3) (List.mem_of_getElem? (i := 1) rfl)) u_5_15 ⟨rfl, rfl⟩ hp ?_
  refine y_st (e_63 (4, .iconst 0, 1) (List.mem_of_getElem? (i := 2) rfl)) ⟨rfl, rfl, rfl, rfl⟩ ?_
  refine y_iald hI a3 (e_63 (5, .iaload, 1) (List.mem_of_getElem? (i := 3) rfl)) ⟨rfl, rfl⟩ (by decide) e0 ?_
  refine y_aln (e_63 (6, .aload_n 0, 1) (List.mem_of_getElem? (i := 4) rfl)) g0 ?_
  refine y_getf hI a1 (e_63 (7, .getfield 15, 3) (List.mem_of_getElem? (i := 5) rfl)) u_5_15 ⟨rfl, rfl⟩ hp ?_
  refine y_st (e_63 (10, .iconst 1, 1) (List.mem_of_getElem? (i := 6) rfl)) ⟨rfl, rfl, rfl, rfl⟩ ?_
  refine y_iald hI a3 (e_63 (11, .iaload, 1) (List.mem_of_getElem? (i := 7) rfl)) ⟨rfl, rfl⟩ (by decide) e1 ?_
  refine y_st (e_63 (12, .iadd, 1) (List.mem_of_getElem? (i := 8) rfl)) ⟨rfl, rfl, rfl, rfl⟩ ?_
  refine y_aln (e_63 (13, .aload_n 0, 1) (List.mem_of_getElem? (i := 9) rfl)) g0 ?_
  refine y_getf hI a1 (e_63 (14, .getfield 15, 3) (List.mem_of_getElem? (i := 10) rfl)) u_5_15 ⟨rfl, rfl⟩ hp ?_
  refine y_st (e_63 (17, .iconst 2, 1) (List.mem_of_getElem? (i := 11) rfl)) ⟨rfl, rfl, rfl, rfl⟩ ?_
  refine y_iald hI a3 (e_63 (18, .iaload, 1) (List.mem_of_getElem? (i := 12) rfl)) ⟨rfl, rfl⟩ (by decide) e2 ?_
  refine y_st (e_63 (19, .iadd, 1) (List.mem_of_getElem? (i := 13) rfl)) ⟨rfl, rfl, rfl, rfl⟩ ?_
  refine y_aln (e_63 (20, .aload_n 0, 1) (List.mem_of_getElem? (i := 14) rfl)) g0 ?_
  refine y_getf hI a1 (e_63 (21, .getfield 15, 3) (List.mem_of_getElem? (i := 15) rfl)) u_5_15 ⟨rfl, rfl⟩ hp ?_
  refine y_st (e_63 (24, .iconst 3, 1) (List.mem_of_getElem? (i := 16) rfl)) ⟨rfl, rfl, rfl, rfl⟩ ?_
  refine y_iald hI a3 (e_63 (25, .iaload, 1) (List.mem_of_getElem? (i := 17) rfl)) ⟨rfl, rfl⟩ (by decide) e3 ?_
  refine y_st (e_63 (26, .iadd, 1) (List.mem_of_getElem? (i := 18) rfl)) ⟨rfl, rfl, rfl, rfl⟩ ?_
  exact y_ret (e_63 (27, .ireturn, 1) (List.mem_of_getElem? (i := 19) rfl)) ⟨rfl, y_ri⟩ rfl
set_option maxHeartbeats 2000000 in
set_option maxRecDepth 100000 in
theorem zc_count {sz : Int32} (hI : xI x_tb th0 G) (hp : ZP G) (hw : LV 6 w G) (hR : RW w s) (ht : x_sl G 0 0 = some (.ref 1)) (hs : x_sl G 1 1 = some (.int sz)) (x1 : Int32) : x_Gd xs L J (d + 1) m_72 (fun r _ => z_ct s sz x1 r) 0 (lv_args 0 [.ref 0, .int x1]) [] G := by
  obtain ⟨a0, a1, a2, a3, -⟩ := z_hsT 6 (by decide)
  obtain ⟨p0, q0, q1, -⟩ := hp.1 6 (by decide)
  obtain ⟨r0, r1, r2, r3, r4, r5, rb, -⟩ := hR
  have g0 : pm_get (lv_args 0 [.ref 0, .int x1]) 0 = some (.ref 0) := rfl
  have g1 : pm_get (lv_args 0 [.ref 0, .int x1]) 1 = some (.int x1) := rfl
  generalize lv_args 0 [.ref 0, .int x1] = lv at g0 g1 ⊢
  refine y_iln (e_72 (0, .iload_n 1, 1) (List.mem_of_getElem? (i := 0) rfl)) g1 ?_
  by_cases hout : x1.toInt < 0 ∨ 7 < x1.toInt
  · have hk : x_Gd xs L J (d + 1) m_72 (fun r _ => z_ct s sz x1 r) 128 lv [] G := by
      refine y_st (e_72 (128, .iconst (-1), 1) (List.mem_of_getElem? (i := 42) rfl)) ⟨rfl, rfl, rfl, rfl⟩ ?_
      exact y_ret (e_72 (129, .ireturn, 1) (List.mem_of_getElem? (i := 43) rfl)) ⟨rfl, y_ri⟩ ⟨fun _ _ => by omega, fun _ => by omega, fun _ => by omega, fun _ => rfl⟩
    exact y_st (e_72 (1, .tableswitch 127 0 7 #[47, 60, 73, 84, 92, 100, 108, 119], 47) (List.mem_of_getElem? (i := 1) rfl)) ⟨rfl, rfl, rfl, by dsimp only [pm_step]; rw [if_pos hout]; rfl⟩ hk
  have hin : ¬ (x1.toInt < 0 ∨ 7 < x1.toInt) := hout
  rcases (show x1.toInt = 0 ∨ x1.toInt = 1 ∨ x1.toInt = 2 ∨ x1.toInt = 3 ∨ x1.toInt = 4 ∨ x1.toInt = 5 ∨ x1.toInt = 6 ∨ x1.toInt = 7 by omega) with e | e | e | e | e | e | e | e
  · obtain rfl : x1 = Int32.ofInt 0 := Int32.toInt_inj.mp e
    refine y_st (e_72 (1, .tableswitch 127 0 7 #[47, 60, 73, 84, 92, 100, 108, 119], 47) (List.mem_of_getElem? (i := 1) rfl)) ⟨rfl, rfl, rfl, rfl⟩ ?_
    obtain ⟨v, hv⟩ := y_fiT4 (a := 8) (i := 0) hI a2 (by rw [show (x_tb 14).2.2.2 = [(2, ((0 : Nat), (-2147483648 : Int), (2147483647 : Int)))] from rfl]; exact y_one (by decide))
    refine y_aln (e_72 (48, .aload_n 0, 1) (List.mem_of_getElem? (i := 2) rfl)) g0 ?_
    refine y_getf hI z_ty.1 (e_72 (49, .getfield 26, 3) (List.mem_of_getElem? (i := 3) rfl)) u_0_26 ⟨rfl, rfl⟩ hp.2.1 ?_
    refine y_getf hI a0 (e_72 (52, .getfield 192, 3) (List.mem_of_getElem? (i := 4) rfl)) u_0_192 ⟨rfl, rfl⟩ p0 ?_
    refine y_getf hI a1 (e_72 (55, .getfield 240, 3) (List.mem_of_getElem? (i := 5) rfl)) u_0_240 ⟨rfl, rfl⟩ q0 ?_
    refine y_st (e_72 (58, .iconst 0, 1) (List.mem_of_getElem? (i := 6) rfl)) ⟨rfl, rfl, rfl, rfl⟩ ?_
    refine y_iald hI a2 (e_72 (59, .iaload, 1) (List.mem_of_getElem? (i := 7) rfl)) ⟨rfl, rfl⟩ (by decide) hv ?_
    exact y_ret (e_72 (60, .ireturn, 1) (List.mem_of_getElem? (i := 8) rfl)) ⟨rfl, y_ri⟩ ⟨fun _ _ => (hv.symm.trans (hw 2 0 rfl)).trans r0.symm, fun z => absurd z (by decide), fun z => absurd z (by decide), fun z => absurd z (by decide)⟩
  · obtain rfl : x1 = Int32.ofInt 1 := Int32.toInt_inj.mp e
    refine y_st (e_72 (1, .tableswitch 127 0 7 #[47, 60, 73, 84, 92, 100, 108, 119], 47) (List.mem_of_getElem? (i := 1) rfl)) ⟨rfl, rfl, rfl, rfl⟩ ?_
    obtain ⟨v, hv⟩ := y_fiT4 (a := 8) (i := 1) hI a2 (by rw [show (x_tb 14).2.2.2 = [(2, ((0 : Nat), (-2147483648 : Int), (2147483647 : Int)))] from rfl]; exact y_one (by decide))
    refine y_aln (e_72 (61, .aload_n 0, 1) (List.mem_of_getElem? (i := 9) rfl)) g0 ?_
    refine y_getf hI z_ty.1 (e_72 (62, .getfield 26, 3) (List.mem_of_getElem? (i := 10) rfl)) u_0_26 ⟨rfl, rfl⟩ hp.2.1 ?_
    refine y_getf hI a0 (e_72 (65, .getfield 192, 3) (List.mem_of_getElem? (i := 11) rfl)) u_0_192 ⟨rfl, rfl⟩ p0 ?_
    refine y_getf hI a1 (e_72 (68, .getfield 240, 3) (List.mem_of_getElem? (i := 12) rfl)) u_0_240 ⟨rfl, rfl⟩ q0 ?_
    refine y_st (e_72 (71, .iconst 1, 1) (List.mem_of_getElem? (i := 13) rfl)) ⟨rfl, rfl, rfl, rfl⟩ ?_
    refine y_iald hI a2 (e_72 (72, .iaload, 1) (List.mem_of_getElem? (i := 14) rfl)) ⟨rfl, rfl⟩ (by decide) hv ?_
    exact y_ret (e_72 (73, .ireturn, 1) (List.mem_of_getElem? (i := 15) rfl)) ⟨rfl, y_ri⟩ ⟨fun _ _ => (hv.symm.trans (hw 2 1 rfl)).trans r1.symm, fun z => absurd z (by decide), fun z => absurd z (by decide), fun z => absurd z (by decide)⟩
  · obtain rfl : x1 = Int32.ofInt 2 := Int32.toInt_inj.mp e
    refine y_st (e_72 (1, .tableswitch 127 0 7 #[47, 60, 73, 84, 92, 100, 108, 119], 47) (List.mem_of_getElem? (i := 1) rfl)) ⟨rfl, rfl, rfl, rfl⟩ ?_
    obtain ⟨v, hv⟩ := y_fiT4 (a := 7) (i := 5) hI a1 rfl
    refine y_aln (e_72 (74, .aload_n 0, 1) (List.mem_of_getElem? (i := 16) rfl)) g0 ?_
    refine y_getf hI z_ty.1 (e_72 (75, .getfield 26, 3) (List.mem_of_getElem? (i := 17) rfl)) u_0_26 ⟨rfl, rfl⟩ hp.2.1 ?_
    refine y_getf hI a0 (e_72 (78, .getfield 192, 3) (List.mem_of_getElem? (i := 18) rfl)) u_0_192 ⟨rfl, rfl⟩ p0 ?_
    refine y_getf hI a1 (e_72 (81, .getfield 243, 3) (List.mem_of_getElem? (i := 19) rfl)) u_0_243 ⟨rfl, rfl⟩ hv ?_
    exact y_ret (e_72 (84, .ireturn, 1) (List.mem_of_getElem? (i := 20) rfl)) ⟨rfl, y_ri⟩ ⟨fun _ _ => (hv.symm.trans (hw 1 5 rfl)).trans r2.symm, fun z => absurd z (by decide), fun z => absurd z (by decide), fun z => absurd z (by decide)⟩
  · obtain rfl : x1 = Int32.ofInt 3 := Int32.toInt_inj.mp e
    refine y_st (e_72 (1, .tableswitch 127 0 7 #[47, 60, 73, 84, 92, 100, 108, 119], 47) (List.mem_of_getElem? (i := 1) rfl)) ⟨rfl, rfl, rfl, rfl⟩ ?_
    obtain ⟨v, hv⟩ := y_fiT4 (a := 6) (i := 4) hI a0 rfl
    refine y_aln (e_72 (85, .aload_n 0, 1) (List.mem_of_getElem? (i := 21) rfl)) g0 ?_
    refine y_getf hI z_ty.1 (e_72 (86, .getfield 26, 3) (List.mem_of_getElem? (i := 22) rfl)) u_0_26 ⟨rfl, rfl⟩ hp.2.1 ?_
    refine y_getf hI a0 (e_72 (89, .getfield 246, 3) (List.mem_of_getElem? (i := 23) rfl)) u_0_246 ⟨rfl, rfl⟩ hv ?_
    exact y_ret (e_72 (92, .ireturn, 1) (List.mem_of_getElem? (i := 24) rfl)) ⟨rfl, y_ri⟩ ⟨fun _ _ => (hv.symm.trans (hw 0 4 rfl)).trans r3.symm, fun z => absurd z (by decide), fun z => absurd z (by decide), fun z => absurd z (by decide)⟩
  · obtain rfl : x1 = Int32.ofInt 4 := Int32.toInt_inj.mp e
    refine y_st (e_72 (1, .tableswitch 127 0 7 #[47, 60, 73, 84, 92, 100, 108, 119], 47) (List.mem_of_getElem? (i := 1) rfl)) ⟨rfl, rfl, rfl, rfl⟩ ?_
    obtain ⟨v, hv⟩ := y_fiT4 (a := 6) (i := 5) hI a0 rfl
    refine y_aln (e_72 (93, .aload_n 0, 1) (List.mem_of_getElem? (i := 25) rfl)) g0 ?_
    refine y_getf hI z_ty.1 (e_72 (94, .getfield 26, 3) (List.mem_of_getElem? (i := 26) rfl)) u_0_26 ⟨rfl, rfl⟩ hp.2.1 ?_
    refine y_getf hI a0 (e_72 (97, .getfield 249, 3) (List.mem_of_getElem? (i := 27) rfl)) u_0_249 ⟨rfl, rfl⟩ hv ?_
    exact y_ret (e_72 (100, .ireturn, 1) (List.mem_of_getElem? (i := 28) rfl)) ⟨rfl, y_ri⟩ ⟨fun _ _ => (hv.symm.trans (hw 0 5 rfl)).trans r4.symm, fun z => absurd z (by decide), fun z => absurd z (by decide), fun z => absurd z (by decide)⟩
  · obtain rfl : x1 = Int32.ofInt 5 := Int32.toInt_inj.mp e
    refine y_st (e_72 (1, .tableswitch 127 0 7 #[47, 60, 73, 84, 92, 100, 108, 119], 47) (List.mem_of_getElem? (i := 1) rfl)) ⟨rfl, rfl, rfl, rfl⟩ ?_
    obtain ⟨v, hv⟩ := y_fiT4 (a := 6) (i := 6) hI a0 rfl
    refine y_aln (e_72 (101, .aload_n 0, 1) (List.mem_of_getElem? (i := 29) rfl)) g0 ?_
    refine y_getf hI z_ty.1 (e_72 (102, .getfield 26, 3) (List.mem_of_getElem? (i := 30) rfl)) u_0_26 ⟨rfl, rfl⟩ hp.2.1 ?_
    refine y_getf hI a0 (e_72 (105, .getfield 252, 3) (List.mem_of_getElem? (i := 31) rfl)) u_0_252 ⟨rfl, rfl⟩ hv ?_
    exact y_ret (e_72 (108, .ireturn, 1) (List.mem_of_getElem? (i := 32) rfl)) ⟨rfl, y_ri⟩ ⟨fun _ _ => (hv.symm.trans (hw 0 6 rfl)).trans r5.symm, fun z => absurd z (by decide), fun z => absurd z (by decide), fun z => absurd z (by decide)⟩
  · obtain rfl : x1 = Int32.ofInt 6 := Int32.toInt_inj.mp e
    refine y_st (e_72 (1, .tableswitch 127 0 7 #[47, 60, 73, 84, 92, 100, 108, 119], 47) (List.mem_of_getElem? (i := 1) rfl)) ⟨rfl, rfl, rfl, rfl⟩ ?_
    obtain ⟨f, hf⟩ := y_iarr (t := 15) (n := 4) hI a3 rfl rfl
    refine y_aln (e_72 (109, .aload_n 0, 1) (List.mem_of_getElem? (i := 33) rfl)) g0 ?_
    refine y_getf hI z_ty.1 (e_72 (110, .getfield 26, 3) (List.mem_of_getElem? (i := 34) rfl)) u_0_26 ⟨rfl, rfl⟩ hp.2.1 ?_
    refine y_getf hI a0 (e_72 (113, .getfield 192, 3) (List.mem_of_getElem? (i := 35) rfl)) u_0_192 ⟨rfl, rfl⟩ p0 ?_
    refine y_c1 (K' := _) (e_72 (116, .invokevirtual 255, 3) (List.mem_of_getElem? (i := 36) rfl)) ⟨rfl, rfl, rfl⟩ t_0_255 ⟨by decide, by decide, by decide, by decide⟩ m_63_ok rfl (by decide) (y_recv hI a1 ⟨rfl, rfl⟩) (Nat.le_of_ble_eq_true rfl) (Nat.le_of_ble_eq_true rfl) (z_brh hI a1 a3 q1 (hf 0 (by decide)) (hf 1 (by decide)) (hf 2 (by decide)) (hf 3 (by decide))) (fun r1 G1 h1 => ?_)
    subst h1
    simp only [Option.toList_some, Option.toList_none, List.cons_append, List.nil_append]
    exact y_ret (e_72 (119, .ireturn, 1) (List.mem_of_getElem? (i := 37) rfl)) ⟨rfl, y_ri⟩ ⟨fun _ z => absurd z (by decide), fun _ => ⟨f 0, f 1, f 2, f 3, (rb 0 (by decide)).trans ((hw 3 0 rfl).symm.trans (hf 0 (by decide))), (rb 1 (by decide)).trans ((hw 3 1 rfl).symm.trans (hf 1 (by decide))), (rb 2 (by decide)).trans ((hw 3 2 rfl).symm.trans (hf 2 (by decide))), (rb 3 (by decide)).trans ((hw 3 3 rfl).symm.trans (hf 3 (by decide))), rfl⟩, fun z => absurd z (by decide), fun z => absurd z (by decide)⟩
  · obtain rfl : x1 = Int32.ofInt 7 := Int32.toInt_inj.mp e
    refine y_st (e_72 (1, .tableswitch 127 0 7 #[47, 60, 73, 84, 92, 100, 108, 119], 47) (List.mem_of_getElem? (i := 1) rfl)) ⟨rfl, rfl, rfl, rfl⟩ ?_
    refine y_aln (e_72 (120, .aload_n 0, 1) (List.mem_of_getElem? (i := 38) rfl)) g0 ?_
    refine y_getf hI z_ty.1 (e_72 (121, .getfield 10, 3) (List.mem_of_getElem? (i := 39) rfl)) u_0_10 ⟨rfl, rfl⟩ ht ?_
    refine y_getf hI th0_p.1 (e_72 (124, .getfield 101, 3) (List.mem_of_getElem? (i := 40) rfl)) u_0_101 ⟨rfl, rfl⟩ hs ?_
    exact y_ret (e_72 (127, .ireturn, 1) (List.mem_of_getElem? (i := 41) rfl)) ⟨rfl, y_ri⟩ ⟨fun _ z => absurd z (by decide), fun z => absurd z (by decide), fun _ => rfl, fun z => absurd z (by decide)⟩
set_option maxHeartbeats 2000000 in
set_option maxRecDepth 100000 in
theorem z_pe {b0 b1 b2 b3 : Int32} (hI : xI x_tb th0 G) (ta : th0[349]? = some 10) (ts : th0[351]? = some 36) (h6 : x_sl G 349 6 = some (.ref 351)) (e0 : x_sl G 351 6 = some (.int b0)) (e1 : x_sl G 351 7 = some (.int b1)) (e2 : x_sl G 351 8 = some (.int b2)) (e3 : x_sl G 351 9 = some (.int b3)) : x_Gd xs L J d m_192 (fun r _ => r = some (.int (b0 + b1 + b2 + b3))) 0 (lv_args 0 [.ref 349]) [] G := by
  have g0 : pm_get (lv_args 0 [.ref 349]) 0 = some (.ref 349) := rfl
  generalize lv_args 0 [.ref 349] = lv at g0 ⊢
  refine y_aln (e_192 (0, .aload_n 0, 1) (List.mem_of_getElem? (i := 0) rfl)) g0 ?_
  refine y_getf hI ta (e_192 (1, .getfield 33, 3) (List.mem_of_getElem? (i := 1) rfl)) u_17_33 ⟨rfl, rfl⟩ h6 ?_
  refine y_st (e_192 (4, .bipush 6, 2) (List.mem_of_getElem? (i := 2) rfl)) ⟨rfl, rfl, rfl, rfl⟩ ?_
  refine y_iald hI ts (e_192 (6, .iaload, 1) (List.mem_of_getElem? (i := 3) rfl)) ⟨rfl, rfl⟩ (by decide) e0 ?_
  refine y_aln (e_192 (7, .aload_n 0, 1) (List.mem_of_getElem? (i := 4) rfl)) g0 ?_
  refine y_getf hI ta (e_192 (8, .getfield 33, 3) (List.mem_of_getElem? (i := 5) rfl)) u_17_33 ⟨rfl, rfl⟩ h6 ?_
  refine y_st (e_192 (11, .bipush 7, 2) (List.mem_of_getElem? (i := 6) rfl)) ⟨rfl, rfl, rfl, rfl⟩ ?_
  refine y_iald hI ts (e_192 (13, .iaload, 1) (List.mem_of_getElem? (i := 7) rfl)) ⟨rfl, rfl⟩ (by decide) e1 ?_
  refine y_st (e_192 (14, .iadd, 1) (List.mem_of_getElem? (i := 8) rfl)) ⟨rfl, rfl, rfl, rfl⟩ ?_
  refine y_aln (e_192 (15, .aload_n 0, 1) (List.mem_of_getElem? (i := 9) rfl)) g0 ?_
  refine y_getf hI ta (e_192 (16, .getfield 33, 3) (List.mem_of_getElem? (i := 10) rfl)) u_17_33 ⟨rfl, rfl⟩ h6 ?_
  refine y_st (e_192 (19, .bipush 8, 2) (List.mem_of_getElem? (i := 11) rfl)) ⟨rfl, rfl, rfl, rfl⟩ ?_
  refine y_iald hI ts (e_192 (21, .iaload, 1) (List.mem_of_getElem? (i := 12) rfl)) ⟨rfl, rfl⟩ (by decide) e2 ?_
  refine y_st (e_192 (22, .iadd, 1) (List.mem_of_getElem? (i := 13) rfl)) ⟨rfl, rfl, rfl, rfl⟩ ?_
  refine y_aln (e_192 (23, .aload_n 0, 1) (List.mem_of_getElem? (i := 14) rfl)) g0 ?_
  refine y_getf hI ta (e_192 (24, .getfield 33, 3) (List.mem_of_getElem? (i := 15) rfl)) u_17_33 ⟨rfl, rfl⟩ h6 ?_
  refine y_st (e_192 (27, .bipush 9, 2) (List.mem_of_getElem? (i := 16) rfl)) ⟨rfl, rfl, rfl, rfl⟩ ?_
  refine y_iald hI ts (e_192 (29, .iaload, 1) (List.mem_of_getElem? (i := 17) rfl)) ⟨rfl, rfl⟩ (by decide) e3 ?_
  refine y_st (e_192 (30, .iadd, 1) (List.mem_of_getElem? (i := 18) rfl)) ⟨rfl, rfl, rfl, rfl⟩ ?_
  exact y_ret (e_192 (31, .ireturn, 1) (List.mem_of_getElem? (i := 19) rfl)) ⟨rfl, y_ri⟩ rfl
set_option maxHeartbeats 2000000 in
set_option maxRecDepth 100000 in
theorem z_isIn {x lo hi : Int32} : x_Gd xs L J d m_174 (fun r G' => G' = G ∧ ((r = some (.int (Int32.ofInt 1)) ∧ lo.toInt ≤ x.toInt ∧ x.toInt ≤ hi.toInt) ∨ (r = some (.int (Int32.ofInt 0)) ∧ ¬ (lo.toInt ≤ x.toInt ∧ x.toInt ≤ hi.toInt)))) 0 (lv_args 0 [.int x, .int lo, .int hi]) [] G := by
  refine y_iln (e_174 (0, .iload_n 0, 1) (List.mem_of_getElem? (i := 0) rfl)) rfl ?_
  refine y_iln (e_174 (1, .iload_n 1, 1) (List.mem_of_getElem? (i := 1) rfl)) rfl ?_
  refine y_icm (e_174 (2, .if_icmp .lt 12, 3) (List.mem_of_getElem? (i := 2) rfl)) rfl (fun hc => ?_) (fun hc => ?_)
  · have z := y_hI.2.2.2.2.2.2.2.2.1 hc
    refine y_st (e_174 (14, .iconst 0, 1) (List.mem_of_getElem? (i := 8) rfl)) ⟨rfl, rfl, rfl, rfl⟩ ?_
    exact y_ret (e_174 (15, .ireturn, 1) (List.mem_of_getElem? (i := 9) rfl)) ⟨rfl, y_rb (Or.inl rfl)⟩ ⟨rfl, Or.inr ⟨rfl, by omega⟩⟩
  have z0 := y_hI.2.2.2.2.2.2.2.2.2.1 hc
  refine y_iln (e_174 (5, .iload_n 0, 1) (List.mem_of_getElem? (i := 3) rfl)) rfl ?_
  refine y_iln (e_174 (6, .iload_n 2, 1) (List.mem_of_getElem? (i := 4) rfl)) rfl ?_
  refine y_icm (e_174 (7, .if_icmp .gt 7, 3) (List.mem_of_getElem? (i := 5) rfl)) rfl (fun hc => ?_) (fun hc => ?_)
  · have z := y_hI.2.2.2.2.2.2.2.2.2.2.1 hc
    refine y_st (e_174 (14, .iconst 0, 1) (List.mem_of_getElem? (i := 8) rfl)) ⟨rfl, rfl, rfl, rfl⟩ ?_
    exact y_ret (e_174 (15, .ireturn, 1) (List.mem_of_getElem? (i := 9) rfl)) ⟨rfl, y_rb (Or.inl rfl)⟩ ⟨rfl, Or.inr ⟨rfl, by omega⟩⟩
  have z := y_hI.2.2.2.2.2.2.2.2.2.2.2 hc
  refine y_st (e_174 (10, .iconst 1, 1) (List.mem_of_getElem? (i := 6) rfl)) ⟨rfl, rfl, rfl, rfl⟩ ?_
  refine y_st (e_174 (11, .goto 4, 3) (List.mem_of_getElem? (i := 7) rfl)) ⟨rfl, rfl, rfl, rfl⟩ ?_
  exact y_ret (e_174 (15, .ireturn, 1) (List.mem_of_getElem? (i := 9) rfl)) ⟨rfl, y_rb (Or.inr rfl)⟩ ⟨rfl, Or.inl ⟨rfl, by omega, by omega⟩⟩
set_option maxHeartbeats 2000000 in
set_option maxRecDepth 100000 in
theorem zn_count {sz : Int32} (hI : xI x_tb th0 G) (h6 : x_sl G 349 6 = some (.ref 351)) (h2 : x_sl G 349 2 = some (.int sz)) (x1 : Int32) : x_Gd xs L J (d + 1) m_259 (fun r _ => z_ct (x_sl G 351) sz x1 r) 0 (lv_args 0 [.ref 349, .int x1]) [] G := by
  have ta : th0[349]? = some 10 := by decide +kernel
  have ts : th0[351]? = some 36 := by decide +kernel
  have g0 : pm_get (lv_args 0 [.ref 349, .int x1]) 0 = some (.ref 349) := rfl
  have g1 : pm_get (lv_args 0 [.ref 349, .int x1]) 1 = some (.int x1) := rfl
  generalize lv_args 0 [.ref 349, .int x1] = lv at g0 g1 ⊢
  refine y_aln (e_259 (0, .aload_n 0, 1) (List.mem_of_getElem? (i := 0) rfl)) g0 ?_
  refine y_st (e_259 (1, .iconst 0, 1) (List.mem_of_getElem? (i := 1) rfl)) ⟨rfl, rfl, rfl, rfl⟩ ?_
  refine y_putf (f := (0, -2147483648, 2147483647)) hI ta (e_259 (2, .putfield 1, 3) (List.mem_of_getElem? (i := 2) rfl)) u_17_1 ⟨rfl, rfl, by decide, rfl, rfl⟩ ⟨_, rfl, (x_i32 _).1, (x_i32 _).2⟩ (fun G1 u1 => ?_)
  have hI1 := hI.upd u1 ta (y_okA rfl)
  have h61 : x_sl G1 349 6 = some (.ref 351) := by rw [u1.2.1, if_neg (fun z => absurd z.2 (by decide))]; exact h6
  have h21 : x_sl G1 349 2 = some (.int sz) := by rw [u1.2.1, if_neg (fun z => absurd z.2 (by decide))]; exact h2
  have e1 : ∀ i, x_sl G1 351 i = x_sl G 351 i := fun i => by rw [u1.2.1, if_neg (fun z => absurd z.1 (by decide))]
  obtain ⟨f, hf⟩ := y_iarr (t := 36) (n := 324) hI1 ts rfl rfl
  refine y_iln (e_259 (5, .iload_n 1, 1) (List.mem_of_getElem? (i := 3) rfl)) g1 ?_
  by_cases c6 : x1 = Int32.ofInt 6
  · subst c6
    refine y_st (e_259 (6, .lookupswitch 36 #[(6, 26), (7, 31)], 26) (List.mem_of_getElem? (i := 4) rfl)) ⟨rfl, rfl, rfl, rfl⟩ ?_
    refine y_aln (e_259 (32, .aload_n 0, 1) (List.mem_of_getElem? (i := 5) rfl)) g0 ?_
    refine y_c1 (K' := _) (e_259 (33, .invokevirtual 242, 3) (List.mem_of_getElem? (i := 6) rfl)) ⟨rfl, rfl, rfl⟩ t_17_242 ⟨by decide, by decide, by decide, by decide⟩ m_192_ok rfl (by decide) (y_recv hI1 ta ⟨rfl, rfl⟩) (Nat.le_of_ble_eq_true rfl) (Nat.le_of_ble_eq_true rfl) (z_pe hI1 ta ts h61 (hf 6 (by decide)) (hf 7 (by decide)) (hf 8 (by decide)) (hf 9 (by decide))) (fun r1 G2 h1 => ?_)
    subst h1
    simp only [Option.toList_some, Option.toList_none, List.cons_append, List.nil_append]
    exact y_ret (e_259 (36, .ireturn, 1) (List.mem_of_getElem? (i := 7) rfl)) ⟨rfl, y_ri⟩ ⟨fun _ z => absurd z (by decide), fun _ => ⟨f 6, f 7, f 8, f 9, (e1 6).symm.trans (hf 6 (by decide)), (e1 7).symm.trans (hf 7 (by decide)), (e1 8).symm.trans (hf 8 (by decide)), (e1 9).symm.trans (hf 9 (by decide)), rfl⟩, fun z => absurd z (by decide), fun z => absurd z (by decide)⟩
  by_cases c7 : x1 = Int32.ofInt 7
  · subst c7
    refine y_st (e_259 (6, .lookupswitch 36 #[(6, 26), (7, 31)], 26) (List.mem_of_getElem? (i := 4) rfl)) ⟨rfl, rfl, rfl, rfl⟩ ?_
    refine y_aln (e_259 (37, .aload_n 0, 1) (List.mem_of_getElem? (i := 8) rfl)) g0 ?_
    refine y_getf hI1 ta (e_259 (38, .getfield 7, 3) (List.mem_of_getElem? (i := 9) rfl)) u_17_7 ⟨rfl, rfl⟩ h21 ?_
    exact y_ret (e_259 (41, .ireturn, 1) (List.mem_of_getElem? (i := 10) rfl)) ⟨rfl, y_ri⟩ ⟨fun _ z => absurd z (by decide), fun z => absurd z (by decide), fun _ => rfl, fun z => absurd z (by decide)⟩
  have n6 : x1.toInt ≠ 6 := fun z => c6 (Int32.toInt_inj.mp z)
  have n7 : x1.toInt ≠ 7 := fun z => c7 (Int32.toInt_inj.mp z)
  suffices hk : x_Gd xs L J (d + 1) m_259 (fun r _ => z_ct (x_sl G 351) sz x1 r) 42 lv [] G1 from y_st (e_259 (6, .lookupswitch 36 #[(6, 26), (7, 31)], 26) (List.mem_of_getElem? (i := 4) rfl)) ⟨rfl, rfl, rfl, by dsimp only [pm_step]; rw [if_pos (by decide), show Op.lookupswitch.offset (#[(6, 26), (7, 31)] : Array (Int × Int)).toList 36 x1.toInt = 36 from by show (if (6 : Int) = x1.toInt then (26 : Int) else if (7 : Int) = x1.toInt then 31 else 36) = 36; rw [if_neg (fun z => n6 z.symm), if_neg (fun z => n7 z.symm)]]; rfl⟩ hk
  refine y_iln (e_259 (42, .iload_n 1, 1) (List.mem_of_getElem? (i := 11) rfl)) g1 ?_
  refine y_st (e_259 (43, .iconst 0, 1) (List.mem_of_getElem? (i := 12) rfl)) ⟨rfl, rfl, rfl, rfl⟩ ?_
  refine y_st (e_259 (44, .iconst 5, 1) (List.mem_of_getElem? (i := 13) rfl)) ⟨rfl, rfl, rfl, rfl⟩ ?_
  refine y_c3 (K' := _) (e_259 (45, .invokestatic 173, 3) (List.mem_of_getElem? (i := 14) rfl)) ⟨rfl, rfl, rfl⟩ t_17_173 ⟨by decide, by decide, by decide, by decide⟩ m_174_ok rfl (by decide) rfl (Nat.le_of_ble_eq_true rfl) (Nat.le_of_ble_eq_true rfl) z_isIn (fun r1 G2 h1 => ?_)
  obtain ⟨rfl, h1⟩ := h1
  rcases h1 with ⟨rfl, q0, q1⟩ | ⟨rfl, hq⟩
  · simp only [Option.toList_some, Option.toList_none, List.cons_append, List.nil_append]
    refine y_ifc (e_259 (48, .ifCond .eq 12, 3) (List.mem_of_getElem? (i := 15) rfl)) rfl (fun hc => absurd hc (by decide)) (fun _ => ?_)
    rw [show (Int32.ofInt 0).toInt = 0 from rfl] at q0
    rw [show (Int32.ofInt 5).toInt = 5 from rfl] at q1
    refine y_aln (e_259 (51, .aload_n 0, 1) (List.mem_of_getElem? (i := 16) rfl)) g0 ?_
    refine y_getf hI1 ta (e_259 (52, .getfield 33, 3) (List.mem_of_getElem? (i := 17) rfl)) u_17_33 ⟨rfl, rfl⟩ h61 ?_
    refine y_iln (e_259 (55, .iload_n 1, 1) (List.mem_of_getElem? (i := 18) rfl)) g1 ?_
    refine y_iald hI1 ts (e_259 (56, .iaload, 1) (List.mem_of_getElem? (i := 19) rfl)) ⟨rfl, rfl⟩ q0 (hf x1.toInt.toNat (by omega)) ?_
    refine y_st (e_259 (57, .goto 4, 3) (List.mem_of_getElem? (i := 20) rfl)) ⟨rfl, rfl, rfl, rfl⟩ ?_
    exact y_ret (e_259 (61, .ireturn, 1) (List.mem_of_getElem? (i := 22) rfl)) ⟨rfl, y_ri⟩ ⟨fun _ _ => (hf x1.toInt.toNat (by omega)).symm.trans (e1 _), fun z => absurd z n6, fun z => absurd z n7, fun z => by omega⟩
  · simp only [Option.toList_some, Option.toList_none, List.cons_append, List.nil_append]
    rw [show (Int32.ofInt 0).toInt = 0 from rfl, show (Int32.ofInt 5).toInt = 5 from rfl] at hq
    refine y_ifc (e_259 (48, .ifCond .eq 12, 3) (List.mem_of_getElem? (i := 15) rfl)) rfl (fun _ => ?_) (fun hc => absurd hc (by decide))
    refine y_st (e_259 (60, .iconst (-1), 1) (List.mem_of_getElem? (i := 21) rfl)) ⟨rfl, rfl, rfl, rfl⟩ ?_
    exact y_ret (e_259 (61, .ireturn, 1) (List.mem_of_getElem? (i := 22) rfl)) ⟨rfl, y_ri⟩ ⟨fun a b => absurd ⟨a, b⟩ hq, fun z => absurd z n6, fun z => absurd z n7, fun _ => rfl⟩
end CT
