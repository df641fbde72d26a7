-- ===== heaviest =====
def l_lw (S : Nat → Int32) (v c h : Int32) (w : Int32) : Int32 := (l_lp S w h (min 400 (1000 - h.toInt)).toNat (Int32.ofInt 0) v c (Int32.ofInt 0) (Int32.ofInt 0))
theorem l_lp_r {S : Nat → Int32} {w h : Int32} : ∀ (m : Nat) (k W C P F : Int32), 0 ≤ k.toInt → k.toInt + m ≤ 400 → l_lp S w h m k W C P F = Int32.ofInt (-1) ∨ 1 ≤ (l_lp S w h m k W C P F).toInt
  | 0, _, _, _, _, _, _, _ => Or.inl rfl
  | m + 1, k, W, C, P, F, h0, h4 => by
    have ek := y_add1 (t := k) (by omega)
    unfold l_lp
    split
    · exact Or.inr (by omega)
    · exact l_lp_r m _ _ _ _ _ (by omega) (by omega)
theorem l_lw_r {S : Nat → Int32} {v c h w : Int32} : l_lw S v c h w = Int32.ofInt (-1) ∨ 1 ≤ (l_lw S v c h w).toInt := l_lp_r _ _ _ _ _ _ (by decide) (by rw [show (Int32.ofInt 0).toInt = 0 from rfl]; omega)
/-- the heaviest of the weights up to j that is there within n -/
def z_hw (S : Nat → Int32) (v c h n : Int32) : Nat → Int32
  | 0 => Int32.ofInt (-1)
  | j + 1 => if 1 ≤ (l_lw S v c h (Int32.ofInt ((j + 1 : Nat) : Int))).toInt ∧ (l_lw S v c h (Int32.ofInt ((j + 1 : Nat) : Int))).toInt ≤ n.toInt then Int32.ofInt ((j + 1 : Nat) : Int) else z_hw S v c h n j
def z_hv (S : Nat → Int32) (v c h n : Int32) : Int32 := if ((v = 0 ∧ 0 ≤ c.toInt ∧ c.toInt < (S 0).toInt) ∨ (v = 1 ∧ 0 ≤ c.toInt ∧ c.toInt < (S 1).toInt)) ∧ (0 ≤ h.toInt ∧ h.toInt ≤ 999) ∧ 1 ≤ n.toInt ∧ n.toInt ≤ 400 then z_hw S v c h n 9 else Int32.ofInt (-1)
theorem l_w9 {j : Nat} (h : j ≤ 9) : (Int32.ofInt (j : Int)).toInt = j := by
  rw [Int32.toInt_ofInt, Jvm.Kit.bmod32 (by omega) (by omega)]
section LH
variable {xs : Nat → Int32} {L J d : Nat} {S : Nat → Int32} {G : List pE}
set_option maxHeartbeats 2000000 in
set_option maxRecDepth 100000 in
theorem l_hloop {v c h n : Int32} (hd : 37 ≤ d) (hR : l_R S) (hv : v = 0 ∨ v = 1) (h0 : 0 ≤ h.toInt) (h9 : h.toInt ≤ 999) : ∀ (j : Nat) (G : List pE) (lv : pL), j ≤ 9 → l_C S G → x_sl G 0 14 = some (.ref 77) → x_sl G 0 2 = some (.ref 6) → pm_get lv 0 = some (.ref 0) → pm_get lv 1 = some (.int v) → pm_get lv 2 = some (.int c) → pm_get lv 3 = some (.int h) → pm_get lv 4 = some (.int n) → pm_get lv 5 = some (.int (Int32.ofInt (j : Int))) → x_Gd xs L J (d + 4) m_107 (fun r G' => r = some (.int (z_hw S v c h n j))) 37 lv [] G := by
  intro j
  induction j with
  | zero =>
    intro G lv hj HC s14 s2 g0 g1 g2 g3 g4 g5
    refine y_il (e_107 (37, .iload 5, 2) (List.mem_of_getElem? (i := 19) rfl)) g5 ?_
    refine y_st (e_107 (39, .iconst 1, 1) (List.mem_of_getElem? (i := 20) rfl)) ⟨rfl, rfl, rfl, rfl⟩ ?_
    refine y_icm (e_107 (40, .if_icmp .lt 36, 3) (List.mem_of_getElem? (i := 21) rfl)) rfl (fun _ => ?_) (fun hc => absurd hc (by decide))
    refine y_st (e_107 (76, .iconst (-1), 1) (List.mem_of_getElem? (i := 39) rfl)) ⟨rfl, rfl, rfl, rfl⟩ ?_
    exact y_ret (e_107 (77, .ireturn, 1) (List.mem_of_getElem? (i := 40) rfl)) ⟨rfl, y_ri⟩ rfl
  | succ j ih =>
    intro G lv hj HC s14 s2 g0 g1 g2 g3 g4 g5
    have ej := l_w9 hj
    have e1 : (Int32.ofInt 1).toInt = 1 := rfl
    refine y_il (e_107 (37, .iload 5, 2) (List.mem_of_getElem? (i := 19) rfl)) g5 ?_
    refine y_st (e_107 (39, .iconst 1, 1) (List.mem_of_getElem? (i := 20) rfl)) ⟨rfl, rfl, rfl, rfl⟩ ?_
    refine y_icm (e_107 (40, .if_icmp .lt 36, 3) (List.mem_of_getElem? (i := 21) rfl)) rfl (fun hc => ?_) (fun _ => ?_)
    · have := y_hI.2.2.2.2.2.2.2.2.1 hc
      omega
    refine y_aln (e_107 (43, .aload_n 0, 1) (List.mem_of_getElem? (i := 22) rfl)) g0 ?_
    refine y_iln (e_107 (44, .iload_n 1, 1) (List.mem_of_getElem? (i := 23) rfl)) g1 ?_
    refine y_iln (e_107 (45, .iload_n 2, 1) (List.mem_of_getElem? (i := 24) rfl)) g2 ?_
    refine y_il (e_107 (46, .iload 5, 2) (List.mem_of_getElem? (i := 25) rfl)) g5 ?_
    refine y_iln (e_107 (48, .iload_n 3, 1) (List.mem_of_getElem? (i := 26) rfl)) g3 ?_
    refine y_c5 (K' := _) (e_107 (49, .invokevirtual 293, 3) (List.mem_of_getElem? (i := 27) rfl)) ⟨rfl, rfl, rfl⟩ t_0_293 ⟨by decide, by decide, by decide, by decide⟩ m_106_ok rfl (by decide) (y_recv HC.1 z_ty.1 ⟨rfl, rfl⟩) (Nat.le_of_ble_eq_true rfl) (Nat.le_of_ble_eq_true rfl) (l_hours (d := d) hd HC hR (by omega) hv h0 h9 s14 s2) (fun r1 G1 h1 => ?_)
    obtain ⟨rfl, HC1, t14, t2⟩ := h1
    simp only [Option.toList_some, Option.toList_none, List.cons_append, List.nil_append]
    have hr := l_lw_r (S := S) (v := v) (c := c) (h := h) (w := Int32.ofInt ((j + 1 : Nat) : Int))
    rw [show (l_lp S (Int32.ofInt ((j + 1 : Nat) : Int)) h (min 400 (1000 - h.toInt)).toNat (Int32.ofInt 0) v c (Int32.ofInt 0) (Int32.ofInt 0)) = l_lw S v c h (Int32.ofInt ((j + 1 : Nat) : Int)) from rfl]
    unfold z_hw
    generalize l_lw S v c h (Int32.ofInt ((j + 1 : Nat) : Int)) = X at hr ⊢
    refine y_is (e_107 (52, .istore 6, 2) (List.mem_of_getElem? (i := 28) rfl)) (by decide) ?_
    have g6 : pm_get (pm_put1 lv 6 (.int X)) 6 = some (.int X) := x_get_self
    replace g0 := y_gpr (i := 6) (w := .int X) g0 (by decide)
    replace g1 := y_gpi (i := 6) (w := .int X) g1 (by decide)
    replace g2 := y_gpi (i := 6) (w := .int X) g2 (by decide)
    replace g3 := y_gpi (i := 6) (w := .int X) g3 (by decide)
    replace g4 := y_gpi (i := 6) (w := .int X) g4 (by decide)
    replace g5 := y_gpi (i := 6) (w := .int X) g5 (by decide)
    generalize pm_put1 lv 6 (.int X) = lv6 at g0 g1 g2 g3 g4 g5 g6 ⊢
    have go : ¬ (1 ≤ X.toInt ∧ X.toInt ≤ n.toInt) → x_Gd xs L J (d + 4) m_107 (fun r G' => r = some (.int (if 1 ≤ X.toInt ∧ X.toInt ≤ n.toInt then Int32.ofInt ((j + 1 : Nat) : Int) else z_hw S v c h n j))) 70 lv6 [] G1 := by
      intro hno
      rw [if_neg hno]
      refine y_iinc (e_107 (70, .iinc 5 (-1), 3) (List.mem_of_getElem? (i := 37) rfl)) g5 (by decide) ?_
      refine y_st (e_107 (73, .goto (-36), 3) (List.mem_of_getElem? (i := 38) rfl)) ⟨rfl, rfl, rfl, rfl⟩ ?_
      have ed : Int32.ofInt ((j + 1 : Nat) : Int) + Int32.ofInt (-1) = Int32.ofInt (j : Int) := Int32.toInt_inj.mp (by rw [Int32.toInt_add, ej, l_w9 (by omega), show (Int32.ofInt (-1)).toInt = -1 by decide, Jvm.Kit.bmod32 (by omega) (by omega)]; omega)
      exact ih G1 _ (by omega) HC1 t14 t2 (y_gpr g0 (by decide)) (y_gpi g1 (by decide)) (y_gpi g2 (by decide)) (y_gpi g3 (by decide)) (y_gpi g4 (by decide)) (by rw [← ed]; exact x_get_self)
    refine y_il (e_107 (54, .iload 6, 2) (List.mem_of_getElem? (i := 29) rfl)) g6 ?_
    refine y_st (e_107 (56, .iconst (-1), 1) (List.mem_of_getElem? (i := 30) rfl)) ⟨rfl, rfl, rfl, rfl⟩ ?_
    refine y_icm (e_107 (57, .if_icmp .eq 13, 3) (List.mem_of_getElem? (i := 31) rfl)) rfl (fun hc => ?_) (fun hc => ?_)
    · have z := y_hI.1 hc
      exact go (fun q => by rw [z, show (Int32.ofInt (-1)).toInt = -1 by decide] at q; omega)
    have z := y_hI.2.1 hc
    have z1 : 1 ≤ X.toInt := hr.resolve_left z
    refine y_il (e_107 (60, .iload 6, 2) (List.mem_of_getElem? (i := 32) rfl)) g6 ?_
    refine y_il (e_107 (62, .iload 4, 2) (List.mem_of_getElem? (i := 33) rfl)) g4 ?_
    refine y_icm (e_107 (64, .if_icmp .gt 6, 3) (List.mem_of_getElem? (i := 34) rfl)) rfl (fun hc => ?_) (fun hc => ?_)
    · have q := y_hI.2.2.2.2.2.2.2.2.2.2.1 hc
      exact go (fun q' => by omega)
    have q := y_hI.2.2.2.2.2.2.2.2.2.2.2 hc
    refine y_il (e_107 (67, .iload 5, 2) (List.mem_of_getElem? (i := 35) rfl)) g5 ?_
    exact y_ret (e_107 (69, .ireturn, 1) (List.mem_of_getElem? (i := 36) rfl)) ⟨rfl, y_ri⟩ (by rw [if_pos ⟨z1, q⟩])
set_option maxHeartbeats 2000000 in
set_option maxRecDepth 100000 in
theorem l_heavy {v c h n : Int32} (hd : 37 ≤ d) (HC : l_C S G) (hR : l_R S) (s14 : x_sl G 0 14 = some (.ref 77)) (s2 : x_sl G 0 2 = some (.ref 6)) : x_Gd xs L J (d + 4) m_107 (fun r G' => r = some (.int (z_hv S v c h n))) 0 (lv_args 0 [.ref 0, .int v, .int c, .int h, .int n]) [] G := by
  have g0 : pm_get (lv_args 0 [.ref 0, .int v, .int c, .int h, .int n]) 0 = some (.ref 0) := rfl
  have g1 : pm_get (lv_args 0 [.ref 0, .int v, .int c, .int h, .int n]) 1 = some (.int v) := rfl
  have g2 : pm_get (lv_args 0 [.ref 0, .int v, .int c, .int h, .int n]) 2 = some (.int c) := rfl
  have g3 : pm_get (lv_args 0 [.ref 0, .int v, .int c, .int h, .int n]) 3 = some (.int h) := rfl
  have g4 : pm_get (lv_args 0 [.ref 0, .int v, .int c, .int h, .int n]) 4 = some (.int n) := rfl
  generalize lv_args 0 [.ref 0, .int v, .int c, .int h, .int n] = lv at g0 g1 g2 g3 g4 ⊢
  refine y_aln (e_107 (0, .aload_n 0, 1) (List.mem_of_getElem? (i := 0) rfl)) g0 ?_
  refine y_iln (e_107 (1, .iload_n 1, 1) (List.mem_of_getElem? (i := 1) rfl)) g1 ?_
  refine y_iln (e_107 (2, .iload_n 2, 1) (List.mem_of_getElem? (i := 2) rfl)) g2 ?_
  refine y_st (e_107 (3, .iconst 1, 1) (List.mem_of_getElem? (i := 3) rfl)) ⟨rfl, rfl, rfl, rfl⟩ ?_
  refine y_c4 (K' := _) (e_107 (4, .invokevirtual 289, 3) (List.mem_of_getElem? (i := 4) rfl)) ⟨rfl, rfl, rfl⟩ t_0_289 ⟨by decide, by decide, by decide, by decide⟩ m_105_ok rfl (by decide) (y_recv HC.1 z_ty.1 ⟨rfl, rfl⟩) (Nat.le_of_ble_eq_true rfl) (Nat.le_of_ble_eq_true rfl) (l_can (d := d + 1) HC s2) (fun r1 G1 h1 => ?_)
  obtain ⟨rfl, h1⟩ := h1
  rcases h1 with ⟨rfl, hc⟩ | ⟨rfl, hno⟩
  rotate_left
  · simp only [Option.toList_some, Option.toList_none, List.cons_append, List.nil_append]
    refine y_ifc (e_107 (7, .ifCond .eq 24, 3) (List.mem_of_getElem? (i := 5) rfl)) rfl (fun _ => ?_) (fun z => absurd z (by decide))
    refine y_st (e_107 (31, .iconst (-1), 1) (List.mem_of_getElem? (i := 15) rfl)) ⟨rfl, rfl, rfl, rfl⟩ ?_
    exact y_ret (e_107 (32, .ireturn, 1) (List.mem_of_getElem? (i := 16) rfl)) ⟨rfl, y_ri⟩ (by unfold z_hv; rw [if_neg (fun z => hno ⟨z.1, by decide, by decide⟩)])
  simp only [Option.toList_some, Option.toList_none, List.cons_append, List.nil_append]
  refine y_ifc (e_107 (7, .ifCond .eq 24, 3) (List.mem_of_getElem? (i := 5) rfl)) rfl (fun z => absurd z (by decide)) (fun _ => ?_)
  refine y_iln (e_107 (10, .iload_n 3, 1) (List.mem_of_getElem? (i := 6) rfl)) g3 ?_
  refine y_c1 (K' := _) (e_107 (11, .invokestatic 230, 3) (List.mem_of_getElem? (i := 7) rfl)) ⟨rfl, rfl, rfl⟩ t_0_230 ⟨by decide, by decide, by decide, by decide⟩ m_65_ok rfl (by decide) rfl (Nat.le_of_ble_eq_true rfl) (Nat.le_of_ble_eq_true rfl) z_ish (fun r1 G2 h1 => ?_)
  obtain ⟨rfl, h1⟩ := h1
  rcases h1 with ⟨rfl, hh⟩ | ⟨rfl, hno⟩
  rotate_left
  · simp only [Option.toList_some, Option.toList_none, List.cons_append, List.nil_append]
    refine y_ifc (e_107 (14, .ifCond .eq 17, 3) (List.mem_of_getElem? (i := 8) rfl)) rfl (fun _ => ?_) (fun z => absurd z (by decide))
    refine y_st (e_107 (31, .iconst (-1), 1) (List.mem_of_getElem? (i := 15) rfl)) ⟨rfl, rfl, rfl, rfl⟩ ?_
    exact y_ret (e_107 (32, .ireturn, 1) (List.mem_of_getElem? (i := 16) rfl)) ⟨rfl, y_ri⟩ (by unfold z_hv; rw [if_neg (fun z => hno z.2.1)])
  simp only [Option.toList_some, Option.toList_none, List.cons_append, List.nil_append]
  refine y_ifc (e_107 (14, .ifCond .eq 17, 3) (List.mem_of_getElem? (i := 8) rfl)) rfl (fun z => absurd z (by decide)) (fun _ => ?_)
  have hv : v = 0 ∨ v = 1 := by
    rcases hc.1 with z | z
    · exact Or.inl z.1
    · exact Or.inr z.1
  refine y_il (e_107 (17, .iload 4, 2) (List.mem_of_getElem? (i := 9) rfl)) g4 ?_
  refine y_st (e_107 (19, .iconst 1, 1) (List.mem_of_getElem? (i := 10) rfl)) ⟨rfl, rfl, rfl, rfl⟩ ?_
  refine y_icm (e_107 (20, .if_icmp .lt 11, 3) (List.mem_of_getElem? (i := 11) rfl)) rfl (fun hc2 => ?_) (fun hc2 => ?_)
  · have z := y_hI.2.2.2.2.2.2.2.2.1 hc2
    rw [show (Int32.ofInt 1).toInt = 1 from rfl] at z
    refine y_st (e_107 (31, .iconst (-1), 1) (List.mem_of_getElem? (i := 15) rfl)) ⟨rfl, rfl, rfl, rfl⟩ ?_
    exact y_ret (e_107 (32, .ireturn, 1) (List.mem_of_getElem? (i := 16) rfl)) ⟨rfl, y_ri⟩ (by unfold z_hv; rw [if_neg (fun q => by omega)])
  have z := y_hI.2.2.2.2.2.2.2.2.2.1 hc2
  rw [show (Int32.ofInt 1).toInt = 1 from rfl] at z
  refine y_il (e_107 (23, .iload 4, 2) (List.mem_of_getElem? (i := 12) rfl)) g4 ?_
  refine y_st (e_107 (25, .sipush 400, 3) (List.mem_of_getElem? (i := 13) rfl)) ⟨rfl, rfl, rfl, rfl⟩ ?_
  refine y_icm (e_107 (28, .if_icmp .le 5, 3) (List.mem_of_getElem? (i := 14) rfl)) rfl (fun hc3 => ?_) (fun hc3 => ?_)
  rotate_left
  · have z3 := y_hI.2.2.2.2.2.2.2.1 hc3
    rw [show ((Int16.ofInt 400).toInt32).toInt = 400 by decide] at z3
    refine y_st (e_107 (31, .iconst (-1), 1) (List.mem_of_getElem? (i := 15) rfl)) ⟨rfl, rfl, rfl, rfl⟩ ?_
    exact y_ret (e_107 (32, .ireturn, 1) (List.mem_of_getElem? (i := 16) rfl)) ⟨rfl, y_ri⟩ (by unfold z_hv; rw [if_neg (fun q => by omega)])
  have z3 := y_hI.2.2.2.2.2.2.1 hc3
  rw [show ((Int16.ofInt 400).toInt32).toInt = 400 by decide] at z3
  refine y_st (e_107 (33, .bipush 9, 2) (List.mem_of_getElem? (i := 17) rfl)) ⟨rfl, rfl, rfl, rfl⟩ ?_
  refine y_is (e_107 (35, .istore 5, 2) (List.mem_of_getElem? (i := 18) rfl)) (by decide) ?_
  refine (l_hloop hd hR hv hh.1 hh.2 9 G2 _ (by decide) HC s14 s2 (y_gpr g0 (by decide)) (y_gpi g1 (by decide)) (y_gpi g2 (by decide)) (y_gpi g3 (by decide)) (y_gpi g4 (by decide)) (x_get_self.trans (by decide))).mono (fun r G' z' => ?_)
  rw [z']
  unfold z_hv
  rw [if_pos ⟨hc.1, hh, z, z3⟩]
set_option maxHeartbeats 2000000 in
set_option maxRecDepth 100000 in
theorem m_hloop {v c h n : Int32} (hR : l_R S) (hv : v = 0 ∨ v = 1) (h0 : 0 ≤ h.toInt) (h9 : h.toInt ≤ 999) : ∀ (m j : Nat) (G : List pE) (lv : pL), j + m = 9 → l_M S G → pm_get lv 0 = some (.ref 349) → pm_get lv 1 = some (.int v) → pm_get lv 2 = some (.int c) → pm_get lv 3 = some (.int h) → pm_get lv 4 = some (.int n) → pm_get lv 5 = some (.int (z_hw S v c h n j)) → pm_get lv 6 = some (.int (Int32.ofInt ((j + 1 : Nat) : Int))) → x_Gd xs L J (d + 4) m_219 (fun r G' => r = some (.int (z_hw S v c h n 9))) 45 lv [] G := by
  have e10 : ((Int8.ofInt 10).toInt32).toInt = 10 := by decide
  have e1 : (Int32.ofInt 1).toInt = 1 := rfl
  intro m
  induction m with
  | zero =>
    intro j G lv hj HM g0 g1 g2 g3 g4 g5 g6
    obtain rfl : j = 9 := by omega
    refine y_il (e_219 (45, .iload 6, 2) (List.mem_of_getElem? (i := 24) rfl)) g6 ?_
    refine y_st (e_219 (47, .bipush 10, 2) (List.mem_of_getElem? (i := 25) rfl)) ⟨rfl, rfl, rfl, rfl⟩ ?_
    refine y_icm (e_219 (49, .if_icmp .ge 31, 3) (List.mem_of_getElem? (i := 26) rfl)) rfl (fun _ => ?_) (fun hc => absurd hc (by decide))
    refine y_il (e_219 (80, .iload 5, 2) (List.mem_of_getElem? (i := 41) rfl)) g5 ?_
    exact y_ret (e_219 (82, .ireturn, 1) (List.mem_of_getElem? (i := 42) rfl)) ⟨rfl, y_ri⟩ rfl
  | succ m ih =>
    intro j G lv hj HM g0 g1 g2 g3 g4 g5 g6
    have ej := l_w9 (j := j + 1) (by omega)
    refine y_il (e_219 (45, .iload 6, 2) (List.mem_of_getElem? (i := 24) rfl)) g6 ?_
    refine y_st (e_219 (47, .bipush 10, 2) (List.mem_of_getElem? (i := 25) rfl)) ⟨rfl, rfl, rfl, rfl⟩ ?_
    refine y_icm (e_219 (49, .if_icmp .ge 31, 3) (List.mem_of_getElem? (i := 26) rfl)) rfl (fun hc => ?_) (fun _ => ?_)
    · have := y_hI.2.2.2.2.1 hc
      omega
    refine y_aln (e_219 (52, .aload_n 0, 1) (List.mem_of_getElem? (i := 27) rfl)) g0 ?_
    refine y_iln (e_219 (53, .iload_n 1, 1) (List.mem_of_getElem? (i := 28) rfl)) g1 ?_
    refine y_iln (e_219 (54, .iload_n 2, 1) (List.mem_of_getElem? (i := 29) rfl)) g2 ?_
    refine y_il (e_219 (55, .iload 6, 2) (List.mem_of_getElem? (i := 30) rfl)) g6 ?_
    refine y_iln (e_219 (57, .iload_n 3, 1) (List.mem_of_getElem? (i := 31) rfl)) g3 ?_
    refine y_c5 (K' := _) (e_219 (58, .invokevirtual 318, 3) (List.mem_of_getElem? (i := 32) rfl)) ⟨rfl, rfl, rfl⟩ t_17_318 ⟨by decide, by decide, by decide, by decide⟩ m_218_ok rfl (by decide) (y_recv HM.1 th0_349.1 ⟨rfl, rfl⟩) (Nat.le_of_ble_eq_true rfl) (Nat.le_of_ble_eq_true rfl) (m_hours (d := d) HM hR (by omega) hv h0 h9) (fun r1 G1 h1 => ?_)
    obtain ⟨rfl, HM1⟩ := h1
    simp only [Option.toList_some, Option.toList_none, List.cons_append, List.nil_append]
    rw [show (l_lp S (Int32.ofInt ((j + 1 : Nat) : Int)) h (min 400 (1000 - h.toInt)).toNat (Int32.ofInt 0) v c (Int32.ofInt 0) (Int32.ofInt 0)) = l_lw S v c h (Int32.ofInt ((j + 1 : Nat) : Int)) from rfl]
    have eu : z_hw S v c h n (j + 1) = if 1 ≤ (l_lw S v c h (Int32.ofInt ((j + 1 : Nat) : Int))).toInt ∧ (l_lw S v c h (Int32.ofInt ((j + 1 : Nat) : Int))).toInt ≤ n.toInt then Int32.ofInt ((j + 1 : Nat) : Int) else z_hw S v c h n j := rfl
    generalize l_lw S v c h (Int32.ofInt ((j + 1 : Nat) : Int)) = X at eu ⊢
    have ed : Int32.ofInt ((j + 1 : Nat) : Int) + Int32.ofInt 1 = Int32.ofInt ((j + 1 + 1 : Nat) : Int) := Int32.toInt_inj.mp (by rw [Int32.toInt_add, ej, e1, Int32.toInt_ofInt, Jvm.Kit.bmod32 (by omega) (by omega), Jvm.Kit.bmod32 (by omega) (by omega)]; omega)
    have go : ∀ lv' : pL, pm_get lv' 0 = some (.ref 349) → pm_get lv' 1 = some (.int v) → pm_get lv' 2 = some (.int c) → pm_get lv' 3 = some (.int h) → pm_get lv' 4 = some (.int n) → pm_get lv' 5 = some (.int (z_hw S v c h n (j + 1))) → pm_get lv' 6 = some (.int (Int32.ofInt ((j + 1 : Nat) : Int))) → x_Gd xs L J (d + 4) m_219 (fun r G' => r = some (.int (z_hw S v c h n 9))) 74 lv' [] G1 := by
      intro lv' k0 k1 k2 k3 k4 k5 k6
      refine y_iinc (e_219 (74, .iinc 6 1, 3) (List.mem_of_getElem? (i := 39) rfl)) k6 (by decide) ?_
      refine y_st (e_219 (77, .goto (-32), 3) (List.mem_of_getElem? (i := 40) rfl)) ⟨rfl, rfl, rfl, rfl⟩ ?_
      exact ih (j + 1) G1 _ (by omega) HM1 (y_gpr k0 (by decide)) (y_gpi k1 (by decide)) (y_gpi k2 (by decide)) (y_gpi k3 (by decide)) (y_gpi k4 (by decide)) (y_gpi k5 (by decide)) (by rw [← ed]; exact x_get_self)
    refine y_st (e_219 (61, .iconst 1, 1) (List.mem_of_getElem? (i := 33) rfl)) ⟨rfl, rfl, rfl, rfl⟩ ?_
    refine y_il (e_219 (62, .iload 4, 2) (List.mem_of_getElem? (i := 34) rfl)) g4 ?_
    refine y_c3 (K' := _) (e_219 (64, .invokestatic 173, 3) (List.mem_of_getElem? (i := 35) rfl)) ⟨rfl, rfl, rfl⟩ t_17_173 ⟨by decide, by decide, by decide, by decide⟩ m_174_ok rfl (by decide) rfl (Nat.le_of_ble_eq_true rfl) (Nat.le_of_ble_eq_true rfl) z_isIn (fun r2 G2 h2 => ?_)
    obtain ⟨rfl, h2⟩ := h2
    rcases h2 with ⟨rfl, k0, k1⟩ | ⟨rfl, hno⟩
    · simp only [Option.toList_some, Option.toList_none, List.cons_append, List.nil_append]
      rw [e1] at k0
      refine y_ifc (e_219 (67, .ifCond .eq 7, 3) (List.mem_of_getElem? (i := 36) rfl)) rfl (fun z => absurd z (by decide)) (fun _ => ?_)
      refine y_il (e_219 (70, .iload 6, 2) (List.mem_of_getElem? (i := 37) rfl)) g6 ?_
      refine y_is (e_219 (72, .istore 5, 2) (List.mem_of_getElem? (i := 38) rfl)) (by decide) ?_
      exact go _ (y_gpr g0 (by decide)) (y_gpi g1 (by decide)) (y_gpi g2 (by decide)) (y_gpi g3 (by decide)) (y_gpi g4 (by decide)) (by rw [eu, if_pos ⟨k0, k1⟩]; exact x_get_self) (y_gpi g6 (by decide))
    · simp only [Option.toList_some, Option.toList_none, List.cons_append, List.nil_append]
      rw [e1] at hno
      refine y_ifc (e_219 (67, .ifCond .eq 7, 3) (List.mem_of_getElem? (i := 36) rfl)) rfl (fun _ => ?_) (fun z => absurd z (by decide))
      exact go _ g0 g1 g2 g3 g4 (by rw [eu, if_neg hno]; exact g5) g6
set_option maxHeartbeats 2000000 in
set_option maxRecDepth 100000 in
theorem m_heavy {v c h n : Int32} (HM : l_M S G) (hR : l_R S) : x_Gd xs L J (d + 4) m_219 (fun r G' => r = some (.int (z_hv S v c h n))) 0 (lv_args 0 [.ref 349, .int v, .int c, .int h, .int n]) [] G := by
  have g0 : pm_get (lv_args 0 [.ref 349, .int v, .int c, .int h, .int n]) 0 = some (.ref 349) := rfl
  have g1 : pm_get (lv_args 0 [.ref 349, .int v, .int c, .int h, .int n]) 1 = some (.int v) := rfl
  have g2 : pm_get (lv_args 0 [.ref 349, .int v, .int c, .int h, .int n]) 2 = some (.int c) := rfl
  have g3 : pm_get (lv_args 0 [.ref 349, .int v, .int c, .int h, .int n]) 3 = some (.int h) := rfl
  have g4 : pm_get (lv_args 0 [.ref 349, .int v, .int c, .int h, .int n]) 4 = some (.int n) := rfl
  generalize lv_args 0 [.ref 349, .int v, .int c, .int h, .int n] = lv at g0 g1 g2 g3 g4 ⊢
  refine y_aln (e_219 (0, .aload_n 0, 1) (List.mem_of_getElem? (i := 0) rfl)) g0 ?_
  refine y_st (e_219 (1, .iconst 0, 1) (List.mem_of_getElem? (i := 1) rfl)) ⟨rfl, rfl, rfl, rfl⟩ ?_
  refine y_putf (f := (0, -2147483648, 2147483647)) HM.1 th0_349.1 (e_219 (2, .putfield 1, 3) (List.mem_of_getElem? (i := 2) rfl)) u_17_1 ⟨rfl, rfl, by decide, rfl, rfl⟩ ⟨_, rfl, (x_i32 _).1, (x_i32 _).2⟩ (fun G1 u1 => ?_)
  have H1 : l_M S G1 := ⟨HM.1.upd u1 th0_349.1 (y_okA rfl), by rw [u1.2.1, if_neg (fun z => absurd z.2 (by decide))]; exact HM.2.1, fun i hi => by rw [u1.2.1, if_neg (fun z => absurd z.1 (by decide))]; exact HM.2.2 i hi⟩
  refine y_aln (e_219 (5, .aload_n 0, 1) (List.mem_of_getElem? (i := 3) rfl)) g0 ?_
  refine y_iln (e_219 (6, .iload_n 1, 1) (List.mem_of_getElem? (i := 4) rfl)) g1 ?_
  refine y_iln (e_219 (7, .iload_n 2, 1) (List.mem_of_getElem? (i := 5) rfl)) g2 ?_
  refine y_c3 (K' := _) (e_219 (8, .invokevirtual 248, 3) (List.mem_of_getElem? (i := 6) rfl)) ⟨rfl, rfl, rfl⟩ t_17_248 ⟨by decide, by decide, by decide, by decide⟩ m_194_ok rfl (by decide) (y_recv H1.1 th0_349.1 ⟨rfl, rfl⟩) (Nat.le_of_ble_eq_true rfl) (Nat.le_of_ble_eq_true rfl) (z_isc (d := d + 2) H1.1 th0_349.1 th0_349.2 H1.2.1 (H1.2.2 0 (by decide)) (H1.2.2 1 (by decide))) (fun r1 G2 h1 => ?_)
  obtain ⟨rfl, h1⟩ := h1
  rcases h1 with ⟨rfl, hc⟩ | ⟨rfl, hno⟩
  rotate_left
  · simp only [Option.toList_some, Option.toList_none, List.cons_append, List.nil_append]
    refine y_ifc (e_219 (11, .ifCond .eq 26, 3) (List.mem_of_getElem? (i := 7) rfl)) rfl (fun _ => ?_) (fun z => absurd z (by decide))
    refine y_st (e_219 (37, .iconst (-1), 1) (List.mem_of_getElem? (i := 18) rfl)) ⟨rfl, rfl, rfl, rfl⟩ ?_
    exact y_ret (e_219 (38, .ireturn, 1) (List.mem_of_getElem? (i := 19) rfl)) ⟨rfl, y_ri⟩ (by unfold z_hv; rw [if_neg (fun z => hno z.1)])
  simp only [Option.toList_some, Option.toList_none, List.cons_append, List.nil_append]
  refine y_ifc (e_219 (11, .ifCond .eq 26, 3) (List.mem_of_getElem? (i := 7) rfl)) rfl (fun z => absurd z (by decide)) (fun _ => ?_)
  refine y_iln (e_219 (14, .iload_n 3, 1) (List.mem_of_getElem? (i := 8) rfl)) g3 ?_
  refine y_st (e_219 (15, .iconst 0, 1) (List.mem_of_getElem? (i := 9) rfl)) ⟨rfl, rfl, rfl, rfl⟩ ?_
  refine y_st (e_219 (16, .sipush 999, 3) (List.mem_of_getElem? (i := 10) rfl)) ⟨rfl, rfl, rfl, rfl⟩ ?_
  refine y_c3 (K' := _) (e_219 (19, .invokestatic 173, 3) (List.mem_of_getElem? (i := 11) rfl)) ⟨rfl, rfl, rfl⟩ t_17_173 ⟨by decide, by decide, by decide, by decide⟩ m_174_ok rfl (by decide) rfl (Nat.le_of_ble_eq_true rfl) (Nat.le_of_ble_eq_true rfl) z_isIn (fun r1 G3 h1 => ?_)
  obtain ⟨rfl, h1⟩ := h1
  rcases h1 with ⟨rfl, j0, j1⟩ | ⟨rfl, hno⟩
  rotate_left
  · simp only [Option.toList_some, Option.toList_none, List.cons_append, List.nil_append]
    rw [show (Int32.ofInt 0).toInt = 0 from rfl, show ((Int16.ofInt 999).toInt32).toInt = 999 by decide] at hno
    refine y_ifc (e_219 (22, .ifCond .eq 15, 3) (List.mem_of_getElem? (i := 12) rfl)) rfl (fun _ => ?_) (fun z => absurd z (by decide))
    refine y_st (e_219 (37, .iconst (-1), 1) (List.mem_of_getElem? (i := 18) rfl)) ⟨rfl, rfl, rfl, rfl⟩ ?_
    exact y_ret (e_219 (38, .ireturn, 1) (List.mem_of_getElem? (i := 19) rfl)) ⟨rfl, y_ri⟩ (by unfold z_hv; rw [if_neg (fun z => hno z.2.1)])
  simp only [Option.toList_some, Option.toList_none, List.cons_append, List.nil_append]
  rw [show (Int32.ofInt 0).toInt = 0 from rfl] at j0
  rw [show ((Int16.ofInt 999).toInt32).toInt = 999 by decide] at j1
  refine y_ifc (e_219 (22, .ifCond .eq 15, 3) (List.mem_of_getElem? (i := 12) rfl)) rfl (fun z => absurd z (by decide)) (fun _ => ?_)
  refine y_il (e_219 (25, .iload 4, 2) (List.mem_of_getElem? (i := 13) rfl)) g4 ?_
  refine y_st (e_219 (27, .iconst 1, 1) (List.mem_of_getElem? (i := 14) rfl)) ⟨rfl, rfl, rfl, rfl⟩ ?_
  refine y_st (e_219 (28, .sipush 400, 3) (List.mem_of_getElem? (i := 15) rfl)) ⟨rfl, rfl, rfl, rfl⟩ ?_
  refine y_c3 (K' := _) (e_219 (31, .invokestatic 173, 3) (List.mem_of_getElem? (i := 16) rfl)) ⟨rfl, rfl, rfl⟩ t_17_173 ⟨by decide, by decide, by decide, by decide⟩ m_174_ok rfl (by decide) rfl (Nat.le_of_ble_eq_true rfl) (Nat.le_of_ble_eq_true rfl) z_isIn (fun r1 G4 h1 => ?_)
  obtain ⟨rfl, h1⟩ := h1
  rcases h1 with ⟨rfl, k0, k1⟩ | ⟨rfl, hno⟩
  rotate_left
  · simp only [Option.toList_some, Option.toList_none, List.cons_append, List.nil_append]
    rw [show (Int32.ofInt 1).toInt = 1 from rfl, show ((Int16.ofInt 400).toInt32).toInt = 400 by decide] at hno
    refine y_ifc (e_219 (34, .ifCond .ne 5, 3) (List.mem_of_getElem? (i := 17) rfl)) rfl (fun z => absurd z (by decide)) (fun _ => ?_)
    refine y_st (e_219 (37, .iconst (-1), 1) (List.mem_of_getElem? (i := 18) rfl)) ⟨rfl, rfl, rfl, rfl⟩ ?_
    exact y_ret (e_219 (38, .ireturn, 1) (List.mem_of_getElem? (i := 19) rfl)) ⟨rfl, y_ri⟩ (by unfold z_hv; rw [if_neg (fun z => hno z.2.2)])
  simp only [Option.toList_some, Option.toList_none, List.cons_append, List.nil_append]
  rw [show (Int32.ofInt 1).toInt = 1 from rfl] at k0
  rw [show ((Int16.ofInt 400).toInt32).toInt = 400 by decide] at k1
  refine y_ifc (e_219 (34, .ifCond .ne 5, 3) (List.mem_of_getElem? (i := 17) rfl)) rfl (fun _ => ?_) (fun z => absurd z (by decide))
  have hv : v = 0 ∨ v = 1 := by
    rcases hc with z | z
    · exact Or.inl z.1
    · exact Or.inr z.1
  refine y_st (e_219 (39, .iconst (-1), 1) (List.mem_of_getElem? (i := 20) rfl)) ⟨rfl, rfl, rfl, rfl⟩ ?_
  refine y_is (e_219 (40, .istore 5, 2) (List.mem_of_getElem? (i := 21) rfl)) (by decide) ?_
  refine y_st (e_219 (42, .iconst 1, 1) (List.mem_of_getElem? (i := 22) rfl)) ⟨rfl, rfl, rfl, rfl⟩ ?_
  refine y_is (e_219 (43, .istore 6, 2) (List.mem_of_getElem? (i := 23) rfl)) (by decide) ?_
  refine (m_hloop hR hv j0 j1 9 0 _ _ rfl H1 (y_gpr (y_gpr g0 (by decide)) (by decide)) (y_gpi (y_gpi g1 (by decide)) (by decide)) (y_gpi (y_gpi g2 (by decide)) (by decide)) (y_gpi (y_gpi g3 (by decide)) (by decide)) (y_gpi (y_gpi g4 (by decide)) (by decide)) (y_gpi x_get_self (by decide)) (x_get_self.trans (by decide))).mono (fun r G' z' => ?_)
  rw [z']
  unfold z_hv
  rw [if_pos ⟨hc, ⟨j0, j1⟩, k0, k1⟩]
end LH
