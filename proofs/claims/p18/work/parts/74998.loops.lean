theorem u_0_159 : pm_ftab.find? (fun r => r.1 == 0 && r.2.1 == 159) = some (0, 159, 8, 9, 1, 281) := by decide +kernel
theorem t_0_297 : pm_ctab.find? (fun r => r.1 == 0 && r.2.1 == 297) = some (0, 297, 1, 35, 958) := by decide +kernel
theorem t_0_301 : pm_ctab.find? (fun r => r.1 == 0 && r.2.1 == 301) = some (0, 301, 1, 86, 959) := by decide +kernel
theorem t_17_283 : pm_ctab.find? (fun r => r.1 == 17 && r.2.1 == 283) = some (17, 283, 1, 210, 1666) := by decide +kernel
def m_106 : pM := (⟨"BreathingHill", "hoursOfLetter", "(IIII)I"⟩, 957, 6, some (FieldType.int), 0, 4, false, 9, 91, 956, 23)
set_option maxRecDepth 100000 in
theorem m_106_ok : pm_tab[106]? = some m_106 := rfl
theorem e_106 : ∀ q ∈ d_106, decode m_106.code q.1 = .ok (q.2.1, q.2.2) := y_dec d_106_ok m_106_ok
def m_218 : pM := (⟨"BreathingHillModel", "letterOf", "(IIII)I"⟩, 1701, 6, some (FieldType.int), 17, 4, false, 10, 103, 1700, 71)
set_option maxRecDepth 100000 in
theorem m_218_ok : pm_tab[218]? = some m_218 := rfl
theorem e_218 : ∀ q ∈ d_218, decode m_218.code q.1 = .ok (q.2.1, q.2.2) := y_dec d_218_ok m_218_ok
section LP
variable {xs : Nat → Int32} {L J d : Nat} {S : Nat → Int32}
set_option maxHeartbeats 2000000 in
set_option maxRecDepth 100000 in
theorem l_loop {w h v : Int32} (hd : 37 ≤ d) (hR : l_R S) (hw : 1 ≤ w.toInt) (hv : v = 0 ∨ v = 1) (h0 : 0 ≤ h.toInt) (h9 : h.toInt ≤ 999) : ∀ (m : Nat) (G : List pE) (g : Nat → Option Value) (lv : pL) (k W C P F : Int32), 0 ≤ k.toInt → k.toInt ≤ 400 → (min (400 - k.toInt) (1000 - h.toInt - k.toInt)).toNat = m → l_B S g G → l_T w (Int32.ofInt 0) W C P F g → l_J S v W C P F → x_sl G 0 14 = some (.ref 77) → x_sl G 0 2 = some (.ref 6) → pm_get lv 0 = some (.ref 0) → pm_get lv 4 = some (.int h) → pm_get lv 5 = some (.int k) → x_Gd xs L J (d + 3) m_106 (fun r G' => r = some (.int (l_lp S w h m k W C P F)) ∧ l_C S G' ∧ x_sl G' 0 14 = some (.ref 77) ∧ x_sl G' 0 2 = some (.ref 6)) 13 lv [] G := by
  have e4 : ((Int16.ofInt 400).toInt32).toInt = 400 := by decide
  have e10 : ((Int16.ofInt 1000).toInt32).toInt = 1000 := by decide
  intro m
  induction m with
  | zero =>
    intro G g lv k W C P F k0 k4 hm H hT hJ s14 s2 g0 g4 g5
    have eh : (h + k).toInt = h.toInt + k.toInt := y_add (by omega) (by omega)
    refine y_il (e_106 (13, .iload 5, 2) (List.mem_of_getElem? (i := 8) rfl)) g5 ?_
    refine y_st (e_106 (15, .sipush 400, 3) (List.mem_of_getElem? (i := 9) rfl)) ⟨rfl, rfl, rfl, rfl⟩ ?_
    refine y_icm (e_106 (18, .if_icmp .ge 54, 3) (List.mem_of_getElem? (i := 10) rfl)) rfl (fun _ => ?_) (fun hc => ?_)
    · refine y_st (e_106 (72, .iconst (-1), 1) (List.mem_of_getElem? (i := 35) rfl)) ⟨rfl, rfl, rfl, rfl⟩ ?_
      exact y_ret (e_106 (73, .ireturn, 1) (List.mem_of_getElem? (i := 36) rfl)) ⟨rfl, y_ri⟩ ⟨rfl, H.1, s14, s2⟩
    have z := y_hI.2.2.2.2.2.1 hc
    refine y_il (e_106 (21, .iload 4, 2) (List.mem_of_getElem? (i := 11) rfl)) g4 ?_
    refine y_il (e_106 (23, .iload 5, 2) (List.mem_of_getElem? (i := 12) rfl)) g5 ?_
    refine y_st (e_106 (25, .iadd, 1) (List.mem_of_getElem? (i := 13) rfl)) ⟨rfl, rfl, rfl, rfl⟩ ?_
    refine y_st (e_106 (26, .sipush 1000, 3) (List.mem_of_getElem? (i := 14) rfl)) ⟨rfl, rfl, rfl, rfl⟩ ?_
    refine y_icm (e_106 (29, .if_icmp .ge 43, 3) (List.mem_of_getElem? (i := 15) rfl)) rfl (fun _ => ?_) (fun hc => ?_)
    · refine y_st (e_106 (72, .iconst (-1), 1) (List.mem_of_getElem? (i := 35) rfl)) ⟨rfl, rfl, rfl, rfl⟩ ?_
      exact y_ret (e_106 (73, .ireturn, 1) (List.mem_of_getElem? (i := 36) rfl)) ⟨rfl, y_ri⟩ ⟨rfl, H.1, s14, s2⟩
    have z2 := y_hI.2.2.2.2.2.1 hc
    omega
  | succ m ih =>
    intro G g lv k W C P F k0 k4 hm H hT hJ s14 s2 g0 g4 g5
    have eh : (h + k).toInt = h.toInt + k.toInt := y_add (by omega) (by omega)
    have ek := y_add1 (t := k) (by omega)
    refine y_il (e_106 (13, .iload 5, 2) (List.mem_of_getElem? (i := 8) rfl)) g5 ?_
    refine y_st (e_106 (15, .sipush 400, 3) (List.mem_of_getElem? (i := 9) rfl)) ⟨rfl, rfl, rfl, rfl⟩ ?_
    refine y_icm (e_106 (18, .if_icmp .ge 54, 3) (List.mem_of_getElem? (i := 10) rfl)) rfl (fun hc => ?_) (fun _ => ?_)
    · have := y_hI.2.2.2.2.1 hc
      omega
    refine y_il (e_106 (21, .iload 4, 2) (List.mem_of_getElem? (i := 11) rfl)) g4 ?_
    refine y_il (e_106 (23, .iload 5, 2) (List.mem_of_getElem? (i := 12) rfl)) g5 ?_
    refine y_st (e_106 (25, .iadd, 1) (List.mem_of_getElem? (i := 13) rfl)) ⟨rfl, rfl, rfl, rfl⟩ ?_
    refine y_st (e_106 (26, .sipush 1000, 3) (List.mem_of_getElem? (i := 14) rfl)) ⟨rfl, rfl, rfl, rfl⟩ ?_
    refine y_icm (e_106 (29, .if_icmp .ge 43, 3) (List.mem_of_getElem? (i := 15) rfl)) rfl (fun hc => ?_) (fun _ => ?_)
    · have := y_hI.2.2.2.2.1 hc
      omega
    refine y_aln (e_106 (32, .aload_n 0, 1) (List.mem_of_getElem? (i := 16) rfl)) g0 ?_
    refine y_getf H.I z_ty.1 (e_106 (33, .getfield 80, 3) (List.mem_of_getElem? (i := 17) rfl)) u_0_80 ⟨rfl, rfl⟩ s14 ?_
    refine y_aln (e_106 (36, .aload_n 0, 1) (List.mem_of_getElem? (i := 18) rfl)) g0 ?_
    refine y_getf H.I z_ty.1 (e_106 (37, .getfield 26, 3) (List.mem_of_getElem? (i := 19) rfl)) u_0_26 ⟨rfl, rfl⟩ s2 ?_
    refine y_getf H.I th0_77.2.2.2.2.2.2.2 (e_106 (40, .getfield 192, 3) (List.mem_of_getElem? (i := 20) rfl)) u_0_192 ⟨rfl, rfl⟩ H.1.2.1.1 ?_
    refine y_il (e_106 (43, .iload 4, 2) (List.mem_of_getElem? (i := 21) rfl)) g4 ?_
    refine y_il (e_106 (45, .iload 5, 2) (List.mem_of_getElem? (i := 22) rfl)) g5 ?_
    refine y_st (e_106 (47, .iadd, 1) (List.mem_of_getElem? (i := 23) rfl)) ⟨rfl, rfl, rfl, rfl⟩ ?_
    refine y_c3 (K' := _) (e_106 (48, .invokevirtual 301, 3) (List.mem_of_getElem? (i := 24) rfl)) ⟨rfl, rfl, rfl⟩ t_0_301 ⟨by decide, by decide, by decide, by decide⟩ m_86_ok rfl (by decide) (y_recv H.I th0_77.1 ⟨rfl, rfl⟩) (Nat.le_of_ble_eq_true rfl) (Nat.le_of_ble_eq_true rfl) ((l_hour (d := d) (h := h + k) H hR hT hw (hJ.I hv) (by omega) (by omega)).and ((h_36 th0 xs L J).gd (G := G) (d := d + 2) m_86_ok (by omega) (v := (y_v [((77 : Nat) : Int), ((7 : Nat) : Int), (h + k).toInt])) (as := [.ref 77, .ref 7, .int (h + k)]) (y_v_Bd (List.forall_mem_cons.mpr ⟨(y_cellB H.I th0_77.1), (List.forall_mem_cons.mpr ⟨(y_cellB H.I th0_77.2.1), (List.forall_mem_cons.mpr ⟨(x_i32 _), (fun _ h => absurd h List.not_mem_nil)⟩)⟩)⟩)) (fun _ h => absurd h List.not_mem_nil) ⟨⟨77, rfl, (by simp only [xl_ev, xt_ev, y_v, List.getD_cons_succ, List.getD_cons_zero]; omega), th0_77.1⟩, ⟨7, rfl, (by simp only [xl_ev, xt_ev, y_v, List.getD_cons_succ, List.getD_cons_zero]; omega), th0_77.2.1⟩, ⟨h + k, rfl, (by simp only [xl_ev, xt_ev, y_v, List.getD_cons_succ, List.getD_cons_zero]; omega)⟩, trivial⟩ (fun q hq => absurd hq List.not_mem_nil) H.I (fun z => by cases z))) (fun r1 G1 h1 => ?_)
    obtain ⟨⟨rfl, g', H1, hO⟩, v', -, -, hI1, ef, -⟩ := h1
    simp only [Option.toList_some, Option.toList_none, List.cons_append, List.nil_append]
    have hG := hJ.st (w := w) (h := h + k) hR hv
    have t14 : x_sl G1 0 14 = some (.ref 77) := (ef.at z_ty.1 rfl).trans s14
    have t2 : x_sl G1 0 2 = some (.ref 6) := (ef.at z_ty.1 rfl).trans s2
    refine y_aln (e_106 (51, .aload_n 0, 1) (List.mem_of_getElem? (i := 25) rfl)) g0 ?_
    refine y_getf H1.I z_ty.1 (e_106 (52, .getfield 80, 3) (List.mem_of_getElem? (i := 26) rfl)) u_0_80 ⟨rfl, rfl⟩ t14 ?_
    refine y_getf H1.I th0_77.1 (e_106 (55, .getfield 159, 3) (List.mem_of_getElem? (i := 27) rfl)) u_0_159 ⟨rfl, rfl⟩ ((H1.2 9 (by decide)).trans hO.2.2.2.2.2) ?_
    unfold l_lp
    cases hB : (l_st S w (h + k) W C P F).2.2.2.2 with
    | true =>
      rw [if_pos rfl]
      refine y_ifc (e_106 (58, .ifCond .le 8, 3) (List.mem_of_getElem? (i := 28) rfl)) rfl (fun hc => absurd hc (by decide)) (fun _ => ?_)
      refine y_il (e_106 (61, .iload 5, 2) (List.mem_of_getElem? (i := 29) rfl)) g5 ?_
      refine y_st (e_106 (63, .iconst 1, 1) (List.mem_of_getElem? (i := 30) rfl)) ⟨rfl, rfl, rfl, rfl⟩ ?_
      refine y_st (e_106 (64, .iadd, 1) (List.mem_of_getElem? (i := 31) rfl)) ⟨rfl, rfl, rfl, rfl⟩ ?_
      exact y_ret (e_106 (65, .ireturn, 1) (List.mem_of_getElem? (i := 32) rfl)) ⟨rfl, y_ri⟩ ⟨rfl, H1.1, t14, t2⟩
    | false =>
      rw [if_neg (by decide)]
      refine y_ifc (e_106 (58, .ifCond .le 8, 3) (List.mem_of_getElem? (i := 28) rfl)) rfl (fun _ => ?_) (fun hc => absurd hc (by decide))
      refine y_iinc (e_106 (66, .iinc 5 1, 3) (List.mem_of_getElem? (i := 33) rfl)) g5 (by decide) ?_
      refine y_st (e_106 (69, .goto (-56), 3) (List.mem_of_getElem? (i := 34) rfl)) ⟨rfl, rfl, rfl, rfl⟩ ?_
      unfold l_O at hO
      rw [hB, if_neg (by decide)] at hO
      exact ih G1 g' _ (k + Int32.ofInt 1) _ _ _ _ (by omega) (by omega) (by omega) H1 hO (hG.1 hB) t14 t2 (y_gpr g0 (by decide)) (y_gpi g4 (by decide)) x_get_self
set_option maxHeartbeats 2000000 in
set_option maxRecDepth 100000 in
theorem m_loop {w h v : Int32} (hR : l_R S) (hw : 1 ≤ w.toInt) (hv : v = 0 ∨ v = 1) (h0 : 0 ≤ h.toInt) (h9 : h.toInt ≤ 999) : ∀ (m : Nat) (G : List pE) (g : Nat → Option Value) (lv : pL) (k W C P F : Int32), 0 ≤ k.toInt → k.toInt ≤ 400 → (min (400 - k.toInt) (1000 - h.toInt - k.toInt)).toNat = m → l_N S g G → l_U W C P F g → l_J S v W C P F → pm_get lv 0 = some (.ref 349) → pm_get lv 1 = some (.int v) → pm_get lv 3 = some (.int w) → pm_get lv 4 = some (.int h) → pm_get lv 5 = some (.int (k + Int32.ofInt 1)) → x_Gd xs L J (d + 3) m_218 (fun r G' => r = some (.int (l_lp S w h m k W C P F)) ∧ l_M S G') 13 lv [] G := by
  have e4 : ((Int16.ofInt 400).toInt32).toInt = 400 := by decide
  have e10 : ((Int16.ofInt 1000).toInt32).toInt = 1000 := by decide
  intro m
  induction m with
  | zero =>
    intro G g lv k W C P F k0 k4 hm H hU hJ g0 g1 g3 g4 g5
    have ek := y_add1 (t := k) (by omega)
    have eh : (h + (k + Int32.ofInt 1)).toInt = h.toInt + k.toInt + 1 := by rw [y_add (by omega) (by omega), ek]; omega
    refine y_il (e_218 (13, .iload 5, 2) (List.mem_of_getElem? (i := 8) rfl)) g5 ?_
    refine y_st (e_218 (15, .sipush 400, 3) (List.mem_of_getElem? (i := 9) rfl)) ⟨rfl, rfl, rfl, rfl⟩ ?_
    refine y_icm (e_218 (18, .if_icmp .gt 58, 3) (List.mem_of_getElem? (i := 10) rfl)) rfl (fun _ => ?_) (fun hc => ?_)
    · refine y_st (e_218 (76, .iconst (-1), 1) (List.mem_of_getElem? (i := 39) rfl)) ⟨rfl, rfl, rfl, rfl⟩ ?_
      exact y_ret (e_218 (77, .ireturn, 1) (List.mem_of_getElem? (i := 40) rfl)) ⟨rfl, y_ri⟩ ⟨rfl, H.1⟩
    have z := y_hI.2.2.2.2.2.2.2.2.2.2.2 hc
    refine y_il (e_218 (21, .iload 4, 2) (List.mem_of_getElem? (i := 11) rfl)) g4 ?_
    refine y_il (e_218 (23, .iload 5, 2) (List.mem_of_getElem? (i := 12) rfl)) g5 ?_
    refine y_st (e_218 (25, .iadd, 1) (List.mem_of_getElem? (i := 13) rfl)) ⟨rfl, rfl, rfl, rfl⟩ ?_
    refine y_st (e_218 (26, .sipush 1000, 3) (List.mem_of_getElem? (i := 14) rfl)) ⟨rfl, rfl, rfl, rfl⟩ ?_
    refine y_icm (e_218 (29, .if_icmp .gt 47, 3) (List.mem_of_getElem? (i := 15) rfl)) rfl (fun _ => ?_) (fun hc => ?_)
    · refine y_st (e_218 (76, .iconst (-1), 1) (List.mem_of_getElem? (i := 39) rfl)) ⟨rfl, rfl, rfl, rfl⟩ ?_
      exact y_ret (e_218 (77, .ireturn, 1) (List.mem_of_getElem? (i := 40) rfl)) ⟨rfl, y_ri⟩ ⟨rfl, H.1⟩
    have z2 := y_hI.2.2.2.2.2.2.2.2.2.2.2 hc
    omega
  | succ m ih =>
    intro G g lv k W C P F k0 k4 hm H hU hJ g0 g1 g3 g4 g5
    have ek := y_add1 (t := k) (by omega)
    have eh : (h + (k + Int32.ofInt 1)).toInt = h.toInt + k.toInt + 1 := by rw [y_add (by omega) (by omega), ek]; omega
    have eh0 : (h + k).toInt = h.toInt + k.toInt := y_add (by omega) (by omega)
    have ehk : h + (k + Int32.ofInt 1) - Int32.ofInt 1 = h + k := Int32.toInt_inj.mp (by rw [Int32.toInt_sub, eh, show (Int32.ofInt 1).toInt = 1 from rfl, Jvm.Kit.bmod32 (by omega) (by omega), eh0]; omega)
    refine y_il (e_218 (13, .iload 5, 2) (List.mem_of_getElem? (i := 8) rfl)) g5 ?_
    refine y_st (e_218 (15, .sipush 400, 3) (List.mem_of_getElem? (i := 9) rfl)) ⟨rfl, rfl, rfl, rfl⟩ ?_
    refine y_icm (e_218 (18, .if_icmp .gt 58, 3) (List.mem_of_getElem? (i := 10) rfl)) rfl (fun hc => ?_) (fun _ => ?_)
    · have := y_hI.2.2.2.2.2.2.2.2.2.2.1 hc
      omega
    refine y_il (e_218 (21, .iload 4, 2) (List.mem_of_getElem? (i := 11) rfl)) g4 ?_
    refine y_il (e_218 (23, .iload 5, 2) (List.mem_of_getElem? (i := 12) rfl)) g5 ?_
    refine y_st (e_218 (25, .iadd, 1) (List.mem_of_getElem? (i := 13) rfl)) ⟨rfl, rfl, rfl, rfl⟩ ?_
    refine y_st (e_218 (26, .sipush 1000, 3) (List.mem_of_getElem? (i := 14) rfl)) ⟨rfl, rfl, rfl, rfl⟩ ?_
    refine y_icm (e_218 (29, .if_icmp .gt 47, 3) (List.mem_of_getElem? (i := 15) rfl)) rfl (fun hc => ?_) (fun _ => ?_)
    · have := y_hI.2.2.2.2.2.2.2.2.2.2.1 hc
      omega
    refine y_aln (e_218 (32, .aload_n 0, 1) (List.mem_of_getElem? (i := 16) rfl)) g0 ?_
    refine y_getf H.I th0_349.1 (e_218 (33, .getfield 262, 3) (List.mem_of_getElem? (i := 17) rfl)) u_17_262 ⟨rfl, rfl⟩ ((H.2 21 (by decide) (by decide)).trans hU.1) ?_
    refine y_st (e_218 (36, .iconst 3, 1) (List.mem_of_getElem? (i := 18) rfl)) ⟨rfl, rfl, rfl, rfl⟩ ?_
    refine y_icm (e_218 (37, .if_icmp .eq 39, 3) (List.mem_of_getElem? (i := 19) rfl)) rfl (fun hc => ?_) (fun hc => ?_)
    · have z := y_hI.1 hc
      refine y_st (e_218 (76, .iconst (-1), 1) (List.mem_of_getElem? (i := 39) rfl)) ⟨rfl, rfl, rfl, rfl⟩ ?_
      exact y_ret (e_218 (77, .ireturn, 1) (List.mem_of_getElem? (i := 40) rfl)) ⟨rfl, y_ri⟩ ⟨by rw [z, l_lp3], H.1⟩
    refine y_aln (e_218 (40, .aload_n 0, 1) (List.mem_of_getElem? (i := 20) rfl)) g0 ?_
    refine y_iln (e_218 (41, .iload_n 3, 1) (List.mem_of_getElem? (i := 21) rfl)) g3 ?_
    refine y_il (e_218 (42, .iload 4, 2) (List.mem_of_getElem? (i := 22) rfl)) g4 ?_
    refine y_il (e_218 (44, .iload 5, 2) (List.mem_of_getElem? (i := 23) rfl)) g5 ?_
    refine y_st (e_218 (46, .iadd, 1) (List.mem_of_getElem? (i := 24) rfl)) ⟨rfl, rfl, rfl, rfl⟩ ?_
    refine y_st (e_218 (47, .iconst 1, 1) (List.mem_of_getElem? (i := 25) rfl)) ⟨rfl, rfl, rfl, rfl⟩ ?_
    refine y_st (e_218 (48, .isub, 1) (List.mem_of_getElem? (i := 26) rfl)) ⟨rfl, rfl, rfl, rfl⟩ ?_
    rw [ehk]
    refine y_c3 (K' := _) (e_218 (49, .invokevirtual 283, 3) (List.mem_of_getElem? (i := 27) rfl)) ⟨rfl, rfl, rfl⟩ t_17_283 ⟨by decide, by decide, by decide, by decide⟩ m_210_ok rfl (by decide) (y_recv H.I th0_349.1 ⟨rfl, rfl⟩) (Nat.le_of_ble_eq_true rfl) (Nat.le_of_ble_eq_true rfl) (m_hour (d := d) (h := h + k) H hR hU hw (hJ.I hv) (by omega) (by omega)) (fun r1 G1 h1 => ?_)
    obtain ⟨rfl, g', H1, hV, h25⟩ := h1
    simp only [Option.toList_some, Option.toList_none, List.cons_append, List.nil_append]
    have hG := hJ.st (w := w) (h := h + k) hR hv
    refine y_aln (e_218 (52, .aload_n 0, 1) (List.mem_of_getElem? (i := 28) rfl)) g0 ?_
    refine y_getf H1.I th0_349.1 (e_218 (53, .getfield 258, 3) (List.mem_of_getElem? (i := 29) rfl)) u_17_258 ⟨rfl, rfl⟩ ((H1.2 25 (by decide) (by decide)).trans h25) ?_
    unfold l_lp
    cases hB : (l_st S w (h + k) W C P F).2.2.2.2 with
    | true =>
      rw [if_pos rfl]
      refine y_ifc (e_218 (56, .ifCond .eq 14, 3) (List.mem_of_getElem? (i := 30) rfl)) rfl (fun hc => absurd hc (by decide)) (fun _ => ?_)
      refine y_aln (e_218 (59, .aload_n 0, 1) (List.mem_of_getElem? (i := 31) rfl)) g0 ?_
      refine y_getf H1.I th0_349.1 (e_218 (60, .getfield 262, 3) (List.mem_of_getElem? (i := 32) rfl)) u_17_262 ⟨rfl, rfl⟩ ((H1.2 21 (by decide) (by decide)).trans hV.1) ?_
      refine y_iln (e_218 (63, .iload_n 1, 1) (List.mem_of_getElem? (i := 33) rfl)) g1 ?_
      refine y_icm (e_218 (64, .if_icmp .eq 6, 3) (List.mem_of_getElem? (i := 34) rfl)) rfl (fun hc => absurd (y_hI.1 hc) (hG.2 hB)) (fun _ => ?_)
      refine y_il (e_218 (67, .iload 5, 2) (List.mem_of_getElem? (i := 35) rfl)) g5 ?_
      exact y_ret (e_218 (69, .ireturn, 1) (List.mem_of_getElem? (i := 36) rfl)) ⟨rfl, y_ri⟩ ⟨rfl, H1.1⟩
    | false =>
      rw [if_neg (by decide)]
      refine y_ifc (e_218 (56, .ifCond .eq 14, 3) (List.mem_of_getElem? (i := 30) rfl)) rfl (fun _ => ?_) (fun hc => absurd hc (by decide))
      refine y_iinc (e_218 (70, .iinc 5 1, 3) (List.mem_of_getElem? (i := 37) rfl)) g5 (by decide) ?_
      refine y_st (e_218 (73, .goto (-60), 3) (List.mem_of_getElem? (i := 38) rfl)) ⟨rfl, rfl, rfl, rfl⟩ ?_
      exact ih G1 g' _ (k + Int32.ofInt 1) _ _ _ _ (by omega) (by omega) (by omega) H1 hV (hG.1 hB) (y_gpr g0 (by decide)) (y_gpi g1 (by decide)) (y_gpi g3 (by decide)) (y_gpi g4 (by decide)) x_get_self
set_option maxHeartbeats 2000000 in
set_option maxRecDepth 100000 in
theorem l_hours {G : List pE} {v c w h : Int32} (hd : 37 ≤ d) (HC : l_C S G) (hR : l_R S) (hw : 1 ≤ w.toInt) (hv : v = 0 ∨ v = 1) (h0 : 0 ≤ h.toInt) (h9 : h.toInt ≤ 999) (s14 : x_sl G 0 14 = some (.ref 77)) (s2 : x_sl G 0 2 = some (.ref 6)) : x_Gd xs L J (d + 3) m_106 (fun r G' => r = some (.int (l_lp S w h (min 400 (1000 - h.toInt)).toNat (Int32.ofInt 0) v c (Int32.ofInt 0) (Int32.ofInt 0))) ∧ l_C S G' ∧ x_sl G' 0 14 = some (.ref 77) ∧ x_sl G' 0 2 = some (.ref 6)) 0 (lv_args 0 [.ref 0, .int v, .int c, .int w, .int h]) [] G := by
  have g0 : pm_get (lv_args 0 [.ref 0, .int v, .int c, .int w, .int h]) 0 = some (.ref 0) := rfl
  have g1 : pm_get (lv_args 0 [.ref 0, .int v, .int c, .int w, .int h]) 1 = some (.int v) := rfl
  have g2 : pm_get (lv_args 0 [.ref 0, .int v, .int c, .int w, .int h]) 2 = some (.int c) := rfl
  have g3 : pm_get (lv_args 0 [.ref 0, .int v, .int c, .int w, .int h]) 3 = some (.int w) := rfl
  have g4 : pm_get (lv_args 0 [.ref 0, .int v, .int c, .int w, .int h]) 4 = some (.int h) := rfl
  generalize lv_args 0 [.ref 0, .int v, .int c, .int w, .int h] = lv at g0 g1 g2 g3 g4 ⊢
  have H : l_B S (fun i => x_sl G 77 i) G := ⟨HC, fun _ _ => rfl⟩
  have hv2 : v ≠ Int32.ofInt 2 := by rcases hv with rfl | rfl <;> decide
  refine y_aln (e_106 (0, .aload_n 0, 1) (List.mem_of_getElem? (i := 0) rfl)) g0 ?_
  refine y_getf H.I z_ty.1 (e_106 (1, .getfield 80, 3) (List.mem_of_getElem? (i := 1) rfl)) u_0_80 ⟨rfl, rfl⟩ s14 ?_
  refine y_iln (e_106 (4, .iload_n 1, 1) (List.mem_of_getElem? (i := 2) rfl)) g1 ?_
  refine y_iln (e_106 (5, .iload_n 2, 1) (List.mem_of_getElem? (i := 3) rfl)) g2 ?_
  refine y_iln (e_106 (6, .iload_n 3, 1) (List.mem_of_getElem? (i := 4) rfl)) g3 ?_
  refine y_c4 (K' := _) (e_106 (7, .invokevirtual 297, 3) (List.mem_of_getElem? (i := 5) rfl)) ⟨rfl, rfl, rfl⟩ t_0_297 ⟨by decide, by decide, by decide, by decide⟩ m_35_ok rfl (by decide) (y_recv H.I th0_77.1 ⟨rfl, rfl⟩) (Nat.le_of_ble_eq_true rfl) (Nat.le_of_ble_eq_true rfl) ((l_put (d := d + 1) H hv2).and ((h_25 th0 xs L J).gd (G := G) (d := d + 2) m_35_ok (by omega) (v := (y_v [((77 : Nat) : Int), (v).toInt, (c).toInt, (w).toInt])) (as := [.ref 77, .int v, .int c, .int w]) (y_v_Bd (List.forall_mem_cons.mpr ⟨(y_cellB H.I th0_77.1), (List.forall_mem_cons.mpr ⟨(x_i32 v), (List.forall_mem_cons.mpr ⟨(x_i32 c), (List.forall_mem_cons.mpr ⟨(x_i32 w), (fun _ h => absurd h List.not_mem_nil)⟩)⟩)⟩)⟩)) (fun _ h => absurd h List.not_mem_nil) ⟨⟨77, rfl, (by simp only [xl_ev, xt_ev, y_v, List.getD_cons_succ, List.getD_cons_zero]; omega), th0_77.1⟩, ⟨v, rfl, (by simp only [xl_ev, xt_ev, y_v, List.getD_cons_succ, List.getD_cons_zero]; omega)⟩, ⟨c, rfl, (by simp only [xl_ev, xt_ev, y_v, List.getD_cons_succ, List.getD_cons_zero]; omega)⟩, ⟨w, rfl, (by simp only [xl_ev, xt_ev, y_v, List.getD_cons_succ, List.getD_cons_zero]; omega)⟩, trivial⟩ (fun q hq => absurd hq List.not_mem_nil) H.I (fun z => by cases z))) (fun r1 G1 h1 => ?_)
  obtain ⟨⟨rfl, g', H1, hT⟩, v', -, -, -, ef, -⟩ := h1
  simp only [Option.toList_some, Option.toList_none, List.cons_append, List.nil_append]
  refine y_st (e_106 (10, .iconst 0, 1) (List.mem_of_getElem? (i := 6) rfl)) ⟨rfl, rfl, rfl, rfl⟩ ?_
  refine y_is (e_106 (11, .istore 5, 2) (List.mem_of_getElem? (i := 7) rfl)) (by decide) ?_
  exact l_loop hd hR hw hv h0 h9 _ G1 g' _ (Int32.ofInt 0) v c (Int32.ofInt 0) (Int32.ofInt 0) (by decide) (by decide) (by rw [show (Int32.ofInt 0).toInt = 0 from rfl]; omega) H1 hT (Or.inl rfl) ((ef.at z_ty.1 rfl).trans s14) ((ef.at z_ty.1 rfl).trans s2) (y_gpr g0 (by decide)) (y_gpi g4 (by decide)) x_get_self
set_option maxHeartbeats 2000000 in
set_option maxRecDepth 100000 in
theorem m_hours {G : List pE} {v c w h : Int32} (HM : l_M S G) (hR : l_R S) (hw : 1 ≤ w.toInt) (hv : v = 0 ∨ v = 1) (h0 : 0 ≤ h.toInt) (h9 : h.toInt ≤ 999) : x_Gd xs L J (d + 3) m_218 (fun r G' => r = some (.int (l_lp S w h (min 400 (1000 - h.toInt)).toNat (Int32.ofInt 0) v c (Int32.ofInt 0) (Int32.ofInt 0))) ∧ l_M S G') 0 (lv_args 0 [.ref 349, .int v, .int c, .int w, .int h]) [] G := by
  have g0 : pm_get (lv_args 0 [.ref 349, .int v, .int c, .int w, .int h]) 0 = some (.ref 349) := rfl
  have g1 : pm_get (lv_args 0 [.ref 349, .int v, .int c, .int w, .int h]) 1 = some (.int v) := rfl
  have g2 : pm_get (lv_args 0 [.ref 349, .int v, .int c, .int w, .int h]) 2 = some (.int c) := rfl
  have g3 : pm_get (lv_args 0 [.ref 349, .int v, .int c, .int w, .int h]) 3 = some (.int w) := rfl
  have g4 : pm_get (lv_args 0 [.ref 349, .int v, .int c, .int w, .int h]) 4 = some (.int h) := rfl
  generalize lv_args 0 [.ref 349, .int v, .int c, .int w, .int h] = lv at g0 g1 g2 g3 g4 ⊢
  have H : l_N S (fun i => x_sl G 349 i) G := ⟨HM, fun _ _ _ => rfl⟩
  have rv : 0 ≤ v.toInt ∧ v.toInt ≤ 3 := by rcases hv with rfl | rfl <;> decide
  have hv2 : v ≠ Int32.ofInt 2 := by rcases hv with rfl | rfl <;> decide
  refine y_aln (e_218 (0, .aload_n 0, 1) (List.mem_of_getElem? (i := 0) rfl)) g0 ?_
  refine y_iln (e_218 (1, .iload_n 1, 1) (List.mem_of_getElem? (i := 1) rfl)) g1 ?_
  refine y_putf (f := (0, 0, 3)) H.I th0_349.1 (e_218 (2, .putfield 262, 3) (List.mem_of_getElem? (i := 2) rfl)) u_17_262 ⟨rfl, rfl, by decide, rfl, rfl⟩ ⟨_, rfl, rv.1, rv.2⟩ (fun G1 u1 => ?_)
  have w1 := H.p u1 (by decide) (y_okI (lo := 0) (hi := 3) rfl rv.1 rv.2)
  refine y_aln (e_218 (5, .aload_n 0, 1) (List.mem_of_getElem? (i := 3) rfl)) g0 ?_
  refine y_iln (e_218 (6, .iload_n 2, 1) (List.mem_of_getElem? (i := 4) rfl)) g2 ?_
  refine y_putf (f := (0, -2147483648, 2147483647)) w1.I th0_349.1 (e_218 (7, .putfield 268, 3) (List.mem_of_getElem? (i := 5) rfl)) u_17_268 ⟨rfl, rfl, by decide, rfl, rfl⟩ ⟨_, rfl, (x_i32 _).1, (x_i32 _).2⟩ (fun G2 u2 => ?_)
  have w2 := w1.p u2 (by decide) (y_okA rfl)
  refine y_st (e_218 (10, .iconst 1, 1) (List.mem_of_getElem? (i := 6) rfl)) ⟨rfl, rfl, rfl, rfl⟩ ?_
  refine y_is (e_218 (11, .istore 5, 2) (List.mem_of_getElem? (i := 7) rfl)) (by decide) ?_
  exact m_loop hR hw hv h0 h9 _ G2 _ _ (Int32.ofInt 0) v c (Int32.ofInt 0) (Int32.ofInt 0) (by decide) (by decide) (by rw [show (Int32.ofInt 0).toInt = 0 from rfl]; omega) w2 ⟨rfl, fun _ => rfl, fun z => absurd z hv2⟩ (Or.inl rfl) (y_gpr g0 (by decide)) (y_gpi g1 (by decide)) (y_gpi g3 (by decide)) (y_gpi g4 (by decide)) x_get_self
end LP
