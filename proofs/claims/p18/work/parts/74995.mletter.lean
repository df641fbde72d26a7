theorem u_17_258 : pm_ftab.find? (fun r => r.1 == 17 && r.2.1 == 258) = some (17, 258, 10, 25, 0, 1363) := by decide +kernel
theorem u_17_262 : pm_ftab.find? (fun r => r.1 == 17 && r.2.1 == 262) = some (17, 262, 10, 21, 0, 1359) := by decide +kernel
theorem u_17_265 : pm_ftab.find? (fun r => r.1 == 17 && r.2.1 == 265) = some (17, 265, 10, 24, 0, 1362) := by decide +kernel
theorem u_17_268 : pm_ftab.find? (fun r => r.1 == 17 && r.2.1 == 268) = some (17, 268, 10, 22, 0, 1360) := by decide +kernel
theorem u_17_271 : pm_ftab.find? (fun r => r.1 == 17 && r.2.1 == 271) = some (17, 271, 10, 23, 0, 1361) := by decide +kernel
theorem t_17_274 : pm_ctab.find? (fun r => r.1 == 17 && r.2.1 == 274) = some (17, 274, 1, 211, 1670) := by decide +kernel
def m_210 : pM := (⟨"BreathingHillModel", "carries", "(II)V"⟩, 1669, 5, none, 17, 2, false, 10, 103, 1668, 67)
set_option maxRecDepth 100000 in
theorem m_210_ok : pm_tab[210]? = some m_210 := rfl
theorem e_210 : ∀ q ∈ d_210, decode m_210.code q.1 = .ok (q.2.1, q.2.2) := y_dec d_210_ok m_210_ok
def m_211 : pM := (⟨"BreathingHillModel", "goesIn", "(I)V"⟩, 1673, 3, none, 17, 1, false, 10, 103, 1672, 68)
set_option maxRecDepth 100000 in
theorem m_211_ok : pm_tab[211]? = some m_211 := rfl
theorem e_211 : ∀ q ∈ d_211, decode m_211.code q.1 = .ok (q.2.1, q.2.2) := y_dec d_211_ok m_211_ok
-- ===== the model's hour of a letter =====
def l_M (S : Nat → Int32) (G : List pE) : Prop := xI x_tb th0 G ∧ x_sl G 349 6 = some (.ref 351) ∧ ∀ i, i < 25 → x_sl G 351 i = some (.int (S i))
def l_N (S : Nat → Int32) (g : Nat → Option Value) (G : List pE) : Prop := l_M S G ∧ ∀ i, 21 ≤ i → i ≤ 25 → x_sl G 349 i = g i
def l_U (W C P F : Int32) (g : Nat → Option Value) : Prop := g 21 = some (.int W) ∧ (W ≠ Int32.ofInt 3 → g 22 = some (.int C)) ∧ (W = Int32.ofInt 2 → g 23 = some (.int P) ∧ g 24 = some (.int F))
theorem th0_349 : th0[349]? = some 10 ∧ th0[351]? = some 36 := by decide +kernel
section LM
variable {xs : Nat → Int32} {L J d : Nat} {G G1 : List pE} {S : Nat → Int32} {g : Nat → Option Value}
theorem l_N.p {i : Nat} {v : Int32} (H : l_N S g G) (u : x_upd G G1 349 i (.int v)) (hi : 21 ≤ i) (hok : ∀ f', x_at (x_tb 10).2.2.2 i = some f' → xf_ok th0 f' (.int v)) : l_N S (l_u g i v) G1 := by
  obtain ⟨⟨hI, h6, hs⟩, hg⟩ := H
  refine ⟨⟨hI.upd u th0_349.1 hok, by rw [u.2.1, if_neg (fun z => by omega)]; exact h6, fun j hj => by rw [u.2.1, if_neg (fun z => absurd z.1 (by decide))]; exact hs j hj⟩, fun j h1 h2 => ?_⟩
  rw [u.2.1]
  unfold l_u
  by_cases z : j = i
  · rw [if_pos ⟨rfl, z⟩, if_pos z]
  · rw [if_neg (fun y => z y.2), if_neg z]
    exact hg j h1 h2
theorem l_N.I (H : l_N S g G) : xI x_tb th0 G := H.1.1
set_option maxHeartbeats 2000000 in
set_option maxRecDepth 100000 in
theorem m_pfl {w W : Int32} (H : l_N S g G) (hR : l_R S) (e21 : g 21 = some (.int W)) (hW : 0 ≤ W.toInt ∧ W.toInt ≤ 1) : ∀ (m : Nat) (lv : pL) (p : Int32), (S 2).toInt.toNat = p.toInt.toNat + m → 0 ≤ p.toInt → l_pf S w (S 2).toInt.toNat 0 = l_pf S w m p.toInt.toNat → pm_get lv 0 = some (.ref 349) → pm_get lv 1 = some (.int w) → pm_get lv 2 = some (.int p) → x_Gd xs L J d m_211 (fun r G' => r = none ∧ ∃ g', l_N S g' G' ∧ (∀ i, i = 25 → g' i = g i) ∧ ((l_pf S w (S 2).toInt.toNat 0 < (S 2).toInt.toNat → l_U (Int32.ofInt 2) (Int32.ofInt 1) (Int32.ofNat (l_pf S w (S 2).toInt.toNat 0)) W g') ∧ (¬ l_pf S w (S 2).toInt.toNat 0 < (S 2).toInt.toNat → g' = g))) 2 lv [] G := by
  obtain ⟨hb, hK, hnp, hl⟩ := hR
  intro m
  induction m with
  | zero =>
    intro lv p hm hp he g0 g1 g2
    have he2 : l_pf S w (S 2).toInt.toNat 0 = p.toInt.toNat := he.trans rfl
    refine y_iln (e_211 (2, .iload_n 2, 1) (List.mem_of_getElem? (i := 2) rfl)) g2 ?_
    refine y_aln (e_211 (3, .aload_n 0, 1) (List.mem_of_getElem? (i := 3) rfl)) g0 ?_
    refine y_getf H.I th0_349.1 (e_211 (4, .getfield 33, 3) (List.mem_of_getElem? (i := 4) rfl)) u_17_33 ⟨rfl, rfl⟩ H.1.2.1 ?_
    refine y_st (e_211 (7, .iconst 2, 1) (List.mem_of_getElem? (i := 5) rfl)) ⟨rfl, rfl, rfl, rfl⟩ ?_
    refine y_iald H.I th0_349.2 (e_211 (8, .iaload, 1) (List.mem_of_getElem? (i := 6) rfl)) ⟨rfl, rfl⟩ (by decide) (H.1.2.2 2 (by decide)) ?_
    refine y_icm (e_211 (9, .if_icmp .ge 22, 3) (List.mem_of_getElem? (i := 7) rfl)) rfl (fun _ => ?_) (fun hc => ?_)
    rotate_left
    · have := y_hI.2.2.2.2.2.1 hc
      omega
    refine y_iln (e_211 (31, .iload_n 2, 1) (List.mem_of_getElem? (i := 18) rfl)) g2 ?_
    refine y_aln (e_211 (32, .aload_n 0, 1) (List.mem_of_getElem? (i := 19) rfl)) g0 ?_
    refine y_getf H.I th0_349.1 (e_211 (33, .getfield 33, 3) (List.mem_of_getElem? (i := 20) rfl)) u_17_33 ⟨rfl, rfl⟩ H.1.2.1 ?_
    refine y_st (e_211 (36, .iconst 2, 1) (List.mem_of_getElem? (i := 21) rfl)) ⟨rfl, rfl, rfl, rfl⟩ ?_
    refine y_iald H.I th0_349.2 (e_211 (37, .iaload, 1) (List.mem_of_getElem? (i := 22) rfl)) ⟨rfl, rfl⟩ (by decide) (H.1.2.2 2 (by decide)) ?_
    refine y_icm (e_211 (38, .if_icmp .ne 4, 3) (List.mem_of_getElem? (i := 23) rfl)) rfl (fun hc => ?_) (fun _ => ?_)
    · exact absurd (Int32.toInt_inj.mp (show p.toInt = (S 2).toInt by omega)) (y_hI.2.2.1 hc)
    exact y_ret (e_211 (41, .return_, 1) (List.mem_of_getElem? (i := 24) rfl)) ⟨rfl, rfl⟩ ⟨rfl, g, H, fun _ _ => rfl, fun y => by omega, fun _ => rfl⟩
  | succ m ih =>
    intro lv p hm hp he g0 g1 g2
    have ea := y_add1 (t := p) (by omega)
    have eb : ((Int8.ofInt 17).toInt32 + p).toInt = 17 + p.toInt := by rw [y_add (by rw [show ((Int8.ofInt 17).toInt32).toInt = 17 by decide]; omega) (by rw [show ((Int8.ofInt 17).toInt32).toInt = 17 by decide]; omega), show ((Int8.ofInt 17).toInt32).toInt = 17 by decide]
    have hw17 : x_sl G 351 ((Int8.ofInt 17).toInt32 + p).toInt.toNat = some (.int (S (17 + p.toInt.toNat))) := by
      rw [show ((Int8.ofInt 17).toInt32 + p).toInt.toNat = 17 + p.toInt.toNat by omega]
      exact H.1.2.2 _ (by omega)
    refine y_iln (e_211 (2, .iload_n 2, 1) (List.mem_of_getElem? (i := 2) rfl)) g2 ?_
    refine y_aln (e_211 (3, .aload_n 0, 1) (List.mem_of_getElem? (i := 3) rfl)) g0 ?_
    refine y_getf H.I th0_349.1 (e_211 (4, .getfield 33, 3) (List.mem_of_getElem? (i := 4) rfl)) u_17_33 ⟨rfl, rfl⟩ H.1.2.1 ?_
    refine y_st (e_211 (7, .iconst 2, 1) (List.mem_of_getElem? (i := 5) rfl)) ⟨rfl, rfl, rfl, rfl⟩ ?_
    refine y_iald H.I th0_349.2 (e_211 (8, .iaload, 1) (List.mem_of_getElem? (i := 6) rfl)) ⟨rfl, rfl⟩ (by decide) (H.1.2.2 2 (by decide)) ?_
    refine y_icm (e_211 (9, .if_icmp .ge 22, 3) (List.mem_of_getElem? (i := 7) rfl)) rfl (fun hc => ?_) (fun _ => ?_)
    · have := y_hI.2.2.2.2.1 hc
      omega
    refine y_aln (e_211 (12, .aload_n 0, 1) (List.mem_of_getElem? (i := 8) rfl)) g0 ?_
    refine y_getf H.I th0_349.1 (e_211 (13, .getfield 33, 3) (List.mem_of_getElem? (i := 9) rfl)) u_17_33 ⟨rfl, rfl⟩ H.1.2.1 ?_
    refine y_st (e_211 (16, .bipush 17, 2) (List.mem_of_getElem? (i := 10) rfl)) ⟨rfl, rfl, rfl, rfl⟩ ?_
    refine y_iln (e_211 (18, .iload_n 2, 1) (List.mem_of_getElem? (i := 11) rfl)) g2 ?_
    refine y_st (e_211 (19, .iadd, 1) (List.mem_of_getElem? (i := 12) rfl)) ⟨rfl, rfl, rfl, rfl⟩ ?_
    refine y_iald H.I th0_349.2 (e_211 (20, .iaload, 1) (List.mem_of_getElem? (i := 13) rfl)) ⟨rfl, rfl⟩ (by omega) hw17 ?_
    refine y_iln (e_211 (21, .iload_n 1, 1) (List.mem_of_getElem? (i := 14) rfl)) g1 ?_
    refine y_icm (e_211 (22, .if_icmp .ge 9, 3) (List.mem_of_getElem? (i := 15) rfl)) rfl (fun hc => ?_) (fun hc => ?_)
    rotate_left
    · have z := y_hI.2.2.2.2.2.1 hc
      refine y_iinc (e_211 (25, .iinc 2 1, 3) (List.mem_of_getElem? (i := 16) rfl)) g2 (by decide) ?_
      refine y_st (e_211 (28, .goto (-26), 3) (List.mem_of_getElem? (i := 17) rfl)) ⟨rfl, rfl, rfl, rfl⟩ ?_
      have e : l_pf S w (m + 1) p.toInt.toNat = l_pf S w m (p.toInt.toNat + 1) := by
        conv => lhs; unfold l_pf
        rw [if_neg (by omega)]
      exact ih (pm_put1 lv 2 (.int (p + Int32.ofInt 1))) (p + Int32.ofInt 1) (by omega) (by omega) (by rw [he, e, show (p + Int32.ofInt 1).toInt.toNat = p.toInt.toNat + 1 by omega]) (y_gpr g0 (by decide)) (y_gpi g1 (by decide)) x_get_self
    have z := y_hI.2.2.2.2.1 hc
    have e : l_pf S w (S 2).toInt.toNat 0 = p.toInt.toNat := by
      rw [he]
      unfold l_pf
      rw [if_pos z]
    refine y_iln (e_211 (31, .iload_n 2, 1) (List.mem_of_getElem? (i := 18) rfl)) g2 ?_
    refine y_aln (e_211 (32, .aload_n 0, 1) (List.mem_of_getElem? (i := 19) rfl)) g0 ?_
    refine y_getf H.I th0_349.1 (e_211 (33, .getfield 33, 3) (List.mem_of_getElem? (i := 20) rfl)) u_17_33 ⟨rfl, rfl⟩ H.1.2.1 ?_
    refine y_st (e_211 (36, .iconst 2, 1) (List.mem_of_getElem? (i := 21) rfl)) ⟨rfl, rfl, rfl, rfl⟩ ?_
    refine y_iald H.I th0_349.2 (e_211 (37, .iaload, 1) (List.mem_of_getElem? (i := 22) rfl)) ⟨rfl, rfl⟩ (by decide) (H.1.2.2 2 (by decide)) ?_
    refine y_icm (e_211 (38, .if_icmp .ne 4, 3) (List.mem_of_getElem? (i := 23) rfl)) rfl (fun _ => ?_) (fun hc => ?_)
    rotate_left
    · have := congrArg Int32.toInt (y_hI.2.2.2.1 hc)
      omega
    refine y_aln (e_211 (42, .aload_n 0, 1) (List.mem_of_getElem? (i := 25) rfl)) g0 ?_
    refine y_iln (e_211 (43, .iload_n 2, 1) (List.mem_of_getElem? (i := 26) rfl)) g2 ?_
    refine y_putf (f := (0, 0, 3)) H.I th0_349.1 (e_211 (44, .putfield 271, 3) (List.mem_of_getElem? (i := 27) rfl)) u_17_271 ⟨rfl, rfl, by decide, rfl, rfl⟩ ⟨_, rfl, by dsimp only; omega, by dsimp only; omega⟩ (fun G41 u41 => ?_)
    have w41 := H.p u41 (by decide) (y_okI (lo := 0) (hi := 3) rfl (by omega) (by omega))
    refine y_aln (e_211 (47, .aload_n 0, 1) (List.mem_of_getElem? (i := 28) rfl)) g0 ?_
    refine y_aln (e_211 (48, .aload_n 0, 1) (List.mem_of_getElem? (i := 29) rfl)) g0 ?_
    refine y_getf w41.I th0_349.1 (e_211 (49, .getfield 262, 3) (List.mem_of_getElem? (i := 30) rfl)) u_17_262 ⟨rfl, rfl⟩ ((w41.2 21 (by decide) (by decide)).trans (e21)) ?_
    refine y_putf (f := (0, 0, 1)) w41.I th0_349.1 (e_211 (52, .putfield 265, 3) (List.mem_of_getElem? (i := 31) rfl)) u_17_265 ⟨rfl, rfl, by decide, rfl, rfl⟩ ⟨_, rfl, by dsimp only; omega, by dsimp only; omega⟩ (fun G42 u42 => ?_)
    have w42 := w41.p u42 (by decide) (y_okI (lo := 0) (hi := 1) rfl (by omega) (by omega))
    refine y_aln (e_211 (55, .aload_n 0, 1) (List.mem_of_getElem? (i := 32) rfl)) g0 ?_
    refine y_st (e_211 (56, .iconst 2, 1) (List.mem_of_getElem? (i := 33) rfl)) ⟨rfl, rfl, rfl, rfl⟩ ?_
    refine y_putf (f := (0, 0, 3)) w42.I th0_349.1 (e_211 (57, .putfield 262, 3) (List.mem_of_getElem? (i := 34) rfl)) u_17_262 ⟨rfl, rfl, by decide, rfl, rfl⟩ ⟨_, rfl, by decide, by decide⟩ (fun G43 u43 => ?_)
    have w43 := w42.p u43 (by decide) (y_okI (lo := 0) (hi := 3) rfl (by decide) (by decide))
    refine y_aln (e_211 (60, .aload_n 0, 1) (List.mem_of_getElem? (i := 35) rfl)) g0 ?_
    refine y_st (e_211 (61, .iconst 1, 1) (List.mem_of_getElem? (i := 36) rfl)) ⟨rfl, rfl, rfl, rfl⟩ ?_
    refine y_putf (f := (0, -2147483648, 2147483647)) w43.I th0_349.1 (e_211 (62, .putfield 268, 3) (List.mem_of_getElem? (i := 37) rfl)) u_17_268 ⟨rfl, rfl, by decide, rfl, rfl⟩ ⟨_, rfl, (x_i32 _).1, (x_i32 _).2⟩ (fun G44 u44 => ?_)
    have w44 := w43.p u44 (by decide) (y_okA rfl)
    refine y_ret (e_211 (65, .return_, 1) (List.mem_of_getElem? (i := 38) rfl)) ⟨rfl, rfl⟩ ⟨rfl, _, w44, fun i hi => by subst hi; rfl, fun _ => ⟨rfl, fun _ => rfl, fun _ => ⟨?_, rfl⟩⟩, fun y => by omega⟩
    rw [e, ← l_ofN hp]
    rfl
set_option maxHeartbeats 2000000 in
set_option maxRecDepth 100000 in
theorem m_goes {w W : Int32} (H : l_N S g G) (hR : l_R S) (e21 : g 21 = some (.int W)) (hW : 0 ≤ W.toInt ∧ W.toInt ≤ 1) : x_Gd xs L J (d) m_211 (fun r G' => r = none ∧ ∃ g', l_N S g' G' ∧ (∀ i, i = 25 → g' i = g i) ∧ ((l_pf S w (S 2).toInt.toNat 0 < (S 2).toInt.toNat → l_U (Int32.ofInt 2) (Int32.ofInt 1) (Int32.ofNat (l_pf S w (S 2).toInt.toNat 0)) W g') ∧ (¬ l_pf S w (S 2).toInt.toNat 0 < (S 2).toInt.toNat → g' = g))) 0 (lv_args 0 [.ref 349, .int w]) [] G := by
  have g0 : pm_get (lv_args 0 [.ref 349, .int w]) 0 = some (.ref 349) := rfl
  have g1 : pm_get (lv_args 0 [.ref 349, .int w]) 1 = some (.int w) := rfl
  generalize lv_args 0 [.ref 349, .int w] = lv at g0 g1 ⊢
  refine y_st (e_211 (0, .iconst 0, 1) (List.mem_of_getElem? (i := 0) rfl)) ⟨rfl, rfl, rfl, rfl⟩ ?_
  refine y_isn (e_211 (1, .istore_n 2, 1) (List.mem_of_getElem? (i := 1) rfl)) (by decide) ?_
  exact m_pfl H hR e21 hW (S 2).toInt.toNat _ (Int32.ofInt 0) (by show _ = 0 + _; omega) (by decide) rfl (y_gpr g0 (by decide)) (y_gpi g1 (by decide)) x_get_self
set_option maxHeartbeats 2000000 in
set_option maxRecDepth 100000 in
theorem m_in56 {D C P F : Int32} {lv : pL} (H : l_N S g G) (e21 : g 21 = some (.int (Int32.ofInt 2))) (e23 : g 23 = some (.int P)) (e24 : g 24 = some (.int F)) (p0 : 0 ≤ P.toInt) (p4 : P.toInt < 4) (hF : F = 0 ∨ F = 1) (hF2 : F ≠ Int32.ofInt 2) (hF1 : Int32.ofInt 1 - F ≠ Int32.ofInt 2) (hlen : 2 ≤ (S (13 + P.toInt.toNat)).toInt) (hle : (C + D).toInt ≤ (S (13 + P.toInt.toNat)).toInt) (g0 : pm_get lv 0 = some (.ref 349)) : x_Gd xs L J d m_210 (fun r G' => r = none ∧ ∃ g', l_N S g' G' ∧ ((C + D).toInt ≤ 0 → l_U F (Int32.ofInt 0) P F g' ∧ g' 25 = some (.int (Int32.ofInt 0))) ∧ (0 < (C + D).toInt → (S (13 + P.toInt.toNat)).toInt ≤ (C + D).toInt → l_U (Int32.ofInt 1 - F) (Int32.ofInt 0) P F g' ∧ g' 25 = some (.int (Int32.ofInt 1))) ∧ (0 < (C + D).toInt → (C + D).toInt < (S (13 + P.toInt.toNat)).toInt → l_U (Int32.ofInt 2) (C + D) P F g' ∧ g' 25 = some (.int (Int32.ofInt 0)))) 56 lv [.int D, .int C, .ref 349] G := by
  have eb : ((Int8.ofInt 13).toInt32 + P).toInt = 13 + P.toInt := by rw [y_add (by rw [show ((Int8.ofInt 13).toInt32).toInt = 13 by decide]; omega) (by rw [show ((Int8.ofInt 13).toInt32).toInt = 13 by decide]; omega), show ((Int8.ofInt 13).toInt32).toInt = 13 by decide]
  have rF : 0 ≤ F.toInt ∧ F.toInt ≤ 1 := by rcases hF with rfl | rfl <;> decide
  have r1F : 0 ≤ (Int32.ofInt 1 - F).toInt ∧ (Int32.ofInt 1 - F).toInt ≤ 3 := by rcases hF with rfl | rfl <;> decide
  refine y_st (e_210 (56, .iadd, 1) (List.mem_of_getElem? (i := 32) rfl)) ⟨rfl, rfl, rfl, rfl⟩ ?_
  refine y_putf (f := (0, -2147483648, 2147483647)) H.I th0_349.1 (e_210 (57, .putfield 268, 3) (List.mem_of_getElem? (i := 33) rfl)) u_17_268 ⟨rfl, rfl, by decide, rfl, rfl⟩ ⟨_, rfl, (x_i32 _).1, (x_i32 _).2⟩ (fun G41 u41 => ?_)
  have w41 := H.p u41 (by decide) (y_okA rfl)
  refine y_aln (e_210 (60, .aload_n 0, 1) (List.mem_of_getElem? (i := 34) rfl)) g0 ?_
  refine y_aln (e_210 (61, .aload_n 0, 1) (List.mem_of_getElem? (i := 35) rfl)) g0 ?_
  refine y_getf w41.I th0_349.1 (e_210 (62, .getfield 268, 3) (List.mem_of_getElem? (i := 36) rfl)) u_17_268 ⟨rfl, rfl⟩ ((w41.2 22 (by decide) (by decide)).trans (rfl)) ?_
  refine y_aln (e_210 (65, .aload_n 0, 1) (List.mem_of_getElem? (i := 37) rfl)) g0 ?_
  refine y_getf w41.I th0_349.1 (e_210 (66, .getfield 33, 3) (List.mem_of_getElem? (i := 38) rfl)) u_17_33 ⟨rfl, rfl⟩ w41.1.2.1 ?_
  refine y_st (e_210 (69, .bipush 13, 2) (List.mem_of_getElem? (i := 39) rfl)) ⟨rfl, rfl, rfl, rfl⟩ ?_
  refine y_aln (e_210 (71, .aload_n 0, 1) (List.mem_of_getElem? (i := 40) rfl)) g0 ?_
  refine y_getf w41.I th0_349.1 (e_210 (72, .getfield 271, 3) (List.mem_of_getElem? (i := 41) rfl)) u_17_271 ⟨rfl, rfl⟩ ((w41.2 23 (by decide) (by decide)).trans (e23)) ?_
  refine y_st (e_210 (75, .iadd, 1) (List.mem_of_getElem? (i := 42) rfl)) ⟨rfl, rfl, rfl, rfl⟩ ?_
  have hln : x_sl G41 351 ((Int8.ofInt 13).toInt32 + P).toInt.toNat = some (.int (S (13 + P.toInt.toNat))) := by
    rw [show ((Int8.ofInt 13).toInt32 + P).toInt.toNat = 13 + P.toInt.toNat by omega]
    exact w41.1.2.2 _ (by omega)
  refine y_iald w41.I th0_349.2 (e_210 (76, .iaload, 1) (List.mem_of_getElem? (i := 43) rfl)) ⟨rfl, rfl⟩ (by omega) hln ?_
  refine y_icm (e_210 (77, .if_icmp .ne 7, 3) (List.mem_of_getElem? (i := 44) rfl)) rfl (fun hc => ?_) (fun hc => ?_)
  · have z := y_hI.2.2.1 hc
    have zz : (C + D).toInt ≠ (S (13 + P.toInt.toNat)).toInt := fun y => z (Int32.toInt_inj.mp y)
    refine y_st (e_210 (84, .iconst 0, 1) (List.mem_of_getElem? (i := 47) rfl)) ⟨rfl, rfl, rfl, rfl⟩ ?_
    refine y_putf (f := (0, 0, 1)) w41.I th0_349.1 (e_210 (85, .putfield 258, 3) (List.mem_of_getElem? (i := 48) rfl)) u_17_258 ⟨rfl, rfl, by decide, rfl, rfl⟩ ⟨_, rfl, by decide, by decide⟩ (fun G42 u42 => ?_)
    have w42 := w41.p u42 (by decide) (y_okI (lo := 0) (hi := 1) rfl (by decide) (by decide))
    refine y_aln (e_210 (88, .aload_n 0, 1) (List.mem_of_getElem? (i := 49) rfl)) g0 ?_
    refine y_getf w42.I th0_349.1 (e_210 (89, .getfield 258, 3) (List.mem_of_getElem? (i := 50) rfl)) u_17_258 ⟨rfl, rfl⟩ ((w42.2 25 (by decide) (by decide)).trans (rfl)) ?_
    refine y_ifc (e_210 (92, .ifCond .ne 11, 3) (List.mem_of_getElem? (i := 51) rfl)) rfl (fun y => absurd y (by decide)) (fun _ => ?_)
    refine y_aln (e_210 (95, .aload_n 0, 1) (List.mem_of_getElem? (i := 52) rfl)) g0 ?_
    refine y_getf w42.I th0_349.1 (e_210 (96, .getfield 268, 3) (List.mem_of_getElem? (i := 53) rfl)) u_17_268 ⟨rfl, rfl⟩ ((w42.2 22 (by decide) (by decide)).trans (rfl)) ?_
    refine y_ifc (e_210 (99, .ifCond .le 4, 3) (List.mem_of_getElem? (i := 54) rfl)) rfl (fun hc => ?_) (fun hc => ?_)
    rotate_left
    · have z1 := y_hI.2.2.2.2.2.2.2.1 hc
      rw [show (0 : Int32).toInt = 0 from rfl] at z1
      exact y_ret (e_210 (102, .return_, 1) (List.mem_of_getElem? (i := 55) rfl)) ⟨rfl, rfl⟩ ⟨rfl, _, w42, fun y => by omega, fun _ y => by omega, fun _ _ => ⟨⟨e21, fun _ => rfl, fun _ => ⟨e23, e24⟩⟩, rfl⟩⟩
    have z1 := y_hI.2.2.2.2.2.2.1 hc
    rw [show (0 : Int32).toInt = 0 from rfl] at z1
    refine y_aln (e_210 (103, .aload_n 0, 1) (List.mem_of_getElem? (i := 56) rfl)) g0 ?_
    refine y_aln (e_210 (104, .aload_n 0, 1) (List.mem_of_getElem? (i := 57) rfl)) g0 ?_
    refine y_getf w42.I th0_349.1 (e_210 (105, .getfield 258, 3) (List.mem_of_getElem? (i := 58) rfl)) u_17_258 ⟨rfl, rfl⟩ ((w42.2 25 (by decide) (by decide)).trans (rfl)) ?_
    refine y_ifc (e_210 (108, .ifCond .eq 12, 3) (List.mem_of_getElem? (i := 59) rfl)) rfl (fun _ => ?_) (fun y => absurd y (by decide))
    refine y_aln (e_210 (120, .aload_n 0, 1) (List.mem_of_getElem? (i := 65) rfl)) g0 ?_
    refine y_getf w42.I th0_349.1 (e_210 (121, .getfield 265, 3) (List.mem_of_getElem? (i := 66) rfl)) u_17_265 ⟨rfl, rfl⟩ ((w42.2 24 (by decide) (by decide)).trans (e24)) ?_
    refine y_putf (f := (0, 0, 3)) w42.I th0_349.1 (e_210 (124, .putfield 262, 3) (List.mem_of_getElem? (i := 67) rfl)) u_17_262 ⟨rfl, rfl, by decide, rfl, rfl⟩ ⟨_, rfl, by dsimp only; omega, by dsimp only; omega⟩ (fun G43 u43 => ?_)
    have w43 := w42.p u43 (by decide) (y_okI (lo := 0) (hi := 3) rfl (by omega) (by omega))
    refine y_aln (e_210 (127, .aload_n 0, 1) (List.mem_of_getElem? (i := 68) rfl)) g0 ?_
    refine y_st (e_210 (128, .iconst 0, 1) (List.mem_of_getElem? (i := 69) rfl)) ⟨rfl, rfl, rfl, rfl⟩ ?_
    refine y_putf (f := (0, -2147483648, 2147483647)) w43.I th0_349.1 (e_210 (129, .putfield 268, 3) (List.mem_of_getElem? (i := 70) rfl)) u_17_268 ⟨rfl, rfl, by decide, rfl, rfl⟩ ⟨_, rfl, (x_i32 _).1, (x_i32 _).2⟩ (fun G44 u44 => ?_)
    have w44 := w43.p u44 (by decide) (y_okA rfl)
    exact y_ret (e_210 (132, .return_, 1) (List.mem_of_getElem? (i := 71) rfl)) ⟨rfl, rfl⟩ ⟨rfl, _, w44, fun _ => ⟨⟨rfl, fun _ => rfl, fun y => absurd y hF2⟩, rfl⟩, fun y => by omega, fun y => by omega⟩
  · have z := congrArg Int32.toInt (y_hI.2.2.2.1 hc)
    refine y_st (e_210 (80, .iconst 1, 1) (List.mem_of_getElem? (i := 45) rfl)) ⟨rfl, rfl, rfl, rfl⟩ ?_
    refine y_st (e_210 (81, .goto 4, 3) (List.mem_of_getElem? (i := 46) rfl)) ⟨rfl, rfl, rfl, rfl⟩ ?_
    refine y_putf (f := (0, 0, 1)) w41.I th0_349.1 (e_210 (85, .putfield 258, 3) (List.mem_of_getElem? (i := 48) rfl)) u_17_258 ⟨rfl, rfl, by decide, rfl, rfl⟩ ⟨_, rfl, by decide, by decide⟩ (fun G42 u42 => ?_)
    have w42 := w41.p u42 (by decide) (y_okI (lo := 0) (hi := 1) rfl (by decide) (by decide))
    refine y_aln (e_210 (88, .aload_n 0, 1) (List.mem_of_getElem? (i := 49) rfl)) g0 ?_
    refine y_getf w42.I th0_349.1 (e_210 (89, .getfield 258, 3) (List.mem_of_getElem? (i := 50) rfl)) u_17_258 ⟨rfl, rfl⟩ ((w42.2 25 (by decide) (by decide)).trans (rfl)) ?_
    refine y_ifc (e_210 (92, .ifCond .ne 11, 3) (List.mem_of_getElem? (i := 51) rfl)) rfl (fun _ => ?_) (fun y => absurd y (by decide))
    refine y_aln (e_210 (103, .aload_n 0, 1) (List.mem_of_getElem? (i := 56) rfl)) g0 ?_
    refine y_aln (e_210 (104, .aload_n 0, 1) (List.mem_of_getElem? (i := 57) rfl)) g0 ?_
    refine y_getf w42.I th0_349.1 (e_210 (105, .getfield 258, 3) (List.mem_of_getElem? (i := 58) rfl)) u_17_258 ⟨rfl, rfl⟩ ((w42.2 25 (by decide) (by decide)).trans (rfl)) ?_
    refine y_ifc (e_210 (108, .ifCond .eq 12, 3) (List.mem_of_getElem? (i := 59) rfl)) rfl (fun y => absurd y (by decide)) (fun _ => ?_)
    refine y_st (e_210 (111, .iconst 1, 1) (List.mem_of_getElem? (i := 60) rfl)) ⟨rfl, rfl, rfl, rfl⟩ ?_
    refine y_aln (e_210 (112, .aload_n 0, 1) (List.mem_of_getElem? (i := 61) rfl)) g0 ?_
    refine y_getf w42.I th0_349.1 (e_210 (113, .getfield 265, 3) (List.mem_of_getElem? (i := 62) rfl)) u_17_265 ⟨rfl, rfl⟩ ((w42.2 24 (by decide) (by decide)).trans (e24)) ?_
    refine y_st (e_210 (116, .isub, 1) (List.mem_of_getElem? (i := 63) rfl)) ⟨rfl, rfl, rfl, rfl⟩ ?_
    refine y_st (e_210 (117, .goto 7, 3) (List.mem_of_getElem? (i := 64) rfl)) ⟨rfl, rfl, rfl, rfl⟩ ?_
    refine y_putf (f := (0, 0, 3)) w42.I th0_349.1 (e_210 (124, .putfield 262, 3) (List.mem_of_getElem? (i := 67) rfl)) u_17_262 ⟨rfl, rfl, by decide, rfl, rfl⟩ ⟨_, rfl, by dsimp only; omega, by dsimp only; omega⟩ (fun G43 u43 => ?_)
    have w43 := w42.p u43 (by decide) (y_okI (lo := 0) (hi := 3) rfl (by omega) (by omega))
    refine y_aln (e_210 (127, .aload_n 0, 1) (List.mem_of_getElem? (i := 68) rfl)) g0 ?_
    refine y_st (e_210 (128, .iconst 0, 1) (List.mem_of_getElem? (i := 69) rfl)) ⟨rfl, rfl, rfl, rfl⟩ ?_
    refine y_putf (f := (0, -2147483648, 2147483647)) w43.I th0_349.1 (e_210 (129, .putfield 268, 3) (List.mem_of_getElem? (i := 70) rfl)) u_17_268 ⟨rfl, rfl, by decide, rfl, rfl⟩ ⟨_, rfl, (x_i32 _).1, (x_i32 _).2⟩ (fun G44 u44 => ?_)
    have w44 := w43.p u44 (by decide) (y_okA rfl)
    exact y_ret (e_210 (132, .return_, 1) (List.mem_of_getElem? (i := 71) rfl)) ⟨rfl, rfl⟩ ⟨rfl, _, w44, fun y => by omega, fun _ _ => ⟨⟨rfl, fun _ => rfl, fun y => absurd y hF1⟩, rfl⟩, fun _ y => by omega⟩
def l_V (s : Int32 × Int32 × Int32 × Int32 × Bool) (g : Nat → Option Value) : Prop := l_U s.1 s.2.1 s.2.2.1 s.2.2.2.1 g ∧ g 25 = some (.int (if s.2.2.2.2 = true then Int32.ofInt 1 else Int32.ofInt 0))
set_option maxHeartbeats 2000000 in
set_option maxRecDepth 100000 in
theorem m_hour {w W C P F h : Int32} (H : l_N S g G) (hR : l_R S) (hU : l_U W C P F g) (hw : 1 ≤ w.toInt) (hI : l_I S W C P F) (h0 : 0 ≤ h.toInt) (h9 : h.toInt ≤ 999) : x_Gd xs L J (d + 2) m_210 (fun r G' => r = none ∧ ∃ g', l_N S g' G' ∧ l_V (l_st S w h W C P F) g') 0 (lv_args 0 [.ref 349, .int w, .int h]) [] G := by
  have g0 : pm_get (lv_args 0 [.ref 349, .int w, .int h]) 0 = some (.ref 349) := rfl
  have g1 : pm_get (lv_args 0 [.ref 349, .int w, .int h]) 1 = some (.int w) := rfl
  have g2 : pm_get (lv_args 0 [.ref 349, .int w, .int h]) 2 = some (.int h) := rfl
  generalize lv_args 0 [.ref 349, .int w, .int h] = lv at g0 g1 g2 ⊢
  obtain ⟨e21, e22, e234⟩ := hU
  have hnp := hR.2.2.1
  refine y_aln (e_210 (0, .aload_n 0, 1) (List.mem_of_getElem? (i := 0) rfl)) g0 ?_
  refine y_st (e_210 (1, .iconst 0, 1) (List.mem_of_getElem? (i := 1) rfl)) ⟨rfl, rfl, rfl, rfl⟩ ?_
  refine y_putf (f := (0, 0, 1)) H.I th0_349.1 (e_210 (2, .putfield 258, 3) (List.mem_of_getElem? (i := 2) rfl)) u_17_258 ⟨rfl, rfl, by decide, rfl, rfl⟩ ⟨_, rfl, by decide, by decide⟩ (fun G41 u41 => ?_)
  have w41 := H.p u41 (by decide) (y_okI (lo := 0) (hi := 1) rfl (by decide) (by decide))
  refine y_aln (e_210 (5, .aload_n 0, 1) (List.mem_of_getElem? (i := 3) rfl)) g0 ?_
  refine y_getf w41.I th0_349.1 (e_210 (6, .getfield 262, 3) (List.mem_of_getElem? (i := 4) rfl)) u_17_262 ⟨rfl, rfl⟩ ((w41.2 21 (by decide) (by decide)).trans (e21)) ?_
  refine y_st (e_210 (9, .iconst 3, 1) (List.mem_of_getElem? (i := 5) rfl)) ⟨rfl, rfl, rfl, rfl⟩ ?_
  by_cases c3 : W = Int32.ofInt 3
  · rw [c3]
    refine y_icm (e_210 (10, .if_icmp .ne 4, 3) (List.mem_of_getElem? (i := 6) rfl)) rfl (fun hc => absurd hc (by decide)) (fun _ => ?_)
    refine y_ret (e_210 (13, .return_, 1) (List.mem_of_getElem? (i := 7) rfl)) ⟨rfl, rfl⟩ ⟨rfl, _, w41, ?_⟩
    unfold l_st
    rw [if_pos rfl]
    exact ⟨⟨by rw [← c3]; exact e21, fun y => absurd rfl y, fun y => absurd (show Int32.ofInt 3 = Int32.ofInt 2 from y) (by decide)⟩, rfl⟩
  refine y_icm (e_210 (10, .if_icmp .ne 4, 3) (List.mem_of_getElem? (i := 6) rfl)) rfl (fun _ => ?_) (fun hc => absurd (y_hI.2.2.2.1 hc) c3)
  refine y_aln (e_210 (14, .aload_n 0, 1) (List.mem_of_getElem? (i := 8) rfl)) g0 ?_
  refine y_getf w41.I th0_349.1 (e_210 (15, .getfield 262, 3) (List.mem_of_getElem? (i := 9) rfl)) u_17_262 ⟨rfl, rfl⟩ ((w41.2 21 (by decide) (by decide)).trans (e21)) ?_
  refine y_st (e_210 (18, .iconst 2, 1) (List.mem_of_getElem? (i := 10) rfl)) ⟨rfl, rfl, rfl, rfl⟩ ?_
  by_cases c2 : W = Int32.ofInt 2
  · obtain ⟨e23, e24⟩ := e234 c2
    obtain ⟨-, hF, p0, p1, hc1, hcl⟩ := ((hI.resolve_left (fun y => by rw [c2] at y; exact absurd y (by decide))).resolve_left (fun y => by rw [c2] at y; exact absurd y (by decide))).resolve_left c3
    have hF2 : F ≠ Int32.ofInt 2 := by rcases hF with rfl | rfl <;> decide
    have hF1 : Int32.ofInt 1 - F ≠ Int32.ofInt 2 := by rcases hF with rfl | rfl <;> decide
    have hlen := hR.2.2.2 P.toInt.toNat (by omega)
    rw [c2]
    refine y_icm (e_210 (19, .if_icmp .ne 114, 3) (List.mem_of_getElem? (i := 11) rfl)) rfl (fun hc => absurd hc (by decide)) (fun _ => ?_)
    refine y_aln (e_210 (22, .aload_n 0, 1) (List.mem_of_getElem? (i := 12) rfl)) g0 ?_
    refine y_aln (e_210 (23, .aload_n 0, 1) (List.mem_of_getElem? (i := 13) rfl)) g0 ?_
    refine y_getf w41.I th0_349.1 (e_210 (24, .getfield 265, 3) (List.mem_of_getElem? (i := 14) rfl)) u_17_265 ⟨rfl, rfl⟩ ((w41.2 24 (by decide) (by decide)).trans (e24)) ?_
    refine y_iln (e_210 (27, .iload_n 2, 1) (List.mem_of_getElem? (i := 15) rfl)) g2 ?_
    refine y_c3 (K' := _) (e_210 (28, .invokevirtual 245, 3) (List.mem_of_getElem? (i := 16) rfl)) ⟨rfl, rfl, rfl⟩ t_17_245 ⟨by decide, by decide, by decide, by decide⟩ m_191_ok rfl (by decide) (y_recv w41.I th0_349.1 ⟨rfl, rfl⟩) (Nat.le_of_ble_eq_true rfl) (Nat.le_of_ble_eq_true rfl) (z_aro (d := d) w41.I th0_349.1 th0_349.2 w41.1.2.1 (w41.1.2.2 6 (by decide)) (w41.1.2.2 7 (by decide)) (w41.1.2.2 8 (by decide)) (w41.1.2.2 9 (by decide)) (w41.1.2.2 12 (by decide)) hR.1 h0 h9) (fun r1 G2 h1 => ?_)
    obtain ⟨rfl, rfl⟩ := h1
    simp only [Option.toList_some, Option.toList_none, List.cons_append, List.nil_append]
    refine y_isn (e_210 (31, .istore_n 3, 1) (List.mem_of_getElem? (i := 17) rfl)) (by decide) ?_
    have g3 : pm_get (pm_put1 lv 3 (.int (l_air S F h))) 3 = some (.int (l_air S F h)) := x_get_self
    replace g0 := y_gpr (i := 3) (w := .int (l_air S F h)) g0 (by decide)
    show x_Gd xs L J _ m_210 _ 32 (pm_put1 lv 3 (.int (l_air S F h))) [] G2
    generalize pm_put1 lv 3 (.int (l_air S F h)) = lv3 at g0 g3 ⊢
    have a3 : l_air S F h = Int32.ofInt 0 ∨ l_air S F h = Int32.ofInt 1 ∨ l_air S F h = Int32.ofInt 2 := z_ar3
    refine y_aln (e_210 (32, .aload_n 0, 1) (List.mem_of_getElem? (i := 18) rfl)) g0 ?_
    refine y_st (e_210 (33, .dup, 1) (List.mem_of_getElem? (i := 19) rfl)) ⟨rfl, rfl, rfl, rfl⟩ ?_
    refine y_getf w41.I th0_349.1 (e_210 (34, .getfield 268, 3) (List.mem_of_getElem? (i := 20) rfl)) u_17_268 ⟨rfl, rfl⟩ ((w41.2 22 (by decide) (by decide)).trans (e22 c3)) ?_
    refine y_iln (e_210 (37, .iload_n 3, 1) (List.mem_of_getElem? (i := 21) rfl)) g3 ?_
    refine y_st (e_210 (38, .iconst 1, 1) (List.mem_of_getElem? (i := 22) rfl)) ⟨rfl, rfl, rfl, rfl⟩ ?_
    rcases a3 with a | a | a
    · rw [a]
      have hC2 := (S (13 + P.toInt.toNat)).toInt_lt
      have ec : (C + Int32.ofInt (0)).toInt = C.toInt + (0) := by rw [Int32.toInt_add, show (Int32.ofInt (0)).toInt = 0 from rfl, Jvm.Kit.bmod32 (by omega) (by omega)]
      refine y_icm (e_210 (39, .if_icmp .ne 7, 3) (List.mem_of_getElem? (i := 23) rfl)) rfl (fun _ => ?_) (fun hc => absurd hc (by decide))
      refine y_iln (e_210 (46, .iload_n 3, 1) (List.mem_of_getElem? (i := 26) rfl)) (by rw [a] at g3; exact g3) ?_
      refine y_st (e_210 (47, .iconst 2, 1) (List.mem_of_getElem? (i := 27) rfl)) ⟨rfl, rfl, rfl, rfl⟩ ?_
      refine y_icm (e_210 (48, .if_icmp .ne 7, 3) (List.mem_of_getElem? (i := 28) rfl)) rfl (fun _ => ?_) (fun hc => absurd hc (by decide))
      refine y_st (e_210 (55, .iconst 0, 1) (List.mem_of_getElem? (i := 31) rfl)) ⟨rfl, rfl, rfl, rfl⟩ ?_
      refine (m_in56 (D := Int32.ofInt 0) w41 (by show g 21 = _; rw [← c2]; exact e21) e23 e24 p0 (by omega) hF hF2 hF1 hlen (by omega) g0).mono (fun r G' z => ?_)
      obtain ⟨rfl, g', w2, k1, k2, k3⟩ := z
      refine ⟨rfl, g', w2, ?_⟩
      unfold l_st
      rw [if_neg (by decide), if_pos rfl, if_pos (show l_air S F h = 0 from a)]
      have ecc : C + Int32.ofInt 0 = C := Int32.toInt_inj.mp (by omega)
      rw [ecc] at k3
      exact k3 (by omega) (by omega)
    · rw [a]
      have hC2 := (S (13 + P.toInt.toNat)).toInt_lt
      have ec : (C + Int32.ofInt (1)).toInt = C.toInt + (1) := by rw [Int32.toInt_add, show (Int32.ofInt (1)).toInt = 1 from rfl, Jvm.Kit.bmod32 (by omega) (by omega)]
      refine y_icm (e_210 (39, .if_icmp .ne 7, 3) (List.mem_of_getElem? (i := 23) rfl)) rfl (fun hc => absurd hc (by decide)) (fun _ => ?_)
      refine y_st (e_210 (42, .iconst 1, 1) (List.mem_of_getElem? (i := 24) rfl)) ⟨rfl, rfl, rfl, rfl⟩ ?_
      refine y_st (e_210 (43, .goto 13, 3) (List.mem_of_getElem? (i := 25) rfl)) ⟨rfl, rfl, rfl, rfl⟩ ?_
      refine (m_in56 (D := Int32.ofInt 1) w41 (by show g 21 = _; rw [← c2]; exact e21) e23 e24 p0 (by omega) hF hF2 hF1 hlen (by omega) g0).mono (fun r G' z => ?_)
      obtain ⟨rfl, g', w2, k1, k2, k3⟩ := z
      refine ⟨rfl, g', w2, ?_⟩
      unfold l_st
      have za : l_air S F h ≠ 0 := by rw [a]; decide
      rw [if_neg (by decide), if_pos rfl, if_neg za]
      rw [if_pos a]
      by_cases y1 : (C + Int32.ofInt (1)).toInt ≤ 0
      · rw [if_pos y1]
        exact k1 y1
      · rw [if_neg y1]
        by_cases y2 : (S (13 + P.toInt.toNat)).toInt ≤ (C + Int32.ofInt (1)).toInt
        · rw [if_pos y2]
          exact k2 (by omega) y2
        · rw [if_neg y2]
          exact k3 (by omega) (by omega)
    · rw [a]
      have hC2 := (S (13 + P.toInt.toNat)).toInt_lt
      have ec : (C + Int32.ofInt (-1)).toInt = C.toInt + (-1) := by rw [Int32.toInt_add, show (Int32.ofInt (-1)).toInt = -1 from rfl, Jvm.Kit.bmod32 (by omega) (by omega)]
      refine y_icm (e_210 (39, .if_icmp .ne 7, 3) (List.mem_of_getElem? (i := 23) rfl)) rfl (fun _ => ?_) (fun hc => absurd hc (by decide))
      refine y_iln (e_210 (46, .iload_n 3, 1) (List.mem_of_getElem? (i := 26) rfl)) (by rw [a] at g3; exact g3) ?_
      refine y_st (e_210 (47, .iconst 2, 1) (List.mem_of_getElem? (i := 27) rfl)) ⟨rfl, rfl, rfl, rfl⟩ ?_
      refine y_icm (e_210 (48, .if_icmp .ne 7, 3) (List.mem_of_getElem? (i := 28) rfl)) rfl (fun hc => absurd hc (by decide)) (fun _ => ?_)
      refine y_st (e_210 (51, .iconst (-1), 1) (List.mem_of_getElem? (i := 29) rfl)) ⟨rfl, rfl, rfl, rfl⟩ ?_
      refine y_st (e_210 (52, .goto 4, 3) (List.mem_of_getElem? (i := 30) rfl)) ⟨rfl, rfl, rfl, rfl⟩ ?_
      refine (m_in56 (D := Int32.ofInt (-1)) w41 (by show g 21 = _; rw [← c2]; exact e21) e23 e24 p0 (by omega) hF hF2 hF1 hlen (by omega) g0).mono (fun r G' z => ?_)
      obtain ⟨rfl, g', w2, k1, k2, k3⟩ := z
      refine ⟨rfl, g', w2, ?_⟩
      unfold l_st
      have za : l_air S F h ≠ 0 := by rw [a]; decide
      rw [if_neg (by decide), if_pos rfl, if_neg za]
      rw [if_neg (show ¬ l_air S F h = Int32.ofInt 1 by rw [a]; decide)]
      by_cases y1 : (C + Int32.ofInt (-1)).toInt ≤ 0
      · rw [if_pos y1]
        exact k1 y1
      · rw [if_neg y1]
        by_cases y2 : (S (13 + P.toInt.toNat)).toInt ≤ (C + Int32.ofInt (-1)).toInt
        · rw [if_pos y2]
          exact k2 (by omega) y2
        · rw [if_neg y2]
          exact k3 (by omega) (by omega)
  have hW : W = 0 ∨ W = 1 := by
    rcases hI with y | y | y | y
    · exact Or.inl y
    · exact Or.inr y
    · exact absurd y c3
    · exact absurd y.1 c2
  have rW : 0 ≤ W.toInt ∧ W.toInt ≤ 1 := by rcases hW with rfl | rfl <;> decide
  have hw0 : w ≠ 0 := fun z => by rw [z] at hw; exact absurd hw (by decide)
  refine y_icm (e_210 (19, .if_icmp .ne 114, 3) (List.mem_of_getElem? (i := 11) rfl)) rfl (fun _ => ?_) (fun hc => absurd (y_hI.2.2.2.1 hc) c2)
  refine y_aln (e_210 (133, .aload_n 0, 1) (List.mem_of_getElem? (i := 72) rfl)) g0 ?_
  refine y_aln (e_210 (134, .aload_n 0, 1) (List.mem_of_getElem? (i := 73) rfl)) g0 ?_
  refine y_getf w41.I th0_349.1 (e_210 (135, .getfield 262, 3) (List.mem_of_getElem? (i := 74) rfl)) u_17_262 ⟨rfl, rfl⟩ ((w41.2 21 (by decide) (by decide)).trans (e21)) ?_
  refine y_iln (e_210 (138, .iload_n 2, 1) (List.mem_of_getElem? (i := 75) rfl)) g2 ?_
  refine y_c3 (K' := _) (e_210 (139, .invokevirtual 245, 3) (List.mem_of_getElem? (i := 76) rfl)) ⟨rfl, rfl, rfl⟩ t_17_245 ⟨by decide, by decide, by decide, by decide⟩ m_191_ok rfl (by decide) (y_recv w41.I th0_349.1 ⟨rfl, rfl⟩) (Nat.le_of_ble_eq_true rfl) (Nat.le_of_ble_eq_true rfl) (z_aro (d := d) w41.I th0_349.1 th0_349.2 w41.1.2.1 (w41.1.2.2 6 (by decide)) (w41.1.2.2 7 (by decide)) (w41.1.2.2 8 (by decide)) (w41.1.2.2 9 (by decide)) (w41.1.2.2 12 (by decide)) hR.1 h0 h9) (fun r1 G2 h1 => ?_)
  obtain ⟨rfl, rfl⟩ := h1
  simp only [Option.toList_some, Option.toList_none, List.cons_append, List.nil_append]
  refine y_isn (e_210 (142, .istore_n 3, 1) (List.mem_of_getElem? (i := 77) rfl)) (by decide) ?_
  have g3 : pm_get (pm_put1 lv 3 (.int (l_air S W h))) 3 = some (.int (l_air S W h)) := x_get_self
  replace g0 := y_gpr (i := 3) (w := .int (l_air S W h)) g0 (by decide)
  replace g1 := y_gpi (i := 3) (w := .int (l_air S W h)) g1 (by decide)
  show x_Gd xs L J _ m_210 _ 143 (pm_put1 lv 3 (.int (l_air S W h))) [] G2
  generalize pm_put1 lv 3 (.int (l_air S W h)) = lv3 at g0 g1 g3 ⊢
  refine y_aln (e_210 (143, .aload_n 0, 1) (List.mem_of_getElem? (i := 78) rfl)) g0 ?_
  refine y_aln (e_210 (144, .aload_n 0, 1) (List.mem_of_getElem? (i := 79) rfl)) g0 ?_
  refine y_getf w41.I th0_349.1 (e_210 (145, .getfield 268, 3) (List.mem_of_getElem? (i := 80) rfl)) u_17_268 ⟨rfl, rfl⟩ ((w41.2 22 (by decide) (by decide)).trans (e22 c3)) ?_
  refine y_c2 (K' := _) (e_210 (148, .invokevirtual 251, 3) (List.mem_of_getElem? (i := 81) rfl)) ⟨rfl, rfl, rfl⟩ t_17_251 ⟨by decide, by decide, by decide, by decide⟩ m_195_ok rfl (by decide) (y_recv w41.I th0_349.1 ⟨rfl, rfl⟩) (Nat.le_of_ble_eq_true rfl) (Nat.le_of_ble_eq_true rfl) (z_fat w41.I th0_349.1 th0_349.2 w41.1.2.1 hR.2.1 (w41.1.2.2 10 (by decide)) (w41.1.2.2 11 (by decide))) (fun r1 G3 h1 => ?_)
  obtain ⟨rfl, rfl⟩ := h1
  simp only [Option.toList_some, Option.toList_none, List.cons_append, List.nil_append]
  refine y_iln (e_210 (151, .iload_n 1, 1) (List.mem_of_getElem? (i := 82) rfl)) g1 ?_
  refine y_idv (e_210 (152, .idiv, 1) (List.mem_of_getElem? (i := 83) rfl)) hw0 ?_
  refine y_is (e_210 (153, .istore 4, 2) (List.mem_of_getElem? (i := 84) rfl)) (by decide) ?_
  have g4 : pm_get (pm_put1 lv3 4 (.int (l_fc S C / w))) 4 = some (.int (l_fc S C / w)) := x_get_self
  replace g0 := y_gpr (i := 4) (w := .int (l_fc S C / w)) g0 (by decide)
  replace g1 := y_gpi (i := 4) (w := .int (l_fc S C / w)) g1 (by decide)
  replace g3 := y_gpi (i := 4) (w := .int (l_fc S C / w)) g3 (by decide)
  show x_Gd xs L J _ m_210 _ 155 (pm_put1 lv3 4 (.int (l_fc S C / w))) [] G3
  generalize pm_put1 lv3 4 (.int (l_fc S C / w)) = lv4 at g0 g1 g3 g4 ⊢
  have hf0 : 0 ≤ (l_fc S C / w).toInt := l_dv0 l_fc0 hw
  have a3 : l_air S W h = Int32.ofInt 0 ∨ l_air S W h = Int32.ofInt 1 ∨ l_air S W h = Int32.ofInt 2 := z_ar3
  refine y_iln (e_210 (155, .iload_n 3, 1) (List.mem_of_getElem? (i := 85) rfl)) g3 ?_
  refine y_st (e_210 (156, .iconst 2, 1) (List.mem_of_getElem? (i := 86) rfl)) ⟨rfl, rfl, rfl, rfl⟩ ?_
  rcases a3 with a | a | a
  · refine y_icm (e_210 (157, .if_icmp .ne 45, 3) (List.mem_of_getElem? (i := 87) rfl)) rfl (fun _ => ?_) (fun hc => absurd (y_hI.2.2.2.1 hc) (by rw [a]; decide))
    refine y_iln (e_210 (202, .iload_n 3, 1) (List.mem_of_getElem? (i := 111) rfl)) g3 ?_
    refine y_st (e_210 (203, .iconst 1, 1) (List.mem_of_getElem? (i := 112) rfl)) ⟨rfl, rfl, rfl, rfl⟩ ?_
    refine y_icm (e_210 (204, .if_icmp .ne 37, 3) (List.mem_of_getElem? (i := 113) rfl)) rfl (fun _ => ?_) (fun hc => absurd (y_hI.2.2.2.1 hc) (by rw [a]; decide))
    refine y_iln (e_210 (241, .iload_n 3, 1) (List.mem_of_getElem? (i := 130) rfl)) g3 ?_
    refine y_st (e_210 (242, .iconst 1, 1) (List.mem_of_getElem? (i := 131) rfl)) ⟨rfl, rfl, rfl, rfl⟩ ?_
    refine y_icm (e_210 (243, .if_icmp .ne 13, 3) (List.mem_of_getElem? (i := 132) rfl)) rfl (fun _ => ?_) (fun hc => absurd (y_hI.2.2.2.1 hc) (by rw [a]; decide))
    refine y_ret (e_210 (256, .return_, 1) (List.mem_of_getElem? (i := 138) rfl)) ⟨rfl, rfl⟩ ⟨rfl, _, w41, ?_⟩
    unfold l_st
    rw [if_neg c3, if_neg c2, if_pos (show l_air S W h = 0 from a)]
    exact ⟨⟨e21, e22, fun y => absurd y c2⟩, rfl⟩
  · refine y_icm (e_210 (157, .if_icmp .ne 45, 3) (List.mem_of_getElem? (i := 87) rfl)) rfl (fun _ => ?_) (fun hc => absurd (y_hI.2.2.2.1 hc) (by rw [a]; decide))
    refine y_iln (e_210 (202, .iload_n 3, 1) (List.mem_of_getElem? (i := 111) rfl)) g3 ?_
    refine y_st (e_210 (203, .iconst 1, 1) (List.mem_of_getElem? (i := 112) rfl)) ⟨rfl, rfl, rfl, rfl⟩ ?_
    refine y_icm (e_210 (204, .if_icmp .ne 37, 3) (List.mem_of_getElem? (i := 113) rfl)) rfl (fun hc => absurd a (y_hI.2.2.1 hc)) (fun _ => ?_)
    refine y_aln (e_210 (207, .aload_n 0, 1) (List.mem_of_getElem? (i := 114) rfl)) g0 ?_
    refine y_getf w41.I th0_349.1 (e_210 (208, .getfield 268, 3) (List.mem_of_getElem? (i := 115) rfl)) u_17_268 ⟨rfl, rfl⟩ ((w41.2 22 (by decide) (by decide)).trans (e22 c3)) ?_
    refine y_ifc (e_210 (211, .ifCond .le 30, 3) (List.mem_of_getElem? (i := 116) rfl)) rfl (fun hc => ?_) (fun hc => ?_)
    rotate_left
    · have z := y_hI.2.2.2.2.2.2.2.1 hc
      rw [show (0 : Int32).toInt = 0 from rfl] at z
      refine y_aln (e_210 (214, .aload_n 0, 1) (List.mem_of_getElem? (i := 117) rfl)) g0 ?_
      refine y_aln (e_210 (215, .aload_n 0, 1) (List.mem_of_getElem? (i := 118) rfl)) g0 ?_
      refine y_getf w41.I th0_349.1 (e_210 (216, .getfield 268, 3) (List.mem_of_getElem? (i := 119) rfl)) u_17_268 ⟨rfl, rfl⟩ ((w41.2 22 (by decide) (by decide)).trans (e22 c3)) ?_
      refine y_il (e_210 (219, .iload 4, 2) (List.mem_of_getElem? (i := 120) rfl)) g4 ?_
      refine y_icm (e_210 (221, .if_icmp .ge 7, 3) (List.mem_of_getElem? (i := 121) rfl)) rfl (fun hc => ?_) (fun hc => ?_)
      · have z2 := y_hI.2.2.2.2.1 hc
        refine y_aln (e_210 (228, .aload_n 0, 1) (List.mem_of_getElem? (i := 124) rfl)) g0 ?_
        refine y_getf w41.I th0_349.1 (e_210 (229, .getfield 268, 3) (List.mem_of_getElem? (i := 125) rfl)) u_17_268 ⟨rfl, rfl⟩ ((w41.2 22 (by decide) (by decide)).trans (e22 c3)) ?_
        refine y_il (e_210 (232, .iload 4, 2) (List.mem_of_getElem? (i := 126) rfl)) g4 ?_
        refine y_st (e_210 (234, .isub, 1) (List.mem_of_getElem? (i := 127) rfl)) ⟨rfl, rfl, rfl, rfl⟩ ?_
        refine y_putf (f := (0, -2147483648, 2147483647)) w41.I th0_349.1 (e_210 (235, .putfield 268, 3) (List.mem_of_getElem? (i := 128) rfl)) u_17_268 ⟨rfl, rfl, by decide, rfl, rfl⟩ ⟨_, rfl, (x_i32 _).1, (x_i32 _).2⟩ (fun G42 u42 => ?_)
        have w42 := w41.p u42 (by decide) (y_okA rfl)
        refine y_st (e_210 (238, .goto 18, 3) (List.mem_of_getElem? (i := 129) rfl)) ⟨rfl, rfl, rfl, rfl⟩ ?_
        refine y_ret (e_210 (256, .return_, 1) (List.mem_of_getElem? (i := 138) rfl)) ⟨rfl, rfl⟩ ⟨rfl, _, w42, ?_⟩
        unfold l_st
        rw [if_neg c3, if_neg c2, if_neg (by rw [a]; decide), if_neg (by rw [a]; decide)]
        rw [if_pos z, if_neg (by omega)]
        exact ⟨⟨e21, fun _ => rfl, fun y => absurd y c2⟩, rfl⟩
      · have z2 := y_hI.2.2.2.2.2.1 hc
        refine y_st (e_210 (224, .iconst 0, 1) (List.mem_of_getElem? (i := 122) rfl)) ⟨rfl, rfl, rfl, rfl⟩ ?_
        refine y_st (e_210 (225, .goto 10, 3) (List.mem_of_getElem? (i := 123) rfl)) ⟨rfl, rfl, rfl, rfl⟩ ?_
        refine y_putf (f := (0, -2147483648, 2147483647)) w41.I th0_349.1 (e_210 (235, .putfield 268, 3) (List.mem_of_getElem? (i := 128) rfl)) u_17_268 ⟨rfl, rfl, by decide, rfl, rfl⟩ ⟨_, rfl, (x_i32 _).1, (x_i32 _).2⟩ (fun G42 u42 => ?_)
        have w42 := w41.p u42 (by decide) (y_okA rfl)
        refine y_st (e_210 (238, .goto 18, 3) (List.mem_of_getElem? (i := 129) rfl)) ⟨rfl, rfl, rfl, rfl⟩ ?_
        refine y_ret (e_210 (256, .return_, 1) (List.mem_of_getElem? (i := 138) rfl)) ⟨rfl, rfl⟩ ⟨rfl, _, w42, ?_⟩
        unfold l_st
        rw [if_neg c3, if_neg c2, if_neg (by rw [a]; decide), if_neg (by rw [a]; decide)]
        rw [if_pos z, if_pos z2]
        exact ⟨⟨e21, fun _ => rfl, fun y => absurd y c2⟩, rfl⟩
    have z := y_hI.2.2.2.2.2.2.1 hc
    rw [show (0 : Int32).toInt = 0 from rfl] at z
    refine y_iln (e_210 (241, .iload_n 3, 1) (List.mem_of_getElem? (i := 130) rfl)) g3 ?_
    refine y_st (e_210 (242, .iconst 1, 1) (List.mem_of_getElem? (i := 131) rfl)) ⟨rfl, rfl, rfl, rfl⟩ ?_
    refine y_icm (e_210 (243, .if_icmp .ne 13, 3) (List.mem_of_getElem? (i := 132) rfl)) rfl (fun hc => absurd a (y_hI.2.2.1 hc)) (fun _ => ?_)
    refine y_il (e_210 (246, .iload 4, 2) (List.mem_of_getElem? (i := 133) rfl)) g4 ?_
    refine y_ifc (e_210 (248, .ifCond .le 8, 3) (List.mem_of_getElem? (i := 134) rfl)) rfl (fun hc => ?_) (fun hc => ?_)
    · have z2 := y_hI.2.2.2.2.2.2.1 hc
      rw [show (0 : Int32).toInt = 0 from rfl] at z2
      refine y_ret (e_210 (256, .return_, 1) (List.mem_of_getElem? (i := 138) rfl)) ⟨rfl, rfl⟩ ⟨rfl, _, w41, ?_⟩
      unfold l_st
      rw [if_neg c3, if_neg c2, if_neg (by rw [a]; decide), if_neg (by rw [a]; decide)]
      rw [if_neg (by omega), if_neg (fun y => by omega)]
      exact ⟨⟨e21, e22, fun y => absurd y c2⟩, rfl⟩
    have z2 := y_hI.2.2.2.2.2.2.2.1 hc
    rw [show (0 : Int32).toInt = 0 from rfl] at z2
    refine y_aln (e_210 (251, .aload_n 0, 1) (List.mem_of_getElem? (i := 135) rfl)) g0 ?_
    refine y_iln (e_210 (252, .iload_n 1, 1) (List.mem_of_getElem? (i := 136) rfl)) g1 ?_
    refine y_c2 (K' := _) (e_210 (253, .invokevirtual 274, 3) (List.mem_of_getElem? (i := 137) rfl)) ⟨rfl, rfl, rfl⟩ t_17_274 ⟨by decide, by decide, by decide, by decide⟩ m_211_ok rfl (by decide) (y_recv w41.I th0_349.1 ⟨rfl, rfl⟩) (Nat.le_of_ble_eq_true rfl) (Nat.le_of_ble_eq_true rfl) (m_goes (W := W) w41 hR e21 rW) (fun r1 G4 h1 => ?_)
    obtain ⟨rfl, g', w4, k25, k1, k2⟩ := h1
    simp only [Option.toList_some, Option.toList_none, List.cons_append, List.nil_append]
    refine y_ret (e_210 (256, .return_, 1) (List.mem_of_getElem? (i := 138) rfl)) ⟨rfl, rfl⟩ ⟨rfl, g', w4, ?_⟩
    unfold l_st
    rw [if_neg c3, if_neg c2, if_neg (by rw [a]; decide), if_neg (by rw [a]; decide)]
    rw [if_neg (by omega)]
    by_cases y : l_pf S w (S 2).toInt.toNat 0 < (S 2).toInt.toNat
    · rw [if_pos ⟨z2, y⟩]
      exact ⟨k1 y, k25 25 rfl⟩
    · rw [if_neg (fun x => y x.2)]
      rw [k2 y]
      exact ⟨⟨e21, e22, fun y => absurd y c2⟩, rfl⟩
  · refine y_icm (e_210 (157, .if_icmp .ne 45, 3) (List.mem_of_getElem? (i := 87) rfl)) rfl (fun hc => absurd a (y_hI.2.2.1 hc)) (fun _ => ?_)
    refine y_aln (e_210 (160, .aload_n 0, 1) (List.mem_of_getElem? (i := 88) rfl)) g0 ?_
    refine y_st (e_210 (161, .dup, 1) (List.mem_of_getElem? (i := 89) rfl)) ⟨rfl, rfl, rfl, rfl⟩ ?_
    refine y_getf w41.I th0_349.1 (e_210 (162, .getfield 268, 3) (List.mem_of_getElem? (i := 90) rfl)) u_17_268 ⟨rfl, rfl⟩ ((w41.2 22 (by decide) (by decide)).trans (e22 c3)) ?_
    refine y_il (e_210 (165, .iload 4, 2) (List.mem_of_getElem? (i := 91) rfl)) g4 ?_
    refine y_st (e_210 (167, .iadd, 1) (List.mem_of_getElem? (i := 92) rfl)) ⟨rfl, rfl, rfl, rfl⟩ ?_
    refine y_putf (f := (0, -2147483648, 2147483647)) w41.I th0_349.1 (e_210 (168, .putfield 268, 3) (List.mem_of_getElem? (i := 93) rfl)) u_17_268 ⟨rfl, rfl, by decide, rfl, rfl⟩ ⟨_, rfl, (x_i32 _).1, (x_i32 _).2⟩ (fun G42 u42 => ?_)
    have w42 := w41.p u42 (by decide) (y_okA rfl)
    refine y_aln (e_210 (171, .aload_n 0, 1) (List.mem_of_getElem? (i := 94) rfl)) g0 ?_
    refine y_getf w42.I th0_349.1 (e_210 (172, .getfield 268, 3) (List.mem_of_getElem? (i := 95) rfl)) u_17_268 ⟨rfl, rfl⟩ ((w42.2 22 (by decide) (by decide)).trans (rfl)) ?_
    refine y_aln (e_210 (175, .aload_n 0, 1) (List.mem_of_getElem? (i := 96) rfl)) g0 ?_
    refine y_getf w42.I th0_349.1 (e_210 (176, .getfield 33, 3) (List.mem_of_getElem? (i := 97) rfl)) u_17_33 ⟨rfl, rfl⟩ w42.1.2.1 ?_
    refine y_st (e_210 (179, .iconst 0, 1) (List.mem_of_getElem? (i := 98) rfl)) ⟨rfl, rfl, rfl, rfl⟩ ?_
    refine y_aln (e_210 (180, .aload_n 0, 1) (List.mem_of_getElem? (i := 99) rfl)) g0 ?_
    refine y_getf w42.I th0_349.1 (e_210 (181, .getfield 262, 3) (List.mem_of_getElem? (i := 100) rfl)) u_17_262 ⟨rfl, rfl⟩ ((w42.2 21 (by decide) (by decide)).trans (e21)) ?_
    refine y_st (e_210 (184, .iadd, 1) (List.mem_of_getElem? (i := 101) rfl)) ⟨rfl, rfl, rfl, rfl⟩ ?_
    have ev : Int32.ofInt 0 + W = W := by rw [show Int32.ofInt 0 = 0 from rfl, Int32.zero_add]
    rw [ev]
    refine y_iald w42.I th0_349.2 (e_210 (185, .iaload, 1) (List.mem_of_getElem? (i := 102) rfl)) ⟨rfl, rfl⟩ rW.1 (w42.1.2.2 W.toInt.toNat (by omega)) ?_
    refine y_icm (e_210 (186, .if_icmp .lt 70, 3) (List.mem_of_getElem? (i := 103) rfl)) rfl (fun hc => ?_) (fun hc => ?_)
    · have z := y_hI.2.2.2.2.2.2.2.2.1 hc
      refine y_ret (e_210 (256, .return_, 1) (List.mem_of_getElem? (i := 138) rfl)) ⟨rfl, rfl⟩ ⟨rfl, _, w42, ?_⟩
      unfold l_st
      rw [if_neg c3, if_neg c2, if_neg (by rw [a]; decide), if_pos a]
      rw [if_neg (by omega)]
      exact ⟨⟨e21, fun _ => rfl, fun y => absurd y c2⟩, rfl⟩
    have z := y_hI.2.2.2.2.2.2.2.2.2.1 hc
    refine y_aln (e_210 (189, .aload_n 0, 1) (List.mem_of_getElem? (i := 104) rfl)) g0 ?_
    refine y_st (e_210 (190, .iconst 3, 1) (List.mem_of_getElem? (i := 105) rfl)) ⟨rfl, rfl, rfl, rfl⟩ ?_
    refine y_putf (f := (0, 0, 3)) w42.I th0_349.1 (e_210 (191, .putfield 262, 3) (List.mem_of_getElem? (i := 106) rfl)) u_17_262 ⟨rfl, rfl, by decide, rfl, rfl⟩ ⟨_, rfl, by decide, by decide⟩ (fun G43 u43 => ?_)
    have w43 := w42.p u43 (by decide) (y_okI (lo := 0) (hi := 3) rfl (by decide) (by decide))
    refine y_aln (e_210 (194, .aload_n 0, 1) (List.mem_of_getElem? (i := 107) rfl)) g0 ?_
    refine y_st (e_210 (195, .iconst 0, 1) (List.mem_of_getElem? (i := 108) rfl)) ⟨rfl, rfl, rfl, rfl⟩ ?_
    refine y_putf (f := (0, -2147483648, 2147483647)) w43.I th0_349.1 (e_210 (196, .putfield 268, 3) (List.mem_of_getElem? (i := 109) rfl)) u_17_268 ⟨rfl, rfl, by decide, rfl, rfl⟩ ⟨_, rfl, (x_i32 _).1, (x_i32 _).2⟩ (fun G44 u44 => ?_)
    have w44 := w43.p u44 (by decide) (y_okA rfl)
    refine y_st (e_210 (199, .goto 57, 3) (List.mem_of_getElem? (i := 110) rfl)) ⟨rfl, rfl, rfl, rfl⟩ ?_
    refine y_ret (e_210 (256, .return_, 1) (List.mem_of_getElem? (i := 138) rfl)) ⟨rfl, rfl⟩ ⟨rfl, _, w44, ?_⟩
    unfold l_st
    rw [if_neg c3, if_neg c2, if_neg (by rw [a]; decide), if_pos a]
    rw [if_pos z]
    exact ⟨⟨rfl, fun y => absurd rfl y, fun y => absurd (show Int32.ofInt 3 = Int32.ofInt 2 from y) (by decide)⟩, rfl⟩
end LM
