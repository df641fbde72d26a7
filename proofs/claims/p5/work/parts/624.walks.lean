def m_208 : pM := (⟨"BreathingHillModel", "hour", "()V"⟩, 1661, 2, none, 17, 0, false, 10, 103, 1660, 65)
theorem m_208_ok : pm_tab[208]? = some m_208 := rfl
theorem e_208 : ∀ q ∈ d_208, decode m_208.code q.1 = .ok (q.2.1, q.2.2) := y_dec d_208_ok m_208_ok
def d_207 : xD := [(0, .aload_n 0, 1), (1, .getfield 33, 3), (4, .sipush 135, 3), (7, .iload_n 1, 1), (8, .iadd, 1), (9, .iaload, 1), (10, .iload_n 2, 1), (11, .if_icmp .eq 65, 3), (14, .aload_n 0, 1), (15, .getfield 33, 3), (18, .sipush 135, 3), (21, .iload_n 1, 1), (22, .iadd, 1), (23, .aload_n 0, 1), (24, .aload_n 0, 1), (25, .getfield 33, 3), (28, .bipush 73, 2), (30, .iload_n 1, 1), (31, .iadd, 1), (32, .iaload, 1), (33, .aload_n 0, 1), (34, .getfield 33, 3), (37, .sipush 135, 3), (40, .iload_n 1, 1), (41, .iadd, 1), (42, .iaload, 1), (43, .iload_n 2, 1), (44, .aload_n 0, 1), (45, .getfield 33, 3), (48, .bipush 81, 2), (50, .iaload, 1), (51, .invokevirtual 293, 3), (54, .iastore, 1), (55, .aload_n 0, 1), (56, .getfield 33, 3), (59, .sipush 139, 3), (62, .iload_n 1, 1), (63, .iadd, 1), (64, .dup2, 1), (65, .iaload, 1), (66, .iconst 1, 1), (67, .iadd, 1), (68, .iastore, 1), (69, .aload_n 0, 1), (70, .invokevirtual 287, 3), (73, .goto (-73), 3), (76, .return_, 1)]
set_option maxRecDepth 100000 in
theorem d_207_ok : x_dchk 207 d_207 = true := by decide +kernel
def m_207 : pM := (⟨"BreathingHillModel", "walks", "(II)V"⟩, 1657, 3, none, 17, 2, false, 10, 103, 1656, 64)
theorem m_207_ok : pm_tab[207]? = some m_207 := rfl
theorem e_207 : ∀ q ∈ d_207, decode m_207.code q.1 = .ok (q.2.1, q.2.2) := y_dec d_207_ok m_207_ok
def y_out (E : List (Nat × Nat × Nat)) (t i : Nat) : Bool := E.all (fun q => !(q.1 == t && decide (q.2.1 ≤ i) && decide (i ≤ q.2.2)))
theorem x_eff.at {th : List Nat} {E : List (Nat × Nat × Nat)} {G G' : List pE} (he : x_eff th E G G') {k t i : Nat} (hk : th[k]? = some t) (h : y_out E t i = true) : x_sl G' k i = x_sl G k i := by
  refine he k t i hk (fun q hq hh => ?_)
  have := List.all_eq_true.mp h q hq
  simp only [Bool.not_eq_true', Bool.and_eq_false_iff, beq_eq_false_iff_ne, decide_eq_false_iff_not] at this
  omega
def y_v (l : List Int) (i : Nat) : Int := l.getD i 0
theorem y_v_Bd {l : List Int} (h : ∀ x ∈ l, -2147483648 ≤ x ∧ x ≤ 2147483647) : x_Bd (y_v l) := by
  intro i
  unfold y_v
  rw [List.getD_eq_getElem?_getD]
  cases hi : l[i]? with
  | none => exact ⟨by decide, by decide⟩
  | some x => exact h x (List.mem_of_getElem? hi)
theorem y_V.upd {th : List Nat} {G G1 : List pE} {a b i : Nat} {f : Nat → Int32} {x : Int32} (h : y_V th G a b f) (u : x_upd G G1 b i (.int x)) (hx : ∀ f', x_at (x_tb 36).2.2.2 i = some f' → xf_ok th f' (.int x)) : y_V th G1 a b (fun j => if j = i then x else f j) := by
  obtain ⟨hI, ta, s6, tb, hs⟩ := h
  have hab : a ≠ b := fun h => by rw [h, tb] at ta; cases ta
  refine ⟨hI.upd u tb hx, ta, ?_, tb, fun j hj => ?_⟩
  · rw [u.2.1]
    rw [if_neg (fun z => hab z.1)]
    exact s6
  · rw [u.2.1]
    by_cases hji : j = i
    · rw [if_pos ⟨rfl, hji⟩]
      dsimp only
      rw [if_pos hji]
    · rw [if_neg (fun z => hji z.2)]
      dsimp only
      rw [if_neg hji]
      exact hs j hj
theorem y_any : ∀ i, i < 8 → x_at (x_tb 36).2.2.2 (135 + i) = some (0, -2147483648, 2147483647) := by decide
theorem y_okany {th : List Nat} {i : Nat} {x : Int32} (h1 : 135 ≤ i) (h2 : i ≤ 142) : ∀ f', x_at (x_tb 36).2.2.2 i = some f' → xf_ok th f' (.int x) := by
  intro f' h
  rw [show i = 135 + (i - 135) by omega, y_any (i - 135) (by omega)] at h
  cases h
  obtain ⟨h3, h4⟩ := x_i32 x
  exact ⟨x, rfl, h3, h4⟩
theorem y_cellB {th : List Nat} {G : List pE} {a t : Nat} (hI : xI x_tb th G) (ta : th[a]? = some t) : -2147483648 ≤ (a : Int) ∧ (a : Int) ≤ 2147483647 := by
  have := (hI.cell ta).1
  unfold pm_TB at this
  omega
def E_hour : List (Nat × Nat × Nat) := [(10, 21, 25), (36, 81, 121), (36, 123, 134), (1000, 0, 0)]
def E_walks : List (Nat × Nat × Nat) := [(36, 135, 142), (10, 21, 25), (36, 81, 121), (36, 123, 134), (1000, 0, 0)]
set_option maxHeartbeats 2000000 in
set_option maxRecDepth 100000 in
theorem g_walks {th : List Nat} {xs : Nat → Int32} {L J d a : Nat} {m to : Int32} (hm : 0 ≤ m.toInt ∧ m.toInt ≤ 3) (hd : 255 ≤ d + 4) : ∀ (n b : Nat) (f : Nat → Int32) (G : List pE), y_V th G a b f → x_Q th G → w_r f (f (73 + m.toInt.toNat)) to n (f (135 + m.toInt.toNat)) (f 81) → x_Gd xs L J (d + 5) m_207 (fun r G' => r = none ∧ xI x_tb th G' ∧ x_eff th E_walks G G') 0 [(0, .ref a), (1, .int m), (2, .int to)] [] G := by
  intro n
  induction n with
  | zero =>
    intro b f G hV hQ hw
    obtain ⟨hI, ta, s6, tb, hs⟩ := id hV
    obtain ⟨j1, j2, j3⟩ := hV.at (c := 135) y_i135 (m := m) (by omega) (by decide)
    refine y_aln (e_207 (0, .aload_n 0, 1) (List.mem_of_getElem? (i := 0) rfl)) rfl ?_
    refine y_getf hI ta (e_207 (1, .getfield 33, 3) (List.mem_of_getElem? (i := 1) rfl)) u_17_33 ⟨rfl, rfl⟩ s6 ?_
    refine y_st (e_207 (4, .sipush 135, 3) (List.mem_of_getElem? (i := 2) rfl)) ⟨rfl, rfl, rfl, rfl⟩ ?_
    refine y_iln (e_207 (7, .iload_n 1, 1) (List.mem_of_getElem? (i := 3) rfl)) rfl ?_
    refine y_st (e_207 (8, .iadd, 1) (List.mem_of_getElem? (i := 4) rfl)) ⟨rfl, rfl, rfl, rfl⟩ ?_
    refine y_iald hI tb (e_207 (9, .iaload, 1) (List.mem_of_getElem? (i := 5) rfl)) ⟨rfl, rfl⟩ j2 j3 ?_
    refine y_iln (e_207 (10, .iload_n 2, 1) (List.mem_of_getElem? (i := 6) rfl)) rfl ?_
    refine y_icm (e_207 (11, .if_icmp .eq 65, 3) (List.mem_of_getElem? (i := 7) rfl)) rfl (fun hb => ?_) (fun hb => ?_)
    · refine y_ret (e_207 (76, .return_, 1) (List.mem_of_getElem? (i := 46) rfl)) ⟨rfl, rfl⟩ ⟨rfl, hI, x_eff.rf⟩
    · exact absurd hw (y_hI.2.1 hb)
  | succ n ih =>
    intro b f G hV hQ hw
    obtain ⟨hI, ta, s6, tb, hs⟩ := id hV
    obtain ⟨hp, hq⟩ := hV.per
    obtain ⟨w1, w2, w3⟩ := hw
    obtain ⟨j1, j2, j3⟩ := hV.at (c := 135) y_i135 (m := m) (by omega) (by decide)
    obtain ⟨p1, p2, p3⟩ := hV.at (c := 73) y_i73 (m := m) (by omega) (by decide)
    refine y_aln (e_207 (0, .aload_n 0, 1) (List.mem_of_getElem? (i := 0) rfl)) rfl ?_
    refine y_getf hI ta (e_207 (1, .getfield 33, 3) (List.mem_of_getElem? (i := 1) rfl)) u_17_33 ⟨rfl, rfl⟩ s6 ?_
    refine y_st (e_207 (4, .sipush 135, 3) (List.mem_of_getElem? (i := 2) rfl)) ⟨rfl, rfl, rfl, rfl⟩ ?_
    refine y_iln (e_207 (7, .iload_n 1, 1) (List.mem_of_getElem? (i := 3) rfl)) rfl ?_
    refine y_st (e_207 (8, .iadd, 1) (List.mem_of_getElem? (i := 4) rfl)) ⟨rfl, rfl, rfl, rfl⟩ ?_
    refine y_iald hI tb (e_207 (9, .iaload, 1) (List.mem_of_getElem? (i := 5) rfl)) ⟨rfl, rfl⟩ j2 j3 ?_
    refine y_iln (e_207 (10, .iload_n 2, 1) (List.mem_of_getElem? (i := 6) rfl)) rfl ?_
    refine y_icm (e_207 (11, .if_icmp .eq 65, 3) (List.mem_of_getElem? (i := 7) rfl)) rfl (fun hb => ?_) (fun hb => ?_)
    · exact absurd (y_hI.1 hb) w1
    · refine y_aln (e_207 (14, .aload_n 0, 1) (List.mem_of_getElem? (i := 8) rfl)) rfl ?_
      refine y_getf hI ta (e_207 (15, .getfield 33, 3) (List.mem_of_getElem? (i := 9) rfl)) u_17_33 ⟨rfl, rfl⟩ s6 ?_
      refine y_st (e_207 (18, .sipush 135, 3) (List.mem_of_getElem? (i := 10) rfl)) ⟨rfl, rfl, rfl, rfl⟩ ?_
      refine y_iln (e_207 (21, .iload_n 1, 1) (List.mem_of_getElem? (i := 11) rfl)) rfl ?_
      refine y_st (e_207 (22, .iadd, 1) (List.mem_of_getElem? (i := 12) rfl)) ⟨rfl, rfl, rfl, rfl⟩ ?_
      refine y_aln (e_207 (23, .aload_n 0, 1) (List.mem_of_getElem? (i := 13) rfl)) rfl ?_
      refine y_aln (e_207 (24, .aload_n 0, 1) (List.mem_of_getElem? (i := 14) rfl)) rfl ?_
      refine y_getf hI ta (e_207 (25, .getfield 33, 3) (List.mem_of_getElem? (i := 15) rfl)) u_17_33 ⟨rfl, rfl⟩ s6 ?_
      refine y_st (e_207 (28, .bipush 73, 2) (List.mem_of_getElem? (i := 16) rfl)) ⟨rfl, rfl, rfl, rfl⟩ ?_
      refine y_iln (e_207 (30, .iload_n 1, 1) (List.mem_of_getElem? (i := 17) rfl)) rfl ?_
      refine y_st (e_207 (31, .iadd, 1) (List.mem_of_getElem? (i := 18) rfl)) ⟨rfl, rfl, rfl, rfl⟩ ?_
      refine y_iald hI tb (e_207 (32, .iaload, 1) (List.mem_of_getElem? (i := 19) rfl)) ⟨rfl, rfl⟩ p2 p3 ?_
      refine y_aln (e_207 (33, .aload_n 0, 1) (List.mem_of_getElem? (i := 20) rfl)) rfl ?_
      refine y_getf hI ta (e_207 (34, .getfield 33, 3) (List.mem_of_getElem? (i := 21) rfl)) u_17_33 ⟨rfl, rfl⟩ s6 ?_
      refine y_st (e_207 (37, .sipush 135, 3) (List.mem_of_getElem? (i := 22) rfl)) ⟨rfl, rfl, rfl, rfl⟩ ?_
      refine y_iln (e_207 (40, .iload_n 1, 1) (List.mem_of_getElem? (i := 23) rfl)) rfl ?_
      refine y_st (e_207 (41, .iadd, 1) (List.mem_of_getElem? (i := 24) rfl)) ⟨rfl, rfl, rfl, rfl⟩ ?_
      refine y_iald hI tb (e_207 (42, .iaload, 1) (List.mem_of_getElem? (i := 25) rfl)) ⟨rfl, rfl⟩ j2 j3 ?_
      refine y_iln (e_207 (43, .iload_n 2, 1) (List.mem_of_getElem? (i := 26) rfl)) rfl ?_
      refine y_aln (e_207 (44, .aload_n 0, 1) (List.mem_of_getElem? (i := 27) rfl)) rfl ?_
      refine y_getf hI ta (e_207 (45, .getfield 33, 3) (List.mem_of_getElem? (i := 28) rfl)) u_17_33 ⟨rfl, rfl⟩ s6 ?_
      refine y_st (e_207 (48, .bipush 81, 2) (List.mem_of_getElem? (i := 29) rfl)) ⟨rfl, rfl, rfl, rfl⟩ ?_
      refine y_iald hI tb (e_207 (50, .iaload, 1) (List.mem_of_getElem? (i := 30) rfl)) ⟨rfl, rfl⟩ (by decide) (hs 81 (by decide)) ?_
      refine y_c5 (K' := fun r G' => r = some (.int (f_strides f (f (73 + m.toInt.toNat)) (f (135 + m.toInt.toNat)) to (f 81))) ∧ G' = G) (e_207 (51, .invokevirtual 293, 3) (List.mem_of_getElem? (i := 31) rfl)) ⟨rfl, rfl, rfl⟩ t_17_293 ⟨by decide, by decide, by decide, by decide⟩ m_205_ok rfl (by decide) (y_recv hI ta ⟨rfl, rfl⟩) (Nat.le_of_ble_eq_true rfl) (Nat.le_of_ble_eq_true rfl) (g_strides hI ta s6 tb hs hp hq _ _ _ _) (fun r1 G1 h1 => ?_)
      obtain ⟨rfl, rfl⟩ := h1
      simp only [Option.toList_some, Option.toList_none, List.cons_append, List.nil_append]
      refine y_iast hI tb (e_207 (54, .iastore, 1) (List.mem_of_getElem? (i := 32) rfl)) ⟨rfl, rfl⟩ ⟨j2, by rw [j1]; show ((135 + m.toInt.toNat : Nat) : Int) < 324; omega⟩ (fun G2 u1 => ?_)
      rw [show ((Int16.ofInt 135).toInt32 + m).toInt.toNat = 135 + m.toInt.toNat by omega] at u1
      have hV1 := hV.upd u1 (y_okany (by omega) (by omega))
      have ef1 : x_eff th E_walks G1 G2 := x_eff.upd u1 tb (q := (36, 135, 142)) List.mem_cons_self rfl (by show 135 ≤ _; omega) (by show _ ≤ 142; omega)
      have hQ1 : x_Q th G2 := x_Q_eff (E := [(36, 135, 142)]) (by decide) (x_eff.upd u1 tb (q := (36, 135, 142)) List.mem_cons_self rfl (by show 135 ≤ _; omega) (by show _ ≤ 142; omega)) hQ
      obtain ⟨q1, q2, q3⟩ := hV1.at (c := 139) y_i139 (m := m) (by omega) (by decide)
      have hI1 := hV1.1
      refine y_aln (e_207 (55, .aload_n 0, 1) (List.mem_of_getElem? (i := 33) rfl)) rfl ?_
      refine y_getf hI1 ta (e_207 (56, .getfield 33, 3) (List.mem_of_getElem? (i := 34) rfl)) u_17_33 ⟨rfl, rfl⟩ hV1.2.2.1 ?_
      refine y_st (e_207 (59, .sipush 139, 3) (List.mem_of_getElem? (i := 35) rfl)) ⟨rfl, rfl, rfl, rfl⟩ ?_
      refine y_iln (e_207 (62, .iload_n 1, 1) (List.mem_of_getElem? (i := 36) rfl)) rfl ?_
      refine y_st (e_207 (63, .iadd, 1) (List.mem_of_getElem? (i := 37) rfl)) ⟨rfl, rfl, rfl, rfl⟩ ?_
      refine y_st (e_207 (64, .dup2, 1) (List.mem_of_getElem? (i := 38) rfl)) ⟨rfl, rfl, rfl, rfl⟩ ?_
      refine y_iald hI1 tb (e_207 (65, .iaload, 1) (List.mem_of_getElem? (i := 39) rfl)) ⟨rfl, rfl⟩ q2 q3 ?_
      refine y_st (e_207 (66, .iconst 1, 1) (List.mem_of_getElem? (i := 40) rfl)) ⟨rfl, rfl, rfl, rfl⟩ ?_
      refine y_st (e_207 (67, .iadd, 1) (List.mem_of_getElem? (i := 41) rfl)) ⟨rfl, rfl, rfl, rfl⟩ ?_
      refine y_iast hI1 tb (e_207 (68, .iastore, 1) (List.mem_of_getElem? (i := 42) rfl)) ⟨rfl, rfl⟩ ⟨q2, by rw [q1]; show ((139 + m.toInt.toNat : Nat) : Int) < 324; omega⟩ (fun G3 u2 => ?_)
      rw [show ((Int16.ofInt 139).toInt32 + m).toInt.toNat = 139 + m.toInt.toNat by omega] at u2
      have hV2 := hV1.upd u2 (y_okany (by omega) (by omega))
      have ef2 : x_eff th E_walks G2 G3 := x_eff.upd u2 tb (q := (36, 135, 142)) List.mem_cons_self rfl (by show 135 ≤ _; omega) (by show _ ≤ 142; omega)
      have hQ2 : x_Q th G3 := x_Q_eff (E := [(36, 135, 142)]) (by decide) (x_eff.upd u2 tb (q := (36, 135, 142)) List.mem_cons_self rfl (by show 135 ≤ _; omega) (by show _ ≤ 142; omega)) hQ1
      have hI2 := hV2.1
      have c81 : x_sl G3 b 81 = some (.int (f 81)) := by
        rw [hV2.2.2.2.2 81 (by decide)]
        dsimp only
        rw [if_neg (by omega), if_neg (by omega)]
      have h81 := hV.rng (i := 81) ⟨by decide, rfl⟩
      have k1 : x_Bd (y_v [(a : Int), (b : Int), (f 81).toInt]) := y_v_Bd (fun x hx => by
        rcases List.mem_cons.mp hx with rfl | hx
        · exact y_cellB hI ta
        rcases List.mem_cons.mp hx with rfl | hx
        · exact y_cellB hI tb
        · rw [List.mem_singleton.mp hx]; omega)
      have k2 : x_Cs c_254.2.2.1 (y_v [(a : Int), (b : Int), (f 81).toInt]) := fun c hc => by
        rcases List.mem_cons.mp hc with rfl | hc
        · show 0 ≤ xl_ev _ _
          simp only [xl_ev, xt_ev, y_v, List.getD_cons_succ, List.getD_cons_zero]
          omega
        · rw [List.mem_singleton.mp hc]
          simp only [xl_ev, xt_ev, y_v, List.getD_cons_succ, List.getD_cons_zero]
          omega
      have k3 : ∀ q ∈ c_254.2.2.2.1, x_fact th (y_v [(a : Int), (b : Int), (f 81).toInt]) G3 q := fun q hq => by
        rcases List.mem_cons.mp hq with rfl | hq
        · exact ⟨a, by simp [xl_ev, xt_ev, y_v], ta, _, hV2.2.2.1, b, rfl, by simp [xl_ev, xt_ev, y_v], tb⟩
        · rw [List.mem_singleton.mp hq]
          exact ⟨b, by simp [xl_ev, xt_ev, y_v], tb, _, c81, f 81, rfl, by simp [xl_ev, xt_ev, y_v]⟩
      have hcon := (h_254 th xs L J).gd (G := G3) (d := d + 4) m_208_ok hd (v := y_v [(a : Int), (b : Int), (f 81).toInt]) (as := [.ref a]) k1 k2 ⟨⟨a, rfl, by simp [xl_ev, xt_ev, y_v], ta⟩, trivial⟩ k3 hI2 (fun _ => hQ2)
      refine y_aln (e_207 (69, .aload_n 0, 1) (List.mem_of_getElem? (i := 43) rfl)) rfl ?_
      refine y_c1 (K' := _) (e_207 (70, .invokevirtual 287, 3) (List.mem_of_getElem? (i := 44) rfl)) ⟨rfl, rfl, rfl⟩ t_17_287 ⟨by decide, by decide, by decide, by decide⟩ m_208_ok rfl (by decide) (y_recv hI2 ta ⟨rfl, rfl⟩) (Nat.le_of_ble_eq_true rfl) (Nat.le_of_ble_eq_true rfl) hcon (fun r1 G4 h1 => ?_)
      obtain ⟨v', v1, v2, hI4, ef4, p, hp, -, pf, pa⟩ := h1
      obtain rfl : p = _ := List.mem_singleton.mp hp
      obtain ⟨b', e1, e2, w, e3, x, rfl, e5⟩ := pf _ List.mem_cons_self
      have v1b : v' 1 = b := (v1 1 (by decide)).trans rfl
      have v2b : v' 2 = (f 81).toInt := (v1 2 (by decide)).trans rfl
      simp only [xl_ev, xt_ev] at e1 e5
      obtain rfl : b' = b := by omega
      obtain rfl : r1 = none := by
        cases r1 with
        | none => rfl
        | some => exact pa.elim
      simp only [Option.toList_some, Option.toList_none, List.cons_append, List.nil_append]
      refine y_st (e_207 (73, .goto (-73), 3) (List.mem_of_getElem? (i := 45) rfl)) ⟨rfl, rfl, rfl, rfl⟩ ?_
      obtain ⟨b4, f4, hV4⟩ := y_view hI4 ta
      have hb4 : b4 = b' := by
        have z := hV4.2.2.1
        rw [ef4.at ta (by decide), hV2.2.2.1] at z
        cases z
        rfl
      subst hb4
      have out : ∀ i, i < 81 → y_out E_hour 36 i = true := by decide
      have out2 : ∀ i, i < 4 → y_out E_hour 36 (135 + i) = true := by decide
      have same : ∀ i, i < 81 → f4 i = f i := fun i hi => by
        have z := hV4.2.2.2.2 i (by omega)
        rw [ef4.at tb (out i hi), hV2.2.2.2.2 i (by omega)] at z
        dsimp only at z
        rw [if_neg (by omega), if_neg (by omega)] at z
        exact (Value.int.inj (Option.some.inj z)).symm
      have s135 : f4 (135 + m.toInt.toNat) = f_strides f (f (73 + m.toInt.toNat)) (f (135 + m.toInt.toNat)) to (f 81) := by
        have z := hV4.2.2.2.2 (135 + m.toInt.toNat) (by omega)
        rw [ef4.at tb (out2 _ (by omega)), hV2.2.2.2.2 _ (by omega)] at z
        dsimp only at z
        rw [if_neg (by omega), if_pos rfl] at z
        exact (Value.int.inj (Option.some.inj z)).symm
      have s81 : f4 81 = f 81 + 1 := by
        have z := hV4.2.2.2.2 81 (by decide)
        rw [e3] at z
        cases z
        rw [← Int32.toInt_inj, y_add (by rw [show (1 : Int32).toInt = 1 from rfl]; omega) (by rw [show (1 : Int32).toInt = 1 from rfl]; omega), show (1 : Int32).toInt = 1 from rfl]
        omega
      refine (ih b4 f4 G4 hV4 (x_Q_eff (E := E_hour) (by decide) ef4 hQ2) ?_).mono (fun r G' h => ⟨h.1, h.2.1, ((ef1.tr ef2).tr (ef4.mono (fun q hq => ⟨q, List.mem_cons_of_mem _ hq, rfl, Nat.le_refl _, Nat.le_refl _⟩))).tr h.2.2⟩)
      rw [same (73 + m.toInt.toNat) (by omega), s135, s81]
      exact w_r_c (fun i _ hi => same i (by omega)) _ _ n _ _ w3
