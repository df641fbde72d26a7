def d_160 : xD := [(0, .iconst 0, 1), (1, .istore_n 1, 1), (2, .iload_n 1, 1), (3, .bipush 81, 2), (5, .if_icmp .ge 16, 3), (8, .aload_n 0, 1), (9, .getfield 37, 3), (12, .iload_n 1, 1), (13, .iconst 0, 1), (14, .iastore, 1), (15, .iinc 1 1, 3), (18, .goto (-16), 3), (21, .aload_n 0, 1), (22, .getfield 37, 3), (25, .iconst 0, 1), (26, .bipush 10, 2), (28, .iastore, 1), (29, .aload_n 0, 1), (30, .getfield 37, 3), (33, .iconst 1, 1), (34, .bipush 10, 2), (36, .iastore, 1), (37, .aload_n 0, 1), (38, .getfield 37, 3), (41, .bipush 6, 2), (43, .iconst 5, 1), (44, .iastore, 1), (45, .aload_n 0, 1), (46, .getfield 37, 3), (49, .bipush 7, 2), (51, .iconst 1, 1), (52, .iastore, 1), (53, .aload_n 0, 1), (54, .getfield 37, 3), (57, .bipush 8, 2), (59, .iconst 5, 1), (60, .iastore, 1), (61, .aload_n 0, 1), (62, .getfield 37, 3), (65, .bipush 9, 2), (67, .iconst 1, 1), (68, .iastore, 1), (69, .aload_n 0, 1), (70, .getfield 37, 3), (73, .bipush 10, 2), (75, .iconst 4, 1), (76, .iastore, 1), (77, .aload_n 0, 1), (78, .getfield 37, 3), (81, .bipush 11, 2), (83, .bipush 20, 2), (85, .iastore, 1), (86, .aload_n 0, 1), (87, .getfield 37, 3), (90, .bipush 12, 2), (92, .iconst (-1), 1), (93, .iastore, 1), (94, .return_, 1)]
set_option maxRecDepth 100000 in
theorem d_160_ok : x_dchk 160 d_160 = true := by decide +kernel
def m_160 : pM := (⟨"BreathingHillModel", "clears", "()V"⟩, 1337, 2, none, 17, 0, false, 10, 103, 1336, 33)
set_option maxRecDepth 100000 in
theorem m_160_ok : pm_tab[160]? = some m_160 := rfl
theorem e_160 : ∀ q ∈ d_160, decode m_160.code q.1 = .ok (q.2.1, q.2.2) := y_dec d_160_ok m_160_ok
theorem z_at81 : ∀ i, 81 ≤ i → x_at (x_tb 37).2.2.2 i = none := by
  intro i hi
  have key : ∀ (r : List (Nat × xF)) (i : Nat), (r.map (fun q => q.1)).sum ≤ i → x_at r i = none := by
    intro r
    induction r with
    | nil => intro i _; rfl
    | cons q r ih =>
      intro i hi
      rw [List.map_cons, List.sum_cons] at hi
      unfold x_at
      rw [if_neg (by omega)]
      exact ih _ (by omega)
  exact key _ i (Nat.le_trans (by decide) hi)
def x_tbc (t : Nat) : xT := if t = 37 then (1, 0, 81, [(81, (0, -2147483648, 2147483647))]) else x_tb t
/-- h behind clears() -/
def z_cl (i : Nat) : Int32 := if i = 12 then Int32.ofInt (-1) else if i = 11 then (Int8.ofInt 20).toInt32 else if i = 10 then Int32.ofInt 4 else if i = 9 then Int32.ofInt 1 else if i = 8 then Int32.ofInt 5 else if i = 7 then Int32.ofInt 1 else if i = 6 then Int32.ofInt 5 else if i = 1 then (Int8.ofInt 10).toInt32 else if i = 0 then (Int8.ofInt 10).toInt32 else 0
theorem z_cl_ok : ∀ i, i < 81 → (match x_at (x_tb 37).2.2.2 i with
    | some f => f.1 == 0 && decide (f.2.1 ≤ (z_cl i).toInt) && decide ((z_cl i).toInt ≤ f.2.2)
    | none => false) = true := by decide +kernel
theorem xI.toc {th : List Nat} {G : List pE} (h : xI x_tb th G) : xI x_tbc th G := by
  refine ⟨h.1, h.2.1, fun k t hk => ?_⟩
  obtain ⟨h1, h2⟩ := h.2.2 k t hk
  unfold x_tbc
  by_cases ht : t = 37
  · subst ht
    rw [if_pos rfl]
    refine ⟨h1, fun i f hf => ?_⟩
    have hi : i < 81 := by
      rcases Nat.lt_or_ge i 81 with z | z
      · exact z
      · unfold x_at at hf
        rw [if_neg (by omega)] at hf
        cases hf
    rw [y_one hi] at hf
    cases hf
    obtain ⟨g, hg⟩ := x_tb_wf 37 i hi
    obtain ⟨v, k1, k2⟩ := h2 i g hg
    have h0 := x_at_int _ i (by decide) g hg
    unfold xf_ok at k2
    rw [h0] at k2
    obtain ⟨x, rfl, -⟩ := k2
    exact ⟨_, k1, x, rfl, (x_i32 x).1, (x_i32 x).2⟩
  · rw [if_neg ht]
    exact ⟨h1, h2⟩
theorem xI.ofc {th : List Nat} {G G' : List pE} {hb : Nat} (h : xI x_tbc th G') (h0 : xI x_tb th G) (tb : th[hb]? = some 37) (hO : ∀ k i, k ≠ hb → x_sl G' k i = x_sl G k i) (hc : ∀ i, i < 81 → x_sl G' hb i = some (.int (z_cl i))) : xI x_tb th G' := by
  refine ⟨h.1, h.2.1, fun k t hk => ?_⟩
  obtain ⟨h1, h2⟩ := h.2.2 k t hk
  refine ⟨?_, fun i f hf => ?_⟩
  · unfold x_tbc at h1
    by_cases ht : t = 37
    · subst ht
      rw [if_pos rfl] at h1
      exact h1
    · rw [if_neg ht] at h1
      exact h1
  · by_cases hkb : k = hb
    · subst hkb
      rw [tb] at hk
      cases hk
      have hi : i < 81 := by
        rcases Nat.lt_or_ge i 81 with z | z
        · exact z
        · rw [z_at81 i z] at hf
          cases hf
      have := z_cl_ok i hi
      rw [hf] at this
      simp only [Bool.and_eq_true, beq_iff_eq, decide_eq_true_eq] at this
      refine ⟨_, hc i hi, ?_⟩
      unfold xf_ok
      rw [this.1.1]
      exact ⟨_, rfl, this.1.2, this.2⟩
    · rw [hO k i hkb]
      exact (h0.2.2 k t hk).2 i f hf
theorem y_updI {G G1 : List pE} {hb idx n : Nat} {x : Int32} {F : Nat → Int32} (h : ∀ i, i < n → x_sl G hb i = some (.int (F i))) (u : x_upd G G1 hb idx (.int x)) : ∀ i, i < n → x_sl G1 hb i = some (.int (if i = idx then x else F i)) := by
  intro i hi
  rw [u.2.1]
  by_cases h1 : i = idx
  · rw [if_pos ⟨rfl, h1⟩, if_pos h1]
  · rw [if_neg (fun z => h1 z.2), if_neg h1]
    exact h i hi
theorem y_updO {G0 G G1 : List pE} {hb idx : Nat} {v : Value} (h : ∀ k i, k ≠ hb → x_sl G k i = x_sl G0 k i) (u : x_upd G G1 hb idx v) : ∀ k i, k ≠ hb → x_sl G1 k i = x_sl G0 k i := by
  intro k i hk
  rw [u.2.1, if_neg (fun z => hk z.1)]
  exact h k i hk
section ZX
variable {th : List Nat} {xs : Nat → Int32} {L J d a hb : Nat} {G0 : List pE}
set_option maxHeartbeats 2000000 in
set_option maxRecDepth 100000 in
theorem g_cll {K : Option Value → List pE → Prop} (ta : th[a]? = some 10) (tb : th[hb]? = some 37) (h7 : x_sl G0 a 7 = some (.ref hb)) (hK : ∀ G' lv, xI x_tbc th G' → (∀ k i, k ≠ hb → x_sl G' k i = x_sl G0 k i) → (∀ i, i < 81 → x_sl G' hb i = some (.int 0)) → pm_get lv 0 = some (.ref a) → x_Gd xs L J d m_160 K 21 lv [] G') : ∀ (m : Nat) (G : List pE) (lv : pL) (j : Int32), xI x_tbc th G → (∀ k i, k ≠ hb → x_sl G k i = x_sl G0 k i) → 0 ≤ j.toInt → j.toInt ≤ 81 → (81 - j.toInt).toNat = m → (∀ i : Nat, (i : Int) < j.toInt → x_sl G hb i = some (.int 0)) → pm_get lv 0 = some (.ref a) → pm_get lv 1 = some (.int j) → x_Gd xs L J d m_160 K 2 lv [] G := by
  have ne : a ≠ hb := fun z => by rw [z, tb] at ta; cases ta
  have e81 : ((Int8.ofInt 81).toInt32).toInt = 81 := by decide
  intro m
  induction m with
  | zero =>
    intro G lv j hI hO j0 j1 hm hj g0 g1
    refine y_iln (e_160 (2, .iload_n 1, 1) (List.mem_of_getElem? (i := 2) rfl)) g1 ?_
    refine y_st (e_160 (3, .bipush 81, 2) (List.mem_of_getElem? (i := 3) rfl)) ⟨rfl, rfl, rfl, rfl⟩ ?_
    refine y_icm (e_160 (5, .if_icmp .ge 16, 3) (List.mem_of_getElem? (i := 4) rfl)) rfl (fun hc => ?_) (fun hc => ?_)
    · exact hK G lv hI hO (fun i hi => hj i (by omega)) g0
    · have := y_hI.2.2.2.2.2.1 hc
      omega
  | succ m ih =>
    intro G lv j hI hO j0 j1 hm hj g0 g1
    have e1 := y_add1 (t := j) (by omega)
    have h7' : x_sl G a 7 = some (.ref hb) := (hO a 7 ne).trans h7
    refine y_iln (e_160 (2, .iload_n 1, 1) (List.mem_of_getElem? (i := 2) rfl)) g1 ?_
    refine y_st (e_160 (3, .bipush 81, 2) (List.mem_of_getElem? (i := 3) rfl)) ⟨rfl, rfl, rfl, rfl⟩ ?_
    refine y_icm (e_160 (5, .if_icmp .ge 16, 3) (List.mem_of_getElem? (i := 4) rfl)) rfl (fun hc => ?_) (fun hc => ?_)
    · have := y_hI.2.2.2.2.1 hc
      omega
    · refine y_aln (e_160 (8, .aload_n 0, 1) (List.mem_of_getElem? (i := 5) rfl)) g0 ?_
      refine y_getf hI ta (e_160 (9, .getfield 37, 3) (List.mem_of_getElem? (i := 6) rfl)) u_17_37 ⟨rfl, rfl⟩ h7' ?_
      refine y_iln (e_160 (12, .iload_n 1, 1) (List.mem_of_getElem? (i := 7) rfl)) g1 ?_
      refine y_st (e_160 (13, .iconst 0, 1) (List.mem_of_getElem? (i := 8) rfl)) ⟨rfl, rfl, rfl, rfl⟩ ?_
      refine y_iast hI tb (e_160 (14, .iastore, 1) (List.mem_of_getElem? (i := 9) rfl)) ⟨rfl, rfl⟩ ⟨j0, by show _ < (81 : Int); omega⟩ (fun G1 u1 => ?_)
      refine y_iinc (e_160 (15, .iinc 1 1, 3) (List.mem_of_getElem? (i := 10) rfl)) g1 (by decide) ?_
      refine y_st (e_160 (18, .goto (-16), 3) (List.mem_of_getElem? (i := 11) rfl)) ⟨rfl, rfl, rfl, rfl⟩ ?_
      refine ih G1 _ (j + Int32.ofInt 1) (hI.upd u1 tb (y_okA (y_one (show j.toInt.toNat < 81 by omega)))) (y_updO hO u1) (by omega) (by omega) (by omega) (fun i hi => ?_) (y_gpr g0 (by decide)) x_get_self
      rw [u1.2.1]
      by_cases hij : i = j.toInt.toNat
      · rw [if_pos ⟨rfl, hij⟩]; rfl
      · rw [if_neg (fun z => hij z.2)]
        exact hj i (by omega)
set_option maxHeartbeats 2000000 in
set_option maxRecDepth 100000 in
theorem g_clears {G : List pE} (hI : xI x_tb th G) (ta : th[a]? = some 10) (h7 : x_sl G a 7 = some (.ref hb)) (tb : th[hb]? = some 37) : x_Gd xs L J d m_160 (fun r G' => r = none ∧ xI x_tb th G' ∧ (∀ k i, k ≠ hb → x_sl G' k i = x_sl G k i) ∧ ∀ i, i < 81 → x_sl G' hb i = some (.int (z_cl i))) 0 (lv_args 0 [.ref a]) [] G := by
  have ne : a ≠ hb := fun z => by rw [z, tb] at ta; cases ta
  refine y_st (e_160 (0, .iconst 0, 1) (List.mem_of_getElem? (i := 0) rfl)) ⟨rfl, rfl, rfl, rfl⟩ ?_
  refine y_isn (e_160 (1, .istore_n 1, 1) (List.mem_of_getElem? (i := 1) rfl)) (by decide) ?_
  refine g_cll (G0 := G) ta tb h7 (fun G0 lv hI0 hO0 hc0 g0 => ?_) _ G _ 0 hI.toc (fun _ _ _ => rfl) (by decide) (by decide) rfl (fun i hi => absurd hi (by show ¬ (i : Int) < 0; omega)) (y_gpr rfl (by decide)) x_get_self
  have h70 : x_sl G0 a 7 = some (.ref hb) := (hO0 a 7 ne).trans h7
  refine y_aln (e_160 (21, .aload_n 0, 1) (List.mem_of_getElem? (i := 12) rfl)) g0 ?_
  refine y_getf hI0 ta (e_160 (22, .getfield 37, 3) (List.mem_of_getElem? (i := 13) rfl)) u_17_37 ⟨rfl, rfl⟩ h70 ?_
  refine y_st (e_160 (25, .iconst 0, 1) (List.mem_of_getElem? (i := 14) rfl)) ⟨rfl, rfl, rfl, rfl⟩ ?_
  refine y_st (e_160 (26, .bipush 10, 2) (List.mem_of_getElem? (i := 15) rfl)) ⟨rfl, rfl, rfl, rfl⟩ ?_
  refine y_iast hI0 tb (e_160 (28, .iastore, 1) (List.mem_of_getElem? (i := 16) rfl)) ⟨rfl, rfl⟩ ⟨by decide, by decide⟩ (fun G1 u1 => ?_)
  rw [show (Int32.ofInt 0).toInt.toNat = 0 by decide] at u1
  have hI1 := hI0.upd u1 tb (y_okA (y_one (show 0 < 81 by decide)))
  have hO1 := y_updO hO0 u1
  have hc1 := y_updI hc0 u1
  have h71 : x_sl G1 a 7 = some (.ref hb) := (hO1 a 7 ne).trans h7
  refine y_aln (e_160 (29, .aload_n 0, 1) (List.mem_of_getElem? (i := 17) rfl)) g0 ?_
  refine y_getf hI1 ta (e_160 (30, .getfield 37, 3) (List.mem_of_getElem? (i := 18) rfl)) u_17_37 ⟨rfl, rfl⟩ h71 ?_
  refine y_st (e_160 (33, .iconst 1, 1) (List.mem_of_getElem? (i := 19) rfl)) ⟨rfl, rfl, rfl, rfl⟩ ?_
  refine y_st (e_160 (34, .bipush 10, 2) (List.mem_of_getElem? (i := 20) rfl)) ⟨rfl, rfl, rfl, rfl⟩ ?_
  refine y_iast hI1 tb (e_160 (36, .iastore, 1) (List.mem_of_getElem? (i := 21) rfl)) ⟨rfl, rfl⟩ ⟨by decide, by decide⟩ (fun G2 u2 => ?_)
  rw [show (Int32.ofInt 1).toInt.toNat = 1 by decide] at u2
  have hI2 := hI1.upd u2 tb (y_okA (y_one (show 1 < 81 by decide)))
  have hO2 := y_updO hO1 u2
  have hc2 := y_updI hc1 u2
  have h72 : x_sl G2 a 7 = some (.ref hb) := (hO2 a 7 ne).trans h7
  refine y_aln (e_160 (37, .aload_n 0, 1) (List.mem_of_getElem? (i := 22) rfl)) g0 ?_
  refine y_getf hI2 ta (e_160 (38, .getfield 37, 3) (List.mem_of_getElem? (i := 23) rfl)) u_17_37 ⟨rfl, rfl⟩ h72 ?_
  refine y_st (e_160 (41, .bipush 6, 2) (List.mem_of_getElem? (i := 24) rfl)) ⟨rfl, rfl, rfl, rfl⟩ ?_
  refine y_st (e_160 (43, .iconst 5, 1) (List.mem_of_getElem? (i := 25) rfl)) ⟨rfl, rfl, rfl, rfl⟩ ?_
  refine y_iast hI2 tb (e_160 (44, .iastore, 1) (List.mem_of_getElem? (i := 26) rfl)) ⟨rfl, rfl⟩ ⟨by decide, by decide⟩ (fun G3 u3 => ?_)
  rw [show ((Int8.ofInt 6).toInt32).toInt.toNat = 6 by decide] at u3
  have hI3 := hI2.upd u3 tb (y_okA (y_one (show 6 < 81 by decide)))
  have hO3 := y_updO hO2 u3
  have hc3 := y_updI hc2 u3
  have h73 : x_sl G3 a 7 = some (.ref hb) := (hO3 a 7 ne).trans h7
  refine y_aln (e_160 (45, .aload_n 0, 1) (List.mem_of_getElem? (i := 27) rfl)) g0 ?_
  refine y_getf hI3 ta (e_160 (46, .getfield 37, 3) (List.mem_of_getElem? (i := 28) rfl)) u_17_37 ⟨rfl, rfl⟩ h73 ?_
  refine y_st (e_160 (49, .bipush 7, 2) (List.mem_of_getElem? (i := 29) rfl)) ⟨rfl, rfl, rfl, rfl⟩ ?_
  refine y_st (e_160 (51, .iconst 1, 1) (List.mem_of_getElem? (i := 30) rfl)) ⟨rfl, rfl, rfl, rfl⟩ ?_
  refine y_iast hI3 tb (e_160 (52, .iastore, 1) (List.mem_of_getElem? (i := 31) rfl)) ⟨rfl, rfl⟩ ⟨by decide, by decide⟩ (fun G4 u4 => ?_)
  rw [show ((Int8.ofInt 7).toInt32).toInt.toNat = 7 by decide] at u4
  have hI4 := hI3.upd u4 tb (y_okA (y_one (show 7 < 81 by decide)))
  have hO4 := y_updO hO3 u4
  have hc4 := y_updI hc3 u4
  have h74 : x_sl G4 a 7 = some (.ref hb) := (hO4 a 7 ne).trans h7
  refine y_aln (e_160 (53, .aload_n 0, 1) (List.mem_of_getElem? (i := 32) rfl)) g0 ?_
  refine y_getf hI4 ta (e_160 (54, .getfield 37, 3) (List.mem_of_getElem? (i := 33) rfl)) u_17_37 ⟨rfl, rfl⟩ h74 ?_
  refine y_st (e_160 (57, .bipush 8, 2) (List.mem_of_getElem? (i := 34) rfl)) ⟨rfl, rfl, rfl, rfl⟩ ?_
  refine y_st (e_160 (59, .iconst 5, 1) (List.mem_of_getElem? (i := 35) rfl)) ⟨rfl, rfl, rfl, rfl⟩ ?_
  refine y_iast hI4 tb (e_160 (60, .iastore, 1) (List.mem_of_getElem? (i := 36) rfl)) ⟨rfl, rfl⟩ ⟨by decide, by decide⟩ (fun G5 u5 => ?_)
  rw [show ((Int8.ofInt 8).toInt32).toInt.toNat = 8 by decide] at u5
  have hI5 := hI4.upd u5 tb (y_okA (y_one (show 8 < 81 by decide)))
  have hO5 := y_updO hO4 u5
  have hc5 := y_updI hc4 u5
  have h75 : x_sl G5 a 7 = some (.ref hb) := (hO5 a 7 ne).trans h7
  refine y_aln (e_160 (61, .aload_n 0, 1) (List.mem_of_getElem? (i := 37) rfl)) g0 ?_
  refine y_getf hI5 ta (e_160 (62, .getfield 37, 3) (List.mem_of_getElem? (i := 38) rfl)) u_17_37 ⟨rfl, rfl⟩ h75 ?_
  refine y_st (e_160 (65, .bipush 9, 2) (List.mem_of_getElem? (i := 39) rfl)) ⟨rfl, rfl, rfl, rfl⟩ ?_
  refine y_st (e_160 (67, .iconst 1, 1) (List.mem_of_getElem? (i := 40) rfl)) ⟨rfl, rfl, rfl, rfl⟩ ?_
  refine y_iast hI5 tb (e_160 (68, .iastore, 1) (List.mem_of_getElem? (i := 41) rfl)) ⟨rfl, rfl⟩ ⟨by decide, by decide⟩ (fun G6 u6 => ?_)
  rw [show ((Int8.ofInt 9).toInt32).toInt.toNat = 9 by decide] at u6
  have hI6 := hI5.upd u6 tb (y_okA (y_one (show 9 < 81 by decide)))
  have hO6 := y_updO hO5 u6
  have hc6 := y_updI hc5 u6
  have h76 : x_sl G6 a 7 = some (.ref hb) := (hO6 a 7 ne).trans h7
  refine y_aln (e_160 (69, .aload_n 0, 1) (List.mem_of_getElem? (i := 42) rfl)) g0 ?_
  refine y_getf hI6 ta (e_160 (70, .getfield 37, 3) (List.mem_of_getElem? (i := 43) rfl)) u_17_37 ⟨rfl, rfl⟩ h76 ?_
  refine y_st (e_160 (73, .bipush 10, 2) (List.mem_of_getElem? (i := 44) rfl)) ⟨rfl, rfl, rfl, rfl⟩ ?_
  refine y_st (e_160 (75, .iconst 4, 1) (List.mem_of_getElem? (i := 45) rfl)) ⟨rfl, rfl, rfl, rfl⟩ ?_
  refine y_iast hI6 tb (e_160 (76, .iastore, 1) (List.mem_of_getElem? (i := 46) rfl)) ⟨rfl, rfl⟩ ⟨by decide, by decide⟩ (fun G7 u7 => ?_)
  rw [show ((Int8.ofInt 10).toInt32).toInt.toNat = 10 by decide] at u7
  have hI7 := hI6.upd u7 tb (y_okA (y_one (show 10 < 81 by decide)))
  have hO7 := y_updO hO6 u7
  have hc7 := y_updI hc6 u7
  have h77 : x_sl G7 a 7 = some (.ref hb) := (hO7 a 7 ne).trans h7
  refine y_aln (e_160 (77, .aload_n 0, 1) (List.mem_of_getElem? (i := 47) rfl)) g0 ?_
  refine y_getf hI7 ta (e_160 (78, .getfield 37, 3) (List.mem_of_getElem? (i := 48) rfl)) u_17_37 ⟨rfl, rfl⟩ h77 ?_
  refine y_st (e_160 (81, .bipush 11, 2) (List.mem_of_getElem? (i := 49) rfl)) ⟨rfl, rfl, rfl, rfl⟩ ?_
  refine y_st (e_160 (83, .bipush 20, 2) (List.mem_of_getElem? (i := 50) rfl)) ⟨rfl, rfl, rfl, rfl⟩ ?_
  refine y_iast hI7 tb (e_160 (85, .iastore, 1) (List.mem_of_getElem? (i := 51) rfl)) ⟨rfl, rfl⟩ ⟨by decide, by decide⟩ (fun G8 u8 => ?_)
  rw [show ((Int8.ofInt 11).toInt32).toInt.toNat = 11 by decide] at u8
  have hI8 := hI7.upd u8 tb (y_okA (y_one (show 11 < 81 by decide)))
  have hO8 := y_updO hO7 u8
  have hc8 := y_updI hc7 u8
  have h78 : x_sl G8 a 7 = some (.ref hb) := (hO8 a 7 ne).trans h7
  refine y_aln (e_160 (86, .aload_n 0, 1) (List.mem_of_getElem? (i := 52) rfl)) g0 ?_
  refine y_getf hI8 ta (e_160 (87, .getfield 37, 3) (List.mem_of_getElem? (i := 53) rfl)) u_17_37 ⟨rfl, rfl⟩ h78 ?_
  refine y_st (e_160 (90, .bipush 12, 2) (List.mem_of_getElem? (i := 54) rfl)) ⟨rfl, rfl, rfl, rfl⟩ ?_
  refine y_st (e_160 (92, .iconst (-1), 1) (List.mem_of_getElem? (i := 55) rfl)) ⟨rfl, rfl, rfl, rfl⟩ ?_
  refine y_iast hI8 tb (e_160 (93, .iastore, 1) (List.mem_of_getElem? (i := 56) rfl)) ⟨rfl, rfl⟩ ⟨by decide, by decide⟩ (fun G9 u9 => ?_)
  rw [show ((Int8.ofInt 12).toInt32).toInt.toNat = 12 by decide] at u9
  have hI9 := hI8.upd u9 tb (y_okA (y_one (show 12 < 81 by decide)))
  have hO9 := y_updO hO8 u9
  have hc9 := y_updI hc8 u9
  refine y_ret (e_160 (94, .return_, 1) (List.mem_of_getElem? (i := 57) rfl)) ⟨rfl, rfl⟩ ⟨rfl, hI9.ofc hI tb hO9 hc9, hO9, hc9⟩
end ZX
