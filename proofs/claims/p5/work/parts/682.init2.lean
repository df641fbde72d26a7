section ZXD
variable {th : List Nat} {xs : Nat → Int32} {L J d a hb : Nat} {G0 : List pE}
set_option maxHeartbeats 2000000 in
set_option maxRecDepth 100000 in
theorem g_cllD {K : Option Value → List pE → Prop} (ta : th[a]? = some 10) (tb : th[hb]? = some 37) (h7 : x_sl G0 a 7 = some (.ref hb)) (hK : ∀ G' lv, xI x_tbd th G' → (∀ k i, k ≠ hb → x_sl G' k i = x_sl G0 k i) → (∀ i, i < 81 → x_sl G' hb i = some (.int 0)) → pm_get lv 0 = some (.ref a) → x_Gd xs L J d m_160 K 21 lv [] G') : ∀ (m : Nat) (G : List pE) (lv : pL) (j : Int32), xI x_tbd th G → (∀ k i, k ≠ hb → x_sl G k i = x_sl G0 k i) → 0 ≤ j.toInt → j.toInt ≤ 81 → (81 - j.toInt).toNat = m → (∀ i : Nat, (i : Int) < j.toInt → x_sl G hb i = some (.int 0)) → pm_get lv 0 = some (.ref a) → pm_get lv 1 = some (.int j) → x_Gd xs L J d m_160 K 2 lv [] G := by
  have ne : a ≠ hb := fun z => by rw [z, tb] at ta; cases ta
  have e81 : ((Int8.ofInt 81).toInt32).toInt = 81 := by decide
  intro m
  induction m with
  | zero =>
    intro G lv j hI hO j0 j1 hm hj g0 g1
    refine y_iln (e_160 (2, .iload_n 1, 1) (List.mem_of_getElem? (i := 2) rfl)) g1 ?_
    refine y_st (e_160 (3, .bipush 81, 2) (List.mem_of_getElem? (i := 3) rfl)) ⟨rfl, rfl, rfl, rfl⟩ ?_
    refine y_icm (e_160 (5, .if_icmp .ge 16, 3) (List.mem_of_getElem? (i := 4) rfl)) rfl (fun hc => ?_) (fun hc => ?_)
    · exact hK G lv hI hO (fun i hi => hj i (by omega)) g0
    · have := y_hI.2.2.2.2.2.1 hc
      omega
  | succ m ih =>
    intro G lv j hI hO j0 j1 hm hj g0 g1
    have e1 := y_add1 (t := j) (by omega)
    have h7' : x_sl G a 7 = some (.ref hb) := (hO a 7 ne).trans h7
    refine y_iln (e_160 (2, .iload_n 1, 1) (List.mem_of_getElem? (i := 2) rfl)) g1 ?_
    refine y_st (e_160 (3, .bipush 81, 2) (List.mem_of_getElem? (i := 3) rfl)) ⟨rfl, rfl, rfl, rfl⟩ ?_
    refine y_icm (e_160 (5, .if_icmp .ge 16, 3) (List.mem_of_getElem? (i := 4) rfl)) rfl (fun hc => ?_) (fun hc => ?_)
    · have := y_hI.2.2.2.2.1 hc
      omega
    · refine y_aln (e_160 (8, .aload_n 0, 1) (List.mem_of_getElem? (i := 5) rfl)) g0 ?_
      refine y_getf hI ta (e_160 (9, .getfield 37, 3) (List.mem_of_getElem? (i := 6) rfl)) u_17_37 ⟨rfl, rfl⟩ h7' ?_
      refine y_iln (e_160 (12, .iload_n 1, 1) (List.mem_of_getElem? (i := 7) rfl)) g1 ?_
      refine y_st (e_160 (13, .iconst 0, 1) (List.mem_of_getElem? (i := 8) rfl)) ⟨rfl, rfl, rfl, rfl⟩ ?_
      refine y_iast hI tb (e_160 (14, .iastore, 1) (List.mem_of_getElem? (i := 9) rfl)) ⟨rfl, rfl⟩ ⟨j0, by show _ < (81 : Int); omega⟩ (fun G1 u1 => ?_)
      refine y_iinc (e_160 (15, .iinc 1 1, 3) (List.mem_of_getElem? (i := 10) rfl)) g1 (by decide) ?_
      refine y_st (e_160 (18, .goto (-16), 3) (List.mem_of_getElem? (i := 11) rfl)) ⟨rfl, rfl, rfl, rfl⟩ ?_
      refine ih G1 _ (j + Int32.ofInt 1) (hI.upd u1 tb (y_okA (y_one (show j.toInt.toNat < 81 by omega)))) (y_updO hO u1) (by omega) (by omega) (by omega) (fun i hi => ?_) (y_gpr g0 (by decide)) x_get_self
      rw [u1.2.1]
      by_cases hij : i = j.toInt.toNat
      · rw [if_pos ⟨rfl, hij⟩]; rfl
      · rw [if_neg (fun z => hij z.2)]
        exact hj i (by omega)
set_option maxHeartbeats 2000000 in
set_option maxRecDepth 100000 in
theorem g_clearsD {G : List pE} (hI : xI x_tbd th G) (ta : th[a]? = some 10) (h7 : x_sl G a 7 = some (.ref hb)) (tb : th[hb]? = some 37) : x_Gd xs L J d m_160 (fun r G' => r = none ∧ xI x_tbd th G' ∧ (∀ k i, k ≠ hb → x_sl G' k i = x_sl G k i) ∧ ∀ i, i < 81 → x_sl G' hb i = some (.int (z_cl i))) 0 (lv_args 0 [.ref a]) [] G := by
  have ne : a ≠ hb := fun z => by rw [z, tb] at ta; cases ta
  refine y_st (e_160 (0, .iconst 0, 1) (List.mem_of_getElem? (i := 0) rfl)) ⟨rfl, rfl, rfl, rfl⟩ ?_
  refine y_isn (e_160 (1, .istore_n 1, 1) (List.mem_of_getElem? (i := 1) rfl)) (by decide) ?_
  refine g_cllD (G0 := G) ta tb h7 (fun G0 lv hI0 hO0 hc0 g0 => ?_) _ G _ 0 hI (fun _ _ _ => rfl) (by decide) (by decide) rfl (fun i hi => absurd hi (by show ¬ (i : Int) < 0; omega)) (y_gpr rfl (by decide)) x_get_self
  have h70 : x_sl G0 a 7 = some (.ref hb) := (hO0 a 7 ne).trans h7
  refine y_aln (e_160 (21, .aload_n 0, 1) (List.mem_of_getElem? (i := 12) rfl)) g0 ?_
  refine y_getf hI0 ta (e_160 (22, .getfield 37, 3) (List.mem_of_getElem? (i := 13) rfl)) u_17_37 ⟨rfl, rfl⟩ h70 ?_
  refine y_st (e_160 (25, .iconst 0, 1) (List.mem_of_getElem? (i := 14) rfl)) ⟨rfl, rfl, rfl, rfl⟩ ?_
  refine y_st (e_160 (26, .bipush 10, 2) (List.mem_of_getElem? (i := 15) rfl)) ⟨rfl, rfl, rfl, rfl⟩ ?_
  refine y_iast hI0 tb (e_160 (28, .iastore, 1) (List.mem_of_getElem? (i := 16) rfl)) ⟨rfl, rfl⟩ ⟨by decide, by decide⟩ (fun G1 u1 => ?_)
  rw [show (Int32.ofInt 0).toInt.toNat = 0 by decide] at u1
  have hI1 := hI0.upd u1 tb (y_okA (y_one (show 0 < 81 by decide)))
  have hO1 := y_updO hO0 u1
  have hc1 := y_updI hc0 u1
  have h71 : x_sl G1 a 7 = some (.ref hb) := (hO1 a 7 ne).trans h7
  refine y_aln (e_160 (29, .aload_n 0, 1) (List.mem_of_getElem? (i := 17) rfl)) g0 ?_
  refine y_getf hI1 ta (e_160 (30, .getfield 37, 3) (List.mem_of_getElem? (i := 18) rfl)) u_17_37 ⟨rfl, rfl⟩ h71 ?_
  refine y_st (e_160 (33, .iconst 1, 1) (List.mem_of_getElem? (i := 19) rfl)) ⟨rfl, rfl, rfl, rfl⟩ ?_
  refine y_st (e_160 (34, .bipush 10, 2) (List.mem_of_getElem? (i := 20) rfl)) ⟨rfl, rfl, rfl, rfl⟩ ?_
  refine y_iast hI1 tb (e_160 (36, .iastore, 1) (List.mem_of_getElem? (i := 21) rfl)) ⟨rfl, rfl⟩ ⟨by decide, by decide⟩ (fun G2 u2 => ?_)
  rw [show (Int32.ofInt 1).toInt.toNat = 1 by decide] at u2
  have hI2 := hI1.upd u2 tb (y_okA (y_one (show 1 < 81 by decide)))
  have hO2 := y_updO hO1 u2
  have hc2 := y_updI hc1 u2
  have h72 : x_sl G2 a 7 = some (.ref hb) := (hO2 a 7 ne).trans h7
  refine y_aln (e_160 (37, .aload_n 0, 1) (List.mem_of_getElem? (i := 22) rfl)) g0 ?_
  refine y_getf hI2 ta (e_160 (38, .getfield 37, 3) (List.mem_of_getElem? (i := 23) rfl)) u_17_37 ⟨rfl, rfl⟩ h72 ?_
  refine y_st (e_160 (41, .bipush 6, 2) (List.mem_of_getElem? (i := 24) rfl)) ⟨rfl, rfl, rfl, rfl⟩ ?_
  refine y_st (e_160 (43, .iconst 5, 1) (List.mem_of_getElem? (i := 25) rfl)) ⟨rfl, rfl, rfl, rfl⟩ ?_
  refine y_iast hI2 tb (e_160 (44, .iastore, 1) (List.mem_of_getElem? (i := 26) rfl)) ⟨rfl, rfl⟩ ⟨by decide, by decide⟩ (fun G3 u3 => ?_)
  rw [show ((Int8.ofInt 6).toInt32).toInt.toNat = 6 by decide] at u3
  have hI3 := hI2.upd u3 tb (y_okA (y_one (show 6 < 81 by decide)))
  have hO3 := y_updO hO2 u3
  have hc3 := y_updI hc2 u3
  have h73 : x_sl G3 a 7 = some (.ref hb) := (hO3 a 7 ne).trans h7
  refine y_aln (e_160 (45, .aload_n 0, 1) (List.mem_of_getElem? (i := 27) rfl)) g0 ?_
  refine y_getf hI3 ta (e_160 (46, .getfield 37, 3) (List.mem_of_getElem? (i := 28) rfl)) u_17_37 ⟨rfl, rfl⟩ h73 ?_
  refine y_st (e_160 (49, .bipush 7, 2) (List.mem_of_getElem? (i := 29) rfl)) ⟨rfl, rfl, rfl, rfl⟩ ?_
  refine y_st (e_160 (51, .iconst 1, 1) (List.mem_of_getElem? (i := 30) rfl)) ⟨rfl, rfl, rfl, rfl⟩ ?_
  refine y_iast hI3 tb (e_160 (52, .iastore, 1) (List.mem_of_getElem? (i := 31) rfl)) ⟨rfl, rfl⟩ ⟨by decide, by decide⟩ (fun G4 u4 => ?_)
  rw [show ((Int8.ofInt 7).toInt32).toInt.toNat = 7 by decide] at u4
  have hI4 := hI3.upd u4 tb (y_okA (y_one (show 7 < 81 by decide)))
  have hO4 := y_updO hO3 u4
  have hc4 := y_updI hc3 u4
  have h74 : x_sl G4 a 7 = some (.ref hb) := (hO4 a 7 ne).trans h7
  refine y_aln (e_160 (53, .aload_n 0, 1) (List.mem_of_getElem? (i := 32) rfl)) g0 ?_
  refine y_getf hI4 ta (e_160 (54, .getfield 37, 3) (List.mem_of_getElem? (i := 33) rfl)) u_17_37 ⟨rfl, rfl⟩ h74 ?_
  refine y_st (e_160 (57, .bipush 8, 2) (List.mem_of_getElem? (i := 34) rfl)) ⟨rfl, rfl, rfl, rfl⟩ ?_
  refine y_st (e_160 (59, .iconst 5, 1) (List.mem_of_getElem? (i := 35) rfl)) ⟨rfl, rfl, rfl, rfl⟩ ?_
  refine y_iast hI4 tb (e_160 (60, .iastore, 1) (List.mem_of_getElem? (i := 36) rfl)) ⟨rfl, rfl⟩ ⟨by decide, by decide⟩ (fun G5 u5 => ?_)
  rw [show ((Int8.ofInt 8).toInt32).toInt.toNat = 8 by decide] at u5
  have hI5 := hI4.upd u5 tb (y_okA (y_one (show 8 < 81 by decide)))
  have hO5 := y_updO hO4 u5
  have hc5 := y_updI hc4 u5
  have h75 : x_sl G5 a 7 = some (.ref hb) := (hO5 a 7 ne).trans h7
  refine y_aln (e_160 (61, .aload_n 0, 1) (List.mem_of_getElem? (i := 37) rfl)) g0 ?_
  refine y_getf hI5 ta (e_160 (62, .getfield 37, 3) (List.mem_of_getElem? (i := 38) rfl)) u_17_37 ⟨rfl, rfl⟩ h75 ?_
  refine y_st (e_160 (65, .bipush 9, 2) (List.mem_of_getElem? (i := 39) rfl)) ⟨rfl, rfl, rfl, rfl⟩ ?_
  refine y_st (e_160 (67, .iconst 1, 1) (List.mem_of_getElem? (i := 40) rfl)) ⟨rfl, rfl, rfl, rfl⟩ ?_
  refine y_iast hI5 tb (e_160 (68, .iastore, 1) (List.mem_of_getElem? (i := 41) rfl)) ⟨rfl, rfl⟩ ⟨by decide, by decide⟩ (fun G6 u6 => ?_)
  rw [show ((Int8.ofInt 9).toInt32).toInt.toNat = 9 by decide] at u6
  have hI6 := hI5.upd u6 tb (y_okA (y_one (show 9 < 81 by decide)))
  have hO6 := y_updO hO5 u6
  have hc6 := y_updI hc5 u6
  have h76 : x_sl G6 a 7 = some (.ref hb) := (hO6 a 7 ne).trans h7
  refine y_aln (e_160 (69, .aload_n 0, 1) (List.mem_of_getElem? (i := 42) rfl)) g0 ?_
  refine y_getf hI6 ta (e_160 (70, .getfield 37, 3) (List.mem_of_getElem? (i := 43) rfl)) u_17_37 ⟨rfl, rfl⟩ h76 ?_
  refine y_st (e_160 (73, .bipush 10, 2) (List.mem_of_getElem? (i := 44) rfl)) ⟨rfl, rfl, rfl, rfl⟩ ?_
  refine y_st (e_160 (75, .iconst 4, 1) (List.mem_of_getElem? (i := 45) rfl)) ⟨rfl, rfl, rfl, rfl⟩ ?_
  refine y_iast hI6 tb (e_160 (76, .iastore, 1) (List.mem_of_getElem? (i := 46) rfl)) ⟨rfl, rfl⟩ ⟨by decide, by decide⟩ (fun G7 u7 => ?_)
  rw [show ((Int8.ofInt 10).toInt32).toInt.toNat = 10 by decide] at u7
  have hI7 := hI6.upd u7 tb (y_okA (y_one (show 10 < 81 by decide)))
  have hO7 := y_updO hO6 u7
  have hc7 := y_updI hc6 u7
  have h77 : x_sl G7 a 7 = some (.ref hb) := (hO7 a 7 ne).trans h7
  refine y_aln (e_160 (77, .aload_n 0, 1) (List.mem_of_getElem? (i := 47) rfl)) g0 ?_
  refine y_getf hI7 ta (e_160 (78, .getfield 37, 3) (List.mem_of_getElem? (i := 48) rfl)) u_17_37 ⟨rfl, rfl⟩ h77 ?_
  refine y_st (e_160 (81, .bipush 11, 2) (List.mem_of_getElem? (i := 49) rfl)) ⟨rfl, rfl, rfl, rfl⟩ ?_
  refine y_st (e_160 (83, .bipush 20, 2) (List.mem_of_getElem? (i := 50) rfl)) ⟨rfl, rfl, rfl, rfl⟩ ?_
  refine y_iast hI7 tb (e_160 (85, .iastore, 1) (List.mem_of_getElem? (i := 51) rfl)) ⟨rfl, rfl⟩ ⟨by decide, by decide⟩ (fun G8 u8 => ?_)
  rw [show ((Int8.ofInt 11).toInt32).toInt.toNat = 11 by decide] at u8
  have hI8 := hI7.upd u8 tb (y_okA (y_one (show 11 < 81 by decide)))
  have hO8 := y_updO hO7 u8
  have hc8 := y_updI hc7 u8
  have h78 : x_sl G8 a 7 = some (.ref hb) := (hO8 a 7 ne).trans h7
  refine y_aln (e_160 (86, .aload_n 0, 1) (List.mem_of_getElem? (i := 52) rfl)) g0 ?_
  refine y_getf hI8 ta (e_160 (87, .getfield 37, 3) (List.mem_of_getElem? (i := 53) rfl)) u_17_37 ⟨rfl, rfl⟩ h78 ?_
  refine y_st (e_160 (90, .bipush 12, 2) (List.mem_of_getElem? (i := 54) rfl)) ⟨rfl, rfl, rfl, rfl⟩ ?_
  refine y_st (e_160 (92, .iconst (-1), 1) (List.mem_of_getElem? (i := 55) rfl)) ⟨rfl, rfl, rfl, rfl⟩ ?_
  refine y_iast hI8 tb (e_160 (93, .iastore, 1) (List.mem_of_getElem? (i := 56) rfl)) ⟨rfl, rfl⟩ ⟨by decide, by decide⟩ (fun G9 u9 => ?_)
  rw [show ((Int8.ofInt 12).toInt32).toInt.toNat = 12 by decide] at u9
  have hI9 := hI8.upd u9 tb (y_okA (y_one (show 12 < 81 by decide)))
  have hO9 := y_updO hO8 u9
  have hc9 := y_updI hc8 u9
  refine y_ret (e_160 (94, .return_, 1) (List.mem_of_getElem? (i := 57) rfl)) ⟨rfl, rfl⟩ ⟨rfl, hI9, hO9, hc9⟩
end ZXD
section ZCP
variable {th : List Nat} {xs : Nat → Int32} {L J d a sc hb : Nat} {G0 : List pE} {K : Option Value → List pE → Prop}
set_option maxHeartbeats 2000000 in
set_option maxRecDepth 100000 in
theorem g_icp (ta : th[a]? = some 10) (h6 : x_sl G0 a 6 = some (.ref sc)) (tc : th[sc]? = some 36) (h7 : x_sl G0 a 7 = some (.ref hb)) (tb : th[hb]? = some 37) (hhf : ∀ i, i < 81 → x_sl G0 hb i = some (.int (z_cl i))) (hK : ∀ G', xI x_tbd th G' → (∀ k i, k ≠ sc → x_sl G' k i = x_sl G0 k i) → (∀ i, i < 324 → x_sl G' sc i = some (.int (if i < 81 then z_cl i else 0))) → K none G') : ∀ (m : Nat) (G : List pE) (lv : pL) (j : Int32), xI x_tbd th G → (∀ k i, k ≠ sc → x_sl G k i = x_sl G0 k i) → 0 ≤ j.toInt → j.toInt ≤ 81 → (81 - j.toInt).toNat = m → (∀ i : Nat, (i : Int) < j.toInt → x_sl G sc i = some (.int (z_cl i))) → (∀ i : Nat, j.toInt ≤ (i : Int) → i < 324 → x_sl G sc i = some (.int 0)) → pm_get lv 0 = some (.ref a) → pm_get lv 1 = some (.int j) → x_Gd xs L J d m_159 K 376 lv [] G := by
  have ne : a ≠ sc := fun z => by rw [z, tc] at ta; cases ta
  have ne2 : hb ≠ sc := fun z => by rw [z, tc] at tb; cases tb
  have e81 : ((Int8.ofInt 81).toInt32).toInt = 81 := by decide
  intro m
  induction m with
  | zero =>
    intro G lv j hI hO j0 j1 hm hj hj2 g0 g1
    refine y_iln (e_159 (376, .iload_n 1, 1) (List.mem_of_getElem? (i := 191) rfl)) g1 ?_
    refine y_st (e_159 (377, .bipush 81, 2) (List.mem_of_getElem? (i := 192) rfl)) ⟨rfl, rfl, rfl, rfl⟩ ?_
    refine y_icm (e_159 (379, .if_icmp .ge 21, 3) (List.mem_of_getElem? (i := 193) rfl)) rfl (fun hc => ?_) (fun hc => ?_)
    · refine y_ret (e_159 (400, .return_, 1) (List.mem_of_getElem? (i := 204) rfl)) ⟨rfl, rfl⟩ (hK G hI hO (fun i hi => ?_))
      by_cases h81 : i < 81
      · rw [if_pos h81]; exact hj i (by omega)
      · rw [if_neg h81]; exact hj2 i (by omega) hi
    · have := y_hI.2.2.2.2.2.1 hc
      omega
  | succ m ih =>
    intro G lv j hI hO j0 j1 hm hj hj2 g0 g1
    have e1 := y_add1 (t := j) (by omega)
    have h6' : x_sl G a 6 = some (.ref sc) := (hO a 6 ne).trans h6
    have h7' : x_sl G a 7 = some (.ref hb) := (hO a 7 ne).trans h7
    refine y_iln (e_159 (376, .iload_n 1, 1) (List.mem_of_getElem? (i := 191) rfl)) g1 ?_
    refine y_st (e_159 (377, .bipush 81, 2) (List.mem_of_getElem? (i := 192) rfl)) ⟨rfl, rfl, rfl, rfl⟩ ?_
    refine y_icm (e_159 (379, .if_icmp .ge 21, 3) (List.mem_of_getElem? (i := 193) rfl)) rfl (fun hc => ?_) (fun hc => ?_)
    · have := y_hI.2.2.2.2.1 hc
      omega
    · refine y_aln (e_159 (382, .aload_n 0, 1) (List.mem_of_getElem? (i := 194) rfl)) g0 ?_
      refine y_getf hI ta (e_159 (383, .getfield 33, 3) (List.mem_of_getElem? (i := 195) rfl)) u_17_33 ⟨rfl, rfl⟩ h6' ?_
      refine y_iln (e_159 (386, .iload_n 1, 1) (List.mem_of_getElem? (i := 196) rfl)) g1 ?_
      refine y_aln (e_159 (387, .aload_n 0, 1) (List.mem_of_getElem? (i := 197) rfl)) g0 ?_
      refine y_getf hI ta (e_159 (388, .getfield 37, 3) (List.mem_of_getElem? (i := 198) rfl)) u_17_37 ⟨rfl, rfl⟩ h7' ?_
      refine y_iln (e_159 (391, .iload_n 1, 1) (List.mem_of_getElem? (i := 199) rfl)) g1 ?_
      refine y_iald hI tb (e_159 (392, .iaload, 1) (List.mem_of_getElem? (i := 200) rfl)) ⟨rfl, rfl⟩ j0 ((hO hb _ ne2).trans (hhf j.toInt.toNat (by omega))) ?_
      refine y_iast hI tc (e_159 (393, .iastore, 1) (List.mem_of_getElem? (i := 201) rfl)) ⟨rfl, rfl⟩ ⟨j0, by show _ < (324 : Int); omega⟩ (fun G1 u1 => ?_)
      refine y_iinc (e_159 (394, .iinc 1 1, 3) (List.mem_of_getElem? (i := 202) rfl)) g1 (by decide) ?_
      refine y_st (e_159 (397, .goto (-21), 3) (List.mem_of_getElem? (i := 203) rfl)) ⟨rfl, rfl, rfl, rfl⟩ ?_
      refine ih G1 _ (j + Int32.ofInt 1) (hI.upd u1 tc (y_okA (y_one (show j.toInt.toNat < 324 by omega)))) (y_updO hO u1) (by omega) (by omega) (by omega) (fun i hi => ?_) (fun i hi hi2 => ?_) (y_gpr g0 (by decide)) x_get_self
      · rw [u1.2.1]
        by_cases hij : i = j.toInt.toNat
        · rw [if_pos ⟨rfl, hij⟩, hij]
        · rw [if_neg (fun z => hij z.2)]
          exact hj i (by omega)
      · rw [u1.2.1, if_neg (fun z => by omega)]
        exact hj2 i (by omega) hi2
end ZCP
set_option maxRecDepth 1000000 in
theorem z_G3_6 : x_sl z_G3 349 6 = some (.ref 351) := by decide +kernel
set_option maxRecDepth 1000000 in
theorem z_G3_7 : x_sl z_G3 349 7 = some (.ref 352) := by decide +kernel
set_option maxRecDepth 1000000 in
theorem z_G3_s : ∀ i, i < 324 → x_sl z_G3 351 i = some (.int 0) := by decide +kernel
theorem th1_m : th1[349]? = some 10 ∧ th1[351]? = some 36 ∧ th1[352]? = some 37 := by decide +kernel
set_option maxHeartbeats 2000000 in
set_option maxRecDepth 100000 in
theorem g_mdl2 {xs : Nat → Int32} {L d : Nat} : x_Gd xs L 0 (d + 1) m_159 (fun r G' => r = none ∧ xI x_tbd th1 G' ∧ (∀ k i, k ≠ 351 → k ≠ 352 → x_sl G' k i = x_sl z_G3 k i) ∧ (∀ i, i < 324 → x_sl G' 351 i = some (.int (if i < 81 then z_cl i else 0))) ∧ ∀ i, i < 81 → x_sl G' 352 i = some (.int (z_cl i))) 370 [(0, .ref 349)] [] z_G3 := by
  have hI := x_chkI_ok z_G3_ok
  obtain ⟨ta, tc, tb⟩ := th1_m
  refine y_aln (e_159 (370, .aload_n 0, 1) (List.mem_of_getElem? (i := 187) rfl)) rfl ?_
  refine y_c1 (K' := _) (e_159 (371, .invokevirtual 128, 3) (List.mem_of_getElem? (i := 188) rfl)) ⟨rfl, rfl, rfl⟩ t_17_128 ⟨by decide, by decide, by decide, by decide⟩ m_160_ok rfl (by decide) (y_recv hI ta ⟨rfl, rfl⟩) (Nat.le_of_ble_eq_true rfl) (Nat.le_of_ble_eq_true rfl) (g_clearsD (d := d) hI ta z_G3_7 tb) (fun r1 G1 h1 => ?_)
  obtain ⟨rfl, hI1, hO1, hc1⟩ := h1
  simp only [Option.toList_some, Option.toList_none, List.cons_append, List.nil_append]
  refine y_st (e_159 (374, .iconst 0, 1) (List.mem_of_getElem? (i := 189) rfl)) ⟨rfl, rfl, rfl, rfl⟩ ?_
  refine y_isn (e_159 (375, .istore_n 1, 1) (List.mem_of_getElem? (i := 190) rfl)) (by decide) ?_
  refine g_icp (G0 := G1) (sc := 351) (hb := 352) ta ((hO1 349 6 (by decide)).trans z_G3_6) tc ((hO1 349 7 (by decide)).trans z_G3_7) tb hc1 (fun G2 hI2 hO2 hc2 => ?_) _ G1 _ 0 hI1 (fun _ _ _ => rfl) (by decide) (by decide) rfl (fun i hi => absurd hi (by show ¬ (i : Int) < 0; omega)) (fun i _ hi => (hO1 351 i (by decide)).trans (z_G3_s i hi)) (y_gpr rfl (by decide)) x_get_self
  exact ⟨rfl, hI2, fun k i h1 h2 => (hO2 k i h1).trans (hO1 k i h2), hc2, fun i hi => (hO2 352 i (by decide)).trans (hc1 i hi)⟩
theorem pm_run_cs (xs : Nat → Int32) (L J : Nat) : ∀ (f d : Nat) (M : pM) (pc : Nat) (lv : pL) (ws : List Value) (G : List pE) (c s : Nat), pm_run xs L J f d M pc lv ws G c s = (pm_run xs L J f d M pc lv ws G 0 0).map (fun z => (z.1, z.2.1, c + z.2.2.1, s + z.2.2.2))
  | 0, _, _, _, _, _, _, _, _ => rfl
  | f + 1, d, M, pc, lv, ws, G, c, s => by
    have ih := pm_run_cs xs L J f
    have two : ∀ (d : Nat) (M : pM) (pc : Nat) (lv : pL) (ws : List Value) (G : List pE) (a b : Nat), pm_run xs L J f d M pc lv ws G (c + a) (s + b) = (pm_run xs L J f d M pc lv ws G (0 + a) (0 + b)).map (fun z => (z.1, z.2.1, c + z.2.2.1, s + z.2.2.2)) := by
      intro d M pc lv ws G a b
      rw [ih d M pc lv ws G (c + a) (s + b), ih d M pc lv ws G (0 + a) (0 + b), Option.map_map]
      congr 1
      funext z
      simp only [Function.comp]
      rw [Nat.zero_add, Nat.zero_add, Nat.add_assoc, Nat.add_assoc]
    have one : ∀ (d : Nat) (M : pM) (pc : Nat) (lv : pL) (ws : List Value) (G : List pE), pm_run xs L J f d M pc lv ws G c s = (pm_run xs L J f d M pc lv ws G 0 0).map (fun z => (z.1, z.2.1, c + z.2.2.1, s + z.2.2.2)) := fun d M pc lv ws G => ih d M pc lv ws G c s
    simp only [pm_run]
    repeat' split
    all_goals first | rfl | exact two _ _ _ _ _ _ _ _ | exact one _ _ _ _ _ _ | (simp; done)
