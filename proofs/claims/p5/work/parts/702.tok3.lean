theorem y_isT {k : Nat} (h : k < 35) : pm_isTok (pm_TB + k) = true := by
  unfold pm_isTok
  simp [h]
section TK3
variable {th : List Nat} {xs : Nat → Int32} {L J d tp b : Nat} {K : Option Value → List pE → Prop} {f : Nat → Int32} {G0 G G1 : List pE} {n lim nx pl num ft fp : Int32} {tk : Nat} {nm : Int64} {lv : pL}
theorem t_2_53 : pm_ctab.find? (fun r => r.1 == 2 && r.2.1 == 53) = some (2, 53, 2, 22, 560) := by decide +kernel
theorem t_2_60 : pm_ctab.find? (fun r => r.1 == 2 && r.2.1 == 60) = some (2, 60, 2, 23, 565) := by decide +kernel
theorem t_2_65 : pm_ctab.find? (fun r => r.1 == 2 && r.2.1 == 65) = some (2, 65, 2, 24, 569) := by decide +kernel
set_option maxHeartbeats 2000000 in
set_option maxRecDepth 100000 in
theorem rt_skip (g0 : pm_get lv 0 = some (.ref tp)) (hn : n.toInt ≤ 940) {P0 : Nat} (hK : ∀ (G' : List pE) (v : Int32), TC th tp b f G0 n lim v tk pl num nm ft fp G' → 0 ≤ v.toInt → t_End t_bl f n.toInt.toNat P0 v.toInt.toNat → x_Gd xs L J (d + 1) m_21 K 39 lv [] G') : ∀ (k : Nat) (G : List pE) (nx : Int32), TC th tp b f G0 n lim nx tk pl num nm ft fp G → 0 ≤ nx.toInt → nx.toInt ≤ n.toInt → P0 ≤ nx.toInt.toNat → (∀ i, P0 ≤ i → i < nx.toInt.toNat → t_bl (f i) = true) → (n.toInt - nx.toInt).toNat = k → x_Gd xs L J (d + 1) m_21 K 0 lv [] G := by
  intro k
  induction k with
  | zero =>
    intro G nx h v0 v1 hP hb hk
    refine y_aln (e_21 (0, .aload_n 0, 1) (List.mem_of_getElem? (i := 0) rfl)) g0 ?_
    refine y_getf h.I h.t (e_21 (1, .getfield 22, 3) (List.mem_of_getElem? (i := 1) rfl)) u_2_22 ⟨rfl, rfl⟩ h.s3 ?_
    refine y_aln (e_21 (4, .aload_n 0, 1) (List.mem_of_getElem? (i := 2) rfl)) g0 ?_
    refine y_getf h.I h.t (e_21 (5, .getfield 15, 3) (List.mem_of_getElem? (i := 3) rfl)) u_2_15 ⟨rfl, rfl⟩ h.s1 ?_
    refine y_icm (e_21 (8, .if_icmp .ge 31, 3) (List.mem_of_getElem? (i := 4) rfl)) rfl (fun hc => ?_) (fun hc => ?_)
    · exact hK G nx h v0 ⟨hP, by omega, hb, fun z => by omega⟩
    · have := y_hI.2.2.2.2.2.1 hc
      omega
  | succ k ih =>
    intro G nx h v0 v1 hP hb hk
    refine y_aln (e_21 (0, .aload_n 0, 1) (List.mem_of_getElem? (i := 0) rfl)) g0 ?_
    refine y_getf h.I h.t (e_21 (1, .getfield 22, 3) (List.mem_of_getElem? (i := 1) rfl)) u_2_22 ⟨rfl, rfl⟩ h.s3 ?_
    refine y_aln (e_21 (4, .aload_n 0, 1) (List.mem_of_getElem? (i := 2) rfl)) g0 ?_
    refine y_getf h.I h.t (e_21 (5, .getfield 15, 3) (List.mem_of_getElem? (i := 3) rfl)) u_2_15 ⟨rfl, rfl⟩ h.s1 ?_
    refine y_icm (e_21 (8, .if_icmp .ge 31, 3) (List.mem_of_getElem? (i := 4) rfl)) rfl (fun hc => ?_) (fun hc => ?_)
    · have := y_hI.2.2.2.2.1 hc
      omega
    have hlt := y_hI.2.2.2.2.2.1 hc
    refine y_aln (e_21 (11, .aload_n 0, 1) (List.mem_of_getElem? (i := 5) rfl)) g0 ?_
    refine y_getf h.I h.t (e_21 (12, .getfield 9, 3) (List.mem_of_getElem? (i := 6) rfl)) u_2_9 ⟨rfl, rfl⟩ h.s0 ?_
    refine y_aln (e_21 (15, .aload_n 0, 1) (List.mem_of_getElem? (i := 7) rfl)) g0 ?_
    refine y_getf h.I h.t (e_21 (16, .getfield 22, 3) (List.mem_of_getElem? (i := 8) rfl)) u_2_22 ⟨rfl, rfl⟩ h.s3 ?_
    refine y_bald h.I h.tb (e_21 (19, .baload, 1) (List.mem_of_getElem? (i := 9) rfl)) ⟨rfl, Or.inl rfl⟩ (by omega) (h.by _ (by omega)) ?_
    refine y_c1 (K' := _) (e_21 (20, .invokestatic 53, 3) (List.mem_of_getElem? (i := 10) rfl)) ⟨rfl, rfl, rfl⟩ t_2_53 ⟨by decide, by decide, by decide, by decide⟩ m_22_ok rfl (by decide) rfl (Nat.le_of_ble_eq_true rfl) (Nat.le_of_ble_eq_true rfl) (k_isBlank _) (fun r1 Gc hc1 => ?_)
    obtain ⟨rfl, rfl⟩ := hc1
    simp only [Option.toList_some, Option.toList_none, List.cons_append, List.nil_append]
    refine y_ifc (e_21 (23, .ifCond .eq 16, 3) (List.mem_of_getElem? (i := 11) rfl)) rfl (fun hc => ?_) (fun hc => ?_)
    · have hz := y_hI.1 hc
      refine hK Gc nx h v0 ⟨hP, by omega, hb, fun _ => ?_⟩
      cases hbl : t_bl (f nx.toInt.toNat)
      · rfl
      · rw [hbl] at hz
        exact absurd hz (by decide)
    have hz := y_hI.2.1 hc
    have hbl : t_bl (f nx.toInt.toNat) = true := by
      cases hbl : t_bl (f nx.toInt.toNat)
      · rw [hbl] at hz
        exact absurd rfl hz
      · rfl
    have e1 : (nx + Int32.ofInt 1).toInt = nx.toInt + 1 := y_add1 (t := nx) (by omega)
    refine y_aln (e_21 (26, .aload_n 0, 1) (List.mem_of_getElem? (i := 12) rfl)) g0 ?_
    refine y_st (e_21 (27, .dup, 1) (List.mem_of_getElem? (i := 13) rfl)) ⟨rfl, rfl, rfl, rfl⟩ ?_
    refine y_getf h.I h.t (e_21 (28, .getfield 22, 3) (List.mem_of_getElem? (i := 14) rfl)) u_2_22 ⟨rfl, rfl⟩ h.s3 ?_
    refine y_st (e_21 (31, .iconst 1, 1) (List.mem_of_getElem? (i := 15) rfl)) ⟨rfl, rfl, rfl, rfl⟩ ?_
    refine y_st (e_21 (32, .iadd, 1) (List.mem_of_getElem? (i := 16) rfl)) ⟨rfl, rfl, rfl, rfl⟩ ?_
    refine y_putf (f := (0, 0, 940)) h.I h.t (e_21 (33, .putfield 22, 3) (List.mem_of_getElem? (i := 17) rfl)) u_2_22 ⟨rfl, rfl, by decide, rfl, rfl⟩ ⟨_, rfl, by show (0 : Int) ≤ _; omega, by show _ ≤ (940 : Int); omega⟩ (fun Ga1 ua1 => ?_)
    have ha1 := h.u3 ua1 ⟨by omega, by omega⟩
    refine y_st (e_21 (36, .goto (-36), 3) (List.mem_of_getElem? (i := 18) rfl)) ⟨rfl, rfl, rfl, rfl⟩ ?_
    refine ih _ _ ha1 (by omega) (by omega) (by omega) (fun i h1 h2 => ?_) (by omega)
    by_cases hi : i = nx.toInt.toNat
    · rw [hi]; exact hbl
    · exact hb i h1 (by omega)
end TK3
