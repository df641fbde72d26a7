section TM2
variable {th : List Nat} {xs : Nat → Int32} {L J d am mb : Nat} {K : Option Value → List pE → Prop} {f : Nat → Int32} {G0 G G1 : List pE} {n lim p tok at9 sp num : Int32} {wd : Int64} {lv : pL}
set_option maxHeartbeats 2000000 in
set_option maxRecDepth 100000 in
theorem nx_skip (g0 : pm_get lv 0 = some (.ref am)) (hn : n.toInt ≤ 940) {P0 : Nat} (hK : ∀ (G' : List pE) (v : Int32), TM th am mb f G0 n lim v tok at9 sp num wd G' → 0 ≤ v.toInt → t_End t_bl f n.toInt.toNat P0 v.toInt.toNat → x_Gd xs L J (d + 1) m_163 K 31 lv [] G') : ∀ (k : Nat) (G : List pE) (p : Int32), TM th am mb f G0 n lim p tok at9 sp num wd G → 0 ≤ p.toInt → p.toInt ≤ n.toInt → P0 ≤ p.toInt.toNat → (∀ i, P0 ≤ i → i < p.toInt.toNat → t_bl (f i) = true) → (n.toInt - p.toInt).toNat ≤ k → x_Gd xs L J (d + 1) m_163 K 0 lv [] G := by
  intro k
  induction k with
  | zero =>
    intro G p h v0 v1 hP hb hk
    have hpk : t_pk f n p = Int32.ofInt (-1) := by unfold t_pk; rw [if_neg (by omega)]
    refine y_aln (e_163 (0, .aload_n 0, 1) (List.mem_of_getElem? (i := 0) rfl)) g0 ?_
    refine y_c1 (K' := _) (e_163 (1, .invokevirtual 131, 3) (List.mem_of_getElem? (i := 1) rfl)) ⟨rfl, rfl, rfl⟩ t_17_131 ⟨by decide, by decide, by decide, by decide⟩ m_164_ok rfl (by decide) (y_recv h.I h.t ⟨rfl, rfl⟩) (Nat.le_of_ble_eq_true rfl) (Nat.le_of_ble_eq_true rfl) (k_peek h v0 hn) (fun r1 Gc hc1 => ?_)
    obtain ⟨rfl, rfl⟩ := hc1
    simp only [Option.toList_some, Option.toList_none, List.cons_append, List.nil_append]
    refine y_st (e_163 (4, .bipush 32, 2) (List.mem_of_getElem? (i := 2) rfl)) ⟨rfl, rfl, rfl, rfl⟩ ?_
    refine y_icm (e_163 (6, .if_icmp .eq 12, 3) (List.mem_of_getElem? (i := 3) rfl)) rfl (fun hc => ?_) (fun hc => ?_)
    · have := y_hI.1 hc
      rw [hpk] at this
      exact absurd this (by decide)
    refine y_aln (e_163 (9, .aload_n 0, 1) (List.mem_of_getElem? (i := 4) rfl)) g0 ?_
    refine y_c1 (K' := _) (e_163 (10, .invokevirtual 131, 3) (List.mem_of_getElem? (i := 5) rfl)) ⟨rfl, rfl, rfl⟩ t_17_131 ⟨by decide, by decide, by decide, by decide⟩ m_164_ok rfl (by decide) (y_recv h.I h.t ⟨rfl, rfl⟩) (Nat.le_of_ble_eq_true rfl) (Nat.le_of_ble_eq_true rfl) (k_peek h v0 hn) (fun r1 Gc hc1 => ?_)
    obtain ⟨rfl, rfl⟩ := hc1
    simp only [Option.toList_some, Option.toList_none, List.cons_append, List.nil_append]
    refine y_st (e_163 (13, .bipush 10, 2) (List.mem_of_getElem? (i := 6) rfl)) ⟨rfl, rfl, rfl, rfl⟩ ?_
    refine y_icm (e_163 (15, .if_icmp .ne 16, 3) (List.mem_of_getElem? (i := 7) rfl)) rfl (fun hc => ?_) (fun hc => ?_)
    · exact hK _ p h v0 ⟨hP, by omega, hb, fun z => by omega⟩
    · have := y_hI.2.2.2.1 hc
      rw [hpk] at this
      exact absurd this (by decide)
  | succ k ih =>
    intro G p h v0 v1 hP hb hk
    have step : t_bl (f p.toInt.toNat) = true → p.toInt < n.toInt → x_Gd xs L J (d + 1) m_163 K 18 lv [] G := fun hbl hlt => by
      have e1 : (p + Int32.ofInt 1).toInt = p.toInt + 1 := y_add1 (t := p) (by omega)
      refine y_aln (e_163 (18, .aload_n 0, 1) (List.mem_of_getElem? (i := 8) rfl)) g0 ?_
      refine y_st (e_163 (19, .dup, 1) (List.mem_of_getElem? (i := 9) rfl)) ⟨rfl, rfl, rfl, rfl⟩ ?_
      refine y_getf h.I h.t (e_163 (20, .getfield 21, 3) (List.mem_of_getElem? (i := 10) rfl)) u_17_21 ⟨rfl, rfl⟩ h.s4 ?_
      refine y_st (e_163 (23, .iconst 1, 1) (List.mem_of_getElem? (i := 11) rfl)) ⟨rfl, rfl, rfl, rfl⟩ ?_
      refine y_st (e_163 (24, .iadd, 1) (List.mem_of_getElem? (i := 12) rfl)) ⟨rfl, rfl, rfl, rfl⟩ ?_
      refine y_putf (f := (0, 0, 940)) h.I h.t (e_163 (25, .putfield 21, 3) (List.mem_of_getElem? (i := 13) rfl)) u_17_21 ⟨rfl, rfl, by decide, rfl, rfl⟩ ⟨_, rfl, by show (0 : Int) ≤ _; omega, by show _ ≤ (940 : Int); omega⟩ (fun Ga1 ua1 => ?_)
      have ha1 := h.u4 ua1 ⟨by omega, by omega⟩
      refine y_st (e_163 (28, .goto (-28), 3) (List.mem_of_getElem? (i := 14) rfl)) ⟨rfl, rfl, rfl, rfl⟩ ?_
      refine ih _ _ ha1 (by omega) (by omega) (by omega) (fun i h1 h2 => ?_) (by omega)
      by_cases hi : i = p.toInt.toNat
      · rw [hi]; exact hbl
      · exact hb i h1 (by omega)
    have hpk : p.toInt < n.toInt → t_pk f n p = f p.toInt.toNat &&& 255 := fun z => by unfold t_pk; rw [if_pos z]; rfl
    have hpn : ¬ p.toInt < n.toInt → t_pk f n p = Int32.ofInt (-1) := fun z => by unfold t_pk; rw [if_neg z]
    have hbb := fun z : p.toInt < n.toInt => t_bl_255 (h.fb (i := p.toInt.toNat) (by omega))
    refine y_aln (e_163 (0, .aload_n 0, 1) (List.mem_of_getElem? (i := 0) rfl)) g0 ?_
    refine y_c1 (K' := _) (e_163 (1, .invokevirtual 131, 3) (List.mem_of_getElem? (i := 1) rfl)) ⟨rfl, rfl, rfl⟩ t_17_131 ⟨by decide, by decide, by decide, by decide⟩ m_164_ok rfl (by decide) (y_recv h.I h.t ⟨rfl, rfl⟩) (Nat.le_of_ble_eq_true rfl) (Nat.le_of_ble_eq_true rfl) (k_peek h v0 hn) (fun r1 Gc hc1 => ?_)
    obtain ⟨rfl, rfl⟩ := hc1
    simp only [Option.toList_some, Option.toList_none, List.cons_append, List.nil_append]
    refine y_st (e_163 (4, .bipush 32, 2) (List.mem_of_getElem? (i := 2) rfl)) ⟨rfl, rfl, rfl, rfl⟩ ?_
    refine y_icm (e_163 (6, .if_icmp .eq 12, 3) (List.mem_of_getElem? (i := 3) rfl)) rfl (fun hc => ?_) (fun hc => ?_)
    · have hz := y_hI.1 hc
      by_cases hlt : p.toInt < n.toInt
      · rw [hpk hlt] at hz
        exact step ((hbb hlt).mpr (Or.inl (by rw [hz]; rfl))) hlt
      · rw [hpn hlt] at hz
        exact absurd hz (by decide)
    have n1 := y_hI.2.1 hc
    refine y_aln (e_163 (9, .aload_n 0, 1) (List.mem_of_getElem? (i := 4) rfl)) g0 ?_
    refine y_c1 (K' := _) (e_163 (10, .invokevirtual 131, 3) (List.mem_of_getElem? (i := 5) rfl)) ⟨rfl, rfl, rfl⟩ t_17_131 ⟨by decide, by decide, by decide, by decide⟩ m_164_ok rfl (by decide) (y_recv h.I h.t ⟨rfl, rfl⟩) (Nat.le_of_ble_eq_true rfl) (Nat.le_of_ble_eq_true rfl) (k_peek h v0 hn) (fun r1 Gc hc1 => ?_)
    obtain ⟨rfl, rfl⟩ := hc1
    simp only [Option.toList_some, Option.toList_none, List.cons_append, List.nil_append]
    refine y_st (e_163 (13, .bipush 10, 2) (List.mem_of_getElem? (i := 6) rfl)) ⟨rfl, rfl, rfl, rfl⟩ ?_
    refine y_icm (e_163 (15, .if_icmp .ne 16, 3) (List.mem_of_getElem? (i := 7) rfl)) rfl (fun hc => ?_) (fun hc => ?_)
    · have n2 := y_hI.2.2.1 hc
      refine hK _ p h v0 ⟨hP, by omega, hb, fun hlt => ?_⟩
      have hlt : p.toInt < n.toInt := by omega
      rw [hpk hlt] at n1 n2
      cases hbl : t_bl (f p.toInt.toNat)
      · rfl
      · rcases (hbb hlt).mp hbl with z | z
        · exact absurd (Int32.toInt_inj.mp (by rw [z]; rfl)) n1
        · exact absurd (Int32.toInt_inj.mp (by rw [z]; rfl)) n2
    · have hz := y_hI.2.2.2.1 hc
      by_cases hlt : p.toInt < n.toInt
      · rw [hpk hlt] at hz
        exact step ((hbb hlt).mpr (Or.inr (by rw [hz]; rfl))) hlt
      · rw [hpn hlt] at hz
        exact absurd hz (by decide)
end TM2
