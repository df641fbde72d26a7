def m_40 : pM := (⟨"BreathingHill$LandReader", "beginOnce", "(LBreathingHill$Tape;)Z"⟩, 657, 3, some (FieldType.boolean), 3, 1, false, 2, 95, 656, 7)
set_option maxRecDepth 100000 in
theorem m_40_ok : pm_tab[40]? = some m_40 := rfl
theorem e_40 : ∀ q ∈ d_40, decode m_40.code q.1 = .ok (q.2.1, q.2.2) := y_dec d_40_ok m_40_ok
theorem u_3_36 : pm_ftab.find? (fun r => r.1 == 3 && r.2.1 == 36) = some (3, 36, 7, 4, 1, 133) := by decide +kernel
theorem t_3_116 : pm_ctab.find? (fun r => r.1 == 3 && r.2.1 == 116) = some (3, 116, 1, 27, 589) := by decide +kernel
theorem t_3_120 : pm_ctab.find? (fun r => r.1 == 3 && r.2.1 == 120) = some (3, 120, 1, 21, 593) := by decide +kernel
def c_Told (nt nl nn : Int32) (tn ln mn : Nat → Int64) (v : Int64) : Prop := (∃ i : Nat, (i : Int) < nl.toInt ∧ ln i = v) ∨ (∃ i : Nat, (i : Int) < nt.toInt ∧ tn i = v) ∨ (∃ i : Nat, (i : Int) < nn.toInt ∧ mn i = v)
section CS3
variable {xs : Nat → Int32} {L J d : Nat} {K : Option Value → List pE → Prop} {f : Nat → Int32} {G G1 G' : List pE} {n lim nx pl num ft fp : Int32} {tk : Nat} {nm : Int64} {lv : pL} {nx' pl' num' : Int32} {tk' : Nat} {nm' : Int64} {cc : Nat → Int32} {np nt nl nn oc : Int32} {ot : Nat → Nat} {tn ln mn : Nat → Int64}
theorem CS.cn (h : CS f n lim nx tk pl num nm ft fp cc np nt nl nn oc ot tn ln mn G) : (0 ≤ nt.toInt ∧ nt.toInt ≤ 8) ∧ (0 ≤ nl.toInt ∧ nl.toInt ≤ 4) ∧ (0 ≤ nn.toInt ∧ nn.toInt ≤ 4) ∧ (0 ≤ np.toInt ∧ np.toInt ≤ 4) ∧ (0 ≤ oc.toInt ∧ oc.toInt ≤ 5) :=
  ⟨y_fie (i := 4) (t := 0) h.1.I th0_p.2.2.2.2.2.1 rfl h.2.a32_4, y_fie (i := 5) (t := 0) h.1.I th0_p.2.2.2.2.2.1 rfl h.2.a32_5, y_fie (i := 6) (t := 0) h.1.I th0_p.2.2.2.2.2.1 rfl h.2.a32_6, y_fie (i := 5) (t := 1) h.1.I th0_p.2.2.2.2.2.2.1 rfl h.2.a33_5, y_fie (i := 2) (t := 2) h.1.I th0_p.2.2.1 rfl h.2.a3_2⟩
set_option maxHeartbeats 2000000 in
set_option maxRecDepth 100000 in
theorem k_isTold_l (h : CS f n lim nx tk pl num nm ft fp cc np nt nl nn oc ot tn ln mn G) {v : Int64} : ∀ (m : Nat) (lv : pL) (k : Int32), pm_get lv 0 = some (.ref 32) → pm_get lv 1 = some (.long v) → pm_get lv 3 = some (.int k) → 0 ≤ k.toInt → (nl.toInt - k.toInt).toNat ≤ m → (∀ i : Nat, (i : Int) < k.toInt → ln i ≠ v) → x_Gd xs L J (d + 1) m_31 (fun r G' => G' = G ∧ ∃ y : Bool, r = some (.int (if y then 1 else 0)) ∧ (y = true ↔ c_Told nt nl nn tn ln mn v)) 2 lv [] G := by
  obtain ⟨⟨t0, t1⟩, ⟨l0, l1⟩, ⟨m0, m1⟩, -, -⟩ := h.cn
  have at32 : ∀ lv : pL, pm_get lv 0 = some (.ref 32) → pm_get lv 1 = some (.long v) → (∀ i : Nat, (i : Int) < nl.toInt → ln i ≠ v) → x_Gd xs L J (d + 1) m_31 (fun r G' => G' = G ∧ ∃ y : Bool, r = some (.int (if y then 1 else 0)) ∧ (y = true ↔ c_Told nt nl nn tn ln mn v)) 32 lv [] G := fun lv g0 g1 hl => by
    refine y_aln (e_31 (32, .aload_n 0, 1) (List.mem_of_getElem? (i := 18) rfl)) g0 ?_
    refine y_lln (e_31 (33, .lload_n 1, 1) (List.mem_of_getElem? (i := 19) rfl)) g1 ?_
    refine y_c2 (K' := _) (e_31 (34, .invokevirtual 85, 3) (List.mem_of_getElem? (i := 20) rfl)) ⟨rfl, rfl, rfl⟩ t_4_85 ⟨by decide, by decide, by decide, by decide⟩ m_32_ok rfl (by decide) (y_recv h.1.I th0_p.2.2.2.2.2.1 ⟨rfl, rfl⟩) (Nat.le_of_ble_eq_true rfl) (Nat.le_of_ble_eq_true rfl) (k_thingNamed h v t0 t1) (fun r1 Gc hc1 => ?_)
    obtain ⟨rfl, y1, rfl, hy1⟩ := hc1
    simp only [Option.toList_some, Option.toList_none, List.cons_append, List.nil_append]
    refine y_st (e_31 (37, .iconst (-1), 1) (List.mem_of_getElem? (i := 21) rfl)) ⟨rfl, rfl, rfl, rfl⟩ ?_
    refine y_icm (e_31 (38, .if_icmp .ne 12, 3) (List.mem_of_getElem? (i := 22) rfl)) rfl (fun hc => ?_) (fun hc => ?_)
    · have z := y_hI.2.2.1 hc
      have hT : ∃ i : Nat, (i : Int) < nt.toInt ∧ tn i = v := Classical.byContradiction (fun w => z (hy1.mpr w))
      refine y_st (e_31 (50, .iconst 1, 1) (List.mem_of_getElem? (i := 28) rfl)) ⟨rfl, rfl, rfl, rfl⟩ ?_
      refine y_st (e_31 (51, .goto 4, 3) (List.mem_of_getElem? (i := 29) rfl)) ⟨rfl, rfl, rfl, rfl⟩ ?_
      exact y_ret (e_31 (55, .ireturn, 1) (List.mem_of_getElem? (i := 31) rfl)) ⟨rfl, y_rb (Or.inr rfl)⟩ ⟨rfl, true, rfl, fun _ => Or.inr (Or.inl hT), fun _ => rfl⟩
    have z := hy1.mp (y_hI.2.2.2.1 hc)
    refine y_aln (e_31 (41, .aload_n 0, 1) (List.mem_of_getElem? (i := 23) rfl)) g0 ?_
    refine y_lln (e_31 (42, .lload_n 1, 1) (List.mem_of_getElem? (i := 24) rfl)) g1 ?_
    refine y_c2 (K' := _) (e_31 (43, .invokevirtual 89, 3) (List.mem_of_getElem? (i := 25) rfl)) ⟨rfl, rfl, rfl⟩ t_4_89 ⟨by decide, by decide, by decide, by decide⟩ m_33_ok rfl (by decide) (y_recv h.1.I th0_p.2.2.2.2.2.1 ⟨rfl, rfl⟩) (Nat.le_of_ble_eq_true rfl) (Nat.le_of_ble_eq_true rfl) (k_manNamed h v m0 m1) (fun r1 Gc hc1 => ?_)
    obtain ⟨rfl, y2, rfl, hy2⟩ := hc1
    simp only [Option.toList_some, Option.toList_none, List.cons_append, List.nil_append]
    refine y_st (e_31 (46, .iconst (-1), 1) (List.mem_of_getElem? (i := 26) rfl)) ⟨rfl, rfl, rfl, rfl⟩ ?_
    refine y_icm (e_31 (47, .if_icmp .eq 7, 3) (List.mem_of_getElem? (i := 27) rfl)) rfl (fun hc => ?_) (fun hc => ?_)
    · have z2 := hy2.mp (y_hI.1 hc)
      refine y_st (e_31 (54, .iconst 0, 1) (List.mem_of_getElem? (i := 30) rfl)) ⟨rfl, rfl, rfl, rfl⟩ ?_
      refine y_ret (e_31 (55, .ireturn, 1) (List.mem_of_getElem? (i := 31) rfl)) ⟨rfl, y_rb (Or.inl rfl)⟩ ⟨rfl, false, rfl, fun w => (by cases w), fun w => ?_⟩
      rcases w with ⟨i, i1, i2⟩ | w | w
      · exact absurd i2 (hl i i1)
      · exact absurd w z
      · exact absurd w z2
    · have z2 := y_hI.2.1 hc
      have hT : ∃ i : Nat, (i : Int) < nn.toInt ∧ mn i = v := Classical.byContradiction (fun w => z2 (hy2.mpr w))
      refine y_st (e_31 (50, .iconst 1, 1) (List.mem_of_getElem? (i := 28) rfl)) ⟨rfl, rfl, rfl, rfl⟩ ?_
      refine y_st (e_31 (51, .goto 4, 3) (List.mem_of_getElem? (i := 29) rfl)) ⟨rfl, rfl, rfl, rfl⟩ ?_
      exact y_ret (e_31 (55, .ireturn, 1) (List.mem_of_getElem? (i := 31) rfl)) ⟨rfl, y_rb (Or.inr rfl)⟩ ⟨rfl, true, rfl, fun _ => Or.inr (Or.inr hT), fun _ => rfl⟩
  intro m
  induction m with
  | zero =>
    intro lv k g0 g1 g3 k0 hm hne
    refine y_iln (e_31 (2, .iload_n 3, 1) (List.mem_of_getElem? (i := 2) rfl)) g3 ?_
    refine y_aln (e_31 (3, .aload_n 0, 1) (List.mem_of_getElem? (i := 3) rfl)) g0 ?_
    refine y_getf h.1.I th0_p.2.2.2.2.2.1 (e_31 (4, .getfield 40, 3) (List.mem_of_getElem? (i := 4) rfl)) u_4_40 ⟨rfl, rfl⟩ h.2.a32_5 ?_
    refine y_icm (e_31 (7, .if_icmp .ge 25, 3) (List.mem_of_getElem? (i := 5) rfl)) rfl (fun hc => ?_) (fun hc => ?_)
    · exact at32 lv g0 g1 (fun i hi => hne i (by omega))
    · have := y_hI.2.2.2.2.2.1 hc
      omega
  | succ m ih =>
    intro lv k g0 g1 g3 k0 hm hne
    refine y_iln (e_31 (2, .iload_n 3, 1) (List.mem_of_getElem? (i := 2) rfl)) g3 ?_
    refine y_aln (e_31 (3, .aload_n 0, 1) (List.mem_of_getElem? (i := 3) rfl)) g0 ?_
    refine y_getf h.1.I th0_p.2.2.2.2.2.1 (e_31 (4, .getfield 40, 3) (List.mem_of_getElem? (i := 4) rfl)) u_4_40 ⟨rfl, rfl⟩ h.2.a32_5 ?_
    refine y_icm (e_31 (7, .if_icmp .ge 25, 3) (List.mem_of_getElem? (i := 5) rfl)) rfl (fun hc => ?_) (fun hc => ?_)
    · have := y_hI.2.2.2.2.1 hc
      exact at32 lv g0 g1 (fun i hi => hne i (by omega))
    have hlt := y_hI.2.2.2.2.2.1 hc
    have e1 := y_add1 (t := k) (by omega)
    refine y_aln (e_31 (10, .aload_n 0, 1) (List.mem_of_getElem? (i := 6) rfl)) g0 ?_
    refine y_getf h.1.I th0_p.2.2.2.2.2.1 (e_31 (11, .getfield 26, 3) (List.mem_of_getElem? (i := 7) rfl)) u_4_26 ⟨rfl, rfl⟩ h.2.a32_2 ?_
    refine y_iln (e_31 (14, .iload_n 3, 1) (List.mem_of_getElem? (i := 8) rfl)) g3 ?_
    refine y_aald h.1.I th0_p.2.2.2.2.2.2.2.2.2.2.2.2.2.1 (e_31 (15, .aaload, 1) (List.mem_of_getElem? (i := 9) rfl)) ⟨rfl, by decide⟩ ⟨k0, by show k.toInt < 4; omega⟩ (h.2.fla k.toInt.toNat (by omega)) ?_
    refine y_getf h.1.I (th0_n.2.1 k.toInt.toNat (by omega)) (e_31 (16, .getfield 84, 3) (List.mem_of_getElem? (i := 10) rfl)) u_4_84 ⟨rfl, rfl⟩ (h.2.fln k.toInt.toNat (by omega)) ?_
    refine y_lln (e_31 (19, .lload_n 1, 1) (List.mem_of_getElem? (i := 11) rfl)) g1 ?_
    refine y_st (e_31 (20, .lcmp, 1) (List.mem_of_getElem? (i := 12) rfl)) ⟨rfl, rfl, rfl, rfl⟩ ?_
    refine y_ifc (e_31 (21, .ifCond .ne 5, 3) (List.mem_of_getElem? (i := 13) rfl)) rfl (fun hc => ?_) (fun hc => ?_)
    · have c := y_cmp.1 hc
      refine y_iinc (e_31 (26, .iinc 3 1, 3) (List.mem_of_getElem? (i := 16) rfl)) g3 (by decide) ?_
      refine y_st (e_31 (29, .goto (-27), 3) (List.mem_of_getElem? (i := 17) rfl)) ⟨rfl, rfl, rfl, rfl⟩ ?_
      refine ih _ _ (y_gpr g0 (by decide)) (x_get_put g1 (by decide) (fun z => absurd z.1 (by decide))) x_get_self (by omega) (by omega) (fun i hi => ?_)
      by_cases hik : i = k.toInt.toNat
      · rw [hik]; exact c
      · exact hne i (by omega)
    · have c := y_cmp.2 hc
      refine y_st (e_31 (24, .iconst 1, 1) (List.mem_of_getElem? (i := 14) rfl)) ⟨rfl, rfl, rfl, rfl⟩ ?_
      exact y_ret (e_31 (25, .ireturn, 1) (List.mem_of_getElem? (i := 15) rfl)) ⟨rfl, y_rb (Or.inr rfl)⟩ ⟨rfl, true, rfl, fun _ => Or.inl ⟨k.toInt.toNat, by omega, c⟩, fun _ => rfl⟩
theorem k_isTold (h : CS f n lim nx tk pl num nm ft fp cc np nt nl nn oc ot tn ln mn G) (v : Int64) : x_Gd xs L J (d + 1) m_31 (fun r G' => G' = G ∧ ∃ y : Bool, r = some (.int (if y then 1 else 0)) ∧ (y = true ↔ c_Told nt nl nn tn ln mn v)) 0 (lv_args 0 [.ref 32, .long v]) [] G := by
  refine y_st (e_31 (0, .iconst 0, 1) (List.mem_of_getElem? (i := 0) rfl)) ⟨rfl, rfl, rfl, rfl⟩ ?_
  refine y_isn (e_31 (1, .istore_n 3, 1) (List.mem_of_getElem? (i := 1) rfl)) (by decide) ?_
  exact k_isTold_l h _ _ 0 rfl rfl rfl (by decide) (Nat.le_refl _) (fun i hi => absurd hi (by show ¬ (i : Int) < 0; omega))
set_option maxHeartbeats 2000000 in
set_option maxRecDepth 100000 in
theorem k_cellsOf (h : CS f n lim nx tk pl num nm ft fp cc np nt nl nn oc ot tn ln mn G) {v : Int32} (v0 : 0 ≤ v.toInt) (v1 : v.toInt ≤ 1) : x_Gd xs L J d m_34 (fun r G' => r = some (.int (cc v.toInt.toNat)) ∧ G' = G) 0 (lv_args 0 [.ref 33, .int v]) [] G := by
  have g0 : pm_get (lv_args 0 [.ref 33, .int v]) 0 = some (.ref 33) := rfl
  refine y_iln (e_34 (0, .iload_n 1, 1) (List.mem_of_getElem? (i := 0) rfl)) rfl ?_
  refine y_ifc (e_34 (1, .ifCond .ne 10, 3) (List.mem_of_getElem? (i := 1) rfl)) rfl (fun hc => ?_) (fun hc => ?_)
  rotate_left
  · obtain rfl : v = 0 := y_hI.2.2.2.1 hc
    refine y_aln (e_34 (4, .aload_n 0, 1) (List.mem_of_getElem? (i := 2) rfl)) g0 ?_
    refine y_getf h.1.I th0_p.2.2.2.2.2.2.1 (e_34 (5, .getfield 9, 3) (List.mem_of_getElem? (i := 3) rfl)) u_5_9 ⟨rfl, rfl⟩ h.2.a33_0 ?_
    refine y_st (e_34 (8, .iconst 0, 1) (List.mem_of_getElem? (i := 4) rfl)) ⟨rfl, rfl, rfl, rfl⟩ ?_
    refine y_iald h.1.I th0_p.2.2.2.2.2.2.2.1 (e_34 (9, .iaload, 1) (List.mem_of_getElem? (i := 5) rfl)) ⟨rfl, rfl⟩ (by decide) (h.2.fcc 0 (by decide)) ?_
    exact y_ret (e_34 (10, .ireturn, 1) (List.mem_of_getElem? (i := 6) rfl)) ⟨rfl, y_ri⟩ ⟨rfl, rfl⟩
  have hne := y_hI.2.2.1 hc
  obtain rfl : v = 1 := Int32.toInt_inj.mp (by
    have : v.toInt ≠ 0 := fun z => hne (Int32.toInt_inj.mp (by rw [z]; rfl))
    rw [show (1 : Int32).toInt = 1 from rfl]
    omega)
  refine y_iln (e_34 (11, .iload_n 1, 1) (List.mem_of_getElem? (i := 7) rfl)) rfl ?_
  refine y_st (e_34 (12, .iconst 1, 1) (List.mem_of_getElem? (i := 8) rfl)) ⟨rfl, rfl, rfl, rfl⟩ ?_
  refine y_icm (e_34 (13, .if_icmp .ne 12, 3) (List.mem_of_getElem? (i := 9) rfl)) rfl (fun hc => absurd hc (by decide)) (fun hc => ?_)
  refine y_aln (e_34 (16, .aload_n 0, 1) (List.mem_of_getElem? (i := 10) rfl)) g0 ?_
  refine y_getf h.1.I th0_p.2.2.2.2.2.2.1 (e_34 (17, .getfield 9, 3) (List.mem_of_getElem? (i := 11) rfl)) u_5_9 ⟨rfl, rfl⟩ h.2.a33_0 ?_
  refine y_st (e_34 (20, .iconst 1, 1) (List.mem_of_getElem? (i := 12) rfl)) ⟨rfl, rfl, rfl, rfl⟩ ?_
  refine y_iald h.1.I th0_p.2.2.2.2.2.2.2.1 (e_34 (21, .iaload, 1) (List.mem_of_getElem? (i := 13) rfl)) ⟨rfl, rfl⟩ (by decide) (h.2.fcc 1 (by decide)) ?_
  refine y_st (e_34 (22, .goto 4, 3) (List.mem_of_getElem? (i := 14) rfl)) ⟨rfl, rfl, rfl, rfl⟩ ?_
  exact y_ret (e_34 (26, .ireturn, 1) (List.mem_of_getElem? (i := 16) rfl)) ⟨rfl, y_ri⟩ ⟨rfl, rfl⟩
end CS3
