-- ===== the log: names of any hill =====
theorem y_max {xs : Nat → Int32} {L J d : Nat} {K : Option Value → List pE → Prop} {M : pM} {pc k : Nat} {lv : pL} {G : List pE} {q : Nat × Nat × Nat × Nat × Nat} {x y : Int32} {rr : List Value} (hd : decode M.code pc = .ok (Instr.invokestatic k, 3)) (hf : pm_ctab.find? (fun r => r.1 == M.own && r.2.1 == k) = some q) (h0 : q.2.2.1 = 7) (hs : (rr.map fun v => v.category).sum ≤ 8) (hk : x_Gd xs L J (d + 1) M K (pc + 3) lv (.int (if x < y then y else x) :: rr) G) : x_Gd xs L J (d + 1) M K pc lv (.int y :: .int x :: rr) G :=
  hk.via (fun _ _ h => x_runs_max hd rfl rfl rfl hf h0 hs h)
section LGN
variable {xs : Nat → Int32} {L J d a : Nat} {G : List pE} {nt nn : Int32} {tn mn : Nat → Int64}
set_option maxHeartbeats 2000000 in
set_option maxRecDepth 100000 in
theorem z_thingNamed_l (hI : xI x_tb th0 G) (t0 : th0[a]? = some 0) (hN : HN a) (hP : HPn a G) (a4 : x_sl G a 4 = some (.int nt)) (ftn : ∀ i : Nat, (i : Int) < nt.toInt → i < 8 → x_sl G (a + 10 + i) 0 = some (.long (tn i))) {v : Int64} (c0 : 0 ≤ nt.toInt) (c1 : nt.toInt ≤ 8) : ∀ (m : Nat) (lv : pL) (k : Int32), pm_get lv 0 = some (.ref a) → pm_get lv 1 = some (.long v) → pm_get lv 3 = some (.int k) → 0 ≤ k.toInt → (nt.toInt - k.toInt).toNat ≤ m → (∀ i : Nat, (i : Int) < k.toInt → tn i ≠ v) → x_Gd xs L J d m_32 (fun r G' => G' = G ∧ ∃ y : Int32, r = some (.int y) ∧ (y = Int32.ofInt (-1) ↔ ¬ ∃ i : Nat, (i : Int) < nt.toInt ∧ tn i = v)) 2 lv [] G := by
  intro m
  induction m with
  | zero =>
    intro lv k g0 g1 g3 k0 hm hne
    refine y_iln (e_32 (2, .iload_n 3, 1) (List.mem_of_getElem? (i := 2) rfl)) g3 ?_
    refine y_aln (e_32 (3, .aload_n 0, 1) (List.mem_of_getElem? (i := 3) rfl)) g0 ?_
    refine y_getf hI t0 (e_32 (4, .getfield 36, 3) (List.mem_of_getElem? (i := 4) rfl)) u_4_36 ⟨rfl, rfl⟩ a4 ?_
    refine y_icm (e_32 (7, .if_icmp .ge 25, 3) (List.mem_of_getElem? (i := 5) rfl)) rfl (fun hc => ?_) (fun hc => ?_)
    · refine y_st (e_32 (32, .iconst (-1), 1) (List.mem_of_getElem? (i := 18) rfl)) ⟨rfl, rfl, rfl, rfl⟩ ?_
      refine y_ret (e_32 (33, .ireturn, 1) (List.mem_of_getElem? (i := 19) rfl)) ⟨rfl, y_ri⟩ ⟨rfl, _, rfl, fun _ z => ?_, fun _ => rfl⟩
      obtain ⟨i, i1, i2⟩ := z
      exact hne i (by omega) i2
    · have := y_hI.2.2.2.2.2.1 hc
      omega
  | succ m ih =>
    intro lv k g0 g1 g3 k0 hm hne
    refine y_iln (e_32 (2, .iload_n 3, 1) (List.mem_of_getElem? (i := 2) rfl)) g3 ?_
    refine y_aln (e_32 (3, .aload_n 0, 1) (List.mem_of_getElem? (i := 3) rfl)) g0 ?_
    refine y_getf hI t0 (e_32 (4, .getfield 36, 3) (List.mem_of_getElem? (i := 4) rfl)) u_4_36 ⟨rfl, rfl⟩ a4 ?_
    refine y_icm (e_32 (7, .if_icmp .ge 25, 3) (List.mem_of_getElem? (i := 5) rfl)) rfl (fun hc => ?_) (fun hc => ?_)
    · have := y_hI.2.2.2.2.1 hc
      refine y_st (e_32 (32, .iconst (-1), 1) (List.mem_of_getElem? (i := 18) rfl)) ⟨rfl, rfl, rfl, rfl⟩ ?_
      refine y_ret (e_32 (33, .ireturn, 1) (List.mem_of_getElem? (i := 19) rfl)) ⟨rfl, y_ri⟩ ⟨rfl, _, rfl, fun _ z => ?_, fun _ => rfl⟩
      obtain ⟨i, i1, i2⟩ := z
      exact hne i (by omega) i2
    have hlt := y_hI.2.2.2.2.2.1 hc
    have e1 := y_add1 (t := k) (by omega)
    refine y_aln (e_32 (10, .aload_n 0, 1) (List.mem_of_getElem? (i := 6) rfl)) g0 ?_
    refine y_getf hI t0 (e_32 (11, .getfield 20, 3) (List.mem_of_getElem? (i := 7) rfl)) u_4_20 ⟨rfl, rfl⟩ hP.1 ?_
    refine y_iln (e_32 (14, .iload_n 3, 1) (List.mem_of_getElem? (i := 8) rfl)) g3 ?_
    refine y_aald hI hN.1 (e_32 (15, .aaload, 1) (List.mem_of_getElem? (i := 9) rfl)) ⟨rfl, by decide⟩ ⟨k0, by show k.toInt < 8; omega⟩ (hP.2.2.2.1 _ (by omega)) ?_
    refine y_getf hI (hN.2.2.2.1 _ (by omega)) (e_32 (16, .getfield 79, 3) (List.mem_of_getElem? (i := 10) rfl)) u_4_79 ⟨rfl, rfl⟩ (ftn _ (by omega) (by omega)) ?_
    refine y_lln (e_32 (19, .lload_n 1, 1) (List.mem_of_getElem? (i := 11) rfl)) g1 ?_
    refine y_st (e_32 (20, .lcmp, 1) (List.mem_of_getElem? (i := 12) rfl)) ⟨rfl, rfl, rfl, rfl⟩ ?_
    refine y_ifc (e_32 (21, .ifCond .ne 5, 3) (List.mem_of_getElem? (i := 13) rfl)) rfl (fun hc => ?_) (fun hc => ?_)
    · have c := y_cmp.1 hc
      refine y_iinc (e_32 (26, .iinc 3 1, 3) (List.mem_of_getElem? (i := 16) rfl)) g3 (by decide) ?_
      refine y_st (e_32 (29, .goto (-27), 3) (List.mem_of_getElem? (i := 17) rfl)) ⟨rfl, rfl, rfl, rfl⟩ ?_
      refine ih _ _ (y_gpr g0 (by decide)) (x_get_put g1 (by decide) (fun z => absurd z.1 (by decide))) x_get_self (by omega) (by omega) (fun i hi => ?_)
      by_cases hik : i = k.toInt.toNat
      · rw [hik]; exact c
      · exact hne i (by omega)
    · have c := y_cmp.2 hc
      refine y_iln (e_32 (24, .iload_n 3, 1) (List.mem_of_getElem? (i := 14) rfl)) g3 ?_
      refine y_ret (e_32 (25, .ireturn, 1) (List.mem_of_getElem? (i := 15) rfl)) ⟨rfl, y_ri⟩ ⟨rfl, k, rfl, fun z => ?_, fun z => absurd ⟨k.toInt.toNat, by omega, c⟩ z⟩
      rw [z] at k0
      exact absurd k0 (by decide)
theorem z_thingNamed (hI : xI x_tb th0 G) (t0 : th0[a]? = some 0) (hN : HN a) (hP : HPn a G) (a4 : x_sl G a 4 = some (.int nt)) (ftn : ∀ i : Nat, (i : Int) < nt.toInt → i < 8 → x_sl G (a + 10 + i) 0 = some (.long (tn i))) (v : Int64) (c0 : 0 ≤ nt.toInt) (c1 : nt.toInt ≤ 8) : x_Gd xs L J d m_32 (fun r G' => G' = G ∧ ∃ y : Int32, r = some (.int y) ∧ (y = Int32.ofInt (-1) ↔ ¬ ∃ i : Nat, (i : Int) < nt.toInt ∧ tn i = v)) 0 (lv_args 0 [.ref a, .long v]) [] G := by
  refine y_st (e_32 (0, .iconst 0, 1) (List.mem_of_getElem? (i := 0) rfl)) ⟨rfl, rfl, rfl, rfl⟩ ?_
  refine y_isn (e_32 (1, .istore_n 3, 1) (List.mem_of_getElem? (i := 1) rfl)) (by decide) ?_
  exact z_thingNamed_l hI t0 hN hP a4 ftn c0 c1 _ _ 0 rfl rfl rfl (by decide) (Nat.le_refl _) (fun i hi => absurd hi (by show ¬ (i : Int) < 0; omega))
set_option maxHeartbeats 2000000 in
set_option maxRecDepth 100000 in
theorem z_manNamed_l (hI : xI x_tb th0 G) (t0 : th0[a]? = some 0) (hN : HN a) (hP : HPn a G) (a4 : x_sl G a 6 = some (.int nn)) (ftn : ∀ i : Nat, (i : Int) < nn.toInt → i < 4 → x_sl G (a + 22 + i) 0 = some (.long (mn i))) {v : Int64} (c0 : 0 ≤ nn.toInt) (c1 : nn.toInt ≤ 4) : ∀ (m : Nat) (lv : pL) (k : Int32), pm_get lv 0 = some (.ref a) → pm_get lv 1 = some (.long v) → pm_get lv 3 = some (.int k) → 0 ≤ k.toInt → (nn.toInt - k.toInt).toNat ≤ m → (∀ i : Nat, (i : Int) < k.toInt → mn i ≠ v) → x_Gd xs L J d m_33 (fun r G' => G' = G ∧ ∃ y : Int32, r = some (.int y) ∧ (y = Int32.ofInt (-1) ↔ ¬ ∃ i : Nat, (i : Int) < nn.toInt ∧ mn i = v)) 2 lv [] G := by
  intro m
  induction m with
  | zero =>
    intro lv k g0 g1 g3 k0 hm hne
    refine y_iln (e_33 (2, .iload_n 3, 1) (List.mem_of_getElem? (i := 2) rfl)) g3 ?_
    refine y_aln (e_33 (3, .aload_n 0, 1) (List.mem_of_getElem? (i := 3) rfl)) g0 ?_
    refine y_getf hI t0 (e_33 (4, .getfield 43, 3) (List.mem_of_getElem? (i := 4) rfl)) u_4_43 ⟨rfl, rfl⟩ a4 ?_
    refine y_icm (e_33 (7, .if_icmp .ge 25, 3) (List.mem_of_getElem? (i := 5) rfl)) rfl (fun hc => ?_) (fun hc => ?_)
    · refine y_st (e_33 (32, .iconst (-1), 1) (List.mem_of_getElem? (i := 18) rfl)) ⟨rfl, rfl, rfl, rfl⟩ ?_
      refine y_ret (e_33 (33, .ireturn, 1) (List.mem_of_getElem? (i := 19) rfl)) ⟨rfl, y_ri⟩ ⟨rfl, _, rfl, fun _ z => ?_, fun _ => rfl⟩
      obtain ⟨i, i1, i2⟩ := z
      exact hne i (by omega) i2
    · have := y_hI.2.2.2.2.2.1 hc
      omega
  | succ m ih =>
    intro lv k g0 g1 g3 k0 hm hne
    refine y_iln (e_33 (2, .iload_n 3, 1) (List.mem_of_getElem? (i := 2) rfl)) g3 ?_
    refine y_aln (e_33 (3, .aload_n 0, 1) (List.mem_of_getElem? (i := 3) rfl)) g0 ?_
    refine y_getf hI t0 (e_33 (4, .getfield 43, 3) (List.mem_of_getElem? (i := 4) rfl)) u_4_43 ⟨rfl, rfl⟩ a4 ?_
    refine y_icm (e_33 (7, .if_icmp .ge 25, 3) (List.mem_of_getElem? (i := 5) rfl)) rfl (fun hc => ?_) (fun hc => ?_)
    · have := y_hI.2.2.2.2.1 hc
      refine y_st (e_33 (32, .iconst (-1), 1) (List.mem_of_getElem? (i := 18) rfl)) ⟨rfl, rfl, rfl, rfl⟩ ?_
      refine y_ret (e_33 (33, .ireturn, 1) (List.mem_of_getElem? (i := 19) rfl)) ⟨rfl, y_ri⟩ ⟨rfl, _, rfl, fun _ z => ?_, fun _ => rfl⟩
      obtain ⟨i, i1, i2⟩ := z
      exact hne i (by omega) i2
    have hlt := y_hI.2.2.2.2.2.1 hc
    have e1 := y_add1 (t := k) (by omega)
    refine y_aln (e_33 (10, .aload_n 0, 1) (List.mem_of_getElem? (i := 6) rfl)) g0 ?_
    refine y_getf hI t0 (e_33 (11, .getfield 32, 3) (List.mem_of_getElem? (i := 7) rfl)) u_4_32 ⟨rfl, rfl⟩ hP.2.2.1 ?_
    refine y_iln (e_33 (14, .iload_n 3, 1) (List.mem_of_getElem? (i := 8) rfl)) g3 ?_
    refine y_aald hI hN.2.2.1 (e_33 (15, .aaload, 1) (List.mem_of_getElem? (i := 9) rfl)) ⟨rfl, by decide⟩ ⟨k0, by show k.toInt < 4; omega⟩ (hP.2.2.2.2.2 _ (by omega)) ?_
    refine y_getf hI (hN.2.2.2.2.2 _ (by omega)) (e_33 (16, .getfield 83, 3) (List.mem_of_getElem? (i := 10) rfl)) u_4_83 ⟨rfl, rfl⟩ (ftn _ (by omega) (by omega)) ?_
    refine y_lln (e_33 (19, .lload_n 1, 1) (List.mem_of_getElem? (i := 11) rfl)) g1 ?_
    refine y_st (e_33 (20, .lcmp, 1) (List.mem_of_getElem? (i := 12) rfl)) ⟨rfl, rfl, rfl, rfl⟩ ?_
    refine y_ifc (e_33 (21, .ifCond .ne 5, 3) (List.mem_of_getElem? (i := 13) rfl)) rfl (fun hc => ?_) (fun hc => ?_)
    · have c := y_cmp.1 hc
      refine y_iinc (e_33 (26, .iinc 3 1, 3) (List.mem_of_getElem? (i := 16) rfl)) g3 (by decide) ?_
      refine y_st (e_33 (29, .goto (-27), 3) (List.mem_of_getElem? (i := 17) rfl)) ⟨rfl, rfl, rfl, rfl⟩ ?_
      refine ih _ _ (y_gpr g0 (by decide)) (x_get_put g1 (by decide) (fun z => absurd z.1 (by decide))) x_get_self (by omega) (by omega) (fun i hi => ?_)
      by_cases hik : i = k.toInt.toNat
      · rw [hik]; exact c
      · exact hne i (by omega)
    · have c := y_cmp.2 hc
      refine y_iln (e_33 (24, .iload_n 3, 1) (List.mem_of_getElem? (i := 14) rfl)) g3 ?_
      refine y_ret (e_33 (25, .ireturn, 1) (List.mem_of_getElem? (i := 15) rfl)) ⟨rfl, y_ri⟩ ⟨rfl, k, rfl, fun z => ?_, fun z => absurd ⟨k.toInt.toNat, by omega, c⟩ z⟩
      rw [z] at k0
      exact absurd k0 (by decide)
theorem z_manNamed (hI : xI x_tb th0 G) (t0 : th0[a]? = some 0) (hN : HN a) (hP : HPn a G) (a4 : x_sl G a 6 = some (.int nn)) (ftn : ∀ i : Nat, (i : Int) < nn.toInt → i < 4 → x_sl G (a + 22 + i) 0 = some (.long (mn i))) (v : Int64) (c0 : 0 ≤ nn.toInt) (c1 : nn.toInt ≤ 4) : x_Gd xs L J d m_33 (fun r G' => G' = G ∧ ∃ y : Int32, r = some (.int y) ∧ (y = Int32.ofInt (-1) ↔ ¬ ∃ i : Nat, (i : Int) < nn.toInt ∧ mn i = v)) 0 (lv_args 0 [.ref a, .long v]) [] G := by
  refine y_st (e_33 (0, .iconst 0, 1) (List.mem_of_getElem? (i := 0) rfl)) ⟨rfl, rfl, rfl, rfl⟩ ?_
  refine y_isn (e_33 (1, .istore_n 3, 1) (List.mem_of_getElem? (i := 1) rfl)) (by decide) ?_
  exact z_manNamed_l hI t0 hN hP a4 ftn c0 c1 _ _ 0 rfl rfl rfl (by decide) (Nat.le_refl _) (fun i hi => absurd hi (by show ¬ (i : Int) < 0; omega))
end LGN
