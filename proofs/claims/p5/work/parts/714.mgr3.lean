section MG3
variable {th : List Nat} {xs : Nat → Int32} {L J d am mb hb nb rb : Nat} {K : Option Value → List pE → Prop} {f : Nat → Int32} {G0 G G1 G' : List pE} {n lim p tok at9 sp num : Int32} {wd : Int64} {lv : pL} {p' tok' at' sp' num' : Int32} {wd' : Int64} {hf : Nat → Int32} {nf : Nat → Int64} {on : Int32}
set_option maxHeartbeats 2000000 in
set_option maxRecDepth 100000 in
theorem k_isName_l (h : MS th am mb hb nb rb f n lim p tok at9 sp num wd hf nf on G) : ∀ (m : Nat) (lv : pL) (k : Int32) (is : Bool), pm_get lv 0 = some (.ref am) → pm_get lv 1 = some (.int (if is then 1 else 0)) → pm_get lv 2 = some (.int k) → 0 ≤ k.toInt → k.toInt ≤ 25 → (25 - k.toInt).toNat ≤ m → (is = true ↔ tok = Int32.ofInt 1 ∧ ∀ x : Nat, (x : Int) < k.toInt → wd ≠ t_W x) → x_Gd xs L J d m_178 (fun r G' => G' = G ∧ ∃ y : Bool, r = some (.int (if y then 1 else 0)) ∧ (y = true ↔ tok = Int32.ofInt 1 ∧ ∀ x : Nat, x < 25 → wd ≠ t_W x)) 16 lv [] G := by
  intro m
  obtain ⟨T, b1, b2, b3, c1, c2, c3, c4, d1, d2, d3⟩ := id h
  have e25 : ((Int8.ofInt 25).toInt32).toInt = 25 := rfl
  induction m with
  | zero =>
    intro lv k is g0 g1 g2 k0 k1 hm hi
    refine y_iln (e_178 (16, .iload_n 2, 1) (List.mem_of_getElem? (i := 10) rfl)) g2 ?_
    refine y_st (e_178 (17, .bipush 25, 2) (List.mem_of_getElem? (i := 11) rfl)) ⟨rfl, rfl, rfl, rfl⟩ ?_
    refine y_icm (e_178 (19, .if_icmp .ge 33, 3) (List.mem_of_getElem? (i := 12) rfl)) rfl (fun hc => ?_) (fun hc => ?_)
    · refine y_iln (e_178 (52, .iload_n 1, 1) (List.mem_of_getElem? (i := 29) rfl)) g1 ?_
      refine y_ret (e_178 (53, .ireturn, 1) (List.mem_of_getElem? (i := 30) rfl)) ⟨rfl, y_rb (by cases is <;> decide)⟩ ⟨rfl, is, rfl, ?_⟩
      rw [hi]
      constructor
      · exact fun z => ⟨z.1, fun x hx => z.2 x (by omega)⟩
      · exact fun z => ⟨z.1, fun x hx => z.2 x (by omega)⟩
    · have := y_hI.2.2.2.2.2.1 hc
      omega
  | succ m ih =>
    intro lv k is g0 g1 g2 k0 k1 hm hi
    refine y_iln (e_178 (16, .iload_n 2, 1) (List.mem_of_getElem? (i := 10) rfl)) g2 ?_
    refine y_st (e_178 (17, .bipush 25, 2) (List.mem_of_getElem? (i := 11) rfl)) ⟨rfl, rfl, rfl, rfl⟩ ?_
    refine y_icm (e_178 (19, .if_icmp .ge 33, 3) (List.mem_of_getElem? (i := 12) rfl)) rfl (fun hc => ?_) (fun hc => ?_)
    · have := y_hI.2.2.2.2.1 hc
      refine y_iln (e_178 (52, .iload_n 1, 1) (List.mem_of_getElem? (i := 29) rfl)) g1 ?_
      refine y_ret (e_178 (53, .ireturn, 1) (List.mem_of_getElem? (i := 30) rfl)) ⟨rfl, y_rb (by cases is <;> decide)⟩ ⟨rfl, is, rfl, ?_⟩
      rw [hi]
      constructor
      · exact fun z => ⟨z.1, fun x hx => z.2 x (by omega)⟩
      · exact fun z => ⟨z.1, fun x hx => z.2 x (by omega)⟩
    have hlt := y_hI.2.2.2.2.2.1 hc
    have e1 := y_add1 (t := k) (by omega)
    have at46 : ∀ y : Bool, (y = true ↔ tok = Int32.ofInt 1 ∧ ∀ x : Nat, (x : Int) < k.toInt + 1 → wd ≠ t_W x) → x_Gd xs L J d m_178 (fun r G' => G' = G ∧ ∃ y : Bool, r = some (.int (if y then 1 else 0)) ∧ (y = true ↔ tok = Int32.ofInt 1 ∧ ∀ x : Nat, x < 25 → wd ≠ t_W x)) 46 (pm_put1 lv 1 (.int (if y then 1 else 0))) [] G := fun y hy => by
      refine y_iinc (e_178 (46, .iinc 2 1, 3) (List.mem_of_getElem? (i := 27) rfl)) (x := k) (y_gpi g2 (by decide)) (by decide) ?_
      refine y_st (e_178 (49, .goto (-33), 3) (List.mem_of_getElem? (i := 28) rfl)) ⟨rfl, rfl, rfl, rfl⟩ ?_
      exact ih _ _ y (y_gpr (y_gpr g0 (by decide)) (by decide)) (y_gpi x_get_self (by decide)) x_get_self (by omega) (by omega) (by omega) (by rw [hy]; constructor; exact fun z => ⟨z.1, fun x hx => z.2 x (by omega)⟩; exact fun z => ⟨z.1, fun x hx => z.2 x (by omega)⟩)
    refine y_iln (e_178 (22, .iload_n 1, 1) (List.mem_of_getElem? (i := 13) rfl)) g1 ?_
    cases is
    · refine y_ifc (e_178 (23, .ifCond .eq 21, 3) (List.mem_of_getElem? (i := 14) rfl)) rfl (fun _ => ?_) (fun hc => absurd hc (by decide))
      refine y_st (e_178 (44, .iconst 0, 1) (List.mem_of_getElem? (i := 25) rfl)) ⟨rfl, rfl, rfl, rfl⟩ ?_
      refine y_isn (e_178 (45, .istore_n 1, 1) (List.mem_of_getElem? (i := 26) rfl)) (by decide) ?_
      refine at46 false ⟨fun z => (by cases z), fun z => ?_⟩
      exact hi.mpr ⟨z.1, fun x hx => z.2 x (by omega)⟩
    · have hi := hi.mp rfl
      refine y_ifc (e_178 (23, .ifCond .eq 21, 3) (List.mem_of_getElem? (i := 14) rfl)) rfl (fun hc => absurd hc (by decide)) (fun _ => ?_)
      refine y_aln (e_178 (26, .aload_n 0, 1) (List.mem_of_getElem? (i := 15) rfl)) g0 ?_
      refine y_getf T.I T.t (e_178 (27, .getfield 154, 3) (List.mem_of_getElem? (i := 16) rfl)) u_17_154 ⟨rfl, rfl⟩ T.s17 ?_
      refine y_aln (e_178 (30, .aload_n 0, 1) (List.mem_of_getElem? (i := 17) rfl)) g0 ?_
      refine y_getf T.I T.t (e_178 (31, .getfield 47, 3) (List.mem_of_getElem? (i := 18) rfl)) u_17_47 ⟨rfl, rfl⟩ c3 ?_
      refine y_iln (e_178 (34, .iload_n 2, 1) (List.mem_of_getElem? (i := 19) rfl)) g2 ?_
      refine y_lald T.I b3 (e_178 (35, .laload, 1) (List.mem_of_getElem? (i := 20) rfl)) ⟨rfl, rfl⟩ k0 (d3.1 _ (by omega)) ?_
      refine y_st (e_178 (36, .lcmp, 1) (List.mem_of_getElem? (i := 21) rfl)) ⟨rfl, rfl, rfl, rfl⟩ ?_
      refine y_ifc (e_178 (37, .ifCond .eq 7, 3) (List.mem_of_getElem? (i := 22) rfl)) rfl (fun hc => ?_) (fun hc => ?_)
      · have c := y_cmpE.1 hc
        refine y_st (e_178 (44, .iconst 0, 1) (List.mem_of_getElem? (i := 25) rfl)) ⟨rfl, rfl, rfl, rfl⟩ ?_
        refine y_isn (e_178 (45, .istore_n 1, 1) (List.mem_of_getElem? (i := 26) rfl)) (by decide) ?_
        refine at46 false ⟨fun z => (by cases z), fun z => ?_⟩
        exact absurd c (z.2 k.toInt.toNat (by omega))
      · have c := y_cmpE.2 hc
        refine y_st (e_178 (40, .iconst 1, 1) (List.mem_of_getElem? (i := 23) rfl)) ⟨rfl, rfl, rfl, rfl⟩ ?_
        refine y_st (e_178 (41, .goto 4, 3) (List.mem_of_getElem? (i := 24) rfl)) ⟨rfl, rfl, rfl, rfl⟩ ?_
        refine y_isn (e_178 (45, .istore_n 1, 1) (List.mem_of_getElem? (i := 26) rfl)) (by decide) ?_
        refine at46 true ⟨fun _ => ⟨hi.1, fun x hx => ?_⟩, fun _ => rfl⟩
        by_cases hxk : x = k.toInt.toNat
        · rw [hxk]; exact c
        · exact hi.2 x (by omega)
theorem k_isName (h : MS th am mb hb nb rb f n lim p tok at9 sp num wd hf nf on G) : x_Gd xs L J d m_178 (fun r G' => G' = G ∧ ∃ y : Bool, r = some (.int (if y then 1 else 0)) ∧ (y = true ↔ tok = Int32.ofInt 1 ∧ ∀ x : Nat, x < 25 → wd ≠ t_W x)) 0 (lv_args 0 [.ref am]) [] G := by
  refine y_aln (e_178 (0, .aload_n 0, 1) (List.mem_of_getElem? (i := 0) rfl)) rfl ?_
  refine y_getf h.T.I h.T.t (e_178 (1, .getfield 141, 3) (List.mem_of_getElem? (i := 1) rfl)) u_17_141 ⟨rfl, rfl⟩ h.T.s11 ?_
  refine y_st (e_178 (4, .iconst 1, 1) (List.mem_of_getElem? (i := 2) rfl)) ⟨rfl, rfl, rfl, rfl⟩ ?_
  refine y_icm (e_178 (5, .if_icmp .ne 7, 3) (List.mem_of_getElem? (i := 3) rfl)) rfl (fun hc => ?_) (fun hc => ?_)
  · have c := y_hI.2.2.1 hc
    refine y_st (e_178 (12, .iconst 0, 1) (List.mem_of_getElem? (i := 6) rfl)) ⟨rfl, rfl, rfl, rfl⟩ ?_
    refine y_isn (e_178 (13, .istore_n 1, 1) (List.mem_of_getElem? (i := 7) rfl)) (by decide) ?_
    refine y_st (e_178 (14, .iconst 0, 1) (List.mem_of_getElem? (i := 8) rfl)) ⟨rfl, rfl, rfl, rfl⟩ ?_
    refine y_isn (e_178 (15, .istore_n 2, 1) (List.mem_of_getElem? (i := 9) rfl)) (by decide) ?_
    exact k_isName_l h 25 _ 0 false rfl rfl rfl (by decide) (by decide) (by decide) ⟨fun z => (by cases z), fun z => absurd z.1 c⟩
  · have c := y_hI.2.2.2.1 hc
    refine y_st (e_178 (8, .iconst 1, 1) (List.mem_of_getElem? (i := 4) rfl)) ⟨rfl, rfl, rfl, rfl⟩ ?_
    refine y_st (e_178 (9, .goto 4, 3) (List.mem_of_getElem? (i := 5) rfl)) ⟨rfl, rfl, rfl, rfl⟩ ?_
    refine y_isn (e_178 (13, .istore_n 1, 1) (List.mem_of_getElem? (i := 7) rfl)) (by decide) ?_
    refine y_st (e_178 (14, .iconst 0, 1) (List.mem_of_getElem? (i := 8) rfl)) ⟨rfl, rfl, rfl, rfl⟩ ?_
    refine y_isn (e_178 (15, .istore_n 2, 1) (List.mem_of_getElem? (i := 9) rfl)) (by decide) ?_
    exact k_isName_l h 25 _ 0 true rfl rfl rfl (by decide) (by decide) (by decide) ⟨fun _ => ⟨c, fun x hx => absurd hx (by show ¬ (x : Int) < 0; omega)⟩, fun _ => rfl⟩
set_option maxHeartbeats 2000000 in
set_option maxRecDepth 100000 in
theorem k_find_l (h : MS th am mb hb nb rb f n lim p tok at9 sp num wd hf nf on G) {fr mny : Int32} (f0 : 0 ≤ fr.toInt) (f1 : fr.toInt + mny.toInt ≤ 32) : ∀ (m : Nat) (lv : pL) (k : Int32), pm_get lv 0 = some (.ref am) → pm_get lv 1 = some (.int fr) → pm_get lv 2 = some (.int mny) → pm_get lv 3 = some (.int k) → 0 ≤ k.toInt → (mny.toInt - k.toInt).toNat ≤ m → (∀ i : Nat, (i : Int) < k.toInt → nf (fr.toInt.toNat + i) ≠ wd) → x_Gd xs L J d m_179 (fun r G' => G' = G ∧ ∃ y : Int32, r = some (.int y) ∧ (0 ≤ y.toInt ↔ ∃ i : Nat, (i : Int) < mny.toInt ∧ nf (fr.toInt.toNat + i) = wd)) 2 lv [] G := by
  intro m
  obtain ⟨T, b1, b2, b3, c1, c2, c3, c4, d1, d2, d3⟩ := id h
  induction m with
  | zero =>
    intro lv k g0 g1 g2 g3 k0 hm hne
    refine y_iln (e_179 (2, .iload_n 3, 1) (List.mem_of_getElem? (i := 2) rfl)) g3 ?_
    refine y_iln (e_179 (3, .iload_n 2, 1) (List.mem_of_getElem? (i := 3) rfl)) g2 ?_
    refine y_icm (e_179 (4, .if_icmp .ge 27, 3) (List.mem_of_getElem? (i := 4) rfl)) rfl (fun hc => ?_) (fun hc => ?_)
    · refine y_st (e_179 (31, .iconst (-1), 1) (List.mem_of_getElem? (i := 19) rfl)) ⟨rfl, rfl, rfl, rfl⟩ ?_
      refine y_ret (e_179 (32, .ireturn, 1) (List.mem_of_getElem? (i := 20) rfl)) ⟨rfl, y_ri⟩ ⟨rfl, _, rfl, ?_⟩
      refine ⟨fun z => absurd z (by decide), fun z => ?_⟩
      obtain ⟨i, i1, i2⟩ := z
      exact absurd i2 (hne i (by omega))
    · have := y_hI.2.2.2.2.2.1 hc
      omega
  | succ m ih =>
    intro lv k g0 g1 g2 g3 k0 hm hne
    refine y_iln (e_179 (2, .iload_n 3, 1) (List.mem_of_getElem? (i := 2) rfl)) g3 ?_
    refine y_iln (e_179 (3, .iload_n 2, 1) (List.mem_of_getElem? (i := 3) rfl)) g2 ?_
    refine y_icm (e_179 (4, .if_icmp .ge 27, 3) (List.mem_of_getElem? (i := 4) rfl)) rfl (fun hc => ?_) (fun hc => ?_)
    · have := y_hI.2.2.2.2.1 hc
      refine y_st (e_179 (31, .iconst (-1), 1) (List.mem_of_getElem? (i := 19) rfl)) ⟨rfl, rfl, rfl, rfl⟩ ?_
      refine y_ret (e_179 (32, .ireturn, 1) (List.mem_of_getElem? (i := 20) rfl)) ⟨rfl, y_ri⟩ ⟨rfl, _, rfl, ?_⟩
      refine ⟨fun z => absurd z (by decide), fun z => ?_⟩
      obtain ⟨i, i1, i2⟩ := z
      exact absurd i2 (hne i (by omega))
    have hlt := y_hI.2.2.2.2.2.1 hc
    have e1 := y_add1 (t := k) (by omega)
    have ea : (fr + k).toInt = fr.toInt + k.toInt := y_add (by omega) (by omega)
    refine y_aln (e_179 (7, .aload_n 0, 1) (List.mem_of_getElem? (i := 5) rfl)) g0 ?_
    refine y_getf T.I T.t (e_179 (8, .getfield 43, 3) (List.mem_of_getElem? (i := 6) rfl)) u_17_43 ⟨rfl, rfl⟩ c2 ?_
    refine y_iln (e_179 (11, .iload_n 1, 1) (List.mem_of_getElem? (i := 7) rfl)) g1 ?_
    refine y_iln (e_179 (12, .iload_n 3, 1) (List.mem_of_getElem? (i := 8) rfl)) g3 ?_
    refine y_st (e_179 (13, .iadd, 1) (List.mem_of_getElem? (i := 9) rfl)) ⟨rfl, rfl, rfl, rfl⟩ ?_
    refine y_lald T.I b2 (e_179 (14, .laload, 1) (List.mem_of_getElem? (i := 10) rfl)) ⟨rfl, rfl⟩ (by omega) (d2 _ (by omega)) ?_
    refine y_aln (e_179 (15, .aload_n 0, 1) (List.mem_of_getElem? (i := 11) rfl)) g0 ?_
    refine y_getf T.I T.t (e_179 (16, .getfield 154, 3) (List.mem_of_getElem? (i := 12) rfl)) u_17_154 ⟨rfl, rfl⟩ T.s17 ?_
    refine y_st (e_179 (19, .lcmp, 1) (List.mem_of_getElem? (i := 13) rfl)) ⟨rfl, rfl, rfl, rfl⟩ ?_
    have en : (fr + k).toInt.toNat = fr.toInt.toNat + k.toInt.toNat := by omega
    refine y_ifc (e_179 (20, .ifCond .ne 5, 3) (List.mem_of_getElem? (i := 14) rfl)) rfl (fun hc => ?_) (fun hc => ?_)
    · have c := y_cmp.1 hc
      rw [en] at c
      refine y_iinc (e_179 (25, .iinc 3 1, 3) (List.mem_of_getElem? (i := 17) rfl)) g3 (by decide) ?_
      refine y_st (e_179 (28, .goto (-26), 3) (List.mem_of_getElem? (i := 18) rfl)) ⟨rfl, rfl, rfl, rfl⟩ ?_
      refine ih _ _ (y_gpr g0 (by decide)) (y_gpi g1 (by decide)) (y_gpi g2 (by decide)) x_get_self (by omega) (by omega) (fun i hi => ?_)
      by_cases hik : i = k.toInt.toNat
      · rw [hik]; exact c
      · exact hne i (by omega)
    · have c := y_cmp.2 hc
      rw [en] at c
      refine y_iln (e_179 (23, .iload_n 3, 1) (List.mem_of_getElem? (i := 15) rfl)) g3 ?_
      exact y_ret (e_179 (24, .ireturn, 1) (List.mem_of_getElem? (i := 16) rfl)) ⟨rfl, y_ri⟩ ⟨rfl, k, rfl, fun _ => ⟨k.toInt.toNat, by omega, c⟩, fun _ => k0⟩
theorem k_find (h : MS th am mb hb nb rb f n lim p tok at9 sp num wd hf nf on G) {fr mny : Int32} (f0 : 0 ≤ fr.toInt) (f1 : fr.toInt + mny.toInt ≤ 32) : x_Gd xs L J d m_179 (fun r G' => G' = G ∧ ∃ y : Int32, r = some (.int y) ∧ (0 ≤ y.toInt ↔ ∃ i : Nat, (i : Int) < mny.toInt ∧ nf (fr.toInt.toNat + i) = wd)) 0 (lv_args 0 [.ref am, .int fr, .int mny]) [] G := by
  refine y_st (e_179 (0, .iconst 0, 1) (List.mem_of_getElem? (i := 0) rfl)) ⟨rfl, rfl, rfl, rfl⟩ ?_
  refine y_isn (e_179 (1, .istore_n 3, 1) (List.mem_of_getElem? (i := 1) rfl)) (by decide) ?_
  exact k_find_l h f0 f1 _ _ 0 rfl rfl rfl rfl (by decide) (Nat.le_refl _) (fun i hi => absurd hi (by show ¬ (i : Int) < 0; omega))
end MG3
