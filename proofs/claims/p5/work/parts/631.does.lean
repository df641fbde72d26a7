def m_245 : pM := (⟨"BreathingHillModel", "does", "(III)I"⟩, 1809, 5, some (FieldType.int), 17, 3, false, 10, 103, 1808, 81)
theorem m_245_ok : pm_tab[245]? = some m_245 := rfl
theorem e_245 : ∀ q ∈ d_245, decode m_245.code q.1 = .ok (q.2.1, q.2.2) := y_dec d_245_ok m_245_ok
set_option maxHeartbeats 2000000 in
set_option maxRecDepth 100000 in
theorem h_300 (th : List Nat) (xs : Nat → Int32) (L J : Nat) : x_Holds x_tb th xs L J c_300 301 := by
  refine x_hyb (dm := 300) (cts := [c_236]) (D := d_245) (ns := []) (os := [(72, [(0, (20, ([(0, 1)], 0))), (2, (0, ([(1, 1)], 0))), (3, (0, ([(2, 1)], 0)))], [], [([(1, 1)], 0), ([(1, -1)], 3)], 3, [([], 0), ([], 0), ([], 0), ([], 0), ([], 0)])]) (f := 100) x_tb_wf ⟨rfl, rfl, rfl⟩ e_245 m_245_ok (List.forall_mem_cons.mpr ⟨(h_236 th xs L J).mono (by omega), fun _ h => absurd h List.not_mem_nil⟩) (by decide) (by decide +kernel) (fun d hd v G0 hB hQ n hn vn lv G1 hag hS hE => ?_)
  obtain rfl : n = _ := List.mem_singleton.mp hn
  obtain ⟨d, rfl⟩ : ∃ d', d = d' + 5 := ⟨d - 5, by omega⟩
  obtain ⟨a, g0, ea, ta⟩ := hS.loC (i := 0) (t := 10) (l := ([(0, 1)], 0)) List.mem_cons_self
  obtain ⟨m, g1, em⟩ := hS.lo0 (i := 2) (l := ([(1, 1)], 0)) (List.mem_cons_of_mem _ List.mem_cons_self)
  obtain ⟨to, g2, et⟩ := hS.lo0 (i := 3) (l := ([(2, 1)], 0)) (List.mem_cons_of_mem _ (List.mem_cons_of_mem _ List.mem_cons_self))
  have c1 := hS.2.1 ([(1, 1)], 0) List.mem_cons_self
  have c2 := hS.2.1 ([(1, -1)], 3) (List.mem_cons_of_mem _ List.mem_cons_self)
  simp only [xl_ev, xt_ev] at c1 c2 em
  have hm : 0 ≤ m.toInt ∧ m.toInt ≤ 3 := by omega
  have hI := hS.2.2.2.2.2
  obtain ⟨b, f, hV⟩ := y_view hI ta
  have tb := hV.2.2.2.1
  have hQ1 := hQ (by decide) G1 hE
  show x_Gd xs L J (d + 5 + 1) m_245 _ 72 lv [] G1
  refine y_aln (e_245 (72, .aload_n 0, 1) (List.mem_of_getElem? (i := 46) rfl)) g0 ?_
  refine y_iln (e_245 (73, .iload_n 2, 1) (List.mem_of_getElem? (i := 47) rfl)) g1 ?_
  refine y_iln (e_245 (74, .iload_n 3, 1) (List.mem_of_getElem? (i := 48) rfl)) g2 ?_
  refine y_c3 (K' := fun r G' => G' = G1 ∧ ∃ z, r = some (.int z) ∧ (z.toInt ≤ 0 → ∃ n, w_r f (f (73 + m.toInt.toNat)) to n (f (135 + m.toInt.toNat)) (f 81))) (e_245 (75, .invokevirtual 306, 3) (List.mem_of_getElem? (i := 49) rfl)) ⟨rfl, rfl, rfl⟩ t_17_306 ⟨by decide, by decide, by decide, by decide⟩ m_203_ok rfl (by decide) (y_recv hI ta ⟨rfl, rfl⟩) (Nat.le_of_ble_eq_true rfl) (Nat.le_of_ble_eq_true rfl) (g_whyWalk (d := d + 1) hV (by omega)) (fun r1 G2 h1 => ?_)
  obtain ⟨rfl, z, rfl, hz⟩ := h1
  simp only [Option.toList_some, Option.toList_none, List.cons_append, List.nil_append]
  refine y_is (e_245 (78, .istore 4, 2) (List.mem_of_getElem? (i := 50) rfl)) (by decide) ?_
  refine y_il (e_245 (80, .iload 4, 2) (List.mem_of_getElem? (i := 51) rfl)) x_get_self ?_
  refine y_ifc (e_245 (82, .ifCond .le 9, 3) (List.mem_of_getElem? (i := 52) rfl)) rfl (fun hb => ?_) (fun hb => ?_)
  · have hw := hz (y_hI.2.2.2.2.2.2.1 hb)
    obtain ⟨n, hw⟩ := hw
    refine y_aln (e_245 (91, .aload_n 0, 1) (List.mem_of_getElem? (i := 57) rfl)) (y_gpr g0 (by decide)) ?_
    refine y_iln (e_245 (92, .iload_n 2, 1) (List.mem_of_getElem? (i := 58) rfl)) (y_gpi g1 (by decide)) ?_
    refine y_iln (e_245 (93, .iload_n 3, 1) (List.mem_of_getElem? (i := 59) rfl)) (y_gpi g2 (by decide)) ?_
    refine y_c3 (K' := fun r G' => r = none ∧ xI x_tb th G' ∧ x_eff th E_walks G2 G') (e_245 (94, .invokevirtual 309, 3) (List.mem_of_getElem? (i := 60) rfl)) ⟨rfl, rfl, rfl⟩ t_17_309 ⟨by decide, by decide, by decide, by decide⟩ m_207_ok rfl (by decide) (y_recv hI ta ⟨rfl, rfl⟩) (Nat.le_of_ble_eq_true rfl) (Nat.le_of_ble_eq_true rfl) (g_walks (d := d) hm (by omega) n b f G2 hV hQ1 hw) (fun r1 G4 h1 => ?_)
    obtain ⟨rfl, hI4, ef4⟩ := h1
    simp only [Option.toList_some, Option.toList_none, List.cons_append, List.nil_append]
    refine y_st (e_245 (97, .goto 50, 3) (List.mem_of_getElem? (i := 61) rfl)) ⟨rfl, rfl, rfl, rfl⟩ ?_
    refine y_st (e_245 (147, .iconst 0, 1) (List.mem_of_getElem? (i := 88) rfl)) ⟨rfl, rfl, rfl, rfl⟩ ?_
    refine y_ret (e_245 (148, .ireturn, 1) (List.mem_of_getElem? (i := 89) rfl)) ⟨rfl, y_ri⟩ (y_postI _ hB hI4 (hE.tr (ef4.sub (by decide))))
  · refine y_st (e_245 (85, .bipush 20, 2) (List.mem_of_getElem? (i := 53) rfl)) ⟨rfl, rfl, rfl, rfl⟩ ?_
    refine y_il (e_245 (87, .iload 4, 2) (List.mem_of_getElem? (i := 54) rfl)) x_get_self ?_
    refine y_st (e_245 (89, .iadd, 1) (List.mem_of_getElem? (i := 55) rfl)) ⟨rfl, rfl, rfl, rfl⟩ ?_
    refine y_ret (e_245 (90, .ireturn, 1) (List.mem_of_getElem? (i := 56) rfl)) ⟨rfl, y_ri⟩ (y_postI _ hB hI hE)
