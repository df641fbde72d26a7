def m_202 : pM := (⟨"BreathingHillModel", "walk", "(II)I"⟩, 1638, 4, some (FieldType.int), 17, 2, false, 10, 103, 1636, 1637)
theorem m_202_ok : pm_tab[202]? = some m_202 := rfl
theorem e_202 : ∀ q ∈ d_202, decode m_202.code q.1 = .ok (q.2.1, q.2.2) := y_dec d_202_ok m_202_ok
def m_201 : pM := (⟨"BreathingHillModel", "keep", "()V"⟩, 1634, 2, none, 17, 0, false, 10, 103, 1633, 60)
theorem m_201_ok : pm_tab[201]? = some m_201 := rfl
theorem e_201 : ∀ q ∈ d_201, decode m_201.code q.1 = .ok (q.2.1, q.2.2) := y_dec d_201_ok m_201_ok
theorem y_V.eff {th : List Nat} {E : List (Nat × Nat × Nat)} {G G' : List pE} {a b : Nat} {f : Nat → Int32} (h : y_V th G a b f) (hI : xI x_tb th G') (he : x_eff th E G G') (h1 : y_out E 10 6 = true) (h2 : ∀ i, i < 324 → y_out E 36 i = true) : y_V th G' a b f :=
  ⟨hI, h.2.1, by rw [he.at h.2.1 h1]; exact h.2.2.1, h.2.2.2.1, fun i hi => by rw [he.at h.2.2.2.1 (h2 i hi)]; exact h.2.2.2.2 i hi⟩
def E_keep : List (Nat × Nat × Nat) := [(10, 28, 28), (41, 0, 495)]
set_option maxRecDepth 100000 in
theorem E_keep_out : ∀ i, i < 324 → y_out E_keep 36 i = true := by decide +kernel
set_option maxHeartbeats 2000000 in
set_option maxRecDepth 100000 in
theorem h_297 (th : List Nat) (xs : Nat → Int32) (L J : Nat) : x_Holds x_tb th xs L J c_297 298 := by
  refine x_hyb (dm := 297) (cts := [c_236, c_235]) (D := d_202) (ns := []) (os := [(32, [(0, (20, ([(0, 1)], 0))), (1, (0, ([(1, 1)], 0))), (2, (0, ([(2, 1)], 0)))], [], [([(1, 1)], 0), ([(1, -1)], 3)], 3, [([], 0), ([], 0), ([], 0), ([], 0), ([], 0)])]) (f := 100) x_tb_wf ⟨rfl, rfl, rfl⟩ e_202 m_202_ok (List.forall_mem_cons.mpr ⟨(h_236 th xs L J).mono (by omega), List.forall_mem_cons.mpr ⟨(h_235 th xs L J).mono (by omega), fun _ h => absurd h List.not_mem_nil⟩⟩) (by decide) (by decide +kernel) (fun d hd v G0 hB hQ n hn vn lv G1 hag hS hE => ?_)
  obtain rfl : n = _ := List.mem_singleton.mp hn
  obtain ⟨d, rfl⟩ : ∃ d', d = d' + 5 := ⟨d - 5, by omega⟩
  obtain ⟨a, g0, ea, ta⟩ := hS.loC (i := 0) (t := 10) (l := ([(0, 1)], 0)) List.mem_cons_self
  obtain ⟨m, g1, em⟩ := hS.lo0 (i := 1) (l := ([(1, 1)], 0)) (List.mem_cons_of_mem _ List.mem_cons_self)
  obtain ⟨to, g2, et⟩ := hS.lo0 (i := 2) (l := ([(2, 1)], 0)) (List.mem_cons_of_mem _ (List.mem_cons_of_mem _ List.mem_cons_self))
  have c1 := hS.2.1 ([(1, 1)], 0) List.mem_cons_self
  have c2 := hS.2.1 ([(1, -1)], 3) (List.mem_cons_of_mem _ List.mem_cons_self)
  simp only [xl_ev, xt_ev] at c1 c2 em
  have hm : 0 ≤ m.toInt ∧ m.toInt ≤ 3 := by omega
  have hI := hS.2.2.2.2.2
  obtain ⟨b, f, hV⟩ := y_view hI ta
  have tb := hV.2.2.2.1
  show x_Gd xs L J (d + 5 + 1) m_202 _ 32 lv [] G1
  refine y_aln (e_202 (32, .aload_n 0, 1) (List.mem_of_getElem? (i := 19) rfl)) g0 ?_
  refine y_iln (e_202 (33, .iload_n 1, 1) (List.mem_of_getElem? (i := 20) rfl)) g1 ?_
  refine y_iln (e_202 (34, .iload_n 2, 1) (List.mem_of_getElem? (i := 21) rfl)) g2 ?_
  refine y_c3 (K' := fun r G' => G' = G1 ∧ ∃ z, r = some (.int z) ∧ (z.toInt ≤ 0 → ∃ n, w_r f (f (73 + m.toInt.toNat)) to n (f (135 + m.toInt.toNat)) (f 81))) (e_202 (35, .invokevirtual 306, 3) (List.mem_of_getElem? (i := 22) rfl)) ⟨rfl, rfl, rfl⟩ t_17_306 ⟨by decide, by decide, by decide, by decide⟩ m_203_ok rfl (by decide) (y_recv hI ta ⟨rfl, rfl⟩) (Nat.le_of_ble_eq_true rfl) (Nat.le_of_ble_eq_true rfl) (g_whyWalk (d := d + 1) hV (by omega)) (fun r1 G2 h1 => ?_)
  obtain ⟨rfl, z, rfl, hz⟩ := h1
  simp only [Option.toList_some, Option.toList_none, List.cons_append, List.nil_append]
  refine y_isn (e_202 (38, .istore_n 3, 1) (List.mem_of_getElem? (i := 23) rfl)) (by decide) ?_
  refine y_iln (e_202 (39, .iload_n 3, 1) (List.mem_of_getElem? (i := 24) rfl)) x_get_self ?_
  refine y_ifc (e_202 (40, .ifCond .le 5, 3) (List.mem_of_getElem? (i := 25) rfl)) rfl (fun hb => ?_) (fun hb => ?_)
  · have hw := hz (y_hI.2.2.2.2.2.2.1 hb)
    obtain ⟨n, hw⟩ := hw
    refine y_aln (e_202 (45, .aload_n 0, 1) (List.mem_of_getElem? (i := 28) rfl)) (y_gpr g0 (by decide)) ?_
    have hk1 := (h_261 th xs L J).gd (G := G2) (d := d + 5) m_201_ok (by omega) (v := y_v [(a : Int)]) (as := [.ref a]) (y_v_Bd (fun x hx => by rw [List.mem_singleton.mp hx]; exact y_cellB hI ta)) (fun c hc => absurd hc List.not_mem_nil) ⟨⟨a, rfl, by simp [xl_ev, xt_ev, y_v], ta⟩, trivial⟩ (fun q hq => absurd hq List.not_mem_nil) hI (fun z => by cases z)
    refine y_c1 (K' := _) (e_202 (46, .invokevirtual 303, 3) (List.mem_of_getElem? (i := 29) rfl)) ⟨rfl, rfl, rfl⟩ t_17_303 ⟨by decide, by decide, by decide, by decide⟩ m_201_ok rfl (by decide) (y_recv hI ta ⟨rfl, rfl⟩) (Nat.le_of_ble_eq_true rfl) (Nat.le_of_ble_eq_true rfl) hk1 (fun r1 G3 h1 => ?_)
    obtain ⟨v', -, -, hI3, ef3, p, hp, -, -, pa⟩ := h1
    obtain rfl : p = _ := List.mem_singleton.mp hp
    obtain rfl : r1 = none := by
      cases r1 with
      | none => rfl
      | some => exact pa.elim
    simp only [Option.toList_some, Option.toList_none, List.cons_append, List.nil_append]
    have ef3' : x_eff th E_keep G2 G3 := ef3
    have hV3 := hV.eff hI3 ef3' (by decide) E_keep_out
    have hE3 := hE.tr (ef3'.sub (E' := c_297.2.2.2.2.2.1) (by decide))
    have hQ3 := hQ (by decide) G3 hE3
    refine y_aln (e_202 (49, .aload_n 0, 1) (List.mem_of_getElem? (i := 30) rfl)) (y_gpr g0 (by decide)) ?_
    refine y_iln (e_202 (50, .iload_n 1, 1) (List.mem_of_getElem? (i := 31) rfl)) (y_gpi g1 (by decide)) ?_
    refine y_iln (e_202 (51, .iload_n 2, 1) (List.mem_of_getElem? (i := 32) rfl)) (y_gpi g2 (by decide)) ?_
    refine y_c3 (K' := fun r G' => r = none ∧ xI x_tb th G' ∧ x_eff th E_walks G3 G') (e_202 (52, .invokevirtual 309, 3) (List.mem_of_getElem? (i := 33) rfl)) ⟨rfl, rfl, rfl⟩ t_17_309 ⟨by decide, by decide, by decide, by decide⟩ m_207_ok rfl (by decide) (y_recv hI3 ta ⟨rfl, rfl⟩) (Nat.le_of_ble_eq_true rfl) (Nat.le_of_ble_eq_true rfl) (g_walks (d := d) hm (by omega) n b f G3 hV3 hQ3 hw) (fun r1 G4 h1 => ?_)
    obtain ⟨rfl, hI4, ef4⟩ := h1
    simp only [Option.toList_some, Option.toList_none, List.cons_append, List.nil_append]
    refine y_st (e_202 (55, .iconst 0, 1) (List.mem_of_getElem? (i := 34) rfl)) ⟨rfl, rfl, rfl, rfl⟩ ?_
    refine y_ret (e_202 (56, .ireturn, 1) (List.mem_of_getElem? (i := 35) rfl)) ⟨rfl, y_ri⟩ (y_postI _ hB hI4 (hE3.tr (ef4.sub (by decide))))
  · refine y_iln (e_202 (43, .iload_n 3, 1) (List.mem_of_getElem? (i := 26) rfl)) x_get_self ?_
    refine y_ret (e_202 (44, .ireturn, 1) (List.mem_of_getElem? (i := 27) rfl)) ⟨rfl, y_ri⟩ (y_postI _ hB hI hE)
