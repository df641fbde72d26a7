def E_img : List (Nat × Nat × Nat) := [(10, 0, 0), (47, 0, 647), (48, 0, 31), (49, 0, 1)]
/-- what the model keeps -/
def z_IV (th : List Nat) (a : Nat) (G : List pE) : Prop := xI x_tb th G ∧ x_Q th G ∧ z_Ns th a G ∧ z_Kp th a G
theorem z_IV.eff {th : List Nat} {a : Nat} {G G' : List pE} {E : List (Nat × Nat × Nat)} (ta : th[a]? = some 10) (h : z_IV th a G) (hI : xI x_tb th G') (he : x_eff th E G G') (h0 : x_dis E = true) (h1 : (y_out E 10 9 && y_out E 10 6 && y_out E 36 3 && y_out E 36 5) = true) (h2 : ∀ i, i < 16 → y_out E 39 i = true) (h3 : (y_out E 10 42 && y_out E 10 43 && y_out E 10 44) = true) (h4 : E.all (fun q => !(q.1 == 47) && !(q.1 == 48) && !(q.1 == 49)) = true) : z_IV th a G' :=
  ⟨hI, x_Q_eff h0 he h.2.1, h.2.2.1.eff ta h.1 he h1 h2, h.2.2.2.eff ta he h3 h4⟩
section ZM2
variable {th : List Nat} {xs : Nat → Int32} {L J d a sc kb nb nk ab : Nat} {G0 : List pE} {K : Option Value → List pE → Prop}
set_option maxHeartbeats 2000000 in
set_option maxRecDepth 100000 in
theorem g_image (hd : 306 ≤ d) {q : Int32} {G : List pE} (ta : th[a]? = some 10) (hU : ∀ b b' : Nat, th[b]? = some 36 → th[b']? = some 36 → b = b') (hV : z_IV th a G) : x_Gd xs L J (d + 1) m_257 (fun r G' => z_IV th a G' ∧ x_eff th E_img G G' ∧ ((0 ≤ q.toInt ∧ q.toInt ≤ 1 → r = some (.int 1)) ∧ (¬ (0 ≤ q.toInt ∧ q.toInt ≤ 1) → r = some (.int 0)))) 0 (lv_args 0 [.ref a, .int q]) [] G := by
  have hI := hV.1
  refine sg_im0_go (d := d) (by omega) (v := (y_v [(a : Int), q.toInt])) (G0 := G) ⟨y_v_Bd (List.forall_mem_cons.mpr ⟨(y_cellB hI ta), (List.forall_mem_cons.mpr ⟨(x_i32 q), (fun _ h => absurd h List.not_mem_nil)⟩)⟩), (fun _ h => absurd h List.not_mem_nil), (List.forall_mem_cons.mpr ⟨⟨_, rfl, a, rfl, (by simp only [xl_ev, xt_ev, y_v, List.getD_cons_succ, List.getD_cons_zero]; omega), ta⟩, (List.forall_mem_cons.mpr ⟨⟨_, rfl, q, rfl, (by simp only [xl_ev, xt_ev, y_v, List.getD_cons_succ, List.getD_cons_zero]; omega)⟩, (fun _ h => absurd h List.not_mem_nil)⟩)⟩), trivial, (fun _ h => absurd h List.not_mem_nil), hI⟩ x_eff.rf (fun r G' h => ?_) (fun n hn vn lv G1 hag hS1 hE1 => ?_)
  · obtain ⟨v', hag, -, hI', ef, p, hp, pc, pf, pa⟩ := h
    have z1 : v' 1 = q.toInt := hag 1 (by decide)
    simp only [sg_im0_ps, List.mem_cons, List.not_mem_nil, or_false] at hp
    rcases hp with rfl | rfl
    · obtain ⟨y, rfl, hy⟩ := y_p1 pa
      have c := pc _ (List.mem_of_getElem? (i := 0) rfl)
      simp only [xl_ev, xt_ev] at c
      obtain rfl : y = 0 := y_i0 hy
      exact ⟨hV.eff ta hI' ef rfl rfl (by decide) rfl rfl, ef.sub (by decide), fun z => by omega, fun _ => rfl⟩
    · obtain ⟨y, rfl, hy⟩ := y_p1 pa
      have c := pc _ (List.mem_of_getElem? (i := 0) rfl)
      simp only [xl_ev, xt_ev] at c
      obtain rfl : y = 0 := y_i0 hy
      exact ⟨hV.eff ta hI' ef rfl rfl (by decide) rfl rfl, ef.sub (by decide), fun z => by omega, fun _ => rfl⟩
  obtain rfl : n = _ := List.mem_singleton.mp hn
  have z0 : vn 0 = (a : Int) := hag 0 (by decide)
  have z1 : vn 1 = q.toInt := hag 1 (by decide)
  have g0 := hS1.loCe (i := 0) (t := 10) (l := ([(0, 1)], 0)) (a := a) (List.mem_of_getElem? (i := 0) rfl) (by simp only [xl_ev, xt_ev]; omega)
  have g1 := hS1.lo0e (i := 1) (l := ([(1, 1)], 0)) (x := q) (List.mem_of_getElem? (i := 1) rfl) (by simp only [xl_ev, xt_ev]; omega)
  have q0 := hS1.2.1 ([(1, 1)], 0) (List.mem_of_getElem? (i := 0) rfl)
  have q1 := hS1.2.1 ([(1, -1)], 1) (List.mem_of_getElem? (i := 1) rfl)
  simp only [xl_ev, xt_ev] at q0 q1
  replace q0 : 0 ≤ q.toInt := by omega
  replace q1 : q.toInt ≤ 1 := by omega
  have hI1 := hS1.2.2.2.2.2
  have hV1 : z_IV th a G1 := hV.eff ta hI1 hE1 rfl rfl (by decide) rfl rfl
  obtain ⟨-, hQ1, ⟨nb, sc, k9, tnb, k6, tsc, hDD⟩, kb, nk, ab, k42, tkb, k43, tnk, k44, tab, hK1⟩ := id hV1
  obtain ⟨f, hf⟩ := y_iarr (t := 36) (n := 324) hI1 tsc rfl rfl
  obtain ⟨nm, hnm⟩ := y_larr (t := 39) (n := 32) hI1 tnb rfl
  have ne1 : a ≠ kb := fun z => by rw [z, tkb] at ta; cases ta
  have ne2 : nb ≠ kb := fun z => by rw [z, tkb] at tnb; cases tnb
  have ne3 : a ≠ nk := fun z => by rw [z, tnk] at ta; cases ta
  have ne4 : kb ≠ nk := fun z => by rw [z, tnk] at tkb; cases tkb
  have ne5 : nk ≠ kb := Ne.symm ne4
  have ne6 : ab ≠ kb := fun z => by rw [z, tkb] at tab; cases tab
  have ne7 : ab ≠ nk := fun z => by rw [z, tnk] at tab; cases tab
  refine y_st (e_257 (16, .iconst 0, 1) (List.mem_of_getElem? (i := 10) rfl)) ⟨rfl, rfl, rfl, rfl⟩ ?_
  refine y_isn (e_257 (17, .istore_n 2, 1) (List.mem_of_getElem? (i := 11) rfl)) (by decide) ?_
  refine g_im1 (G0 := G1) (kb := kb) (sc := sc) (f := f) q0 q1 ta k6 tsc k42 tkb hI1 hf (fun G2 lv2 hI2 hO2 hc2 ef2 g02 g12 => ?_) _ G1 _ 0 hI1 (fun _ _ _ => rfl) x_eff.rf (by decide) (by decide) rfl (fun i hi => absurd hi (by show ¬ (i : Int) < 0; omega)) (y_gpr g0 (by decide)) (y_gpi g1 (by decide)) x_get_self
  refine y_st (e_257 (49, .iconst 0, 1) (List.mem_of_getElem? (i := 29) rfl)) ⟨rfl, rfl, rfl, rfl⟩ ?_
  refine y_isn (e_257 (50, .istore_n 2, 1) (List.mem_of_getElem? (i := 30) rfl)) (by decide) ?_
  refine g_im2 (G0 := G2) (nk := nk) (nb := nb) (f := nm) q0 q1 ta ((hO2 a 9 (Or.inl ne1)).trans k9) tnb ((hO2 a 43 (Or.inl ne1)).trans k43) tnk (fun i hi => (hO2 nb i (Or.inl ne2)).trans (hnm i hi)) (fun G3 lv3 hI3 hO3 hc3 ef3 g03 g13 => ?_) _ G2 _ 0 hI2 (fun _ _ _ => rfl) x_eff.rf (by decide) (by decide) rfl (fun i hi => absurd hi (by show ¬ (i : Int) < 0; omega)) (y_gpr g02 (by decide)) (y_gpi g12 (by decide)) x_get_self
  have fin : ∀ G4, xI x_tb th G4 → x_eff th [(49, q.toInt.toNat, q.toInt.toNat)] G3 G4 → z_IV th a G4 ∧ x_eff th E_img G G4 := fun G4 hI4 ef4 => by
    have ef4' : x_eff th E_img G3 G4 := ef4.mono (fun p hp => by
      obtain rfl : p = _ := List.mem_singleton.mp hp
      exact ⟨(49, 0, 1), List.mem_of_getElem? (i := 3) rfl, rfl, Nat.zero_le _, by show q.toInt.toNat ≤ 1; omega⟩)
    have efA : x_eff th E_img G1 G4 := ((ef2.sub (by decide)).tr (ef3.sub (by decide))).tr ef4'
    have o4 : ∀ c t i : Nat, th[c]? = some t → t ≠ 49 → x_sl G4 c i = x_sl G3 c i := fun c t i hc ht => ef4 c t i hc (fun p hp z => by rw [List.mem_singleton.mp hp] at z; exact ht z.1.symm)
    have ck : ∀ i, x_sl G4 kb i = x_sl G2 kb i := fun i => (o4 kb _ i tkb (by decide)).trans (hO3 kb i (Or.inl ne4))
    have cn : ∀ i, x_sl G4 nk i = x_sl G3 nk i := fun i => o4 nk _ i tnk (by decide)
    refine ⟨⟨hI4, x_Q_eff (by decide) efA hQ1, hV1.2.2.1.eff ta hI1 efA rfl (by decide), kb, nk, ab, by rw [efA.at ta rfl]; exact k42, tkb, by rw [efA.at ta rfl]; exact k43, tnk, by rw [efA.at ta rfl]; exact k44, tab, fun q' hq' x hx hx0 => ?_⟩, (hE1.sub (by decide)).tr efA⟩
    by_cases hqq : q' = q.toInt.toNat
    · subst hqq
      have hA : ∀ i, i < 324 → x_sl G4 kb (324 * q.toInt.toNat + i) = x_sl G1 sc i := fun i hi => by rw [ck, hc2 i hi, hf i hi]
      have hB : ∀ i, i < 16 → x_sl G4 nk (16 * q.toInt.toNat + i) = x_sl G1 nb i := fun i hi => by rw [cn, hc3 i hi, hnm i (by omega)]
      have E3 := E_k3 q.toInt.toNat (by omega)
      refine ⟨z_Qs_c hA (fun n hn => (y_fie (t := 47) hI4 tkb E3.2.2 hn).2) (hQ1 sc tsc), z_DD_c hA (fun n hn => (y_fie (t := 47) hI4 tkb E3.1 hn).2) (fun n hn => (y_fie (t := 47) hI4 tkb E3.2.1 hn).2) hB hDD, fun x hx => ?_, fun x hx => ?_⟩
      · exact (y_fie (i := 6) (t := 36) hI1 tsc rfl ((hA 6 (by decide)).symm.trans hx)).1
      · exact (y_fie (i := 11) (t := 36) hI1 tsc rfl ((hA 11 (by decide)).symm.trans hx)).1
    · have hx1 : x_sl G1 ab q' = some (.int x) := by
        rw [ef4 ab _ q' tab (fun p hp z => by rw [List.mem_singleton.mp hp] at z; have z1 : q.toInt.toNat ≤ q' := z.2.1; have z2 : q' ≤ q.toInt.toNat := z.2.2; omega), hO3 ab q' (Or.inl ne7), hO2 ab q' (Or.inl ne6)] at hx
        exact hx
      have hS := hK1 q' hq' x hx1 hx0
      have hA : ∀ i, i < 324 → x_sl G4 kb (324 * q' + i) = x_sl G1 kb (324 * q' + i) := fun i hi => by rw [ck, hO2 kb _ (by omega)]
      have hB : ∀ i, i < 16 → x_sl G4 nk (16 * q' + i) = x_sl G1 nk (16 * q' + i) := fun i hi => by rw [cn, hO3 nk _ (by omega), hO2 nk _ (Or.inl ne5)]
      have E3 := E_k3 q' hq'
      refine ⟨z_Qs_c hA (fun n hn => (y_fie (t := 47) hI4 tkb E3.2.2 hn).2) hS.1, z_DD_c hA (fun n hn => (y_fie (t := 47) hI4 tkb E3.1 hn).2) (fun n hn => (y_fie (t := 47) hI4 tkb E3.2.1 hn).2) hB hS.2.1, fun x hx => ?_, fun x hx => ?_⟩
      · exact hS.2.2.1 x ((hA 6 (by decide)).symm.trans hx)
      · exact hS.2.2.2 x ((hA 11 (by decide)).symm.trans hx)
  rcases (show q.toInt = 0 ∨ q.toInt = 1 by omega) with hq | hq
  · refine sg_im80a_go (d := d) (by omega) (v := (y_v [(a : Int)])) (G0 := G3) ⟨y_v_Bd (List.forall_mem_cons.mpr ⟨(y_cellB hI3 ta), (fun _ h => absurd h List.not_mem_nil)⟩), (fun _ h => absurd h List.not_mem_nil), (List.forall_mem_cons.mpr ⟨⟨_, g03, a, rfl, (by simp only [xl_ev, xt_ev, y_v, List.getD_cons_succ, List.getD_cons_zero]; omega), ta⟩, (List.forall_mem_cons.mpr ⟨⟨_, g13, q, rfl, (by rw [hq]; simp only [xl_ev, xt_ev]; omega)⟩, (fun _ h => absurd h List.not_mem_nil)⟩)⟩), trivial, (fun _ h => absurd h List.not_mem_nil), hI3⟩ x_eff.rf (fun r G' h => ?_) (fun n hn => absurd hn List.not_mem_nil)
    obtain ⟨v', -, -, hI', ef, p7, hp7, -, -, pa⟩ := h
    obtain rfl : p7 = _ := List.mem_singleton.mp hp7
    obtain ⟨y, rfl, hy⟩ := y_p1 pa
    obtain rfl : y = 1 := y_i1 hy
    obtain ⟨r1, r2⟩ := fin G' hI' (by rw [hq]; exact ef)
    exact ⟨r1, r2, fun _ => rfl, fun z => absurd ⟨q0, q1⟩ z⟩
  · refine sg_im80b_go (d := d) (by omega) (v := (y_v [(a : Int)])) (G0 := G3) ⟨y_v_Bd (List.forall_mem_cons.mpr ⟨(y_cellB hI3 ta), (fun _ h => absurd h List.not_mem_nil)⟩), (fun _ h => absurd h List.not_mem_nil), (List.forall_mem_cons.mpr ⟨⟨_, g03, a, rfl, (by simp only [xl_ev, xt_ev, y_v, List.getD_cons_succ, List.getD_cons_zero]; omega), ta⟩, (List.forall_mem_cons.mpr ⟨⟨_, g13, q, rfl, (by rw [hq]; simp only [xl_ev, xt_ev]; omega)⟩, (fun _ h => absurd h List.not_mem_nil)⟩)⟩), trivial, (fun _ h => absurd h List.not_mem_nil), hI3⟩ x_eff.rf (fun r G' h => ?_) (fun n hn => absurd hn List.not_mem_nil)
    obtain ⟨v', -, -, hI', ef, p7, hp7, -, -, pa⟩ := h
    obtain rfl : p7 = _ := List.mem_singleton.mp hp7
    obtain ⟨y, rfl, hy⟩ := y_p1 pa
    obtain rfl : y = 1 := y_i1 hy
    obtain ⟨r1, r2⟩ := fin G' hI' (by rw [hq]; exact ef)
    exact ⟨r1, r2, fun _ => rfl, fun z => absurd ⟨q0, q1⟩ z⟩
end ZM2
