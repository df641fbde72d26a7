section ZM
variable {th : List Nat} {xs : Nat → Int32} {L J d a : Nat}
theorem y_zast {G : List pE} {M : pM} {K : Option Value → List pE → Prop} {pc : Nat} {lv : pL} {r : List Value} {a t : Nat} {j : Int32} (hI : xI x_tb th G) (ha : th[a]? = some t) (hd : decode M.code pc = .ok (Instr.bastore, 1)) (ht : (x_tb t).1 = 1 ∧ (x_tb t).2.1 = 2) (hj : 0 ≤ j.toInt ∧ j.toInt < (x_tb t).2.2.1) (hk : ∀ G1, x_upd G G1 a j.toInt.toNat (.int 1) → x_Gd xs L J d M K (pc + 1) lv r G1) : x_Gd xs L J d M K pc lv (.int (Int32.ofInt 1) :: .int j :: .ref a :: r) G := by
  obtain ⟨e, he, hs⟩ := (hI.2.2 a t ha).1
  obtain ⟨f, rfl⟩ := x_arr_int hs ht.1 (by omega)
  rw [ht.2] at he
  obtain ⟨i1, i2⟩ := y_idx (n := (x_tb t).2.2.1) hj.1 hj.2
  have hu := x_upd_int (x := 1) (i := j.toInt.toNat) he (by omega)
  refine y_st hd ⟨rfl, rfl, rfl, ?_⟩ (hk _ hu)
  dsimp only [pm_step]
  rw [he]
  show (if pm_bad j _ = true then none else some (pc + 1, lv, r, G.set a (.inl (2, _, .inl (upd f j.toNatClampNeg (vp_nar .boolean (Int32.ofInt 1))))), 0, 0)) = _
  rw [i2, i1]
  rfl
set_option maxHeartbeats 2000000 in
set_option maxRecDepth 100000 in
theorem g_image_c (hd : 306 ≤ d) {q : Int32} {G : List pE} (ta : th[a]? = some 10) (hV : z_IV th a G) : x_Gd xs L J (d + 1) m_257 (fun r G' => ∀ kb sc ab : Nat, x_sl G a 42 = some (.ref kb) → x_sl G a 6 = some (.ref sc) → x_sl G a 44 = some (.ref ab) → (∀ p : Nat, p < 2 → ∀ i, i < 324 → x_sl G' kb (324 * p + i) = if 0 ≤ q.toInt ∧ q.toInt ≤ 1 ∧ p = q.toInt.toNat then x_sl G sc i else x_sl G kb (324 * p + i)) ∧ (∀ nb nk : Nat, x_sl G a 9 = some (.ref nb) → x_sl G a 43 = some (.ref nk) → ∀ p : Nat, p < 2 → ∀ i, i < 16 → x_sl G' nk (16 * p + i) = if 0 ≤ q.toInt ∧ q.toInt ≤ 1 ∧ p = q.toInt.toNat then x_sl G nb i else x_sl G nk (16 * p + i)) ∧ (∀ i : Nat, x_sl G' ab i = if 0 ≤ q.toInt ∧ q.toInt ≤ 1 ∧ i = q.toInt.toNat then some (.int 1) else x_sl G ab i)) 0 (lv_args 0 [.ref a, .int q]) [] G := by
  have hI := hV.1
  refine sg_im0_go (d := d) (by omega) (v := (y_v [(a : Int), q.toInt])) (G0 := G) ⟨y_v_Bd (List.forall_mem_cons.mpr ⟨(y_cellB hI ta), (List.forall_mem_cons.mpr ⟨(x_i32 q), (fun _ h => absurd h List.not_mem_nil)⟩)⟩), (fun _ h => absurd h List.not_mem_nil), (List.forall_mem_cons.mpr ⟨⟨_, rfl, a, rfl, (by simp only [xl_ev, xt_ev, y_v, List.getD_cons_succ, List.getD_cons_zero]; omega), ta⟩, (List.forall_mem_cons.mpr ⟨⟨_, rfl, q, rfl, (by simp only [xl_ev, xt_ev, y_v, List.getD_cons_succ, List.getD_cons_zero]; omega)⟩, (fun _ h => absurd h List.not_mem_nil)⟩)⟩), trivial, (fun _ h => absurd h List.not_mem_nil), hI⟩ x_eff.rf (fun r G' h => ?_) (fun n hn vn lv G1 hag hS1 hE1 => ?_)
  · obtain ⟨v', hag, -, hI', ef, p, hp, pc, pf, pa⟩ := h
    have z1 : v' 1 = q.toInt := hag 1 (by decide)
    simp only [sg_im0_ps, List.mem_cons, List.not_mem_nil, or_false] at hp
    rcases hp with rfl | rfl
    · skip
      have c := pc _ (List.mem_of_getElem? (i := 0) rfl)
      simp only [xl_ev, xt_ev] at c
      intro kb sc ab e1 e2 e3
      obtain ⟨kb', e1', tkb⟩ := y_fref (i := 42) (u := 47) hI ta rfl
      obtain ⟨ab', e3', tab⟩ := y_fref (i := 44) (u := 49) hI ta rfl
      rw [e1] at e1'
      cases e1'
      rw [e3] at e3'
      cases e3'
      obtain ⟨nk', e4', tnk⟩ := y_fref (i := 43) (u := 48) hI ta rfl
      exact ⟨fun p hp i hi => by rw [if_neg (fun z => by omega), ef.at tkb rfl], fun nb nk e4 e5 p hp i hi => by
        rw [e5] at e4'
        cases e4'
        rw [if_neg (fun z => by omega), ef.at tnk rfl], fun i => by rw [if_neg (fun z => by omega), ef.at tab rfl]⟩
    · skip
      have c := pc _ (List.mem_of_getElem? (i := 0) rfl)
      simp only [xl_ev, xt_ev] at c
      intro kb sc ab e1 e2 e3
      obtain ⟨kb', e1', tkb⟩ := y_fref (i := 42) (u := 47) hI ta rfl
      obtain ⟨ab', e3', tab⟩ := y_fref (i := 44) (u := 49) hI ta rfl
      rw [e1] at e1'
      cases e1'
      rw [e3] at e3'
      cases e3'
      obtain ⟨nk', e4', tnk⟩ := y_fref (i := 43) (u := 48) hI ta rfl
      exact ⟨fun p hp i hi => by rw [if_neg (fun z => by omega), ef.at tkb rfl], fun nb nk e4 e5 p hp i hi => by
        rw [e5] at e4'
        cases e4'
        rw [if_neg (fun z => by omega), ef.at tnk rfl], fun i => by rw [if_neg (fun z => by omega), ef.at tab rfl]⟩
  obtain rfl : n = _ := List.mem_singleton.mp hn
  have z0 : vn 0 = (a : Int) := hag 0 (by decide)
  have z1 : vn 1 = q.toInt := hag 1 (by decide)
  have g0 := hS1.loCe (i := 0) (t := 10) (l := ([(0, 1)], 0)) (a := a) (List.mem_of_getElem? (i := 0) rfl) (by simp only [xl_ev, xt_ev]; omega)
  have g1 := hS1.lo0e (i := 1) (l := ([(1, 1)], 0)) (x := q) (List.mem_of_getElem? (i := 1) rfl) (by simp only [xl_ev, xt_ev]; omega)
  have q0 := hS1.2.1 ([(1, 1)], 0) (List.mem_of_getElem? (i := 0) rfl)
  have q1 := hS1.2.1 ([(1, -1)], 1) (List.mem_of_getElem? (i := 1) rfl)
  simp only [xl_ev, xt_ev] at q0 q1
  replace q0 : 0 ≤ q.toInt := by omega
  replace q1 : q.toInt ≤ 1 := by omega
  have hI1 := hS1.2.2.2.2.2
  have hV1 : z_IV th a G1 := hV.eff ta hI1 hE1 rfl rfl (by decide) rfl rfl
  obtain ⟨-, hQ1, ⟨nb, sc, k9, tnb, k6, tsc, hDD⟩, kb, nk, ab, k42, tkb, k43, tnk, k44, tab, hK1⟩ := id hV1
  obtain ⟨f, hf⟩ := y_iarr (t := 36) (n := 324) hI1 tsc rfl rfl
  obtain ⟨nm, hnm⟩ := y_larr (t := 39) (n := 32) hI1 tnb rfl
  have ne1 : a ≠ kb := fun z => by rw [z, tkb] at ta; cases ta
  have ne2 : nb ≠ kb := fun z => by rw [z, tkb] at tnb; cases tnb
  have ne3 : a ≠ nk := fun z => by rw [z, tnk] at ta; cases ta
  have ne4 : kb ≠ nk := fun z => by rw [z, tnk] at tkb; cases tkb
  have ne5 : nk ≠ kb := Ne.symm ne4
  have ne6 : ab ≠ kb := fun z => by rw [z, tkb] at tab; cases tab
  have ne7 : ab ≠ nk := fun z => by rw [z, tnk] at tab; cases tab
  refine y_st (e_257 (16, .iconst 0, 1) (List.mem_of_getElem? (i := 10) rfl)) ⟨rfl, rfl, rfl, rfl⟩ ?_
  refine y_isn (e_257 (17, .istore_n 2, 1) (List.mem_of_getElem? (i := 11) rfl)) (by decide) ?_
  refine g_im1 (G0 := G1) (kb := kb) (sc := sc) (f := f) q0 q1 ta k6 tsc k42 tkb hI1 hf (fun G2 lv2 hI2 hO2 hc2 ef2 g02 g12 => ?_) _ G1 _ 0 hI1 (fun _ _ _ => rfl) x_eff.rf (by decide) (by decide) rfl (fun i hi => absurd hi (by show ¬ (i : Int) < 0; omega)) (y_gpr g0 (by decide)) (y_gpi g1 (by decide)) x_get_self
  refine y_st (e_257 (49, .iconst 0, 1) (List.mem_of_getElem? (i := 29) rfl)) ⟨rfl, rfl, rfl, rfl⟩ ?_
  refine y_isn (e_257 (50, .istore_n 2, 1) (List.mem_of_getElem? (i := 30) rfl)) (by decide) ?_
  refine g_im2 (G0 := G2) (nk := nk) (nb := nb) (f := nm) q0 q1 ta ((hO2 a 9 (Or.inl ne1)).trans k9) tnb ((hO2 a 43 (Or.inl ne1)).trans k43) tnk (fun i hi => (hO2 nb i (Or.inl ne2)).trans (hnm i hi)) (fun G3 lv3 hI3 hO3 hc3 ef3 g03 g13 => ?_) _ G2 _ 0 hI2 (fun _ _ _ => rfl) x_eff.rf (by decide) (by decide) rfl (fun i hi => absurd hi (by show ¬ (i : Int) < 0; omega)) (y_gpr g02 (by decide)) (y_gpi g12 (by decide)) x_get_self
  have ne8 : sc ≠ kb := fun z => by rw [z, tkb] at tsc; cases tsc
  have ne9 : kb ≠ ab := fun z => by rw [z, tab] at tkb; cases tkb
  refine y_aln (e_257 (80, .aload_n 0, 1) (List.mem_of_getElem? (i := 48) rfl)) g03 ?_
  refine y_getf hI3 ta (e_257 (81, .getfield 75, 3) (List.mem_of_getElem? (i := 49) rfl)) u_17_75 ⟨rfl, rfl⟩ ((hO3 a 44 (Or.inl ne3)).trans ((hO2 a 44 (Or.inl ne1)).trans k44)) ?_
  refine y_iln (e_257 (84, .iload_n 1, 1) (List.mem_of_getElem? (i := 50) rfl)) g13 ?_
  refine y_st (e_257 (85, .iconst 1, 1) (List.mem_of_getElem? (i := 51) rfl)) ⟨rfl, rfl, rfl, rfl⟩ ?_
  refine y_zast hI3 tab (e_257 (86, .bastore, 1) (List.mem_of_getElem? (i := 52) rfl)) ⟨rfl, rfl⟩ ⟨q0, by show q.toInt < 2; omega⟩ (fun G4 hu => ?_)
  refine y_st (e_257 (87, .iconst 1, 1) (List.mem_of_getElem? (i := 53) rfl)) ⟨rfl, rfl, rfl, rfl⟩ ?_
  refine y_ret (e_257 (88, .ireturn, 1) (List.mem_of_getElem? (i := 54) rfl)) ⟨rfl, y_rb (Or.inr rfl)⟩ (fun kb' sc' ab' e1 e2 e3 => ?_)
  rw [← hE1.at ta rfl, k42] at e1
  cases e1
  rw [← hE1.at ta rfl, k6] at e2
  cases e2
  rw [← hE1.at ta rfl, k44] at e3
  cases e3
  refine ⟨fun p hp i hi => ?_, fun nb' nk' e4 e5 p hp i hi => ?_, fun i => ?_⟩
  rotate_left
  · rw [← hE1.at ta rfl, k9] at e4
    cases e4
    rw [← hE1.at ta rfl, k43] at e5
    cases e5
    rw [hu.2.1, if_neg (fun z => ne7 z.1.symm)]
    by_cases e : p = q.toInt.toNat
    · rw [if_pos ⟨q0, q1, e⟩, e, hc3 i hi, ← hE1.at tnb rfl, hnm i (by omega)]
    · rw [if_neg (fun z => e z.2.2), hO3 nk _ (Or.inr (by omega)), hO2 nk _ (Or.inl ne5), hE1.at tnk rfl]
  rotate_left
  · rw [hu.2.1, if_neg (fun z => ne9 z.1), hO3 kb _ (Or.inl ne4)]
    by_cases e : p = q.toInt.toNat
    · rw [if_pos ⟨q0, q1, e⟩, e, hc2 i hi, ← hE1.at tsc rfl, hf i hi]
    · rw [if_neg (fun z => e z.2.2), hO2 kb _ (Or.inr (by omega)), hE1.at tkb rfl]
  · rw [hu.2.1 ab i]
    by_cases hi : i = q.toInt.toNat
    · rw [if_pos (show ab = ab ∧ i = q.toInt.toNat from ⟨rfl, hi⟩), if_pos (show 0 ≤ q.toInt ∧ q.toInt ≤ 1 ∧ i = q.toInt.toNat from ⟨q0, q1, hi⟩)]
    · rw [if_neg (show ¬ (ab = ab ∧ i = q.toInt.toNat) from fun z => hi z.2), if_neg (show ¬ (0 ≤ q.toInt ∧ q.toInt ≤ 1 ∧ i = q.toInt.toNat) from fun z => hi z.2.2), hO3 ab i (Or.inl ne7), hO2 ab i (Or.inl ne6), hE1.at tab rfl]
set_option maxHeartbeats 2000000 in
set_option maxRecDepth 100000 in
theorem g_restore_c (hd : 306 ≤ d) {q : Int32} {G : List pE} (ta : th[a]? = some 10) (hV : z_IV th a G) : x_Gd xs L J (d + 1) m_258 (fun r G' => ∀ kb sc ab : Nat, x_sl G a 42 = some (.ref kb) → x_sl G a 6 = some (.ref sc) → x_sl G a 44 = some (.ref ab) → ((0 ≤ q.toInt ∧ q.toInt ≤ 1 ∧ ∃ x : Int32, x_sl G ab q.toInt.toNat = some (.int x) ∧ x ≠ 0) → (∀ i, i < 324 → x_sl G' sc i = x_sl G kb (324 * q.toInt.toNat + i)) ∧ ∀ nb nk : Nat, x_sl G a 9 = some (.ref nb) → x_sl G a 43 = some (.ref nk) → ∀ i, i < 16 → x_sl G' nb i = x_sl G nk (16 * q.toInt.toNat + i)) ∧ (¬ (0 ≤ q.toInt ∧ q.toInt ≤ 1 ∧ ∃ x : Int32, x_sl G ab q.toInt.toNat = some (.int x) ∧ x ≠ 0) → (∀ i, i < 324 → x_sl G' sc i = x_sl G sc i) ∧ ∀ nb : Nat, x_sl G a 9 = some (.ref nb) → ∀ i, i < 16 → x_sl G' nb i = x_sl G nb i)) 0 (lv_args 0 [.ref a, .int q]) [] G := by
  have hI := hV.1
  refine sg_rs0_go (d := d) (by omega) (v := (y_v [(a : Int), q.toInt])) (G0 := G) ⟨y_v_Bd (List.forall_mem_cons.mpr ⟨(y_cellB hI ta), (List.forall_mem_cons.mpr ⟨(x_i32 q), (fun _ h => absurd h List.not_mem_nil)⟩)⟩), (fun _ h => absurd h List.not_mem_nil), (List.forall_mem_cons.mpr ⟨⟨_, rfl, a, rfl, (by simp only [xl_ev, xt_ev, y_v, List.getD_cons_succ, List.getD_cons_zero]; omega), ta⟩, (List.forall_mem_cons.mpr ⟨⟨_, rfl, q, rfl, (by simp only [xl_ev, xt_ev, y_v, List.getD_cons_succ, List.getD_cons_zero]; omega)⟩, (fun _ h => absurd h List.not_mem_nil)⟩)⟩), trivial, (fun _ h => absurd h List.not_mem_nil), hI⟩ x_eff.rf (fun r G' h => ?_) (fun n hn vn lv G1 hag hS1 hE1 => ?_)
  · obtain ⟨v', hag, -, hI', ef, p, hp, pc, pf, pa⟩ := h
    have z1 : v' 1 = q.toInt := hag 1 (by decide)
    simp only [sg_rs0_ps, List.mem_cons, List.not_mem_nil, or_false] at hp
    rcases hp with rfl | rfl
    · skip
      have c := pc _ (List.mem_of_getElem? (i := 0) rfl)
      simp only [xl_ev, xt_ev] at c
      intro kb sc ab e1 e2 e3
      obtain ⟨sc', e2', tsc⟩ := y_fref (i := 6) (u := 36) hI ta rfl
      rw [e2] at e2'
      cases e2'
      obtain ⟨nb', e4', tnb⟩ := y_fref (i := 9) (u := 39) hI ta rfl
      exact ⟨fun z => by omega, fun _ => ⟨fun i hi => ef.at tsc rfl, fun nb e4 i hi => by
        rw [e4] at e4'
        cases e4'
        exact ef.at tnb rfl⟩⟩
    · skip
      have c := pc _ (List.mem_of_getElem? (i := 0) rfl)
      simp only [xl_ev, xt_ev] at c
      intro kb sc ab e1 e2 e3
      obtain ⟨sc', e2', tsc⟩ := y_fref (i := 6) (u := 36) hI ta rfl
      rw [e2] at e2'
      cases e2'
      obtain ⟨nb', e4', tnb⟩ := y_fref (i := 9) (u := 39) hI ta rfl
      exact ⟨fun z => by omega, fun _ => ⟨fun i hi => ef.at tsc rfl, fun nb e4 i hi => by
        rw [e4] at e4'
        cases e4'
        exact ef.at tnb rfl⟩⟩
  obtain rfl : n = _ := List.mem_singleton.mp hn
  have z0 : vn 0 = (a : Int) := hag 0 (by decide)
  have z1 : vn 1 = q.toInt := hag 1 (by decide)
  have g0 := hS1.loCe (i := 0) (t := 10) (l := ([(0, 1)], 0)) (a := a) (List.mem_of_getElem? (i := 0) rfl) (by simp only [xl_ev, xt_ev]; omega)
  have g1 := hS1.lo0e (i := 1) (l := ([(1, 1)], 0)) (x := q) (List.mem_of_getElem? (i := 1) rfl) (by simp only [xl_ev, xt_ev]; omega)
  have q0 := hS1.2.1 ([(1, 1)], 0) (List.mem_of_getElem? (i := 0) rfl)
  have q1 := hS1.2.1 ([(1, -1)], 1) (List.mem_of_getElem? (i := 1) rfl)
  simp only [xl_ev, xt_ev] at q0 q1
  replace q0 : 0 ≤ q.toInt := by omega
  replace q1 : q.toInt ≤ 1 := by omega
  have hI1 := hS1.2.2.2.2.2
  have hV1 : z_IV th a G1 := hV.eff ta hI1 hE1 rfl rfl (by decide) rfl rfl
  obtain ⟨-, hQ1, ⟨nb, sc, k9, tnb, k6, tsc, hDD⟩, kb, nk, ab, k42, tkb, k43, tnk, k44, tab, hK1⟩ := id hV1
  obtain ⟨x, hx, -⟩ := y_fi (i := q.toInt.toNat) (t := 49) (lo := 0) (hi := 1) hI1 tab (y_one (by omega))
  have k440 : x_sl G a 44 = some (.ref ab) := by rw [← hE1.at ta rfl]; exact k44
  have hx0 : x_sl G ab q.toInt.toNat = some (.int x) := by rw [← hE1.at tab rfl]; exact hx
  refine y_aln (e_258 (14, .aload_n 0, 1) (List.mem_of_getElem? (i := 8) rfl)) g0 ?_
  refine y_getf hI1 ta (e_258 (15, .getfield 75, 3) (List.mem_of_getElem? (i := 9) rfl)) u_17_75 ⟨rfl, rfl⟩ k44 ?_
  refine y_iln (e_258 (18, .iload_n 1, 1) (List.mem_of_getElem? (i := 10) rfl)) g1 ?_
  refine y_bald hI1 tab (e_258 (19, .baload, 1) (List.mem_of_getElem? (i := 11) rfl)) ⟨rfl, Or.inr rfl⟩ q0 hx ?_
  refine y_ifc (e_258 (20, .ifCond .ne 5, 3) (List.mem_of_getElem? (i := 12) rfl)) rfl (fun hb => ?_) (fun hb => ?_)
  · have xne : x ≠ 0 := y_hI.2.2.1 hb
    have hS := hK1 q.toInt.toNat (by omega) x hx xne
    obtain ⟨kf, hkf⟩ := y_iarr (t := 47) (n := 648) hI1 tkb rfl rfl
    obtain ⟨nm, hnm⟩ := y_larr (t := 48) (n := 32) hI1 tnk rfl
    have ne1 : a ≠ sc := fun z => by rw [z, tsc] at ta; cases ta
    have ne2 : nk ≠ sc := fun z => by rw [z, tsc] at tnk; cases tnk
    have ne3 : a ≠ nb := fun z => by rw [z, tnb] at ta; cases ta
    have ne4 : sc ≠ nb := fun z => by rw [z, tnb] at tsc; cases tsc
    have hf : ∀ i, i < 324 → x_sl G1 kb (324 * q.toInt.toNat + i) = some (.int (kf (324 * q.toInt.toNat + i))) := fun i hi => hkf _ (by omega)
    refine y_st (e_258 (25, .iconst 0, 1) (List.mem_of_getElem? (i := 15) rfl)) ⟨rfl, rfl, rfl, rfl⟩ ?_
    refine y_isn (e_258 (26, .istore_n 2, 1) (List.mem_of_getElem? (i := 16) rfl)) (by decide) ?_
    refine g_rs1 (G0 := G1) (kb := kb) (sc := sc) (f := fun i => kf (324 * q.toInt.toNat + i)) q0 q1 ta k6 tsc k42 tkb hI1 hf (hS.2.2.1 _ (hf 6 (by decide))) (hS.2.2.2 _ (hf 11 (by decide))) (fun G2 lv2 hI2 hO2 hc2 ef2 g02 g12 => ?_) _ G1 _ 0 hI1 (fun _ _ _ => rfl) x_eff.rf (by decide) (by decide) rfl (fun i hi => absurd hi (by show ¬ (i : Int) < 0; omega)) (y_gpr g0 (by decide)) (y_gpi g1 (by decide)) x_get_self
    refine y_st (e_258 (58, .iconst 0, 1) (List.mem_of_getElem? (i := 34) rfl)) ⟨rfl, rfl, rfl, rfl⟩ ?_
    refine y_isn (e_258 (59, .istore_n 2, 1) (List.mem_of_getElem? (i := 35) rfl)) (by decide) ?_
    refine g_rs2 (G0 := G2) (nk := nk) (nb := nb) (f := nm) q0 q1 ta ((hO2 a 9 ne1).trans k9) tnb ((hO2 a 43 ne1).trans k43) tnk (fun i hi => (hO2 nk i ne2).trans (hnm i hi)) (fun G3 lv3 hI3 hO3 hc3 ef3 g03 g13 => ?_) _ G2 _ 0 hI2 (fun _ _ _ => rfl) x_eff.rf (by decide) (by decide) rfl (fun i hi => absurd hi (by show ¬ (i : Int) < 0; omega)) (y_gpr g02 (by decide)) (y_gpi g12 (by decide)) x_get_self
    refine sg_rs89_go (d := d) (by omega) (v := (y_v [(a : Int)])) (G0 := G3) ⟨y_v_Bd (List.forall_mem_cons.mpr ⟨(y_cellB hI3 ta), (fun _ h => absurd h List.not_mem_nil)⟩), (fun _ h => absurd h List.not_mem_nil), (List.forall_mem_cons.mpr ⟨⟨_, g03, a, rfl, (by simp only [xl_ev, xt_ev, y_v, List.getD_cons_succ, List.getD_cons_zero]; omega), ta⟩, (fun _ h => absurd h List.not_mem_nil)⟩), trivial, (fun _ h => absurd h List.not_mem_nil), hI3⟩ x_eff.rf (fun r G' h => ?_) (fun n hn => absurd hn List.not_mem_nil)
    obtain ⟨v', -, -, hI', ef, p7, hp7, -, -, pa⟩ := h
    obtain rfl : p7 = _ := List.mem_singleton.mp hp7
    obtain ⟨y, rfl, hy⟩ := y_p1 pa
    obtain rfl : y = 1 := y_i1 hy
    have hA : ∀ i, i < 324 → x_sl G' sc i = x_sl G1 kb (324 * q.toInt.toNat + i) := fun i hi => by rw [ef.at tsc rfl, hO3 sc i ne4, hc2 i hi, hf i hi]
    intro kb' sc' ab' e1 e2 e3
    rw [← hE1.at ta rfl, k42] at e1
    cases e1
    rw [← hE1.at ta rfl, k6] at e2
    cases e2
    rw [k440] at e3
    cases e3
    exact ⟨fun _ => ⟨fun i hi => by rw [hA i hi, hE1.at tkb rfl], fun nb' nk' e4 e5 i hi => by
      rw [← hE1.at ta rfl, k9] at e4
      cases e4
      rw [← hE1.at ta rfl, k43] at e5
      cases e5
      rw [ef.at tnb rfl, hc3 i hi, ← hE1.at tnk rfl, hnm _ (by omega)]⟩, fun z => absurd ⟨q0, q1, x, hx0, xne⟩ z⟩
  · have xz : x = 0 := y_hI.2.2.2.1 hb
    refine y_st (e_258 (23, .iconst 0, 1) (List.mem_of_getElem? (i := 13) rfl)) ⟨rfl, rfl, rfl, rfl⟩ ?_
    refine y_ret (e_258 (24, .ireturn, 1) (List.mem_of_getElem? (i := 14) rfl)) ⟨rfl, y_rb (by decide)⟩ ?_
    intro kb' sc' ab' e1 e2 e3
    rw [← hE1.at ta rfl, k42] at e1
    cases e1
    rw [← hE1.at ta rfl, k6] at e2
    cases e2
    rw [k440] at e3
    cases e3
    refine ⟨fun z => ?_, fun _ => ⟨fun i hi => hE1.at tsc rfl, fun nb' e4 i hi => by
      rw [← hE1.at ta rfl, k9] at e4
      cases e4
      exact hE1.at tnb rfl⟩⟩
    obtain ⟨-, -, x2, h2, hx2⟩ := z
    rw [hx0] at h2
    cases h2
    exact absurd xz hx2
end ZM
