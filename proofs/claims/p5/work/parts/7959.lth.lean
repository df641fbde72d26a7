section LTH
variable {p : Program} {l : Launch} {e : Env} {R : Room} {s : State} {m : MethodId} {args : Array Value} {below : List Frame} {meth : Method} {c : Code} {Q : State → Prop} {o : Om}
set_option maxHeartbeats 4000000 in
set_option maxRecDepth 100000 in
theorem law_thing (hls : l.stackTraces = false) (hF : pm_Fix p s m meth c m_law) (hK : pm_K o s) (hX : k_X o s) (hRf : 320 + 1 ≤ R.frames ∧ 28 * (320 + 1) ≤ R.locals) : l_Th p l e R s m args below meth c Q o := by
  intro j lv G cs ss i sz hC g0 g1 g2 g3 g4 hb h kk
  have hR : cs ≤ R.cells ∧ ss ≤ R.slots := ⟨by omega, by omega⟩
  have hKj := hK.up j
  refine l_aln hF hKj hR (e_law1 (336, .aload_n 1, 1) (List.mem_of_getElem? (i := 13) rfl)) g1 ?_
  refine l_argx (j := 1) hF hKj hR g0 g4 (e_law1 (337, .aload_n 0, 1) (List.mem_of_getElem? (i := 14) rfl)) (e_law1 (338, .iload 4, 2) (List.mem_of_getElem? (i := 15) rfl)) (e_law1 (340, .iconst 1, 1) (List.mem_of_getElem? (i := 16) rfl)) (e_law1 (341, .iadd, 1) (List.mem_of_getElem? (i := 17) rfl)) (e_law1 (342, .iaload, 1) (List.mem_of_getElem? (i := 18) rfl)) (hb 1 (by decide) (by decide)) ?_
  refine l_argx (j := 2) hF hKj hR g0 g4 (e_law1 (343, .aload_n 0, 1) (List.mem_of_getElem? (i := 19) rfl)) (e_law1 (344, .iload 4, 2) (List.mem_of_getElem? (i := 20) rfl)) (e_law1 (346, .iconst 2, 1) (List.mem_of_getElem? (i := 21) rfl)) (e_law1 (347, .iadd, 1) (List.mem_of_getElem? (i := 22) rfl)) (e_law1 (348, .iaload, 1) (List.mem_of_getElem? (i := 23) rfl)) (hb 2 (by decide) (by decide)) ?_
  refine l_aln hF hKj hR (e_law1 (349, .aload_n 3, 1) (List.mem_of_getElem? (i := 24) rfl)) g3 ?_
  intro H locs ls hW hL hl
  have hr := vx_runSW (l := l) (e := e) (R := R) (below := below) (meth := meth) (H := H) (locs := locs) (cells := cs) (slots := ss) (g := F0 m 350 ls (([.ref 365, .int (o.xs (i + Int32.ofInt 2).toNatClampNeg), .int (o.xs (i + Int32.ofInt 1).toNatClampNeg), .ref 0] : List Value).map (pm_v (o.up j)))) (rest := []) (As := ([.ref 0, .int (o.xs (i + Int32.ofInt 1).toNatClampNeg), .int (o.xs (i + Int32.ofInt 2).toNatClampNeg), .ref 365] : List Value).map (pm_v (o.up j))) (Ts := []) (nL := 7) (cc := m_law.code) (own := "BreathingHillLaw") (index := 38) (bytes := method_3_code) (maxL := 5) (ret := some .int) (hh := k_hL) (n := 4)
    (⟨hF.1, hF.2.1, hF.2.2.1, hF.2.2.2.1, fun w hw => by cases hw⟩ : CallFix p m c m_law.code 7 s args [] "BreathingHillLaw") (k_Lthing (o := o.up j) hls h _ _)
    ⟨⟨rfl, rfl, hRf.1, by show 8 + (5 + 11) + 28 * 320 ≤ R.locals; omega, fun w hw a' U hWm => by rw [List.mem_singleton.mp hw]; exact pm_good_at hWm rfl (k_wd hK k_inL rfl args), List.mem_singleton.mpr rfl⟩, k_wd hK k_inL rfl args, k_wd hK k_inL3 rfl args, ⟨by decide, by decide⟩, fun sig hs => by
      have h4 : (parseMethodDescriptor k_yL.desc).map (fun d => d.parameters.length) = some 4 := by decide +kernel
      rw [hs] at h4
      exact (Option.some.inj h4).symm, k_wd hK k_inL1 rfl args, k_wd hK k_inL2 rfl args⟩
    ⟨k_blind (o.up j) _ G, fun U hU hWm => ⟨rfl, hKj.warm hWm, (hX.up j).warm hWm, by rw [hU]; exact hW⟩⟩ rfl rfl hl.1 rfl (lv_room (Nat.le_of_ble_eq_true rfl)) (e_law1 (350, .invokestatic 38, 3) (List.mem_of_getElem? (i := 25) rfl)) ⟨hC.1, hC.2⟩
  intro T hT X
  obtain ⟨v, st₀, t, T', L, t0, X', hL2, e1, e2, ⟨⟨x, hv⟩, j', G', h', hW'⟩, stp⟩ := hr T hT X
  cases hv
  have hR' : cs + 1 ≤ R.cells ∧ ss + 6 ≤ R.slots := hC
  have hKn := hK.up j'
  have hP : PW p l e R s m args below meth c Q (o.up j') m_law 353 lv [.int x] G' (cs + 1) (ss + 6) := by
    refine l_s0 (pc' := 355) (lv' := pm_put1 lv 5 (.int x)) (st' := []) (G' := G') hF hKn hR' (e_law1 (353, .istore 5, 2) (List.mem_of_getElem? (i := 26) rfl)) ⟨rfl, by dsimp only [pm_step]; exact if_pos (by decide)⟩ ?_
    have k0 : pm_get (pm_put1 lv 5 (.int x)) 0 = some (.ref pm_SB) := y_gpr g0 (by decide)
    have k1 : pm_get (pm_put1 lv 5 (.int x)) 1 = some (.ref 0) := y_gpr g1 (by decide)
    have k2 : pm_get (pm_put1 lv 5 (.int x)) 2 = some (.ref 349) := y_gpr g2 (by decide)
    have k3 : pm_get (pm_put1 lv 5 (.int x)) 3 = some (.ref 365) := y_gpr g3 (by decide)
    have k4 : pm_get (pm_put1 lv 5 (.int x)) 4 = some (.int i) := x_get_put g4 (by decide) (fun z => absurd z.2 (show ¬ (1 : Nat) = 2 by decide))
    generalize pm_put1 lv 5 (.int x) = lv1 at k0 k1 k2 k3 k4 ⊢
    refine l_aln hF hKn hR' (e_law1 (355, .aload_n 2, 1) (List.mem_of_getElem? (i := 27) rfl)) k2 ?_
    refine l_argx (j := 1) hF hKn hR' k0 k4 (e_law1 (356, .aload_n 0, 1) (List.mem_of_getElem? (i := 28) rfl)) (e_law1 (357, .iload 4, 2) (List.mem_of_getElem? (i := 29) rfl)) (e_law1 (359, .iconst 1, 1) (List.mem_of_getElem? (i := 30) rfl)) (e_law1 (360, .iadd, 1) (List.mem_of_getElem? (i := 31) rfl)) (e_law1 (361, .iaload, 1) (List.mem_of_getElem? (i := 32) rfl)) (hb 1 (by decide) (by decide)) ?_
    refine l_argx (j := 2) hF hKn hR' k0 k4 (e_law1 (362, .aload_n 0, 1) (List.mem_of_getElem? (i := 33) rfl)) (e_law1 (363, .iload 4, 2) (List.mem_of_getElem? (i := 34) rfl)) (e_law1 (365, .iconst 2, 1) (List.mem_of_getElem? (i := 35) rfl)) (e_law1 (366, .iadd, 1) (List.mem_of_getElem? (i := 36) rfl)) (e_law1 (367, .iaload, 1) (List.mem_of_getElem? (i := 37) rfl)) (hb 2 (by decide) (by decide)) ?_
    refine l_c3 (d := 320) (K' := _) hF hKn hR' hRf (e_law1 (368, .invokevirtual 43, 3) (List.mem_of_getElem? (i := 38) rfl)) ⟨rfl, rfl⟩ t_18_43 ⟨by decide, by decide, by decide, by decide⟩ (by decide) m_183_ok (by decide) rfl (y_recv h'.1 th0_ta ⟨rfl, rfl⟩) (Nat.le_of_ble_eq_true rfl) (Nat.le_of_ble_eq_true rfl) (n_thing (by decide) th0_tx th0_ta h' _ _) (fun r1 G2 h1 => ?_)
    obtain ⟨⟨y2, rfl⟩, h_2⟩ := h1
    simp only [Option.toList_some, Option.toList_none, List.cons_append, List.nil_append]
    refine l_s0 (pc' := 373) (lv' := pm_put1 lv1 6 (.int y2)) (st' := []) (G' := G2) hF hKn hR' (e_law1 (371, .istore 6, 2) (List.mem_of_getElem? (i := 39) rfl)) ⟨rfl, by dsimp only [pm_step]; exact if_pos (by decide)⟩ ?_
    refine l_s0 hF hKn hR' (e_law1 (373, .goto 1093, 3) (List.mem_of_getElem? (i := 40) rfl)) ⟨rfl, rfl⟩ ?_
    exact kk j' (cs + 1) (ss + 6) _ G2 sz (Nat.le_refl _) (Nat.le_refl _) (y_gpr k0 (by decide)) (y_gpr k1 (by decide)) (y_gpr k2 (by decide)) (y_gpr k3 (by decide)) (x_get_put k4 (by decide) (fun z => absurd z.2 (show ¬ (1 : Nat) = 2 by decide))) h_2
  obtain ⟨t2, a1, b1⟩ := hP T'.heap (locs ++ L) ls (by rw [e1]; exact hW') (fun q hq => (List.mem_append.mp hq).elim (hL q) (hL2 q)) (by rw [pm_l_up]; rw [pm_l_up] at hl; exact hl) T' rfl X'
  exact ⟨t2, stp t2 a1, b1⟩
end LTH
