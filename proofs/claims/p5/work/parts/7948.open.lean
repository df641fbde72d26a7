section LQ
variable {p : Program} {l : Launch} {e : Env} {R : Room} {s : State} {m : MethodId} {args : Array Value} {below : List Frame} {meth : Method} {c : Code} {Q : State → Prop} {o : Om} {M : pM} {pc cs ss : Nat} {lv : pL} {G : List pE} {i : Instr} {n w idx d nc ns : Nat} {q : Nat × Nat × Nat × Nat × Nat} {M' : pM} {rest : List Value} {r : Option Value} {G' : List pE}
/-- a constructor whose pure run is known -/
theorem l_q1 {x1 : Value} (hF : pm_Fix p s m meth c M) (hK : pm_K o s) (hJ : o.J = 0) (hR : cs + nc ≤ R.cells ∧ ss + ns ≤ R.slots) (hRf : d + 1 ≤ R.frames ∧ 28 * (d + 1) ≤ R.locals) (hd : decode M.code pc = .ok (i, n)) (hn : pm_len i n = n ∧ pm_call i = some (w, idx)) (hf : pm_ctab.find? (fun r => r.1 == M.own && r.2.1 == idx) = some q) (hq : q.2.2.1 ≠ 0 ∧ q.2.2.1 ≠ 7 ∧ q.2.2.1 ≠ 8 ∧ q.2.2.1 ≠ 9) (hkw : q.2.2.1 = w ∨ q.2.2.1 = w + 3) (hM' : pm_tab[q.2.2.2.1]? = some M') (hno : M'.y.cls ≠ "java/lang/Object") (hna : pm_na M' = 1) (hrc : pm_recv q.2.2.1 M' [x1] G = true) (hl : (lg_sl [x1]).length ≤ M'.maxL) (hsum : (rest.map fun v => v.category).sum ≤ 8)
    (h1 : q_Gd o.xs o.L d M' r G' nc ns 0 (lv_args 0 [x1]) [] G) (kk : PW p l e R s m args below meth c Q o M (pc + 3) lv (r.toList ++ rest) G' (cs + nc) (ss + ns)) : PW p l e R s m args below meth c Q o M pc lv (x1 :: rest) G cs ss := by
  obtain ⟨f0, hf0⟩ := h1
  have h0 : pm_run o.xs o.L o.J f0 d M' 0 (lv_args 0 [x1]) [] G 0 0 = some (r, G', nc, ns) := by
    rw [hJ, hf0 f0 (Nat.le_refl _) 0 0, Nat.zero_add, Nat.zero_add]
  have hm := pm_met (pm_run_ok o f0) hM' hno hl h0 l
  have e1 : ((x1 :: rest).take (pm_na M')).reverse = [x1] := by rw [hna]; rfl
  have e2 : (x1 :: rest).drop (pm_na M') = rest := by rw [hna]; rfl
  exact pm_call_ok hF hK hd hn.1 hn.2 hf hq hkw hM' (by rw [hna]; exact Nat.le_add_left _ _) (by rw [e1]; exact hrc) (by rw [e2]; exact hsum) hRf.1 hRf.2 (by rw [e1]; exact hm) hR.1 hR.2 (by rw [e2]; exact kk)
theorem l_stk {st st' : List Value} {pc' dc ds : Nat} (hF : pm_Fix p s m meth c M) (hK : pm_K o s) (hR : cs + dc ≤ R.cells ∧ ss + ds ≤ R.slots) (hd : decode M.code pc = .ok (i, n)) (hn : pm_len i n = n) (hs : pm_step M.own M.maxL (decide (M.y.name = "<init>")) o.xs o.L o.J i pc lv st G = some (pc', lv, st', G', dc, ds)) (kk : PW p l e R s m args below meth c Q o M pc' lv st' G' (cs + dc) (ss + ds)) : PW p l e R s m args below meth c Q o M pc lv st G cs ss := l_st hF hK hR hd ⟨hn, hs⟩ kk
end LQ
theorem t_18_15 : pm_ctab.find? (fun r => r.1 == 18 && r.2.1 == 15) = some (18, 15, 3, 0, 112) := by decide +kernel
theorem t_18_18 : pm_ctab.find? (fun r => r.1 == 18 && r.2.1 == 18) = some (18, 18, 3, 159, 1305) := by decide +kernel
section LP
variable {p : Program} {l : Launch} {e : Env} {R : Room} {s : State} {m : MethodId} {args : Array Value} {below : List Frame} {meth : Method} {c : Code} {Q : State → Prop} {o : Om}
set_option maxHeartbeats 4000000 in
set_option maxRecDepth 100000 in
theorem law_open (hF : pm_Fix p s m meth c m_law) (hK : pm_K o s) (hJ : o.J = 0) (hR : 400 ≤ R.cells ∧ 8000 ≤ R.slots) (hRf : 320 + 1 ≤ R.frames ∧ 28 * (320 + 1) ≤ R.locals) (kk : ∀ (lv : pL) (G : List pE), pm_get lv 0 = some (.ref pm_SB) → pm_get lv 1 = some (.ref 0) → pm_get lv 2 = some (.ref 349) → pm_get lv 3 = some (.ref 365) → pm_get lv 4 = some (.int 0) → z_IN th0 0 349 G 0 0 → PW p l e R s m args below meth c Q o m_law 23 lv [] G 366 6675) : PW p l e R s m args below meth c Q o m_law 0 (lv_args 0 [.ref pm_SB]) [] [] 0 0 := by
  have hTB : pm_TB = 1000000 := rfl
  refine l_st (pc' := 3) (lv' := lv_args 0 [.ref pm_SB]) (st' := [.ref 0]) (G' := [.inr (9, pm_d 9)]) (dc := 1) (ds := 18) hF hK ⟨by omega, by omega⟩ (e_law0 (0, .new 8, 3) (List.mem_of_getElem? (i := 0) rfl)) ⟨rfl, by rw [hJ]; rfl⟩ ?_
  refine l_s0 hF hK ⟨by omega, by omega⟩ (e_law0 (3, .dup, 1) (List.mem_of_getElem? (i := 1) rfl)) ⟨rfl, rfl⟩ ?_
  refine l_q1 (d := 320) hF hK hJ ⟨by omega, by omega⟩ hRf (e_law0 (4, .invokespecial 15, 3) (List.mem_of_getElem? (i := 2) rfl)) ⟨rfl, rfl⟩ t_18_15 ⟨by decide, by decide, by decide, by decide⟩ (by decide) m_0_ok (by decide) rfl rfl (Nat.le_of_ble_eq_true rfl) (Nat.le_of_ble_eq_true rfl) (q_bh (d := 317) (t := 0) (by decide) (by show 1 + 500 ≤ pm_TB; omega) rfl) ?_
  show PW p l e R s m args below meth c Q o m_law 7 (lv_args 0 [.ref pm_SB]) [.ref 0] z_G1 349 3756
  refine l_s0 hF hK ⟨by omega, by omega⟩ (e_law0 (7, .astore_n 1, 1) (List.mem_of_getElem? (i := 3) rfl)) ⟨rfl, rfl⟩ ?_
  refine l_stk (pc' := 11) (st' := [.ref 349]) (G' := z_G2) (dc := 1) (ds := 45) hF hK ⟨by omega, by omega⟩ (e_law0 (8, .new 16, 3) (List.mem_of_getElem? (i := 4) rfl)) rfl ?_ ?_
  · rw [hJ]
    dsimp only [pm_step]
    rw [show pm_ntab.find? (fun r => r.1 == m_law.own && r.2.1 == 16) = some (18, 16, 10, 99, 1304, 1298, 103, 0) from rfl]
    dsimp only
    rw [z_G1_len, if_pos ⟨by decide, by omega, rfl⟩]
    rfl
  refine l_s0 hF hK ⟨by omega, by omega⟩ (e_law0 (11, .dup, 1) (List.mem_of_getElem? (i := 5) rfl)) ⟨rfl, rfl⟩ ?_
  obtain ⟨G3, h3, l3, hI⟩ := z_start (xs := o.xs) (L := o.L) (d := 319)
  refine l_q1 (d := 320) hF hK hJ ⟨by omega, by omega⟩ hRf (e_law0 (12, .invokespecial 18, 3) (List.mem_of_getElem? (i := 6) rfl)) ⟨rfl, rfl⟩ t_18_18 ⟨by decide, by decide, by decide, by decide⟩ (by decide) m_159_ok (by decide) rfl rfl (Nat.le_of_ble_eq_true rfl) (Nat.le_of_ble_eq_true rfl) h3 ?_
  show PW p l e R s m args below meth c Q o m_law 15 _ [.ref 349] G3 365 6674
  refine l_s0 hF hK ⟨by omega, by omega⟩ (e_law0 (15, .astore_n 2, 1) (List.mem_of_getElem? (i := 7) rfl)) ⟨rfl, rfl⟩ ?_
  refine l_s0 hF hK ⟨by omega, by omega⟩ (e_law0 (16, .iconst 1, 1) (List.mem_of_getElem? (i := 8) rfl)) ⟨rfl, rfl⟩ ?_
  refine l_stk (pc' := 19) (st' := [.ref 365]) (G' := G3 ++ [z_out]) (dc := 1) (ds := 1) hF hK ⟨by omega, by omega⟩ (e_law0 (17, .newarray .long, 2) (List.mem_of_getElem? (i := 9) rfl)) rfl ?_ ?_
  · rw [hJ]
    dsimp only [pm_step]
    rw [l3, if_neg (by decide)]
    rfl
  refine l_s0 hF hK ⟨by omega, by omega⟩ (e_law0 (19, .astore_n 3, 1) (List.mem_of_getElem? (i := 10) rfl)) ⟨rfl, rfl⟩ ?_
  refine l_s0 hF hK ⟨by omega, by omega⟩ (e_law0 (20, .iconst 0, 1) (List.mem_of_getElem? (i := 11) rfl)) ⟨rfl, rfl⟩ ?_
  refine l_s0 hF hK ⟨by omega, by omega⟩ (e_law0 (21, .istore 4, 2) (List.mem_of_getElem? (i := 12) rfl)) ⟨rfl, rfl⟩ ?_
  exact kk _ _ rfl rfl rfl rfl rfl hI
end LP
