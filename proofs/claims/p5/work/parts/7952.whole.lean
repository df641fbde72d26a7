set_option maxHeartbeats 4000000 in
set_option maxRecDepth 100000 in
theorem law_end0 {p : Program} {l : Launch} {e : Env} {s : State} {m : MethodId} {below : List Frame} {meth : Method} {c : Code} {o : Om} {b : Nat} {lv : pL} {G : List pE} {cs ss : Nat} (hF : pm_Fix p s m meth c m_law) (hB : o.B = s.heap.size) (hc : cs ≤ 601024) (hs : ss ≤ 7293034) : PW p l e room_1 s m #[Value.ref b] below meth c (lw_Z below #[Value.ref b] s) o m_law 1472 lv [] G cs ss := by
  intro H locs ls hW hL hl
  have hb : c.code = code := hF.2.1.trans m_law_code
  have d1 : decode code 1472 = .ok (.iconst 1, 1) := by rw [← m_law_code]; exact (e_law9 (1472, .iconst 1, 1) (List.mem_of_getElem? (i := 21) rfl))
  have d2 : decode code 1473 = .ok (.ireturn, 1) := by rw [← m_law_code]; exact (e_law9 (1473, .ireturn, 1) (List.mem_of_getElem? (i := 22) rfl))
  refine lv_iconst (v := 1) hF.1 hb d1 (by decide) ?_
  refine va_forget (fun q hq => by rw [← hB]; exact hL q hq) ?_
  refine W.widen (k := 601024) (n := 7293034) hc hs ?_
  exact lw_ret hF.1 hb hF.2.2.2.2.1 hF.2.2.2.2.2.1 d2
set_option maxHeartbeats 4000000 in
set_option maxRecDepth 100000 in
theorem law_whole {p : Program} {l : Launch} {e : Env} {s : State} {m : MethodId} {below : List Frame} {meth : Method} {c : Code} {o : Om} {b : Nat} (hF : pm_Fix p s m meth c m_law) (hK : pm_K o s) (hJ : o.J = 0) (hB : o.B = s.heap.size) (hb : o.scr = b) (hH : o.H0 = s.heap) (hL : o.L ≤ 3072) (hT : l_Th p l e room_1 s m #[Value.ref b] below meth c (lw_Z below #[Value.ref b] s) o) : W p l e room_1 s m #[Value.ref b] below meth c s.heap [] 0 0 (lw_Z below #[Value.ref b] s) (entryFrame m ([Value.ref b] : List Value).toArray 7) := by
  have r1 : 320 + 1 ≤ room_1.frames ∧ 28 * (320 + 1) ≤ room_1.locals := ⟨Nat.le_of_ble_eq_true rfl, Nat.le_of_ble_eq_true rfl⟩
  have hP : PW p l e room_1 s m #[Value.ref b] below meth c (lw_Z below #[Value.ref b] s) o m_law 0 (lv_args 0 [.ref pm_SB]) [] [] 0 0 := by
    refine law_open hF hK hJ ⟨Nat.le_of_ble_eq_true rfl, Nat.le_of_ble_eq_true rfl⟩ r1 (fun lv G g0 g1 g2 g3 g4 h => ?_)
    exact law_loop (o := o) hF hK r1 hL ⟨by show 401 + o.L ≤ 601024; omega, by show 8006 + 6 * o.L ≤ 7293034; omega⟩ (fun j lv G cs ss h1 h2 => law_end0 (o := o.up j) hF hB (by omega) (by omega)) hT (o.L + 1) 0 o.J lv G 366 6675 0 0 rfl (Nat.zero_le _) (by omega) (by omega) (by omega) g0 g1 g2 g3 g4 h
  have e1 : ([Value.ref b] : List Value) = ([.ref pm_SB] : List Value).map (pm_v o) := by
    show _ = [Value.ref (pm_ad o pm_SB)]
    unfold pm_ad
    rw [if_neg (by decide), if_neg (by decide), if_pos (by decide), hb]
  have key : entryFrame m ([Value.ref b] : List Value).toArray 7 = entryFrame m (([.ref pm_SB] : List Value).map (pm_v o)).toArray 7 := by rw [← e1]
  have hl2 := lv_entry (([.ref pm_SB] : List Value).map (pm_v o)) (n := 7) (by rw [pm_sl_len]; exact Nat.le_of_ble_eq_true rfl)
  rw [key, lg_entry_eq]
  rw [pm_l_args] at hl2
  have hW0 : pm_W o [] s.heap := ⟨fun k q h => absurd h (by simp [pm_w]), by rw [hJ, hB]; rfl, fun q _ => (by rw [hH]), Nat.zero_le _⟩
  exact hP s.heap [] _ hW0 (fun q hq => absurd hq List.not_mem_nil) hl2
