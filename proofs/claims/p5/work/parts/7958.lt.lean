-- ===== the law's own `thing`: it catches =====
def k_yL : MethodName := ⟨"BreathingHillLaw", "thing", "(LBreathingHill;II[J)I"⟩
def k_hL : List (Nat × Nat × Nat × Nat) := [(0, 10, 13, 13)]
def k_wL : Cond := .codeWith k_yL method_3_code 5 (some .int) k_hL
theorem k_inL : k_wL ∈ lw_tbl := by decide +kernel
theorem k_inL1 : Cond.methodLink "BreathingHillLaw" 38 k_yL ∈ lw_tbl := by decide +kernel
theorem k_inL2 : Cond.static k_yL ∈ lw_tbl := by decide +kernel
theorem k_inL3 : Cond.initialized "BreathingHillLaw" ∈ lw_tbl := by decide +kernel
theorem k_inL4 : Cond.methodLink "BreathingHillLaw" 7 m_155.y ∈ lw_tbl := by decide +kernel
theorem k_d0 : decode method_3_code 0 = .ok (.aload_n 3, 1) := by decide +kernel
theorem k_d1 : decode method_3_code 1 = .ok (.iconst 0, 1) := by decide +kernel
theorem k_d2 : decode method_3_code 2 = .ok (.aload_n 0, 1) := by decide +kernel
theorem k_d3 : decode method_3_code 3 = .ok (.iload_n 1, 1) := by decide +kernel
theorem k_d4 : decode method_3_code 4 = .ok (.iload_n 2, 1) := by decide +kernel
theorem k_d5 : decode method_3_code 5 = .ok (.invokevirtual 7, 3) := by decide +kernel
theorem k_d8 : decode method_3_code 8 = .ok (.i2l, 1) := by decide +kernel
theorem k_d9 : decode method_3_code 9 = .ok (.lastore, 1) := by decide +kernel
theorem k_d10 : decode method_3_code 10 = .ok (.goto 7, 3) := by decide +kernel
theorem k_d13 : decode method_3_code 13 = .ok (.astore 4, 2) := by decide +kernel
theorem k_d15 : decode method_3_code 15 = .ok (.iconst 1, 1) := by decide +kernel
theorem k_d16 : decode method_3_code 16 = .ok (.ireturn, 1) := by decide +kernel
theorem k_d17 : decode method_3_code 17 = .ok (.iconst 0, 1) := by decide +kernel
theorem k_d18 : decode method_3_code 18 = .ok (.ireturn, 1) := by decide +kernel
theorem th0_50 : th0[365]? = some 50 := by decide +kernel
section KL
variable {p : Program} {l : Launch} {e : Env} {R : Room} {s : State} {m : MethodId} {args : Array Value} {below : List Frame} {meth : Method} {c : Code} {H : Heap} {locs : List Loc} {cells slots : Nat} {Q : State → Prop} {o : Om} {G : List pE}
theorem k_last {cc : ByteArray} {pc a nn : Nat} {ls : Array Slot} {x : Int64} {j : Int32} {f : Nat → Int64} {rest : List Value} (hx : p.tables.exec = Jvm.exec) (hb : c.code = cc) (hK : pm_K o s) (hW : pm_W o G H) (hL : ∀ q ∈ locs, o.B ≤ q.base) (hg : G[a]? = some (.inl (3, nn, .inr (.inl f)))) (hbd : ¬ pm_bad j nn = true) (hd : decode cc pc = .ok (.lastore, 1))
    (kk : ∀ (H1 : Heap) (locs1 : List Loc), pm_W o (G.set a (.inl (3, nn, .inr (.inl (vp_updL f j.toNatClampNeg x))))) H1 → (∀ q ∈ locs1, o.B ≤ q.base) → W p l e R s m args below meth c H1 locs1 cells slots Q (F0 m (pc + 1) ls rest)) : W p l e R s m args below meth c H locs cells slots Q (F0 m pc ls (.long x :: .int j :: .ref (pm_ad o a) :: rest)) := by
  have ha : (pm_w o o.B G)[a]? = some (pm_ad o a, .inl (o.dA 3, nn, .inr (.inl f))) := hW.at hg
  refine W.last hx hb (hW.1 a _ ha) ((hK.2.1.2 3 _ (pm_tys_at o (by omega))).1 nn (fun j => .long (f j))) (fun q => by cases q) (by show ¬ (j < 0 ∨ (arrV _ _ _).slots.size ≤ _); rw [arrV_size]; exact pm_bad_in hbd) rfl rfl hd fun H1 e z oq => ?_
  refine kk H1 _ (hW.set hg (e := .inl (3, nn, .inr (.inl (vp_updL f j.toNatClampNeg x)))) ?_ z oq) (pm_locs hW hL hg)
  show H1[pm_ad o a]? = some (vp_cell (o.dA 3) (nn, .inr (.inl (vp_updL f j.toNatClampNeg x))))
  rw [e]
  rw [vp_cell_l, vp_cell_l, arrV_store]
  congr 2
  funext q
  by_cases hq : q = j.toNatClampNeg
  · subst hq
    simp [updV, vp_updL]
    try rfl
  · simp [updV, vp_updL, hq]
end KL
theorem k_out {G : List pE} {sz : Int32} (h : z_IN th0 0 349 G sz sz) (x : Int64) : ∃ f : Nat → Int64, G[365]? = some (.inl (3, (x_tb 50).2.2.1, .inr (.inl f))) ∧ z_IN th0 0 349 (G.set 365 (.inl (3, (x_tb 50).2.2.1, .inr (.inl (vp_updL f (0 : Int32).toNatClampNeg x))))) sz sz := by
  obtain ⟨e, he, hs⟩ := (h.1.2.2 365 50 th0_50).1
  obtain ⟨f, rfl⟩ := x_arr_long hs rfl rfl
  have hu := x_upd_long (x := x) (i := (0 : Int32).toNatClampNeg) he (by decide)
  exact ⟨f, he, h.eff th0_tx th0_ta (h.1.upd hu th0_50 (y_okL rfl)) (x_eff.upd (E := [(50, 0, 0)]) hu th0_50 (q := (50, 0, 0)) (List.mem_singleton.mpr rfl) rfl (by decide) (by decide)) (by decide)⟩
set_option maxHeartbeats 4000000 in
set_option maxRecDepth 100000 in
/-- BreathingHillLaw.thing -/
theorem k_Lthing {l : Launch} (hls : l.stackTraces = false) {o : Om} {G : List pE} {sz : Int32} (h : z_IN th0 0 349 G sz sz) (x1 x2 : Int32) : Met l k_yL [k_wL] (pm_rm 320 1 6) (k_Pc o [.ref 0, .int x1, .int x2, .ref 365] G) (k_Qc o sz) 1 6 (fun q => o.B ≤ q) := by
  refine va_MetW (cc := method_3_code) (maxL := 5) (ret := some .int) (hh := k_hL) (by decide) rfl ?_
  intro p e s m args below meth c s₁ B hml hv
  obtain ⟨rfl, hK, hX, hW⟩ := hv
  have hcw := atoms_spec (ws := [k_wL]) B.pre _ List.mem_cons_self
  have htab : c.exceptionTable.toList = [⟨0, 10, 13, 13⟩] := vx_table (x := k_yL) B hcw
  have hown : s.vm.findClass "BreathingHillLaw" = some m.cls := findClass_of_methodNamed B.named
  have hx : p.tables.exec = Jvm.exec := B.exec
  have hb : c.code = method_3_code := B.bytes
  have hret : meth.sig.returnType = some .int := B.returns
  have hlk : meth.locks = false := B.notSynchronized
  have hl2 := lv_entry (([.ref 0, .int x1, .int x2, .ref 365] : List Value).map (pm_v o)) (n := 5) (by rw [pm_sl_len]; exact Nat.le_of_ble_eq_true rfl)
  rw [lg_entry_eq]
  rw [pm_l_args] at hl2
  generalize (lg_sl (([.ref 0, .int x1, .int x2, .ref 365] : List Value).map (pm_v o)) ++ List.replicate (5 - (lg_sl (([.ref 0, .int x1, .int x2, .ref 365] : List Value).map (pm_v o))).length) Slot.unset).toArray = ls at hl2 ⊢
  have v0 : ls[0]? = some (.val (.ref (pm_ad o 0))) := pm_l_get (v := .ref 0) hl2 rfl
  have v1 : ls[1]? = some (.val (.int x1)) := pm_l_get (v := .int x1) hl2 rfl
  have v2 : ls[2]? = some (.val (.int x2)) := pm_l_get (v := .int x2) hl2 rfl
  have v3 : ls[3]? = some (.val (.ref (pm_ad o 365))) := pm_l_get (v := .ref 365) hl2 rfl
  refine lv_aload_n hx hb k_d0 rfl v3 ?_
  refine lv_iconst (v := 0) hx hb k_d1 (by decide) ?_
  refine lv_aload_n hx hb k_d2 rfl v0 ?_
  refine lv_iload_n hx hb k_d3 rfl v1 ?_
  refine lv_iload_n hx hb k_d4 rfl v2 ?_
  have hno : m_155.y.cls ≠ "java/lang/Object" := by decide
  have hms := pm_M m_155_ok hno
  obtain ⟨m1, m2⟩ := hms.2.2.2.2.2.2.2.2.2 rfl (by decide)
  obtain ⟨e0, he0, hs0⟩ := (h.1.2.2 0 9 th0_tx).1
  obtain ⟨fs, rfl, -⟩ := x_obj hs0 rfl
  have hrv : ∃ cellB : Cell, s.heap[pm_ad o 0]? = some cellB ∧ cellB.vm.isStatics = false ∧ s.vm.findClass m_155.y.cls = some cellB.cls := by
    cases hvc : vwCl[m_155.ci]? with
    | none => rw [hvc] at m2; cases m2
    | some q0 =>
      rw [hvc] at m2
      have m3 : q0.1 = m_155.y.cls := Option.some.inj m2
      obtain ⟨cB, g1, g2, g3⟩ := va_recv hK.2.1 hW.1 hvc (hW.at he0)
      rw [m3] at g3
      exact ⟨cB, g1, g2, g3⟩
  have hrm : 319 + 1 ≤ (headSpec [k_wL] (pm_rm 320 1 6)).room.frames ∧ 28 * (319 + 1) ≤ (headSpec [k_wL] (pm_rm 320 1 6)).room.locals := ⟨Nat.le_refl _, Nat.le_refl _⟩
  have hr := vx_runV (H := s.heap) (locs := []) (cells := 0) (slots := 0) (e := e) (below := below) (meth := meth) (g := F0 m 5 ls [.int x2, .int x1, .ref (pm_ad o 0), .int 0, .ref (pm_ad o 365)]) (rest := [.int 0, .ref (pm_ad o 365)]) (b := pm_ad o 0) (As := [.int x1, .int x2]) (Ts := []) (nL := 5) (cc := method_3_code) (own := "BreathingHillLaw") (C := m_155.y.cls)
    (⟨hx, hb, hml, hown, fun w hw => by cases hw⟩ : CallFix p m c method_3_code 5 s (([.ref 0, .int x1, .int x2, .ref 365] : List Value).map (pm_v o)).toArray [] "BreathingHillLaw") (k_thing (o := o) hls h x1 x2)
    ⟨pm_callB (M := m_law) (idx := 7) hK m_155_ok hno (k_wd hK k_inL4 rfl _) hrm.1 hrm.2, hK.word (hms.2.2.2.2.2.2.2.2.1 rfl) rfl _, hK.word m1 rfl _⟩
    ⟨k_blind o _ G, hrv, fun U hU hWm => ⟨rfl, hK.warm hWm, hX.warm hWm, by rw [hU]; exact hW⟩⟩ rfl rfl hl2.1 rfl (lv_room (Nat.le_of_ble_eq_true rfl)) k_d5 ⟨Nat.le_refl _, Nat.le_refl _⟩
  intro T hT X
  rcases hr T hT X with ⟨v, st₀, t, T', L, t0, X', hL, e1, e2, ⟨⟨x, hv⟩, j, G1, h1, hW1⟩, st⟩ | ⟨q, st₀, t, T', L, E, ce, t0, X', hL, e1, e2, ⟨rfl, j, G1, h1, hW1⟩, hce, hcv, hcl, st⟩
  · cases hv
    rw [← e1] at hW1
    have hL' : ∀ q ∈ ([] : List Loc) ++ L, o.B ≤ q.base := by rw [List.nil_append]; exact hL
    obtain ⟨f, hg, h2⟩ := k_out h1 x.toInt64
    have fin : W p l e (headSpec [k_wL] (pm_rm 320 1 6)).room s m (([.ref 0, .int x1, .int x2, .ref 365] : List Value).map (pm_v o)).toArray below meth c T'.heap ([] ++ L) (0 + 1) (0 + 6) (MQ below (k_Qc o sz) (([.ref 0, .int x1, .int x2, .ref 365] : List Value).map (pm_v o)).toArray s 1 6 (fun q => o.B ≤ q)) (F0 m 8 ls (.int x :: [.int 0, .ref (pm_ad o 365)])) := by
      refine lv_i2l hx hb k_d8 rfl ?_
      refine k_last (o := o.up j) (G := G1) (a := 365) (j := 0) hx hb (hK.up j) hW1 hL' hg (by decide) k_d9 (fun H1 locs1 w1 w2 => ?_)
      refine lv_goto (tgt := 17) hx hb k_d10 (by decide) ?_
      refine lv_iconst (v := 0) hx hb k_d17 (by decide) ?_
      exact W.iret hx hb hret (fun t ht _ => ⟨⟨0, rfl⟩, j, _, h2, by rw [ht]; exact w1⟩) w2 k_d18 hlk
    obtain ⟨t2, a1, b1⟩ := fin T' rfl X'
    exact ⟨t2, st t2 a1, b1⟩
  · rw [← e1] at hW1 hce
    have hL' : ∀ q ∈ ([] : List Loc) ++ L, o.B ≤ q.base := by rw [List.nil_append]; exact hL
    have fin : vx_W p l e (headSpec [k_wL] (pm_rm 320 1 6)).room s m (([.ref 0, .int x1, .int x2, .ref 365] : List Value).map (pm_v o)).toArray below meth c T'.heap ([] ++ L) (0 + 1) (0 + 6) (MQ below (k_Qc o sz) (([.ref 0, .int x1, .int x2, .ref 365] : List Value).map (pm_v o)).toArray s 1 6 (fun q => o.B ≤ q)) (F0 m 5 ls [.int 0, .ref (pm_ad o 365)]) q := by
      refine k_catch (own := "BreathingHillLaw") (name := k_E) (E := k_E) (x := ⟨0, 10, 13, 13⟩) hown htab (by decide) (by decide) (k_wd hK k_in3 rfl _) (k_ok_at (State.WarmedH.refl s) rfl (hX.1 _ k_wX_c)) hce hcv hcl ?_
      refine lv_astore (lv' := (4, .ref q) :: (pm_l o (lv_args 0 [.ref 0, .int x1, .int x2, .ref 365])).filter (fun q => !(q.1 == 4) && !(q.1 + 1 == 4 && q.2.category == 2))) hx hb k_d13 hl2 (by decide) rfl (fun ls' _ => ?_)
      refine lv_iconst (v := 1) hx hb k_d15 (by decide) ?_
      exact W.iret hx hb hret (fun t ht _ => ⟨⟨1, rfl⟩, j, G1, h1, by rw [ht]; exact hW1⟩) hL' k_d16 hlk
    obtain ⟨t2, a1, b1⟩ := fin T' rfl X'
    exact ⟨t2, st.trans a1, b1⟩
