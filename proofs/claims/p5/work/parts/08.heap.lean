-- ===== one step: constants, statics, fields, arrays, new cells =====
theorem pm_find {α : Type} {l : List α} {f : α → Bool} {r : α} (h : l.find? f = some r) {g : α → Bool} (ha : l.all g = true) : f r = true ∧ g r = true := ⟨List.find?_some h, List.all_eq_true.mp ha r (List.mem_of_find?_eq_some h)⟩
theorem pm_find2 {α : Type} {l : List (Nat × Nat × α)} {own k : Nat} {r : Nat × Nat × α} (h : l.find? (fun r => r.1 == own && r.2.1 == k) = some r) {g : Nat × Nat × α → Bool} (ha : l.all g = true) : r.1 = own ∧ r.2.1 = k ∧ g r = true := by
  obtain ⟨h1, h2⟩ := pm_find h ha
  simp only [Bool.and_eq_true, beq_iff_eq] at h1
  exact ⟨h1.1, h1.2, h2⟩
theorem pm_cls {ci : Nat} (h : ci < 11) : ∃ q : vw_C, vwCl[ci]? = some q ∧ (∀ k, k < q.2.2 → parseFieldDescriptor (q.2.1 k).2.2.1 = some (pm_ty ci k)) ∧ (∀ a, a < q.2.2 → ∀ b, b < q.2.2 → a ≠ b → (q.2.1 a).2.1 ≠ (q.2.1 b).2.1) ∧ (∀ k, k < q.2.2 → (q.2.1 k).1 = q.1) ∧ q.2.2 = pm_N ci ∧ q.1 = pm_cn ci ∧ (∀ k, (q.2.1 k).2.2.2 = pm_fin ci k) := by
  rcases (show ci = 0 ∨ ci = 1 ∨ ci = 2 ∨ ci = 3 ∨ ci = 4 ∨ ci = 5 ∨ ci = 6 ∨ ci = 7 ∨ ci = 8 ∨ ci = 9 ∨ ci = 10 by omega) with rfl | rfl | rfl | rfl | rfl | rfl | rfl | rfl | rfl | rfl | rfl
  · exact ⟨(RX0, TX0, 8), rfl, tyX0_ok, nmX0, by decide +kernel, rfl, rfl, fun _ => rfl⟩
  · exact ⟨(RX1, TX1, 9), rfl, tyX1_ok, nmX1, by decide +kernel, rfl, rfl, fun _ => rfl⟩
  · exact ⟨(RX2, TX2, 3), rfl, tyX2_ok, nmX2, by decide +kernel, rfl, rfl, fun _ => rfl⟩
  · exact ⟨(RX3, TX3, 6), rfl, tyX3_ok, nmX3, by decide +kernel, rfl, rfl, fun _ => rfl⟩
  · exact ⟨(RX4, TX4, 4), rfl, tyX4_ok, nmX4, by decide +kernel, rfl, rfl, fun _ => rfl⟩
  · exact ⟨(RX5, TX5, 4), rfl, tyX5_ok, nmX5, by decide +kernel, rfl, rfl, fun _ => rfl⟩
  · exact ⟨(RX6, TX6, 6), rfl, tyX6_ok, nmX6, by decide +kernel, rfl, rfl, fun _ => rfl⟩
  · exact ⟨(RX7, TX7, 10), rfl, tyX7_ok, nmX7, by decide +kernel, rfl, rfl, fun _ => rfl⟩
  · exact ⟨(RX8, TX8, 10), rfl, tyX8_ok, nmX8, by decide +kernel, rfl, rfl, fun _ => rfl⟩
  · exact ⟨(RX10, TX10, 18), rfl, tyX10_ok, nmX10, by decide +kernel, rfl, rfl, fun _ => rfl⟩
  · exact ⟨(RX11, TX11, 45), rfl, tyX11_ok, nmX11, by decide +kernel, rfl, rfl, fun _ => rfl⟩
theorem pm_cls_lt {ci : Nat} {q : vw_C} (h : vwCl[ci]? = some q) : ci < 11 := (List.getElem?_eq_some_iff.mp h).1
/-- the words of the fields are among the tables' -/
def pm_lchk2 (ci : Nat) : Bool := match vwCl[ci]? with
  | some q => (u_ws q.1 q.2.1 q.2.2).all (fun w => lw_tbl.contains w && pm_good w)
  | none => true
theorem pm_lays : ∀ ci, ci < 11 → pm_lchk2 ci = true := by decide +kernel
theorem pm_hin {ci : Nat} {q : vw_C} (h : vwCl[ci]? = some q) : ∀ w ∈ u_ws q.1 q.2.1 q.2.2, w ∈ lw_tbl.filter pm_good := by
  intro w hw
  have h1 := pm_lays ci (pm_cls_lt h)
  unfold pm_lchk2 at h1
  rw [h] at h1
  have h2 := List.all_eq_true.mp h1 w hw
  rw [Bool.and_eq_true] at h2
  exact List.mem_filter.mpr ⟨List.contains_iff_mem.mp h2.1, h2.2⟩
theorem pm_hts {o : Om} {s : State} (h : pm_K o s) (args : Array Value) : ∀ w ∈ lw_tbl.filter pm_good, w.before args s = true := by
  intro w hw
  obtain ⟨h1, h2⟩ := List.mem_filter.mp hw
  exact pm_good_at (State.WarmedH.refl s) h2 (h.1 w h1 h2)
theorem pm_bad_in {j : Int32} {n : Nat} (h : ¬ pm_bad j n = true) : vp_in j n := by
  unfold pm_bad at h
  simp only [Bool.or_eq_true, decide_eq_true_eq] at h
  exact h
theorem pm_tokad {o : Om} {a : Nat} (h : pm_isTok a = true) : pm_ad o a = o.tad (a - pm_TB) ∧ a - pm_TB < 35 := by
  unfold pm_isTok at h
  simp only [Bool.and_eq_true, decide_eq_true_eq] at h
  unfold pm_ad
  rw [if_neg (by omega), if_pos (by unfold pm_SB; unfold pm_TB at h; omega)]
  exact ⟨rfl, by omega⟩
theorem pm_v_narrow (o : Om) {ty : FieldType} {v : Value} (h : narrow ty v = v) : narrow ty (pm_v o v) = pm_v o v := by
  cases v <;> first | exact h | (cases ty <;> rfl)
theorem pm_v_fits (o : Om) {ty : FieldType} {v : Value} (h : fits ty v = true) : fits ty (pm_v o v) = true := by
  cases v <;> first | exact h | (cases ty <;> first | rfl | exact h)
def pm_tokplace : Nat := 1882
section PSB
variable {p : Program} {l : Launch} {e : Env} {R : Room} {s : State} {m : MethodId} {args : Array Value} {below : List Frame} {meth : Method} {c : Code} {Q : State → Prop} {o : Om} {M : pM} {G G' : List pE} {lv lv' : pL} {st st' : List Value} {pc pc' dc ds n cells slots : Nat}
set_option maxHeartbeats 1000000 in
theorem pm_s_ldc {k : Nat} (hx : p.tables.exec = Jvm.exec) (hb : c.code = M.code) (hown : s.vm.findClass (pm_own M.own) = some m.cls) (hK : pm_K o s) (hd : decode M.code pc = .ok (.ldc k, n)) (hn : pm_len (.ldc k) n = n) {ini : Bool} (hr : pm_step M.own M.maxL ini o.xs o.L o.J (.ldc k) pc lv st G = some (pc', lv', st', G', dc, ds)) (kk : PW p l e R s m args below meth c Q o M pc' lv' st' G' (cells + dc) (slots + ds)) : PW p l e R s m args below meth c Q o M pc lv st G cells slots := by
  intro H locs ls hW hL hl
  obtain rfl : 2 = n := hn
  dsimp only [pm_step] at hr
  split at hr
  · rename_i r hf
    cases hr
    obtain ⟨h1, h2, h3⟩ := pm_find2 hf pm_k_ok
    unfold pm_kchk at h3
    rw [h1, h2] at h3
    exact lv_ldc hx hb hown (hK.word (of_decide_eq_true h3) rfl args) hd (kk H locs ls hW hL hl)
  · cases hr
set_option maxHeartbeats 1000000 in
theorem pm_s_ldc_w {k : Nat} (hx : p.tables.exec = Jvm.exec) (hb : c.code = M.code) (hown : s.vm.findClass (pm_own M.own) = some m.cls) (hK : pm_K o s) (hd : decode M.code pc = .ok (.ldc_w k, n)) (hn : pm_len (.ldc_w k) n = n) {ini : Bool} (hr : pm_step M.own M.maxL ini o.xs o.L o.J (.ldc_w k) pc lv st G = some (pc', lv', st', G', dc, ds)) (kk : PW p l e R s m args below meth c Q o M pc' lv' st' G' (cells + dc) (slots + ds)) : PW p l e R s m args below meth c Q o M pc lv st G cells slots := by
  intro H locs ls hW hL hl
  obtain rfl : 3 = n := hn
  dsimp only [pm_step] at hr
  split at hr
  · rename_i r hf
    cases hr
    obtain ⟨h1, h2, h3⟩ := pm_find2 hf pm_k_ok
    unfold pm_kchk at h3
    rw [h1, h2] at h3
    exact lv_ldcw hx hb hown (hK.word (of_decide_eq_true h3) rfl args) hd (kk H locs ls hW hL hl)
  · cases hr
set_option maxHeartbeats 1000000 in
theorem pm_s_ldc2_w {k : Nat} (hx : p.tables.exec = Jvm.exec) (hb : c.code = M.code) (hown : s.vm.findClass (pm_own M.own) = some m.cls) (hK : pm_K o s) (hd : decode M.code pc = .ok (.ldc2_w k, n)) (hn : pm_len (.ldc2_w k) n = n) {ini : Bool} (hr : pm_step M.own M.maxL ini o.xs o.L o.J (.ldc2_w k) pc lv st G = some (pc', lv', st', G', dc, ds)) (kk : PW p l e R s m args below meth c Q o M pc' lv' st' G' (cells + dc) (slots + ds)) : PW p l e R s m args below meth c Q o M pc lv st G cells slots := by
  intro H locs ls hW hL hl
  obtain rfl : 3 = n := hn
  dsimp only [pm_step] at hr
  split at hr
  · rename_i r hf
    cases hr
    obtain ⟨h1, h2, h3⟩ := pm_find2 hf pm_l_ok
    unfold pm_lchk at h3
    rw [h1, h2] at h3
    exact lv_ldc2 hx hb hown (hK.word (of_decide_eq_true h3) rfl args) hd (kk H locs ls hW hL hl)
  · cases hr
set_option maxHeartbeats 1000000 in
theorem pm_s_getstatic {k : Nat} (hx : p.tables.exec = Jvm.exec) (hb : c.code = M.code) (hown : s.vm.findClass (pm_own M.own) = some m.cls) (hK : pm_K o s) (hd : decode M.code pc = .ok (.getstatic k, n)) (hn : pm_len (.getstatic k) n = n) {ini : Bool} (hr : pm_step M.own M.maxL ini o.xs o.L o.J (.getstatic k) pc lv st G = some (pc', lv', st', G', dc, ds)) (kk : PW p l e R s m args below meth c Q o M pc' lv' st' G' (cells + dc) (slots + ds)) : PW p l e R s m args below meth c Q o M pc lv st G cells slots := by
  have hK0 := hK
  intro H locs ls hW hL hl
  obtain rfl : 3 = n := hn
  dsimp only [pm_step] at hr
  split at hr
  · rename_i r hf
    cases hr
    obtain ⟨h1, h2, h3⟩ := pm_find2 hf pm_s_ok
    unfold pm_schk at h3
    rw [h1, h2] at h3
    have hk := kk H locs ls hW hL hl
    obtain ⟨-, -, ⟨t1, t2, -⟩, -, -, hz⟩ := hK0
    by_cases hlt : r.2.2.1 < 35
    · rw [if_pos hlt] at h3 hk
      have hw := hK.word (of_decide_eq_true h3) rfl args
      obtain ⟨cf, kf, fi, f, a, cell, z1, z2, z3, z4, z5, z6, z7, z8⟩ := (t1 _ hlt).1
      refine W.gets hx hb hown hw z1 z2 z3 z4 (by rw [hW.2.2.1 a (Nat.not_le.mp z8)]; exact z5) (fun q => by rw [q] at z6; cases z6) z7 rfl hd ?_
      rw [List.map_cons] at hk
      have he : pm_v o (.ref (pm_TB + r.2.2.1)) = .ref (o.tad r.2.2.1) := by
        show Value.ref (pm_ad o _) = _
        rw [(pm_tokad (o := o) (a := pm_TB + r.2.2.1) (by simp [pm_isTok, hlt])).1, Nat.add_sub_cancel_left]
      rw [he] at hk
      exact hk
    · rw [if_neg hlt] at h3 hk
      have hw := hK.word (of_decide_eq_true h3) rfl args
      obtain ⟨cf, kf, fi, f, a, cell, z1, z2, z3, z4, z5, z6, z7, z8⟩ := t2
      exact W.gets hx hb hown hw z1 z2 z3 z4 (by rw [hW.2.2.1 a (Nat.not_le.mp z8)]; exact z5) (fun q => by rw [q] at z6; cases z6) z7 rfl hd hk
  · cases hr
set_option maxHeartbeats 1000000 in
theorem pm_s_getfield {k : Nat} (hx : p.tables.exec = Jvm.exec) (hb : c.code = M.code) (hown : s.vm.findClass (pm_own M.own) = some m.cls) (hK : pm_K o s) (hd : decode M.code pc = .ok (.getfield k, n)) (hn : pm_len (.getfield k) n = n) {ini : Bool} (hr : pm_step M.own M.maxL ini o.xs o.L o.J (.getfield k) pc lv st G = some (pc', lv', st', G', dc, ds)) (kk : PW p l e R s m args below meth c Q o M pc' lv' st' G' (cells + dc) (slots + ds)) : PW p l e R s m args below meth c Q o M pc lv st G cells slots := by
  intro H locs ls hW hL hl
  obtain rfl : 3 = n := hn
  dsimp only [pm_step] at hr
  split at hr
  · rename_i a r
    split at hr
    · rename_i ht
      split at hr
      · rename_i hok
        cases hr
        have hk := kk H locs ls hW hL hl
        obtain ⟨q1, q2⟩ := pm_tokad (o := o) ht
        obtain ⟨cf, kk0, fi, f, cell, z1, z2, z3, z4, z5, z6⟩ := ((id hK).2.2.1.1 _ q2).2.2
        have hw : (Cond.fieldLinkNest "BreathingHill$Tape" 79 "BreathingHill$Token" "code" "J" "BreathingHill").before args s = true := hK.word (i := pm_tokplace) (by decide +kernel) rfl args
        have hown2 : s.vm.findClass "BreathingHill$Tape" = some m.cls := by rw [hok.1] at hown; exact hown
        rw [hok.2] at hd
        refine va_Wgetf hx hb hown2 hw z1 z2 (a := pm_ad o a) (by rw [q1, hW.2.2.1 _ (Nat.not_le.mp z6)]; exact z3) z4 z5 rfl rfl hd ?_
        exact hk
      · cases hr
    · split at hr
      · rename_i q hf
        split at hr
        · rename_i ci fs hg
          split at hr
          · rename_i hci
            split at hr
            · rename_i v hv
              cases hr
              obtain ⟨h1, h2, h3⟩ := pm_find2 hf pm_f_ok
              have hk := kk H locs ls hW hL hl
              unfold pm_fchk at h3
              split at h3
              · cases h3
              · rename_i r hcl
                rw [Bool.and_eq_true] at h3
                obtain ⟨h4, h5⟩ := h3
                have h4 := of_decide_eq_true h4
                rw [← hci] at hcl
                have he := hW.at hg
                have hvv : (fs.map (pm_v o))[q.2.2.2.1]? = some (pm_v o v) := by rw [List.getElem?_map, hv]; rfl
                split at h5
                · have h5 := of_decide_eq_true h5
                  rw [h1, h2] at h5
                  exact va_get hx hb (pm_hts hK args) (pm_hin hcl) hown hK.2.1 hW.1 a he hcl q.2.2.2.1 h4 (hK.word h5 rfl args) (fun _ z => z) hvv hd hk
                · have h5 := of_decide_eq_true h5
                  rw [h1, h2] at h5
                  exact va_getN hx hb (pm_hts hK args) (pm_hin hcl) hown hK.2.1 hW.1 a he hcl q.2.2.2.1 h4 (hK.word h5 rfl args) (fun _ z => z) hvv hd hk
            · cases hr
          · cases hr
        · cases hr
      · cases hr
  · cases hr
end PSB
