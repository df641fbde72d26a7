-- ===== one step: stores, array loads, lengths, new cells, references compared =====
theorem pm_locs {o : Om} {G : List pE} {H : Heap} {locs : List Loc} (hW : pm_W o G H) (hL : ∀ q ∈ locs, o.B ≤ q.base) {a k : Nat} {e : pE} (ha : G[a]? = some e) : ∀ q ∈ locs ++ [⟨pm_ad o a, k⟩], o.B ≤ q.base := by
  intro q hq
  rcases List.mem_append.mp hq with h | h
  · exact hL q h
  · rw [List.mem_singleton.mp h]
    show o.B ≤ pm_ad o a
    rw [hW.lt ha]
    exact Nat.le_add_right _ _
theorem pm_v_default (o : Om) (ty : FieldType) : pm_v o (defaultValue ty) = defaultValue ty := by cases ty <;> rfl
theorem pm_arr_obj {t : Nat} (h1 : ¬ t < 4) (h2 : ¬ 9 < t) : pm_arr t = .object (pm_arrC t) := by
  rcases (show t = 4 ∨ t = 5 ∨ t = 6 ∨ t = 7 ∨ t = 8 ∨ t = 9 by omega) with rfl | rfl | rfl | rfl | rfl | rfl <;> rfl
def pm_aplace (t : Nat) : Nat := match t with
  | 0 => 184
  | 1 => 165
  | 2 => 458
  | _ => 1474
theorem pm_asg (vm : Vm) (c : ClassId) : vm.assignable c c = true := by
  show vm.assignableAux (255 + 1) c c = true
  rw [Vm.assignableAux, beq_self_eq_true, Bool.true_or]
theorem pm_aword {t : Nat} (h : ¬ 3 < t) : lw_tbl[pm_aplace t]? = some (.arrayClass (pm_arr t)) := by
  rcases (show t = 0 ∨ t = 1 ∨ t = 2 ∨ t = 3 by omega) with rfl | rfl | rfl | rfl <;> decide +kernel
section PSC
variable {p : Program} {l : Launch} {e : Env} {R : Room} {s : State} {m : MethodId} {args : Array Value} {below : List Frame} {meth : Method} {c : Code} {Q : State → Prop} {o : Om} {M : pM} {G G' : List pE} {lv lv' : pL} {st st' : List Value} {pc pc' dc ds n cells slots : Nat}
set_option maxHeartbeats 1000000 in
theorem pm_s_putfield {k : Nat} {ini : Bool} (hini : ini = true → meth.name = "<init>") (hx : p.tables.exec = Jvm.exec) (hb : c.code = M.code) (hown : s.vm.findClass (pm_own M.own) = some m.cls) (hK : pm_K o s) (hd : decode M.code pc = .ok (.putfield k, n)) (hn : pm_len (.putfield k) n = n) (hr : pm_step M.own M.maxL (ini) o.xs o.L o.J (.putfield k) pc lv st G = some (pc', lv', st', G', dc, ds)) (kk : PW p l e R s m args below meth c Q o M pc' lv' st' G' (cells + dc) (slots + ds)) : PW p l e R s m args below meth c Q o M pc lv st G cells slots := by
  intro H locs ls hW hL hl
  obtain rfl : 3 = n := hn
  dsimp only [pm_step] at hr
  split at hr
  · rename_i v a r
    split at hr
    · rename_i q hf
      split at hr
      · rename_i ci fs hg
        split at hr
        · rename_i hok
          cases hr
          obtain ⟨hci, hlen, hna, hfi, hfin⟩ := hok
          obtain ⟨h1, h2, h3⟩ := pm_find2 hf pm_f_ok
          unfold pm_fchk at h3
          split at h3
          · cases h3
          · rename_i w hcl
            rw [Bool.and_eq_true] at h3
            obtain ⟨h4, h5⟩ := h3
            have h4 := of_decide_eq_true h4
            rw [← hci] at hcl
            obtain ⟨w2, hw2, hty, hnm, hdecl, -, hcn, hfn⟩ := pm_cls (pm_cls_lt hcl)
            obtain rfl : w = w2 := Option.some.inj (hcl.symm.trans hw2)
            have hts := pm_hts hK args
            have hin := pm_hin hcl
            have he : (pm_w o o.B G)[a]? = some (pm_ad o a, .inr (ci, fs.map (pm_v o))) := hW.at hg
            have hap := va_apart (own := pm_own M.own) hts hin (pm_ty ci) hty hnm hK.2.1 hcl
            obtain ⟨w3, hw3, cell, q1, q2, q3, q4⟩ := hW.1 a _ he
            obtain rfl : w = w3 := Option.some.inj (hcl.symm.trans hw3)
            obtain ⟨hS, hfc, kC, hkC, hkind⟩ := hK.2.1.1 ci _ hcl
            obtain ⟨cf, kf, fi, f, hi, hsl⟩ := hS q.2.2.2.1 h4
            have hlay := hts _ (hin _ (u_in_lay h4))
            have hst := (u_facts hfc hkC (u_lays hts hin h4) hi).1
            have hlen2 : q.2.2.2.1 < (fs.map (pm_v o)).length := by rw [List.length_map]; exact hlen
            have fin : ∀ (H1 : Heap), H1[pm_ad o a]? = some (cell.setSlot f.slot (pm_v o v)) → H1.size = H.size → (∀ q, q ≠ pm_ad o a → H1[q]? = H[q]?) → W p l e R s m args below meth c H1 (locs ++ [⟨pm_ad o a, f.slot⟩]) cells slots Q (F0 m (pc + 3) ls (st'.map (pm_v o))) := by
              intro H1 e1 e2 e3
              rw [hsl] at e1
              refine kk H1 _ ls (hW.set hg (e := .inr (ci, fs.set q.2.2.2.1 v)) ⟨_, hcl, ?_⟩ e2 e3) (pm_locs hW hL hg) hl
              refine t_OB.to (V := updV (vp_V (fs.map (pm_v o))) q.2.2.2.1 (pm_v o v)) ⟨_, e1, q2, q3, t_set q4 hap h4 _⟩ (fun j _ => ?_)
              rw [vp_updV_set hlen2, ← List.map_set]
            unfold u_lay at hlay
            by_cases hfl : (w.2.1 q.2.2.2.1).2.2.2 = true
            · rw [if_pos hfl] at hlay
              obtain ⟨g1, g2, g3⟩ := hfin (by rw [← hfn]; exact hfl)
              rw [g3] at h5
              have h5 := of_decide_eq_true h5
              rw [h1, h2] at h5
              have hcf : m.cls = cf := by
                obtain ⟨_, _, c', _, _, _, -, -, hf', -, -, -, hown2, -⟩ := Cond.laysFinal_spec hlay
                have e1 : c' = cf := by have := hi.symm.trans hf'; simp at this; exact this.1.symm
                rw [hdecl _ h4, hcn, ← g2] at hown2
                rw [← e1]; exact Option.some.inj (hown.symm.trans hown2)
              have h6 := u_fits hfc hkC hkind (Or.inr hlay) hi (hty _ h4) (pm_v_narrow o hna) (pm_v_fits o hfi)
              exact W.putFinK hx hb hown (hK.word h5 rfl args) hi hst hcf (hini g1) (by rw [q2]; exact h6) q1 q3 (by rw [hsl]; exact k2_hasslot (q4 _ h4)) rfl rfl hd fin
            · rw [if_neg hfl] at hlay
              have h6 := u_store hfc hkC hkind hlay hi (hty _ h4) (pm_v_narrow o hna) (pm_v_fits o hfi)
              split at h5
              · have h5 := of_decide_eq_true h5
                rw [h1, h2] at h5
                exact W.putK hx hb (f := f) ⟨hown, hK.word h5 rfl args, ⟨_, _, _, hi⟩, hst⟩ (by rw [q2]; exact h6) q1 q3 (by rw [hsl]; exact k2_hasslot (q4 _ h4)) rfl rfl hd fin
              · have h5 := of_decide_eq_true h5
                rw [h1, h2] at h5
                exact va_WputK hx hb (f := f) hown (hK.word h5 rfl args) hi hst (by rw [q2]; exact h6) q1 q3 (by rw [hsl]; exact k2_hasslot (q4 _ h4)) rfl rfl hd fin
        · cases hr
      · cases hr
    · cases hr
  · cases hr
set_option maxHeartbeats 1000000 in
theorem pm_s_iaload  (hx : p.tables.exec = Jvm.exec) (hb : c.code = M.code) (hown : s.vm.findClass (pm_own M.own) = some m.cls) (hK : pm_K o s) (hd : decode M.code pc = .ok (.iaload, n)) (hn : pm_len (.iaload) n = n) {ini : Bool} (hr : pm_step M.own M.maxL ini o.xs o.L o.J (.iaload) pc lv st G = some (pc', lv', st', G', dc, ds)) (kk : PW p l e R s m args below meth c Q o M pc' lv' st' G' (cells + dc) (slots + ds)) : PW p l e R s m args below meth c Q o M pc lv st G cells slots := by
  intro H locs ls hW hL hl
  obtain rfl : 1 = n := hn
  dsimp only [pm_step] at hr
  split at hr
  · rename_i j a r
    split at hr
    · rename_i hsb
      split at hr
      · cases hr
      · rename_i hbd
        cases hr
        have hk := kk H locs ls hW hL hl
        obtain ⟨scr, x1, x2, x3, x4, x5⟩ := (id hK).2.2.2.1
        have hlt : j.toNatClampNeg < o.L := Nat.not_le.mp fun q => (pm_bad_in hbd) (Or.inr q)
        have had : pm_ad o a = o.scr := by rw [hsb]; unfold pm_ad pm_SB pm_TB pm_KB; simp
        exact W.iald (v := .int (o.xs j.toNatClampNeg)) (a := pm_ad o a) hx hb (by rw [had, hW.2.2.1 _ (id hK).2.2.2.2.1]; exact x1) x2 x3 (by rw [x4]; exact pm_bad_in hbd) (x5 _ hlt) rfl rfl hd hk
    · split at hr
      · rename_i nn f hg
        split at hr
        · cases hr
        · rename_i hbd
          cases hr
          have ha : (pm_w o o.B G)[a]? = some (pm_ad o a, .inl (o.dA 0, nn, .inl f)) := hW.at hg
          exact va_iald hx hb hK.2.1 hW.1 a 0 ha (pm_tys_at o (by omega)) (pm_bad_in hbd) hd (kk H locs ls hW hL hl)
      · cases hr
  · cases hr
set_option maxHeartbeats 1000000 in
theorem pm_s_baload  (hx : p.tables.exec = Jvm.exec) (hb : c.code = M.code) (hown : s.vm.findClass (pm_own M.own) = some m.cls) (hK : pm_K o s) (hd : decode M.code pc = .ok (.baload, n)) (hn : pm_len (.baload) n = n) {ini : Bool} (hr : pm_step M.own M.maxL ini o.xs o.L o.J (.baload) pc lv st G = some (pc', lv', st', G', dc, ds)) (kk : PW p l e R s m args below meth c Q o M pc' lv' st' G' (cells + dc) (slots + ds)) : PW p l e R s m args below meth c Q o M pc lv st G cells slots := by
  intro H locs ls hW hL hl
  obtain rfl : 1 = n := hn
  dsimp only [pm_step] at hr
  split at hr
  · rename_i j a r
    split at hr
    · rename_i nn f hg
      split at hr
      · cases hr
      · rename_i hbd
        cases hr
        have ha : (pm_w o o.B G)[a]? = some (pm_ad o a, .inl (o.dA 1, nn, .inl f)) := hW.at hg
        exact va_bald hx hb hK.2.1 hW.1 a 1 ha (pm_tys_at o (by omega)) (pm_bad_in hbd) hd (kk H locs ls hW hL hl)
    · rename_i nn f hg
      split at hr
      · cases hr
      · rename_i hbd
        cases hr
        have ha : (pm_w o o.B G)[a]? = some (pm_ad o a, .inl (o.dA 2, nn, .inl f)) := hW.at hg
        exact va_zald hx hb hK.2.1 hW.1 a 2 ha (pm_tys_at o (by omega)) (pm_bad_in hbd) hd (kk H locs ls hW hL hl)
    · cases hr
  · cases hr
set_option maxHeartbeats 1000000 in
theorem pm_s_laload  (hx : p.tables.exec = Jvm.exec) (hb : c.code = M.code) (hown : s.vm.findClass (pm_own M.own) = some m.cls) (hK : pm_K o s) (hd : decode M.code pc = .ok (.laload, n)) (hn : pm_len (.laload) n = n) {ini : Bool} (hr : pm_step M.own M.maxL ini o.xs o.L o.J (.laload) pc lv st G = some (pc', lv', st', G', dc, ds)) (kk : PW p l e R s m args below meth c Q o M pc' lv' st' G' (cells + dc) (slots + ds)) : PW p l e R s m args below meth c Q o M pc lv st G cells slots := by
  intro H locs ls hW hL hl
  obtain rfl : 1 = n := hn
  dsimp only [pm_step] at hr
  split at hr
  · rename_i j a r
    split at hr
    · rename_i nn f hg
      split at hr
      · cases hr
      · rename_i hbd
        cases hr
        have ha : (pm_w o o.B G)[a]? = some (pm_ad o a, .inl (o.dA 3, nn, .inr (.inl f))) := hW.at hg
        exact va_lald hx hb hK.2.1 hW.1 a 3 ha (pm_tys_at o (by omega)) (pm_bad_in hbd) hd (kk H locs ls hW hL hl)
    · cases hr
  · cases hr
set_option maxHeartbeats 1000000 in
theorem pm_s_aaload  (hx : p.tables.exec = Jvm.exec) (hb : c.code = M.code) (hown : s.vm.findClass (pm_own M.own) = some m.cls) (hK : pm_K o s) (hd : decode M.code pc = .ok (.aaload, n)) (hn : pm_len (.aaload) n = n) {ini : Bool} (hr : pm_step M.own M.maxL ini o.xs o.L o.J (.aaload) pc lv st G = some (pc', lv', st', G', dc, ds)) (kk : PW p l e R s m args below meth c Q o M pc' lv' st' G' (cells + dc) (slots + ds)) : PW p l e R s m args below meth c Q o M pc lv st G cells slots := by
  intro H locs ls hW hL hl
  obtain rfl : 1 = n := hn
  dsimp only [pm_step] at hr
  split at hr
  · rename_i j a r
    split at hr
    · rename_i hsb
      split at hr
      · cases hr
      · rename_i hbd
        cases hr
        have hk := kk H locs ls hW hL hl
        obtain ⟨cell, x1, x2, x3, x4, x5, x6, x7⟩ := (id hK).2.2.1.2.2.1
        have hlt : j.toNatClampNeg < 35 := Nat.not_le.mp fun q => (pm_bad_in hbd) (Or.inr q)
        have had : pm_ad o a = o.tks := by rw [hsb]; unfold pm_ad pm_SB pm_TB pm_KB; simp
        have hv : pm_v o (.ref (pm_TB + j.toNatClampNeg)) = .ref (o.tad j.toNatClampNeg) := by
          show Value.ref (pm_ad o _) = _
          rw [(pm_tokad (o := o) (a := pm_TB + j.toNatClampNeg) (by simp [pm_isTok, hlt])).1, Nat.add_sub_cancel_left]
        rw [List.map_cons, hv] at hk
        have hb0 := pm_bad_in hbd
        exact W.aald (v := .ref (o.tad j.toNatClampNeg)) (ty := .object "BreathingHill$Token") (a := pm_ad o a) hx hb (by rw [had, hW.2.2.1 _ (Nat.not_le.mp x7)]; exact x1) x2 rfl x3 (fun z => hb0 (z.elim Or.inl (fun z => Or.inr (Nat.le_trans x4 z)))) (x6 _ hlt) rfl rfl hd hk
    · split at hr
      · rename_i t nn f hg
        split at hr
        · cases hr
        · rename_i hbd
          cases hr
          have hk := kk H locs ls hW hL hl
          have hb1 : ¬ pm_bad j nn = true := fun z => hbd (Or.inl z)
          have ht1 : ¬ t < 4 := fun z => hbd (Or.inr (Or.inl z))
          have ht2 : ¬ 9 < t := fun z => hbd (Or.inr (Or.inr z))
          have ha : (pm_w o o.B G)[a]? = some (pm_ad o a, .inl (o.dA t, nn, .inr (.inr (.inr (.inr (fun j => (f j).map (pm_ad o))))))) := hW.at hg
          have htt := pm_tys_at o (t := t) (by omega)
          rw [pm_arr_obj ht1 ht2] at htt
          have hv : pm_v o (va_rf (f j.toNatClampNeg)) = va_rf ((f j.toNatClampNeg).map (pm_ad o)) := by cases f j.toNatClampNeg <;> rfl
          rw [List.map_cons, hv] at hk
          exact va_aldq hx hb hK.2.1 hW.1 a t ha htt (pm_bad_in hb1) hd hk
      · cases hr
  · cases hr
set_option maxHeartbeats 1000000 in
theorem pm_s_iastore  (hx : p.tables.exec = Jvm.exec) (hb : c.code = M.code) (hown : s.vm.findClass (pm_own M.own) = some m.cls) (hK : pm_K o s) (hd : decode M.code pc = .ok (.iastore, n)) (hn : pm_len (.iastore) n = n) {ini : Bool} (hr : pm_step M.own M.maxL ini o.xs o.L o.J (.iastore) pc lv st G = some (pc', lv', st', G', dc, ds)) (kk : PW p l e R s m args below meth c Q o M pc' lv' st' G' (cells + dc) (slots + ds)) : PW p l e R s m args below meth c Q o M pc lv st G cells slots := by
  intro H locs ls hW hL hl
  obtain rfl : 1 = n := hn
  dsimp only [pm_step] at hr
  split at hr
  · rename_i x j a r
    split at hr
    · rename_i nn f hg
      split at hr
      · cases hr
      · rename_i hbd
        cases hr
        have ha : (pm_w o o.B G)[a]? = some (pm_ad o a, .inl (o.dA 0, nn, .inl f)) := hW.at hg
        refine W.iast hx hb (hW.1 a _ ha) ((hK.2.1.2 0 _ (pm_tys_at o (by omega))).1 nn (fun j => .int (f j))) (fun q => by cases q) (by show ¬ (j < 0 ∨ (arrV _ _ _).slots.size ≤ _); rw [arrV_size]; exact pm_bad_in hbd) rfl rfl hd fun H1 e z oq => ?_
        refine kk H1 _ ls (hW.set hg (e := .inl (0, nn, .inl (upd f j.toNatClampNeg x))) ?_ z oq) (pm_locs hW hL hg) hl
        show H1[pm_ad o a]? = some (vp_cell (o.dA 0) (nn, .inl (upd f j.toNatClampNeg x)))
        rw [e]
        rw [vp_cell_i, vp_cell_i, arrV_store]
        congr 2
        funext q
        by_cases hq : q = j.toNatClampNeg
        · subst hq
          simp [updV, upd]
          try rfl
        · simp [updV, upd, hq]
    · cases hr
  · cases hr
set_option maxHeartbeats 1000000 in
theorem pm_s_bastore  (hx : p.tables.exec = Jvm.exec) (hb : c.code = M.code) (hown : s.vm.findClass (pm_own M.own) = some m.cls) (hK : pm_K o s) (hd : decode M.code pc = .ok (.bastore, n)) (hn : pm_len (.bastore) n = n) {ini : Bool} (hr : pm_step M.own M.maxL ini o.xs o.L o.J (.bastore) pc lv st G = some (pc', lv', st', G', dc, ds)) (kk : PW p l e R s m args below meth c Q o M pc' lv' st' G' (cells + dc) (slots + ds)) : PW p l e R s m args below meth c Q o M pc lv st G cells slots := by
  intro H locs ls hW hL hl
  obtain rfl : 1 = n := hn
  dsimp only [pm_step] at hr
  split at hr
  · rename_i x j a r
    split at hr
    · rename_i nn f hg
      split at hr
      · cases hr
      · rename_i hbd
        cases hr
        have ha : (pm_w o o.B G)[a]? = some (pm_ad o a, .inl (o.dA 1, nn, .inl f)) := hW.at hg
        refine W.bast hx hb (hW.1 a _ ha) ((hK.2.1.2 1 _ (pm_tys_at o (by omega))).1 nn (fun j => .int (f j))) (fun q => by cases q) (by show ¬ (j < 0 ∨ (arrV _ _ _).slots.size ≤ _); rw [arrV_size]; exact pm_bad_in hbd) rfl rfl hd fun H1 e z oq => ?_
        refine kk H1 _ ls (hW.set hg (e := .inl (1, nn, .inl (upd f j.toNatClampNeg (vp_nar .byte x)))) ?_ z oq) (pm_locs hW hL hg) hl
        show H1[pm_ad o a]? = some (vp_cell (o.dA 1) (nn, .inl (upd f j.toNatClampNeg (vp_nar .byte x))))
        rw [e]
        rw [vp_cell_i, vp_cell_i, arrV_store]
        congr 2
        funext q
        by_cases hq : q = j.toNatClampNeg
        · subst hq
          simp [updV, upd, vp_nar]
          try rfl
        · simp [updV, upd, vp_nar, hq]
    · rename_i nn f hg
      split at hr
      · cases hr
      · rename_i hbd
        cases hr
        have ha : (pm_w o o.B G)[a]? = some (pm_ad o a, .inl (o.dA 2, nn, .inl f)) := hW.at hg
        refine W.zast hx hb (hW.1 a _ ha) ((hK.2.1.2 2 _ (pm_tys_at o (by omega))).1 nn (fun j => .int (f j))) (fun q => by cases q) (by show ¬ (j < 0 ∨ (arrV _ _ _).slots.size ≤ _); rw [arrV_size]; exact pm_bad_in hbd) rfl rfl hd fun H1 e z oq => ?_
        refine kk H1 _ ls (hW.set hg (e := .inl (2, nn, .inl (upd f j.toNatClampNeg (vp_nar .boolean x)))) ?_ z oq) (pm_locs hW hL hg) hl
        show H1[pm_ad o a]? = some (vp_cell (o.dA 2) (nn, .inl (upd f j.toNatClampNeg (vp_nar .boolean x))))
        rw [e]
        rw [vp_cell_i, vp_cell_i, arrV_store]
        congr 2
        funext q
        by_cases hq : q = j.toNatClampNeg
        · subst hq
          simp [updV, upd, vp_nar]
          try rfl
        · simp [updV, upd, vp_nar, hq]
    · cases hr
  · cases hr
set_option maxHeartbeats 1000000 in
theorem pm_s_lastore  (hx : p.tables.exec = Jvm.exec) (hb : c.code = M.code) (hown : s.vm.findClass (pm_own M.own) = some m.cls) (hK : pm_K o s) (hd : decode M.code pc = .ok (.lastore, n)) (hn : pm_len (.lastore) n = n) {ini : Bool} (hr : pm_step M.own M.maxL ini o.xs o.L o.J (.lastore) pc lv st G = some (pc', lv', st', G', dc, ds)) (kk : PW p l e R s m args below meth c Q o M pc' lv' st' G' (cells + dc) (slots + ds)) : PW p l e R s m args below meth c Q o M pc lv st G cells slots := by
  intro H locs ls hW hL hl
  obtain rfl : 1 = n := hn
  dsimp only [pm_step] at hr
  split at hr
  · rename_i x j a r
    split at hr
    · rename_i nn f hg
      split at hr
      · cases hr
      · rename_i hbd
        cases hr
        have ha : (pm_w o o.B G)[a]? = some (pm_ad o a, .inl (o.dA 3, nn, .inr (.inl f))) := hW.at hg
        refine W.last hx hb (hW.1 a _ ha) ((hK.2.1.2 3 _ (pm_tys_at o (by omega))).1 nn (fun j => .long (f j))) (fun q => by cases q) (by show ¬ (j < 0 ∨ (arrV _ _ _).slots.size ≤ _); rw [arrV_size]; exact pm_bad_in hbd) rfl rfl hd fun H1 e z oq => ?_
        refine kk H1 _ ls (hW.set hg (e := .inl (3, nn, .inr (.inl (vp_updL f j.toNatClampNeg x)))) ?_ z oq) (pm_locs hW hL hg) hl
        show H1[pm_ad o a]? = some (vp_cell (o.dA 3) (nn, .inr (.inl (vp_updL f j.toNatClampNeg x))))
        rw [e]
        rw [vp_cell_l, vp_cell_l, arrV_store]
        congr 2
        funext q
        by_cases hq : q = j.toNatClampNeg
        · subst hq
          simp [updV, vp_updL]
          try rfl
        · simp [updV, vp_updL, hq]
    · cases hr
  · cases hr
set_option maxHeartbeats 1000000 in
theorem pm_s_aastore  (hx : p.tables.exec = Jvm.exec) (hb : c.code = M.code) (hown : s.vm.findClass (pm_own M.own) = some m.cls) (hK : pm_K o s) (hd : decode M.code pc = .ok (.aastore, n)) (hn : pm_len (.aastore) n = n) {ini : Bool} (hr : pm_step M.own M.maxL ini o.xs o.L o.J (.aastore) pc lv st G = some (pc', lv', st', G', dc, ds)) (kk : PW p l e R s m args below meth c Q o M pc' lv' st' G' (cells + dc) (slots + ds)) : PW p l e R s m args below meth c Q o M pc lv st G cells slots := by
  intro H locs ls hW hL hl
  obtain rfl : 1 = n := hn
  dsimp only [pm_step] at hr
  split at hr
  · rename_i v j a r
    split at hr
    · rename_i t nn f hg
      split at hr
      · cases hr
      · rename_i hbd
        have hb1 : ¬ pm_bad j nn = true := fun z => hbd (Or.inl z)
        have ht1 : ¬ t < 4 := fun z => hbd (Or.inr (Or.inl z))
        have ht2 : ¬ 9 < t := fun z => hbd (Or.inr (Or.inr z))
        split at hr
        · rename_i htk
          split at hr
          · rename_i ht4
            cases hr
            obtain ⟨q1, q2⟩ := pm_tokad (o := o) htk
            obtain ⟨cv, c1, c2, c3, c4⟩ := ((id hK).2.2.1.1 _ q2).2.1
            obtain ⟨cC, hcC⟩ := (id hK).2.2.1.2.2.2.2
            have hcv : H[pm_ad o v]? = some cv := by rw [q1, hW.2.2.1 _ (Nat.not_le.mp c4)]; exact c1
            have hvs : ∀ q, cv.vm ≠ .statics q := fun q z => by rw [z] at c2; cases c2
            have hca : s.vm.findClass (pm_arrC t) = some cv.cls ∧ ∃ k : Class, s.vm.classes[cv.cls]? = some k := by
              rw [ht4]
              have : cC = cv.cls := Option.some.inj (hcC.1.symm.trans c3)
              rw [← this]
              exact hcC
            have ha : (pm_w o o.B G)[a]? = some (pm_ad o a, .inl (o.dA t, nn, .inr (.inr (.inr (.inr (fun j => (f j).map (pm_ad o))))))) := hW.at hg
            have htt := pm_tys_at o (t := t) (by omega)
            rw [pm_arr_obj ht1 ht2] at htt
            obtain ⟨kA, comp, k1, k2, k3, -⟩ := (hK.2.1.2 t _ htt).2
            have hcc : comp = cv.cls := Option.some.inj (k3.symm.trans hca.1)
            subst hcc
            obtain ⟨kC, hkC⟩ := id hca.2
            have hb0 := pm_bad_in hb1
            refine W.aast hx hb (hW.1 a _ ha) (fun q h => by cases h) (fun h => by cases h) k1 k2 rfl hkC ⟨fun z => hb0 (Or.inl z), by show _ < (arrV _ _ _).slots.size; rw [arrV_size]; exact Nat.not_le.mp fun z => hb0 (Or.inr z)⟩ hcv hvs hkC (pm_asg _ _) rfl rfl hd fun H1 e z oq => ?_
            refine kk H1 _ ls (hW.set hg (e := .inl (t, nn, .inr (.inr (.inr (.inr (va_up f j.toNatClampNeg (some v))))))) ?_ z oq) (pm_locs hW hL hg) hl
            show H1[pm_ad o a]? = some (vp_cell (o.dA t) (nn, .inr (.inr (.inr (.inr (fun i => (va_up f j.toNatClampNeg (some v) i).map (pm_ad o)))))))
            rw [e]
            rw [vp_cell_q, vp_cell_q, arrV_store]
            congr 2
            funext q
            by_cases hq : q = j.toNatClampNeg
            · subst hq
              simp [updV, va_up, va_rf]
            · simp [updV, va_up, hq]
          · cases hr
        · split at hr
          · rename_i ci vs hgv
            split at hr
            · rename_i hcn
              cases hr
              obtain ⟨w2, hw2, -, -, -, -, hcn2, -⟩ := pm_cls hcn.2
              have hev : (pm_w o o.B G)[v]? = some (pm_ad o v, .inr (ci, vs.map (pm_v o))) := hW.at hgv
              obtain ⟨w3, hw3, cv, hcv, g2, g3, -⟩ := hW.1 v _ hev
              have hvs : ∀ q, cv.vm ≠ .statics q := fun q z => by rw [g3] at z; cases z
              have hca : ClassAt s (pm_arrC t) cv.cls := by
                rw [← hcn.1, ← hcn2, g2]
                exact (hK.2.1.1 ci _ hw2).2
              have ha : (pm_w o o.B G)[a]? = some (pm_ad o a, .inl (o.dA t, nn, .inr (.inr (.inr (.inr (fun j => (f j).map (pm_ad o))))))) := hW.at hg
              have htt := pm_tys_at o (t := t) (by omega)
              rw [pm_arr_obj ht1 ht2] at htt
              obtain ⟨kA, comp, k1, k2, k3, -⟩ := (hK.2.1.2 t _ htt).2
              have hcc : comp = cv.cls := Option.some.inj (k3.symm.trans hca.1)
              subst hcc
              obtain ⟨kC, hkC, -⟩ := id hca.2
              have hb0 := pm_bad_in hb1
              refine W.aast hx hb (hW.1 a _ ha) (fun q h => by cases h) (fun h => by cases h) k1 k2 rfl hkC ⟨fun z => hb0 (Or.inl z), by show _ < (arrV _ _ _).slots.size; rw [arrV_size]; exact Nat.not_le.mp fun z => hb0 (Or.inr z)⟩ hcv hvs hkC (va_assign hca) rfl rfl hd fun H1 e z oq => ?_
              refine kk H1 _ ls (hW.set hg (e := .inl (t, nn, .inr (.inr (.inr (.inr (va_up f j.toNatClampNeg (some v))))))) ?_ z oq) (pm_locs hW hL hg) hl
              show H1[pm_ad o a]? = some (vp_cell (o.dA t) (nn, .inr (.inr (.inr (.inr (fun i => (va_up f j.toNatClampNeg (some v) i).map (pm_ad o)))))))
              rw [e]
              rw [vp_cell_q, vp_cell_q, arrV_store]
              congr 2
              funext q
              by_cases hq : q = j.toNatClampNeg
              · subst hq
                simp [updV, va_up, va_rf]
              · simp [updV, va_up, hq]
            · cases hr
          · cases hr
    · cases hr
  · rename_i j a r
    split at hr
    · rename_i t nn f hg
      split at hr
      · cases hr
      · rename_i hbd
        cases hr
        have hb1 : ¬ pm_bad j nn = true := fun z => hbd (Or.inl z)
        have ht1 : ¬ t < 4 := fun z => hbd (Or.inr (Or.inl z))
        have ht2 : ¬ 9 < t := fun z => hbd (Or.inr (Or.inr z))
        have ha : (pm_w o o.B G)[a]? = some (pm_ad o a, .inl (o.dA t, nn, .inr (.inr (.inr (.inr (fun j => (f j).map (pm_ad o))))))) := hW.at hg
        have htt := pm_tys_at o (t := t) (by omega)
        rw [pm_arr_obj ht1 ht2] at htt
        refine va_WaastN (C := pm_arrC t) hx hb (hW.1 a _ ha) ((hK.2.1.2 t _ htt).1 nn (fun j => va_rf ((f j).map (pm_ad o)))) (fun h => by cases h) (by show ¬ (j < 0 ∨ (arrV _ _ _).slots.size ≤ _); rw [arrV_size]; exact pm_bad_in hb1) rfl rfl hd fun H1 e z oq => ?_
        refine kk H1 _ ls (hW.set hg (e := .inl (t, nn, .inr (.inr (.inr (.inr (va_up f j.toNatClampNeg none)))))) ?_ z oq) (pm_locs hW hL hg) hl
        show H1[pm_ad o a]? = some (vp_cell (o.dA t) (nn, .inr (.inr (.inr (.inr (fun i => (va_up f j.toNatClampNeg none i).map (pm_ad o)))))))
        rw [e]
        rw [vp_cell_q, vp_cell_q, arrV_store]
        congr 2
        funext q
        by_cases hq : q = j.toNatClampNeg
        · subst hq
          simp [updV, va_up, va_rf]
        · simp [updV, va_up, hq]
    · cases hr
  · cases hr
set_option maxHeartbeats 1000000 in
theorem pm_s_arraylength  (hx : p.tables.exec = Jvm.exec) (hb : c.code = M.code) (hown : s.vm.findClass (pm_own M.own) = some m.cls) (hK : pm_K o s) (hd : decode M.code pc = .ok (.arraylength, n)) (hn : pm_len (.arraylength) n = n) {ini : Bool} (hr : pm_step M.own M.maxL ini o.xs o.L o.J (.arraylength) pc lv st G = some (pc', lv', st', G', dc, ds)) (kk : PW p l e R s m args below meth c Q o M pc' lv' st' G' (cells + dc) (slots + ds)) : PW p l e R s m args below meth c Q o M pc lv st G cells slots := by
  intro H locs ls hW hL hl
  obtain rfl : 1 = n := hn
  dsimp only [pm_step] at hr
  split at hr
  · rename_i a r
    split at hr
    · rename_i hsb
      cases hr
      have hk := kk H locs ls hW hL hl
      obtain ⟨scr, x1, x2, x3, x4, x5⟩ := (id hK).2.2.2.1
      have had : pm_ad o a = o.scr := by rw [hsb]; unfold pm_ad pm_SB pm_TB pm_KB; simp
      exact W.alen (n := Int32.ofNat o.L) (a := pm_ad o a) hx hb (by rw [had, hW.2.2.1 _ (id hK).2.2.2.2.1]; exact x1) x2 (by rw [x4] <;> rfl) rfl rfl hd hk
    · split at hr
      · rename_i hsb
        cases hr
        have hk := kk H locs ls hW hL hl
        obtain ⟨cell, x1, x2, x3, x4, x5, x6, x7⟩ := (id hK).2.2.1.2.2.1
        have had : pm_ad o a = o.tks := by rw [hsb]; unfold pm_ad pm_SB pm_TB pm_KB; simp
        exact W.alen (n := Int32.ofNat 35) (a := pm_ad o a) hx hb (by rw [had, hW.2.2.1 _ (Nat.not_le.mp x7)]; exact x1) x2 x5 rfl rfl hd hk
      · split at hr
        · rename_i t x hg
          split at hr
          · rename_i ht
            cases hr
            have hk := kk H locs ls hW hL hl
            have ha : (pm_w o o.B G)[a]? = some (pm_ad o a, .inl (o.dA t, pm_a o x)) := hW.at hg
            exact va_alen hx hb hK.2.1 hW.1 a t ha (pm_tys_at o ht) (by obtain ⟨nn, f | f | f | f | f⟩ := x <;> rfl) hd hk
          · cases hr
        · cases hr
  · cases hr
set_option maxHeartbeats 1000000 in
theorem pm_s_new {k : Nat} (hx : p.tables.exec = Jvm.exec) (hb : c.code = M.code) (hown : s.vm.findClass (pm_own M.own) = some m.cls) (hK : pm_K o s) (hd : decode M.code pc = .ok (.new k, n)) (hn : pm_len (.new k) n = n) {ini : Bool} (hr : pm_step M.own M.maxL ini o.xs o.L o.J (.new k) pc lv st G = some (pc', lv', st', G', dc, ds)) (hcR : cells + dc ≤ R.cells) (hsR : slots + ds ≤ R.slots) (kk : PW p l e R s m args below meth c Q o M pc' lv' st' G' (cells + dc) (slots + ds)) : PW p l e R s m args below meth c Q o M pc lv st G cells slots := by
  intro H locs ls hW hL hl
  obtain rfl : 3 = n := hn
  dsimp only [pm_step] at hr
  split at hr
  · rename_i q hf
    split at hr
    · rename_i hok
      cases hr
      have hk := fun H1 => kk H1 locs ls
      obtain ⟨h1, h2, h3⟩ := pm_find2 hf pm_n_ok
      obtain ⟨w, hcl, hty, -, -, hN, -, -⟩ := pm_cls hok.1
      unfold pm_nchk at h3
      rw [hcl] at h3
      simp only [Bool.and_eq_true, decide_eq_true_eq] at h3
      obtain ⟨⟨⟨h5, h6⟩, h7⟩, -⟩ := h3
      rw [h1, h2] at h5
      have hKn := hK.2.1.1 _ _ hcl
      rw [← hN] at hk hsR
      refine W.newcK hx hb hown (hK.word h5 rfl args) (hK.word h6 rfl args) (hK.word h7 rfl args) rfl hd hcR hsR hKn.2.1 rfl fun H1 kC hkC e1 z1 o1 => ?_
      have hk := hk H1 (hW.push hok.2.2 hok.2.1 ⟨_, hcl, (u_born (pm_ty q.2.2.1) (pm_hts hK args) (pm_hin hcl) hKn hkC e1 hty).to (fun j hj => ?_)⟩ z1 o1) hL hl
      · rw [List.map_cons] at hk
        have hv : pm_v o (.ref G.length) = .ref H.size := by
          show Value.ref (pm_ad o _) = _
          rw [pm_ad_new hW hok.2.2 hok.2.1]
        rw [hv] at hk
        exact hk
      · simp [vp_V, hj, pm_v_default]
    · cases hr
  · cases hr
set_option maxHeartbeats 1000000 in
theorem pm_s_newarray {k : ArrayType} (hx : p.tables.exec = Jvm.exec) (hb : c.code = M.code) (hown : s.vm.findClass (pm_own M.own) = some m.cls) (hK : pm_K o s) (hd : decode M.code pc = .ok (.newarray k, n)) (hn : pm_len (.newarray k) n = n) {ini : Bool} (hr : pm_step M.own M.maxL ini o.xs o.L o.J (.newarray k) pc lv st G = some (pc', lv', st', G', dc, ds)) (hcR : cells + dc ≤ R.cells) (hsR : slots + ds ≤ R.slots) (kk : PW p l e R s m args below meth c Q o M pc' lv' st' G' (cells + dc) (slots + ds)) : PW p l e R s m args below meth c Q o M pc lv st G cells slots := by
  intro H locs ls hW hL hl
  obtain rfl : 2 = n := hn
  dsimp only [pm_step] at hr
  split at hr
  · rename_i nn r
    split at hr
    · cases hr
    · rename_i hok
      cases hr
      have g1 : ¬ nn < 0 := fun z => hok (Or.inl z)
      have g2 : ¬ 10000 < nn.toNatClampNeg := fun z => hok (Or.inr (Or.inl z))
      have g3 : ¬ 3 < pm_atype k := fun z => hok (Or.inr (Or.inr (Or.inl z)))
      have g4 : G.length < pm_TB := Nat.not_le.mp fun z => hok (Or.inr (Or.inr (Or.inr (Or.inl z))))
      have gJ : o.J = 0 := Decidable.not_not.mp fun z => hok (Or.inr (Or.inr (Or.inr (Or.inr z))))
      have hte : newarray.typeOf k = pm_arr (pm_atype k) := by cases k <;> first | rfl | (exfalso; exact g3 (by decide))
      have hwd := hK.word (pm_aword g3) rfl args
      rw [← hte] at hwd
      refine va_newaK hx hb hwd rfl hd rfl g1 rfl (by have : componentBytes (newarray.typeOf k) ≤ 8 := (by cases k <;> decide); calc _ ≤ 10000 * 8 := Nat.mul_le_mul (Nat.not_lt.mp g2) this
          _ ≤ _ := by decide) hcR hsR rfl fun H1 cA e1 z1 o1 hAr hNm => ?_
      have hcA : cA = o.dA (pm_atype k) := by
        have hra := (hK.2.1.2 _ _ (pm_tys_at o (t := pm_atype k) (by omega))).2
        rw [← hte] at hra
        cases k <;> first | exact Option.some.inj (hNm.symm.trans hra) | (exfalso; exact g3 (by decide))
      subst hcA
      have hk := kk H1 locs ls (hW.push (e := .inl (pm_atype k, pm_blank (pm_atype k) nn.toNatClampNeg)) gJ g4 (by
      show H1[H.size]? = some (vp_cell _ _)
      rw [e1]
      cases k <;> first | rfl | (exfalso; exact g3 (by decide))) z1 o1) hL hl
      rw [List.map_cons] at hk
      have hv : pm_v o (.ref G.length) = .ref H.size := by
        show Value.ref (pm_ad o _) = _
        rw [pm_ad_new hW gJ g4]
      rw [hv] at hk
      exact hk
  · cases hr
set_option maxHeartbeats 1000000 in
theorem pm_s_anewarray {k : Nat} (hx : p.tables.exec = Jvm.exec) (hb : c.code = M.code) (hown : s.vm.findClass (pm_own M.own) = some m.cls) (hK : pm_K o s) (hd : decode M.code pc = .ok (.anewarray k, n)) (hn : pm_len (.anewarray k) n = n) {ini : Bool} (hr : pm_step M.own M.maxL ini o.xs o.L o.J (.anewarray k) pc lv st G = some (pc', lv', st', G', dc, ds)) (hcR : cells + dc ≤ R.cells) (hsR : slots + ds ≤ R.slots) (kk : PW p l e R s m args below meth c Q o M pc' lv' st' G' (cells + dc) (slots + ds)) : PW p l e R s m args below meth c Q o M pc lv st G cells slots := by
  intro H locs ls hW hL hl
  obtain rfl : 3 = n := hn
  dsimp only [pm_step] at hr
  split at hr
  · rename_i nn r
    split at hr
    · rename_i q hf
      split at hr
      · cases hr
      · rename_i hok
        cases hr
        have g1 : ¬ nn < 0 := fun z => hok (Or.inl z)
        have g2 : ¬ 10000 < nn.toNatClampNeg := fun z => hok (Or.inr (Or.inl z))
        have ht1 : ¬ q.2.2.2.1 < 4 := fun z => hok (Or.inr (Or.inr (Or.inl z)))
        have ht2 : ¬ 9 < q.2.2.2.1 := fun z => hok (Or.inr (Or.inr (Or.inr (Or.inl z))))
        have g4 : G.length < pm_TB := Nat.not_le.mp fun z => hok (Or.inr (Or.inr (Or.inr (Or.inr (Or.inl z)))))
        have gJ : o.J = 0 := Decidable.not_not.mp fun z => hok (Or.inr (Or.inr (Or.inr (Or.inr (Or.inr z)))))
        obtain ⟨h1, h2, h3⟩ := pm_find2 hf pm_n_ok
        unfold pm_nchk at h3
        rw [Bool.and_eq_true] at h3
        have h3 := h3.2
        rw [if_pos ⟨by omega, by omega⟩] at h3
        simp only [Bool.and_eq_true, decide_eq_true_eq] at h3
        obtain ⟨h5, h6⟩ := h3
        rw [h1, h2] at h5
        have htt := pm_tys_at o (t := q.2.2.2.1) (by omega)
        rw [pm_arr_obj ht1 ht2] at htt
        obtain ⟨kA, comp, k1, k2, k3, k4⟩ := (hK.2.1.2 _ _ htt).2
        refine W.anew hx hb hown (hK.word h5 rfl args) (hK.word h6 rfl args) rfl hd rfl g1 (by omega) hcR hsR fun cA kA2 comp2 f1 f2 f3 f4 => ?_
        have hcA : cA = o.dA q.2.2.2.1 := Option.some.inj (f1.symm.trans k4)
        subst hcA
        have hk := kk _ locs ls (hW.push (H1 := H.push ({ cls := o.dA q.2.2.2.1, slots := Array.replicate nn.toNatClampNeg .null, vm := .none } : Cell)) (e := .inl (q.2.2.2.1, nn.toNatClampNeg, .inr (.inr (.inr (.inr (fun _ => none)))))) gJ g4 (by
        show _ = some (vp_cell _ _)
        rw [Array.getElem?_push_size, arrV_new]
        rfl) (by rw [Array.size_push]) (fun z hz => by rw [Array.getElem?_push, if_neg (Nat.ne_of_lt hz)])) hL hl
        rw [List.map_cons] at hk
        have hv : pm_v o (.ref G.length) = .ref H.size := by
          show Value.ref (pm_ad o _) = _
          rw [pm_ad_new hW gJ g4]
        rw [hv] at hk
        exact hk
    · cases hr
  · cases hr
set_option maxHeartbeats 1000000 in
theorem pm_s_if_acmp_eq {k : Int} (hx : p.tables.exec = Jvm.exec) (hb : c.code = M.code) (hown : s.vm.findClass (pm_own M.own) = some m.cls) (hK : pm_K o s) (hd : decode M.code pc = .ok (.if_acmp .eq k, n)) (hn : pm_len (.if_acmp .eq k) n = n) {ini : Bool} (hr : pm_step M.own M.maxL ini o.xs o.L o.J (.if_acmp .eq k) pc lv st G = some (pc', lv', st', G', dc, ds)) (kk : PW p l e R s m args below meth c Q o M pc' lv' st' G' (cells + dc) (slots + ds)) : PW p l e R s m args below meth c Q o M pc lv st G cells slots := by
  intro H locs ls hW hL hl
  obtain rfl : 3 = n := hn
  dsimp only [pm_step] at hr
  split at hr
  · rename_i b a r
    split at hr
    · rename_i htk
      rw [Bool.and_eq_true] at htk
      unfold pm_if at hr
      split at hr
      · cases hr
      · rename_i ht
        cases hr
        have hk := kk H locs ls hW hL hl
        obtain ⟨a1, a2⟩ := pm_tokad (o := o) htk.1
        obtain ⟨b1, b2⟩ := pm_tokad (o := o) htk.2
        have heq : (some (pm_ad o a) : Option Nat) = some (pm_ad o b) → a = b := by
          intro z
          have z := Option.some.inj z
          rw [a1, b1] at z
          have z2 : a - pm_TB = b - pm_TB := (id hK).2.2.1.2.2.2.1 _ _ a2 b2 z
          have h1 := htk.1
          have h2 := htk.2
          unfold pm_isTok at h1 h2
          simp only [Bool.and_eq_true, decide_eq_true_eq] at h1 h2
          have z3 : (a - pm_TB) + pm_TB = (b - pm_TB) + pm_TB := by rw [z2]
          rw [Nat.sub_add_cancel h1.1, Nat.sub_add_cancel h2.1] at z3
          exact z3
        refine lv_acmp_eq (rx := some (pm_ad o a)) (ry := some (pm_ad o b)) hx hb hd (pm_tgt_spec ht) (fun h => ?_) (fun h => ?_)
        · rw [if_pos (decide_eq_true (heq h))] at hk
          exact hk
        · rw [if_neg (fun z => h (by rw [of_decide_eq_true z]))] at hk
          exact hk
    · cases hr
  · unfold pm_if at hr
    split at hr
    · cases hr
    · rename_i ht
      cases hr
      have hk := kk H locs ls hW hL hl
      refine lv_acmp_eq (rx := none) (ry := some (pm_ad o _)) hx hb hd (pm_tgt_spec ht) (fun h => ?_) (fun h => ?_)
      · cases h
      · rw [if_neg (by decide)] at hk
        exact hk
  · unfold pm_if at hr
    split at hr
    · cases hr
    · rename_i ht
      cases hr
      have hk := kk H locs ls hW hL hl
      refine lv_acmp_eq (rx := some (pm_ad o _)) (ry := none) hx hb hd (pm_tgt_spec ht) (fun h => ?_) (fun h => ?_)
      · cases h
      · rw [if_neg (by decide)] at hk
        exact hk
  · cases hr
set_option maxHeartbeats 1000000 in
theorem pm_s_if_acmp_ne {k : Int} (hx : p.tables.exec = Jvm.exec) (hb : c.code = M.code) (hown : s.vm.findClass (pm_own M.own) = some m.cls) (hK : pm_K o s) (hd : decode M.code pc = .ok (.if_acmp .ne k, n)) (hn : pm_len (.if_acmp .ne k) n = n) {ini : Bool} (hr : pm_step M.own M.maxL ini o.xs o.L o.J (.if_acmp .ne k) pc lv st G = some (pc', lv', st', G', dc, ds)) (kk : PW p l e R s m args below meth c Q o M pc' lv' st' G' (cells + dc) (slots + ds)) : PW p l e R s m args below meth c Q o M pc lv st G cells slots := by
  intro H locs ls hW hL hl
  obtain rfl : 3 = n := hn
  dsimp only [pm_step] at hr
  split at hr
  · rename_i b a r
    split at hr
    · rename_i htk
      rw [Bool.and_eq_true] at htk
      unfold pm_if at hr
      split at hr
      · cases hr
      · rename_i ht
        cases hr
        have hk := kk H locs ls hW hL hl
        obtain ⟨a1, a2⟩ := pm_tokad (o := o) htk.1
        obtain ⟨b1, b2⟩ := pm_tokad (o := o) htk.2
        have heq : (some (pm_ad o a) : Option Nat) = some (pm_ad o b) → a = b := by
          intro z
          have z := Option.some.inj z
          rw [a1, b1] at z
          have z2 : a - pm_TB = b - pm_TB := (id hK).2.2.1.2.2.2.1 _ _ a2 b2 z
          have h1 := htk.1
          have h2 := htk.2
          unfold pm_isTok at h1 h2
          simp only [Bool.and_eq_true, decide_eq_true_eq] at h1 h2
          have z3 : (a - pm_TB) + pm_TB = (b - pm_TB) + pm_TB := by rw [z2]
          rw [Nat.sub_add_cancel h1.1, Nat.sub_add_cancel h2.1] at z3
          exact z3
        refine lv_acmp_ne (rx := some (pm_ad o a)) (ry := some (pm_ad o b)) hx hb hd (pm_tgt_spec ht) (fun h => ?_) (fun h => ?_)
        · rw [if_pos (by rw [decide_eq_false (fun z => h (by rw [z]))]; rfl)] at hk
          exact hk
        · rw [if_neg (by rw [decide_eq_true (heq h)]; decide)] at hk
          exact hk
    · cases hr
  · unfold pm_if at hr
    split at hr
    · cases hr
    · rename_i ht
      cases hr
      have hk := kk H locs ls hW hL hl
      refine lv_acmp_ne (rx := none) (ry := some (pm_ad o _)) hx hb hd (pm_tgt_spec ht) (fun h => ?_) (fun h => ?_)
      · rw [if_pos rfl] at hk
        exact hk
      · cases h
  · unfold pm_if at hr
    split at hr
    · cases hr
    · rename_i ht
      cases hr
      have hk := kk H locs ls hW hL hl
      refine lv_acmp_ne (rx := some (pm_ad o _)) (ry := none) hx hb hd (pm_tgt_spec ht) (fun h => ?_) (fun h => ?_)
      · rw [if_pos rfl] at hk
        exact hk
      · cases h
  · cases hr
end PSC
