-- ===== a run of the pure machine is a run of the machine =====
theorem pm_wobj : lw_tbl[117]? = some (.code Lib.objectInit ⟨#[0xb1]⟩ 1 none) := by decide +kernel
theorem pm_wobji : lw_tbl[116]? = some (.instanceMethod Lib.objectInit) := by decide +kernel
theorem pm_wmath : lw_tbl[108]? = some (.initialized "java/lang/Math") := by decide +kernel
theorem pm_wmax : lw_tbl[882]? = some (.code Lib.Math.max.name Lib.Math.max.code 2 (some .int)) := by decide +kernel
theorem pm_wmaxs : lw_tbl[881]? = some (.static Lib.Math.max.name) := by decide +kernel
theorem pm_wmin : lw_tbl[850]? = some (.code Lib.Math.min.name Lib.Math.min.code 2 (some .int)) := by decide +kernel
theorem pm_wmins : lw_tbl[849]? = some (.static Lib.Math.min.name) := by decide +kernel
theorem pm_wabs : lw_tbl[847]? = some (.code Lib.Math.abs.name Lib.Math.abs.code 1 (some .int)) := by decide +kernel
theorem pm_wabss : lw_tbl[846]? = some (.static Lib.Math.abs.name) := by decide +kernel
theorem pm_ret_ok {p : Program} {l : Launch} {e : Env} {R : Room} {s : State} {m : MethodId} {args : Array Value} {below : List Frame} {meth : Method} {c : Code} {o : Om} {M : pM} {G : List pE} {lv : pL} {st : List Value} {pc n cells slots : Nat} {i : Instr} {r : Option Value} (hF : pm_Fix p s m meth c M) (hd : decode M.code pc = .ok (i, n)) (hn : pm_len i n = n) (hr : pm_ret i M.ret st = some r) : PW p l e R s m args below meth c (MQ below (pm_Qc o r G) args s cells slots (fun q => o.B ≤ q)) o M pc lv st G cells slots := by
  intro H locs ls hW hL hl
  obtain ⟨hx, hb, hml, hown, hret, hlk, hnm⟩ := hF
  unfold pm_ret at hr
  split at hr
  · split at hr
    · rename_i ht
      cases hr
      obtain rfl : 1 = n := hn
      rw [ht] at hret
      exact W.vret hx hb hret (fun t ht _ => ⟨rfl, by rw [ht]; exact hW⟩) hL hd hlk
    · cases hr
  · split at hr
    · rename_i ty hty
      split at hr
      · rename_i hnr
        cases hr
        obtain rfl : 1 = n := hn
        rw [hty] at hret
        exact W.zret hx hb hret hnr.1 (fun t ht _ => ⟨rfl, by rw [ht]; exact hW⟩) hL hd hlk
      · cases hr
    · cases hr
  · split at hr
    · rename_i nm hty
      cases hr
      obtain rfl : 1 = n := hn
      rw [hty] at hret
      exact W.aret hx hb hret (Or.inl ⟨_, rfl⟩) (Or.inr ⟨_, rfl⟩) (fun t ht _ => ⟨rfl, by rw [ht]; exact hW⟩) hL hd hlk
    · cases hr
  · cases hr
/-- the pure run gives the machine's -/
def pm_Ok (o : Om) (f : Nat) : Prop := ∀ (d : Nat) (M : pM) (pc : Nat) (lv : pL) (st : List Value) (G : List pE) (c0 s0 : Nat) (r : Option Value) (G' : List pE) (c1 s1 : Nat), pm_run o.xs o.L o.J f d M pc lv st G c0 s0 = some (r, G', c1, s1) →
  ∀ (p : Program) (l : Launch) (e : Env) (R : Room) (s : State) (m : MethodId) (args : Array Value) (below : List Frame) (meth : Method) (c : Code), pm_Fix p s m meth c M → pm_K o s → d ≤ R.frames → 28 * d ≤ R.locals → c1 ≤ R.cells → s1 ≤ R.slots → c0 ≤ c1 ∧ s0 ≤ s1 ∧ PW p l e R s m args below meth c (MQ below (pm_Qc o r G') args s c1 s1 (fun q => o.B ≤ q)) o M pc lv st G c0 s0
/-- a method's contract out of its run -/
theorem pm_met {o : Om} {f : Nat} (ih : pm_Ok o f) {d k : Nat} {M : pM} {as : List Value} {G : List pE} {r : Option Value} {G' : List pE} {mc ms : Nat} (hM : pm_tab[k]? = some M) (hno : M.y.cls ≠ "java/lang/Object") (hl : (lg_sl as).length ≤ M.maxL) (hr : pm_run o.xs o.L o.J f d M 0 (lv_args 0 as) [] G 0 0 = some (r, G', mc, ms)) (l : Launch) : pm_Met l o M d as G r G' mc ms := by
  obtain ⟨q1, q2, q3, q4, -⟩ := pm_M hM hno
  refine Met.ofW (cc := M.code) (maxL := M.maxL) (ret := M.ret) q4 rfl ?_
  intro p e s m args below meth c s₁ B hml hv
  obtain ⟨rfl, hK, hW⟩ := hv
  have hown : s.vm.findClass (pm_own M.own) = some m.cls := by rw [← q2]; exact findClass_of_methodNamed B.named
  have hF : pm_Fix p s m meth c M := ⟨B.exec, B.bytes, hml, hown, B.returns, B.notSynchronized, (name_of_methodNamed B.named B.method).1⟩
  obtain ⟨-, -, hP⟩ := ih d M 0 _ [] G 0 0 r G' mc ms hr p l e (headSpec (pm_ws M) (pm_rm d mc ms)).room s m (as.map (pm_v o)).toArray below meth c hF hK (Nat.le_refl _) (Nat.le_refl _) (Nat.le_refl _) (Nat.le_refl _)
  have hl2 := lv_entry (as.map (pm_v o)) (n := M.maxL) (by rw [pm_sl_len]; exact hl)
  rw [lg_entry_eq]
  rw [pm_l_args] at hl2
  exact hP s.heap [] _ hW (fun q hq => by cases hq) hl2
set_option maxHeartbeats 4000000 in
theorem pm_run_ok (o : Om) : ∀ f, pm_Ok o f
  | 0 => by
    intro d M pc lv st G c0 s0 r G' c1 s1 h
    cases h
  | f + 1 => by
    have ih := pm_run_ok o f
    intro d M pc lv st G c0 s0 r G' c1 s1 h p l e R s m args below meth c hF hK hRf hRl hRc hRs
    rw [pm_run] at h
    split at h
    · cases h
    · rename_i i n hd
      split at h
      · rename_i hn
        split at h
        · rename_i r0 hret
          cases h
          exact ⟨Nat.le_refl _, Nat.le_refl _, pm_ret_ok hF hd hn hret⟩
        · rename_i hrn
          clear hrn
          split at h
          · -- a step
            split at h
            · rename_i pc' lv' st' G2 dc ds hst
              obtain ⟨h1, h2, hP⟩ := ih d M pc' lv' st' G2 (c0 + dc) (s0 + ds) r G' c1 s1 h p l e R s m args below meth c hF hK hRf hRl hRc hRs
              exact ⟨by omega, by omega, pm_step_ok hF hK hd hn hst (by omega) (by omega) hP⟩
            · cases h
          · -- a call
            rename_i w idx hcl
            split at h
            · cases h
            · rename_i q hfd
              have hn3 : n = 3 := by
                unfold pm_call at hcl
                split at hcl <;> first | exact hn.symm | cases hcl
              obtain ⟨hx, hb, hml, hown, hret, hlk, hnm⟩ := id hF
              obtain ⟨g1, g2, g3⟩ := pm_find2 hfd pm_c_ok
              unfold pm_cchk at g3
              split at h
              · -- Object()
                rename_i hq0
                split at h
                · rename_i a rr
                  split at h
                  · rename_i hok
                    obtain ⟨h1, h2, hP⟩ := ih d M (pc + 3) lv rr G c0 s0 r G' c1 s1 h p l e R s m args below meth c hF hK hRf hRl hRc hRs
                    refine ⟨h1, h2, fun H locs ls hW hL hl => ?_⟩
                    rw [hq0, if_neg (by omega)] at g3
                    split at g3
                    · cases g3
                    · rename_i M0 hM0
                      simp only [Bool.and_eq_true, decide_eq_true_eq] at g3
                      obtain ⟨⟨y1, -⟩, y2⟩ := g3
                      rw [g1, g2, y1] at y2
                      have hie : i = .invokespecial idx := by
                        unfold pm_call at hcl
                        split at hcl <;> first | (cases hcl; rfl) | (cases hcl; omega) | cases hcl
                      subst hie
                      subst hn3
                      have hsum : (((rr.map (pm_v o)).map fun v => v.category).sum) ≤ 8 := by rw [pm_cats]; exact hok.2.2
                      exact W.objInit hx hb hown (hK.word y2 rfl args) (hK.word pm_wobji rfl args) (hK.word pm_wobj rfl args) (a := pm_ad o a) (rest := rr.map (pm_v o)) rfl (by rw [hml]; exact hl.1) rfl hd (by omega) (by show 2 * 0 + _ + 12 ≤ _; omega) (hP H locs ls hW hL hl)
                  · cases h
                · cases h
              · -- Math.max
                rename_i hq0
                split at h
                · rename_i y x rr
                  split at h
                  · rename_i hok
                    obtain ⟨h1, h2, hP⟩ := ih d M (pc + 3) lv _ G c0 s0 r G' c1 s1 h p l e R s m args below meth c hF hK hRf hRl hRc hRs
                    refine ⟨h1, h2, fun H locs ls hW hL hl => ?_⟩
                    rw [hq0, if_pos (by omega)] at g3
                    have g3 := of_decide_eq_true g3
                    rw [g1, g2] at g3
                    have hie : i = .invokestatic idx := by
                      unfold pm_call at hcl
                      split at hcl <;> first | (cases hcl; rfl) | (cases hcl; omega) | cases hcl
                    subst hie
                    subst hn3
                    have hsum : (((rr.map (pm_v o)).map fun v => v.category).sum) ≤ 8 := by rw [pm_cats]; exact hok.2.2
                    exact va_mmax hx hb (by rw [hml]; exact hl.1.symm) hown (hK.word g3 rfl args) (hK.word pm_wmaxs rfl args) (hK.word pm_wmath rfl args) (hK.word pm_wmax rfl args) (by omega) (by omega) (by omega) (by omega) hd (hP H locs ls hW hL hl)
                  · cases h
                · cases h
              · -- Math.min
                rename_i hq0
                split at h
                · rename_i y x rr
                  split at h
                  · rename_i hok
                    obtain ⟨h1, h2, hP⟩ := ih d M (pc + 3) lv _ G c0 s0 r G' c1 s1 h p l e R s m args below meth c hF hK hRf hRl hRc hRs
                    refine ⟨h1, h2, fun H locs ls hW hL hl => ?_⟩
                    rw [hq0, if_pos (by omega)] at g3
                    have g3 := of_decide_eq_true g3
                    rw [g1, g2] at g3
                    have hie : i = .invokestatic idx := by
                      unfold pm_call at hcl
                      split at hcl <;> first | (cases hcl; rfl) | (cases hcl; omega) | cases hcl
                    subst hie
                    subst hn3
                    have hsum : (((rr.map (pm_v o)).map fun v => v.category).sum) ≤ 8 := by rw [pm_cats]; exact hok.2.2
                    exact va_mmin hx hb (by rw [hml]; exact hl.1.symm) hown (hK.word g3 rfl args) (hK.word pm_wmins rfl args) (hK.word pm_wmath rfl args) (hK.word pm_wmin rfl args) (by omega) (by omega) (by omega) (by omega) hd (hP H locs ls hW hL hl)
                  · cases h
                · cases h
              · -- Math.abs
                rename_i hq0
                split at h
                · rename_i x rr
                  split at h
                  · rename_i hok
                    obtain ⟨h1, h2, hP⟩ := ih d M (pc + 3) lv _ G c0 s0 r G' c1 s1 h p l e R s m args below meth c hF hK hRf hRl hRc hRs
                    refine ⟨h1, h2, fun H locs ls hW hL hl => ?_⟩
                    rw [hq0, if_pos (by omega)] at g3
                    have g3 := of_decide_eq_true g3
                    rw [g1, g2] at g3
                    have hie : i = .invokestatic idx := by
                      unfold pm_call at hcl
                      split at hcl <;> first | (cases hcl; rfl) | (cases hcl; omega) | cases hcl
                    subst hie
                    subst hn3
                    have hsum : (((rr.map (pm_v o)).map fun v => v.category).sum) ≤ 8 := by rw [pm_cats]; exact hok.2.2
                    exact va_mabs hx hb (by rw [hml]; exact hl.1.symm) hown (hK.word g3 rfl args) (hK.word pm_wabss rfl args) (hK.word pm_wmath rfl args) (hK.word pm_wabs rfl args) (by omega) (by omega) (by omega) (by omega) hd (hP H locs ls hW hL hl)
                  · cases h
                · cases h
              · -- a method of the tables
                rename_i z0 z7 z8 z9
                split at h
                · rename_i d' M' hM'
                  split at h
                  · rename_i hok
                    obtain ⟨k1, k2, k3, k4, k5⟩ := hok
                    split at h
                    · rename_i r1 G1 mc ms hcall
                      obtain ⟨h1, h2, hP⟩ := ih (d' + 1) M (pc + 3) lv _ G1 (c0 + mc) (s0 + ms) r G' c1 s1 h p l e R s m args below meth c hF hK hRf hRl hRc hRs
                      have hno : M'.y.cls ≠ "java/lang/Object" := by
                        rw [hM'] at g3
                        have hw : w = 1 ∨ w = 2 ∨ w = 3 := by
                          unfold pm_call at hcl
                          split at hcl <;> first | (cases hcl; omega) | cases hcl
                        rw [if_neg (by omega)] at g3
                        dsimp only at g3
                        rcases (show q.2.2.1 = 1 ∨ q.2.2.1 = 2 ∨ q.2.2.1 = 3 ∨ q.2.2.1 = 4 ∨ q.2.2.1 = 5 ∨ q.2.2.1 = 6 by omega) with e6 | e6 | e6 | e6 | e6 | e6 <;> rw [e6] at g3 <;> simp only [Bool.and_eq_true, decide_eq_true_eq] at g3
                        · exact g3.2.2.2
                        · exact g3.2.2
                        · exact g3.2.2.2.1
                        · exact g3.2.2.2
                        · exact g3.2.2
                        · exact g3.2.2.2.1
                      have hMet := pm_met ih hM' hno k4 hcall l
                      exact ⟨by omega, by omega, pm_call_ok hF hK hd hn hcl hfd ⟨fun z => z0 z, fun z => z7 z, fun z => z8 z, fun z => z9 z⟩ k1 hM' k2 k3 k5 hRf hRl hMet (by omega) (by omega) hP⟩
                    · cases h
                  · cases h
                · cases h
      · cases h
