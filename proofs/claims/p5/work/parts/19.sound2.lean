-- ===== the abstract step holds: cells, constants, switches =====
section XE
variable {tb : Nat → xT} {th : List Nat} {E : List (Nat × Nat × Nat)} {m0 own nL pc : Nat} {ini : Bool} {xs : Nat → Int32} {L J : Nat} {v : Nat → Int} {cs : List xL} {lo : List (Nat × xV)} {st : List xV} {fa : List xA} {nx : Nat} {lv : pL} {ws : List Value} {G : List pE} {out : List (Nat × xG)}
theorem x_idx_ok (hB : x_Bd v) (hC : x_Cs cs v) {l : xL} {n : Nat} {j : Int32} (h : x_idx cs l n = true) (hj : j.toInt = xl_ev l v) : ∃ k : Nat, k < n ∧ j.toNatClampNeg = k ∧ (k : Int) = xl_ev l v ∧ pm_bad j n = false ∧ x_lb cs l ≤ k ∧ (k : Int) ≤ x_ub cs l ∧ (x_lb cs l).toNat ≤ k ∧ k ≤ (x_ub cs l).toNat := by
  unfold x_idx at h
  rw [Bool.and_eq_true] at h
  have h1 := x_ent_ok hB hC h.1
  have h2 := x_ent_ok hB hC h.2
  rw [xl_sub_ev, xl_c_ev] at h2
  obtain ⟨k, k1, rfl, k3⟩ := x_of_nn (x := j) (by omega)
  have b1 := x_lb_ok hB hC l
  have b2 := x_lb_ok hB hC (xl_mul (-1) l)
  rw [xl_mul_ev] at b2
  have hcl : (nI k).toNatClampNeg = k := nI_clamp k1
  refine ⟨k, by omega, hcl, by omega, ?_, by omega, by unfold x_ub; omega, by omega, by unfold x_ub; omega⟩
  unfold pm_bad
  rw [hcl, decide_eq_false (by rw [Int32.lt_iff_toInt_lt]; show ¬ (nI k).toInt < 0; omega), decide_eq_false (by omega)]
  rfl
theorem x_arr_int {T : xT} {e : pE} (h : x_shape T e) (h1 : T.1 = 1) (hc : T.2.1 < 3) : ∃ f : Nat → Int32, e = .inl (T.2.1, T.2.2.1, .inl f) := by
  unfold x_shape at h
  split at h
  · omega
  · obtain ⟨-, rfl, rfl, -⟩ := h; exact ⟨_, rfl⟩
  · omega
  · omega
  · exact h.elim
theorem x_arr_long {T : xT} {e : pE} (h : x_shape T e) (h1 : T.1 = 1) (hc : T.2.1 = 3) : ∃ f : Nat → Int64, e = .inl (3, T.2.2.1, .inr (.inl f)) := by
  unfold x_shape at h
  split at h
  · omega
  · omega
  · obtain ⟨-, h2, rfl, rfl⟩ := h; exact ⟨_, rfl⟩
  · omega
  · exact h.elim
theorem x_arr_ref {T : xT} {e : pE} (h : x_shape T e) (h1 : T.1 = 1) (hc : 4 ≤ T.2.1) : T.2.1 ≤ 9 ∧ ∃ g : Nat → Option Nat, e = .inl (T.2.1, T.2.2.1, .inr (.inr (.inr (.inr g)))) := by
  unfold x_shape at h
  split at h
  · omega
  · omega
  · omega
  · obtain ⟨-, rfl, rfl, -, h9⟩ := h; exact ⟨h9, _, rfl⟩
  · exact h.elim
theorem x_obj {T : xT} {e : pE} (h : x_shape T e) (h1 : T.1 = 0) : ∃ fs : List Value, e = .inr (T.2.1, fs) ∧ fs.length = T.2.2.1 := by
  unfold x_shape at h
  split at h
  · obtain ⟨-, rfl, h3⟩ := h; exact ⟨_, rfl, h3⟩
  · omega
  · omega
  · omega
  · exact h.elim
theorem x_over_mem {lw hi : Int} {f : xF} : ∀ (r : List (Nat × xF)) (off : Int) (i : Nat), x_at r i = some f → lw ≤ off + i → off + i ≤ hi → f ∈ x_over lw hi off r
  | [], _, _, h, _, _ => by cases h
  | q :: r, off, i, h, h1, h2 => by
    unfold x_at at h
    unfold x_over
    split at h
    · rename_i hi0
      cases h
      rw [if_neg (by omega)]
      exact List.mem_cons_self
    · rename_i hi0
      have ih := x_over_mem (lw := lw) (hi := hi) r (off + q.1) (i - q.1) h (by omega) (by omega)
      split
      · exact ih
      · exact List.mem_cons_of_mem _ ih
theorem x_min_le {f : xF} : ∀ {l : List xF}, f ∈ l → x_min l ≤ f.2.1
  | [], h => by cases h
  | g :: r, h => by
    unfold x_min
    rcases List.mem_cons.mp h with rfl | h
    · split <;> omega
    · have := x_min_le h
      split <;> omega
theorem x_max_ge {f : xF} : ∀ {l : List xF}, f ∈ l → f.2.2 ≤ x_max l
  | [], h => by cases h
  | g :: r, h => by
    unfold x_max
    rcases List.mem_cons.mp h with rfl | h
    · split <;> omega
    · have := x_max_ge h
      split <;> omega
theorem x_ald_ok {m0 pc' t b k n0 : Nat} {full st' : List xV} {j : xL} {rest : List Value} {x : Int32} (hT : x_wf tb) (hS : x_S tb th v (cs, lo, full, fa, n0) lv ws G) (h : x_ald tb m0 pc' cs lo full st' fa nx t j = some out) (ht : th[b]? = some t) (hk : k < (tb t).2.2.1) (hw : x_sl G b k = some (.int x)) (h1 : x_lb cs j ≤ k) (h2 : (k : Int) ≤ x_ub cs j) (hp : ∀ v', x_S tb th v' (cs, lo, full, fa, n0) lv ws G → x_gs th v' st' rest) : ∃ q ∈ out, ∃ v', x_ag m0 v v' ∧ q.1 = pc' ∧ x_S tb th v' q.2 lv (.int x :: rest) G := by
  unfold x_ald at h
  split at h
  · rename_i hall
    obtain ⟨f, hf⟩ := hT t k hk
    obtain ⟨w, g1, g2⟩ := (hS.2.2.2.2.2.2.2 b t ht).2 k f hf
    rw [hw] at g1
    cases g1
    have hm := x_over_mem (lw := x_lb cs j) (hi := x_ub cs j) _ 0 k hf (by omega) (by omega)
    have h0 : f.1 = 0 := by simpa using List.all_eq_true.mp hall f hm
    unfold xf_ok at g2
    rw [h0] at g2
    obtain ⟨y, hy, b1, b2⟩ := g2
    cases hy
    have m1 := x_min_le hm
    have m2 := x_max_ge hm
    refine x_hv_ok hS h x (fun v' hS' hv' => ⟨?_, hp v' hS'⟩)
    intro c hc
    rcases List.mem_cons.mp hc with rfl | hc
    · rw [xl_add_ev, xl_s_ev, xl_c_ev, hv']
      omega
    · rw [List.mem_singleton.mp hc, xl_sub_ev, xl_s_ev, xl_c_ev, hv']
      omega
  · cases h
theorem x_tab_ok {l : xL} {x : Int32} (hS : x_S tb th v (cs, lo, st, fa, nx) lv ws G) (hx : x.toInt = xl_ev l v) : ∀ (os : List Int) (k : Int) (out : List (Nat × xG)), x_tab pc l cs lo st fa nx k os = some out → ∀ n : Nat, n < os.length → x.toInt = k + n → ∃ q ∈ out, ∃ o', os[n]? = some o' ∧ pm_tgt pc o' = some q.1 ∧ x_S tb th v q.2 lv ws G
  | [], _, _, _, n, hn, _ => by simp at hn
  | o' :: os, k, out, h, n, hn, hk => by
    unfold x_tab at h
    split at h
    · rename_i t r ht hr
      cases h
      cases n with
      | zero =>
        obtain ⟨d, hd, hv⟩ := x_cnd_ok (v := v) (c := .eq) (l := xl_add l (xl_c (-k))) (x := x) (y := x) (by rw [xl_add_ev, xl_c_ev]; omega) (by simp [pm_holds])
        obtain ⟨q, q1, q2, q3⟩ := x_brs_ok (pc := t) (nx := nx) hS hd hv
        exact ⟨q, List.mem_append_left _ q1, o', rfl, by rw [q2]; exact ht, q3⟩
      | succ n =>
        obtain ⟨q, q1, o2, q2, q3, q4⟩ := x_tab_ok hS hx os (k + 1) r hr n (by simpa using hn) (by omega)
        exact ⟨q, List.mem_append_right _ q1, o2, q2, q3, q4⟩
    · cases h
theorem x_lkt_ok {l : xL} {x : Int32} {d : Int} (hS : x_S tb th v (cs, lo, st, fa, nx) lv ws G) (hx : x.toInt = xl_ev l v) : ∀ (ps : List (Int × Int)) (out : List (Nat × xG)), x_lkt pc l cs lo st fa nx ps = some out → (∃ q ∈ out, pm_tgt pc (Op.lookupswitch.offset ps d x.toInt) = some q.1 ∧ x_S tb th v q.2 lv ws G) ∨ Op.lookupswitch.offset ps d x.toInt = d
  | [], _, _ => Or.inr rfl
  | p :: ps, out, h => by
    unfold x_lkt at h
    split at h
    · rename_i t r ht hr
      cases h
      obtain ⟨pa, po⟩ := p
      rw [Op.lookupswitch.offset_cons]
      by_cases hp : x.toInt = pa
      · rw [if_pos (by first | exact hp | exact hp.symm | simp [hp])]
        obtain ⟨d, hd, hv⟩ := x_cnd_ok (v := v) (c := .eq) (l := xl_add l (xl_c (-pa))) (x := x) (y := x) (by rw [xl_add_ev, xl_c_ev]; omega) (by simp [pm_holds])
        obtain ⟨q, q1, q2, q3⟩ := x_brs_ok (pc := t) (nx := nx) hS hd hv
        exact Or.inl ⟨q, List.mem_append_left _ q1, by rw [q2]; exact ht, q3⟩
      · rw [if_neg (by first | exact hp | exact fun z => hp z.symm | simp [hp])]
        rcases x_lkt_ok (d := d) hS hx ps r hr with ⟨q, q1, q2, q3⟩ | h
        · exact Or.inl ⟨q, List.mem_append_right _ q1, q2, q3⟩
        · exact Or.inr h
    · cases h
set_option maxHeartbeats 1000000 in
theorem xs_ldc {k : Nat} (hS : x_S tb th v (cs, lo, st, fa, nx) lv ws G) (h : x_step tb E m0 own nL (.ldc k) pc cs lo st fa nx = some out) : x_Go tb th E m0 own nL ini xs L J (.ldc k) pc v lv ws G out := by
  obtain ⟨hB, hC, hlo, hst, hfa, hI⟩ := id hS
  have hC : x_Cs cs v := hC
  dsimp only [x_step] at h
  split at h
  · rename_i r hf
    cases h
    exact ⟨_, List.mem_singleton.mpr rfl, v, lv, _, G, x_ag.rf, by dsimp only [pm_step]; rw [hf], x_psh hS ⟨_, rfl, by rw [xl_c_ev]⟩ hst, x_eff.rf⟩
  · cases h
set_option maxHeartbeats 1000000 in
theorem xs_ldc_w {k : Nat} (hS : x_S tb th v (cs, lo, st, fa, nx) lv ws G) (h : x_step tb E m0 own nL (.ldc_w k) pc cs lo st fa nx = some out) : x_Go tb th E m0 own nL ini xs L J (.ldc_w k) pc v lv ws G out := by
  obtain ⟨hB, hC, hlo, hst, hfa, hI⟩ := id hS
  have hC : x_Cs cs v := hC
  dsimp only [x_step] at h
  split at h
  · rename_i r hf
    cases h
    exact ⟨_, List.mem_singleton.mpr rfl, v, lv, _, G, x_ag.rf, by dsimp only [pm_step]; rw [hf], x_psh hS ⟨_, rfl, by rw [xl_c_ev]⟩ hst, x_eff.rf⟩
  · cases h
set_option maxHeartbeats 1000000 in
theorem xs_ldc2_w {k : Nat} (hS : x_S tb th v (cs, lo, st, fa, nx) lv ws G) (h : x_step tb E m0 own nL (.ldc2_w k) pc cs lo st fa nx = some out) : x_Go tb th E m0 own nL ini xs L J (.ldc2_w k) pc v lv ws G out := by
  obtain ⟨hB, hC, hlo, hst, hfa, hI⟩ := id hS
  have hC : x_Cs cs v := hC
  dsimp only [x_step] at h
  split at h
  · rename_i r hf
    cases h
    exact ⟨_, List.mem_singleton.mpr rfl, v, lv, _, G, x_ag.rf, by dsimp only [pm_step]; rw [hf], x_psh hS ⟨_, rfl⟩ hst, x_eff.rf⟩
  · cases h
set_option maxHeartbeats 1000000 in
theorem xs_getstatic {k : Nat} (hS : x_S tb th v (cs, lo, st, fa, nx) lv ws G) (h : x_step tb E m0 own nL (.getstatic k) pc cs lo st fa nx = some out) : x_Go tb th E m0 own nL ini xs L J (.getstatic k) pc v lv ws G out := by
  obtain ⟨hB, hC, hlo, hst, hfa, hI⟩ := id hS
  have hC : x_Cs cs v := hC
  dsimp only [x_step] at h
  split at h
  · rename_i r hf
    cases h
    by_cases hlt : r.2.2.1 < 35
    · exact ⟨_, List.mem_singleton.mpr rfl, v, lv, .ref (pm_TB + r.2.2.1) :: ws, G, x_ag.rf, by dsimp only [pm_step]; rw [hf]; dsimp only; rw [if_pos hlt], x_psh hS (by rw [if_pos hlt]; exact ⟨_, rfl, by simp [pm_isTok, hlt]⟩) hst, x_eff.rf⟩
    · exact ⟨_, List.mem_singleton.mpr rfl, v, lv, .ref pm_KB :: ws, G, x_ag.rf, by dsimp only [pm_step]; rw [hf]; dsimp only; rw [if_neg hlt], x_psh hS (by rw [if_neg hlt]; rfl) hst, x_eff.rf⟩
  · cases h
set_option maxHeartbeats 1000000 in
theorem xs_if_acmp {c : ACond} {k : Int} (hS : x_S tb th v (cs, lo, st, fa, nx) lv ws G) (h : x_step tb E m0 own nL (.if_acmp c k) pc cs lo st fa nx = some out) : x_Go tb th E m0 own nL ini xs L J (.if_acmp c k) pc v lv ws G out := by
  obtain ⟨hB, hC, hlo, hst, hfa, hI⟩ := id hS
  have hC : x_Cs cs v := hC
  dsimp only [x_step] at h
  split at h
  · rename_i a b r
    obtain ⟨w1, r1, rfl, g1, hs1⟩ := x_gs_cons hst
    obtain ⟨w2, r2, rfl, g2, hs2⟩ := x_gs_cons hs1
    split at h
    · rename_i hk
      split at h
      · rename_i t ht
        cases h
        have fin : ∀ bb : Bool, ∃ q ∈ [(t, ((cs, lo, r, fa, nx) : xG)), (pc + 3, ((cs, lo, r, fa, nx) : xG))], pm_if bb pc k lv r2 G = some (q.1, lv, r2, G, 0, 0) ∧ x_S tb th v q.2 lv r2 G := by
          intro bb
          unfold pm_if
          rw [ht]
          cases bb
          · exact ⟨_, List.mem_cons_of_mem _ List.mem_cons_self, rfl, hB, hC, hlo, hs2, hfa, hI⟩
          · exact ⟨_, List.mem_cons_self, rfl, hB, hC, hlo, hs2, hfa, hI⟩
        obtain ⟨ak, al⟩ := a
        obtain ⟨bk, bl⟩ := b
        rcases hk with ⟨h1, h2⟩ | ⟨h1, h2⟩ | ⟨h1, h2⟩
        · obtain rfl : ak = 3 := h1
          obtain rfl : bk = 3 := h2
          obtain ⟨k1, rfl, t1⟩ := g1
          obtain ⟨k2, rfl, t2⟩ := g2
          obtain ⟨q, q1, q2, q3⟩ := fin _
          exact ⟨q, q1, v, lv, r2, G, x_ag.rf, by dsimp only [pm_step]; rw [if_pos (by rw [t1, t2]; rfl)]; exact q2, q3, x_eff.rf⟩
        · obtain rfl : ak = 3 := h1
          obtain rfl : bk = 4 := h2
          obtain ⟨k1, rfl, t1⟩ := g1
          rcases g2 with rfl | ⟨k2, rfl, t2⟩
          · obtain ⟨q, q1, q2, q3⟩ := fin _
            exact ⟨q, q1, v, lv, r2, G, x_ag.rf, q2, q3, x_eff.rf⟩
          · obtain ⟨q, q1, q2, q3⟩ := fin _
            exact ⟨q, q1, v, lv, r2, G, x_ag.rf, by dsimp only [pm_step]; rw [if_pos (by rw [t1, t2]; rfl)]; exact q2, q3, x_eff.rf⟩
        · obtain rfl : ak = 4 := h1
          obtain rfl : bk = 3 := h2
          obtain ⟨k2, rfl, t2⟩ := g2
          rcases g1 with rfl | ⟨k1, rfl, t1⟩
          · obtain ⟨q, q1, q2, q3⟩ := fin _
            exact ⟨q, q1, v, lv, r2, G, x_ag.rf, q2, q3, x_eff.rf⟩
          · obtain ⟨q, q1, q2, q3⟩ := fin _
            exact ⟨q, q1, v, lv, r2, G, x_ag.rf, by dsimp only [pm_step]; rw [if_pos (by rw [t1, t2]; rfl)]; exact q2, q3, x_eff.rf⟩
      · cases h
    · cases h
  · cases h
set_option maxHeartbeats 1000000 in
theorem xs_tableswitch {d lw hi : Int} {offs : Array Int} (hS : x_S tb th v (cs, lo, st, fa, nx) lv ws G) (h : x_step tb E m0 own nL (.tableswitch d lw hi offs) pc cs lo st fa nx = some out) : x_Go tb th E m0 own nL ini xs L J (.tableswitch d lw hi offs) pc v lv ws G out := by
  obtain ⟨hB, hC, hlo, hst, hfa, hI⟩ := id hS
  have hC : x_Cs cs v := hC
  dsimp only [x_step] at h
  split at h
  · rename_i l r
    obtain ⟨w1, r1, rfl, g1, hs1⟩ := x_gs_cons hst
    obtain ⟨x, rfl, ex⟩ := x_g0 g1
    have hS1 : x_S tb th v (cs, lo, r, fa, nx) lv r1 G := ⟨hB, hC, hlo, hs1, hfa, hI⟩
    split at h
    · rename_i t q0 ht hq0
      split at h
      · rename_i hhi
        cases h
        by_cases hlow : x.toInt < lw
        · obtain ⟨dd, hd, hv⟩ : ∃ dd ∈ x_cnd .lt (xl_add l (xl_c (-lw))), x_Cs dd v := ⟨_, List.mem_singleton.mpr rfl, fun c hc => by rw [List.mem_singleton.mp hc, xl_add_ev, xl_mul_ev, xl_add_ev, xl_c_ev, xl_c_ev]; omega⟩
          obtain ⟨q, q1, q2, q3⟩ := x_brs_ok (pc := t) (nx := nx) hS1 hd hv
          exact ⟨q, List.mem_append_left _ q1, v, lv, r1, G, x_ag.rf, by dsimp only [pm_step]; rw [if_pos (Or.inl hlow), ht, q2], q3, x_eff.rf⟩
        · by_cases hhigh : hi < x.toInt
          · obtain ⟨dd, hd, hv⟩ : ∃ dd ∈ x_cnd .gt (xl_add l (xl_c (-hi))), x_Cs dd v := ⟨_, List.mem_singleton.mpr rfl, fun c hc => by rw [List.mem_singleton.mp hc, xl_add_ev, xl_add_ev, xl_c_ev, xl_c_ev]; omega⟩
            obtain ⟨q, q1, q2, q3⟩ := x_brs_ok (pc := t) (nx := nx) hS1 hd hv
            exact ⟨q, List.mem_append_right _ (List.mem_append_left _ q1), v, lv, r1, G, x_ag.rf, by dsimp only [pm_step]; rw [if_pos (Or.inr hhigh), ht, q2], q3, x_eff.rf⟩
          · obtain ⟨q, q1, o2, q2, q3, q4⟩ := x_tab_ok hS1 ex _ _ _ hq0 (x.toInt - lw).toNat (by omega) (by omega)
            have q2b : offs[(x.toInt - lw).toNat]? = some o2 := by rw [← Array.getElem?_toList]; exact q2
            exact ⟨q, List.mem_append_right _ (List.mem_append_right _ q1), v, lv, r1, G, x_ag.rf, by dsimp only [pm_step]; rw [if_neg (fun z => z.elim hlow hhigh), q2b]; dsimp only; rw [q3], q4, x_eff.rf⟩
      · cases h
    · cases h
  · cases h
set_option maxHeartbeats 1000000 in
theorem xs_lookupswitch {d : Int} {ps : Array (Int × Int)} (hS : x_S tb th v (cs, lo, st, fa, nx) lv ws G) (h : x_step tb E m0 own nL (.lookupswitch d ps) pc cs lo st fa nx = some out) : x_Go tb th E m0 own nL ini xs L J (.lookupswitch d ps) pc v lv ws G out := by
  obtain ⟨hB, hC, hlo, hst, hfa, hI⟩ := id hS
  have hC : x_Cs cs v := hC
  dsimp only [x_step] at h
  split at h
  · rename_i l r
    obtain ⟨w1, r1, rfl, g1, hs1⟩ := x_gs_cons hst
    obtain ⟨x, rfl, ex⟩ := x_g0 g1
    have hS1 : x_S tb th v (cs, lo, r, fa, nx) lv r1 G := ⟨hB, hC, hlo, hs1, hfa, hI⟩
    split at h
    · rename_i t q0 ht hq0
      split at h
      · rename_i hso
        cases h
        rcases x_lkt_ok (d := d) hS1 ex _ _ hq0 with ⟨q, q1, q2, q3⟩ | hdef
        · exact ⟨q, List.mem_cons_of_mem _ q1, v, lv, r1, G, x_ag.rf, by dsimp only [pm_step]; rw [if_pos hso, q2], q3, x_eff.rf⟩
        · exact ⟨_, List.mem_cons_self, v, lv, r1, G, x_ag.rf, by dsimp only [pm_step]; rw [if_pos hso, hdef, ht], hS1, x_eff.rf⟩
      · cases h
    · cases h
  · cases h
set_option maxHeartbeats 1000000 in
theorem xs_getfield {k : Nat} (hS : x_S tb th v (cs, lo, st, fa, nx) lv ws G) (h : x_step tb E m0 own nL (.getfield k) pc cs lo st fa nx = some out) : x_Go tb th E m0 own nL ini xs L J (.getfield k) pc v lv ws G out := by
  obtain ⟨hB, hC, hlo, hst, hfa, hI⟩ := id hS
  have hC : x_Cs cs v := hC
  dsimp only [x_step] at h
  split at h
  · rename_i a r
    obtain ⟨w1, r1, rfl, g1, hs1⟩ := x_gs_cons hst
    split at h
    · rename_i h3
      split at h
      · rename_i hok
        cases h
        obtain ⟨ak, al⟩ := a
        obtain rfl : ak = 3 := h3
        obtain ⟨b, rfl, tk⟩ := g1
        exact ⟨_, List.mem_singleton.mpr rfl, v, lv, _, G, x_ag.rf, by dsimp only [pm_step]; rw [if_pos tk, if_pos hok], x_psh hS ⟨_, rfl⟩ hs1, x_eff.rf⟩
      · cases h
    · split at h
      · rename_i h10
        split at h
        · rename_i q hf
          split at h
          · rename_i hty
            obtain ⟨b, rfl, eb, tb1⟩ := x_g_cell g1 h10
            obtain ⟨e, he, hsh⟩ := (hI.2.2 b _ tb1).1
            obtain ⟨fs, rfl, hlen⟩ := x_obj hsh hty.1
            have hnt := (hI.cell tb1).2.1
            cases hv0 : fs[q.2.2.2.1]? with
            | none =>
              exfalso
              unfold x_rd at h
              split at h
              · rename_i f0 hf0
                have hz := List.find?_some hf0
                simp only [Bool.and_eq_true, beq_iff_eq, decide_eq_true_eq] at hz
                obtain ⟨a2, z1, z2, w2, z3, -⟩ := hfa f0 (List.mem_of_find?_eq_some hf0)
                rw [hz.2, ← eb] at z1
                have hab : a2 = b := by omega
                rw [hab, hz.1.2] at z3
                unfold x_sl at z3
                rw [he] at z3
                have z3 : fs[q.2.2.2.1]? = some w2 := z3
                rw [hv0] at z3
                cases z3
              · split at h
                · rename_i f0 hf0
                  obtain ⟨w2, z3, -⟩ := (hI.2.2 b _ tb1).2 _ _ hf0
                  unfold x_sl at z3
                  rw [he] at z3
                  have z3 : fs[q.2.2.2.1]? = some w2 := z3
                  rw [hv0] at z3
                  cases z3
                · cases h
            | some w0 =>
              have hsl : x_sl G b q.2.2.2.1 = some w0 := by unfold x_sl; rw [he]; exact hv0
              obtain ⟨o1, o2, v', o3, o4, o5⟩ := x_rd_ok (rest := r1) hS h eb tb1 hsl ⟨a, List.mem_cons_self, rfl⟩ (fun v' hS' => hS'.2.2.2.1.2)
              exact ⟨o1, o2, v', lv, _, G, o3, by dsimp only [pm_step]; rw [if_neg (by rw [hnt]; decide), hf]; dsimp only; rw [he]; dsimp only; rw [if_pos hty.2, hv0, o4], o5, x_eff.rf⟩
          · cases h
        · cases h
      · cases h
  · cases h
set_option maxHeartbeats 1000000 in
theorem xs_putfield {k : Nat} (hS : x_S tb th v (cs, lo, st, fa, nx) lv ws G) (h : x_step tb E m0 own nL (.putfield k) pc cs lo st fa nx = some out) : x_Go tb th E m0 own nL ini xs L J (.putfield k) pc v lv ws G out := by
  obtain ⟨hB, hC, hlo, hst, hfa, hI⟩ := id hS
  have hC : x_Cs cs v := hC
  dsimp only [x_step] at h
  split at h
  · rename_i a b r
    obtain ⟨w1, r1, rfl, g1, hs1⟩ := x_gs_cons hst
    obtain ⟨w2, r2, rfl, g2, hs2⟩ := x_gs_cons hs1
    split at h
    · rename_i h10
      split at h
      · rename_i q hf
        split at h
        · rename_i f hfa1
          split at h
          · rename_i hok
            cases h
            obtain ⟨k1, k2, k3, k4, k5, k6, k7⟩ := hok
            obtain ⟨c, rfl, ec, tc⟩ := x_g_cell g2 h10
            obtain ⟨e, he, hsh⟩ := (hI.2.2 c _ tc).1
            obtain ⟨fs, rfl, hlen⟩ := x_obj hsh k1
            have hfit := x_fit_ok hB hC k6 g1
            obtain ⟨j1, j2⟩ := x_jty_ok k5 hfit
            have hlt : q.2.2.2.1 < fs.length := by omega
            have hu := x_upd_put (v := w1) he hlt
            obtain ⟨q9, e1, e2, e3, e4⟩ := x_cov_ok k7
            refine ⟨_, List.mem_singleton.mpr rfl, v, lv, r2, _, x_ag.rf, ?_, ⟨hB, hC, hlo, hs2, fun f9 hf9 => ?_, hI.upd hu tc (fun f8 h8 => ?_)⟩, x_eff.upd hu tc e1 e2 e3 e4⟩
            · dsimp only [pm_step]
              rw [hf]
              dsimp only
              rw [he]
              dsimp only
              rw [k2, if_pos ⟨rfl, hlt, j1, j2, fun z => by rw [k4] at z; cases z⟩]
            · rcases List.mem_cons.mp hf9 with rfl | hf9
              · exact ⟨c, ec, tc, w1, by rw [hu.2.1]; simp, g1⟩
              · exact x_kill_ok hu tc (Nat.le_refl _) (Nat.le_refl _) hfa f9 hf9
            · rw [hfa1] at h8
              cases h8
              exact hfit
          · cases h
        · cases h
      · cases h
    · cases h
  · cases h
set_option maxHeartbeats 1000000 in
theorem xs_iaload  (hT : x_wf tb) (hS : x_S tb th v (cs, lo, st, fa, nx) lv ws G) (h : x_step tb E m0 own nL (.iaload) pc cs lo st fa nx = some out) : x_Go tb th E m0 own nL ini xs L J (.iaload) pc v lv ws G out := by
  obtain ⟨hB, hC, hlo, hst, hfa, hI⟩ := id hS
  have hC : x_Cs cs v := hC
  dsimp only [x_step] at h
  split at h
  · rename_i lj b r
    obtain ⟨w1, r1, rfl, g1, hs1⟩ := x_gs_cons hst
    obtain ⟨w2, r2, rfl, g2, hs2⟩ := x_gs_cons hs1
    split at h
    · rename_i hk
      obtain ⟨j, rfl, ej⟩ := x_g0 g1
      obtain ⟨c, rfl, ec, tc⟩ := x_g_cell g2 hk.1
      obtain ⟨e, he, hsh⟩ := (hI.2.2 c _ tc).1
      obtain ⟨n, n1, n2, n3, n4, n5, n6, n7, n8⟩ := x_idx_ok hB hC hk.2.2.2 ej
      obtain ⟨f, rfl⟩ := x_arr_int hsh hk.2.1 (by omega)
      have hsl : x_sl G c n = some (.int (f n)) := by unfold x_sl; rw [he]; show (if n < _ then _ else _) = _; rw [if_pos n1]
      have hpm : pm_step own nL ini xs L J .iaload pc lv (.int j :: .ref c :: r2) G = some (pc + 1, lv, .int (f n) :: r2, G, 0, 0) := by
        dsimp only [pm_step]
        rw [if_neg (hI.cell tc).2.2.1, he, hk.2.2.1]
        show (if pm_bad j _ = true then none else some (pc + 1, lv, Value.int (f j.toNatClampNeg) :: r2, G, 0, 0)) = _
        rw [n4, n2]
        rfl
      split at h
      · rename_i hj0
        have hn : lj.2.toNat = n := by
          have : xl_ev lj v = lj.2 := by unfold xl_ev; rw [hj0]; simp [xt_ev]
          omega
        rw [hn] at h
        obtain ⟨o1, o2, v', o3, o4, o5⟩ := x_rd_ok (rest := r2) hS h ec tc hsl ⟨b, List.mem_cons_of_mem _ List.mem_cons_self, rfl⟩ (fun v' hS' => hS'.2.2.2.1.2.2)
        exact ⟨o1, o2, v', lv, _, G, o3, by rw [o4]; exact hpm, o5, x_eff.rf⟩
      · obtain ⟨o1, o2, v', o3, o4, o5⟩ := x_ald_ok (rest := r2) hT hS h tc n1 hsl n5 n6 (fun v' hS' => hS'.2.2.2.1.2.2)
        exact ⟨o1, o2, v', lv, _, G, o3, by rw [o4]; exact hpm, o5, x_eff.rf⟩
    · cases h
  · cases h
set_option maxHeartbeats 1000000 in
theorem xs_baload  (hT : x_wf tb) (hS : x_S tb th v (cs, lo, st, fa, nx) lv ws G) (h : x_step tb E m0 own nL (.baload) pc cs lo st fa nx = some out) : x_Go tb th E m0 own nL ini xs L J (.baload) pc v lv ws G out := by
  obtain ⟨hB, hC, hlo, hst, hfa, hI⟩ := id hS
  have hC : x_Cs cs v := hC
  dsimp only [x_step] at h
  split at h
  · rename_i lj b r
    obtain ⟨w1, r1, rfl, g1, hs1⟩ := x_gs_cons hst
    obtain ⟨w2, r2, rfl, g2, hs2⟩ := x_gs_cons hs1
    split at h
    · rename_i hk
      obtain ⟨j, rfl, ej⟩ := x_g0 g1
      obtain ⟨c, rfl, ec, tc⟩ := x_g_cell g2 hk.1
      obtain ⟨e, he, hsh⟩ := (hI.2.2 c _ tc).1
      obtain ⟨n, n1, n2, n3, n4, n5, n6, n7, n8⟩ := x_idx_ok hB hC hk.2.2.2 ej
      obtain ⟨f, rfl⟩ := x_arr_int hsh hk.2.1 (by omega)
      have hsl : x_sl G c n = some (.int (f n)) := by unfold x_sl; rw [he]; show (if n < _ then _ else _) = _; rw [if_pos n1]
      have hpm : pm_step own nL ini xs L J .baload pc lv (.int j :: .ref c :: r2) G = some (pc + 1, lv, .int (f n) :: r2, G, 0, 0) := by
        dsimp only [pm_step]
        rw [he]
        rcases hk.2.2.1 with hc | hc <;> (rw [hc]; show (if pm_bad j _ = true then none else some (pc + 1, lv, Value.int (f j.toNatClampNeg) :: r2, G, 0, 0)) = _; rw [n4, n2]; rfl)
      obtain ⟨o1, o2, v', o3, o4, o5⟩ := x_ald_ok (rest := r2) hT hS h tc n1 hsl n5 n6 (fun v' hS' => hS'.2.2.2.1.2.2)
      exact ⟨o1, o2, v', lv, _, G, o3, by rw [o4]; exact hpm, o5, x_eff.rf⟩
    · cases h
  · cases h
set_option maxHeartbeats 1000000 in
theorem xs_laload  (hS : x_S tb th v (cs, lo, st, fa, nx) lv ws G) (h : x_step tb E m0 own nL (.laload) pc cs lo st fa nx = some out) : x_Go tb th E m0 own nL ini xs L J (.laload) pc v lv ws G out := by
  obtain ⟨hB, hC, hlo, hst, hfa, hI⟩ := id hS
  have hC : x_Cs cs v := hC
  dsimp only [x_step] at h
  split at h
  · rename_i lj b r
    obtain ⟨w1, r1, rfl, g1, hs1⟩ := x_gs_cons hst
    obtain ⟨w2, r2, rfl, g2, hs2⟩ := x_gs_cons hs1
    split at h
    · rename_i hk
      cases h
      obtain ⟨j, rfl, ej⟩ := x_g0 g1
      obtain ⟨c, rfl, ec, tc⟩ := x_g_cell g2 hk.1
      obtain ⟨e, he, hsh⟩ := (hI.2.2 c _ tc).1
      obtain ⟨n, n1, n2, n3, n4, -⟩ := x_idx_ok hB hC hk.2.2.2 ej
      obtain ⟨f, rfl⟩ := x_arr_long hsh hk.2.1 hk.2.2.1
      exact ⟨_, List.mem_singleton.mpr rfl, v, lv, .long (f n) :: r2, G, x_ag.rf, by dsimp only [pm_step]; rw [he]; show (if pm_bad j _ = true then none else some (pc + 1, lv, Value.long (f j.toNatClampNeg) :: r2, G, 0, 0)) = _; rw [n4, n2]; rfl, x_psh hS ⟨_, rfl⟩ hs2, x_eff.rf⟩
    · cases h
  · cases h
set_option maxHeartbeats 1000000 in
theorem xs_arraylength  (hS : x_S tb th v (cs, lo, st, fa, nx) lv ws G) (h : x_step tb E m0 own nL (.arraylength) pc cs lo st fa nx = some out) : x_Go tb th E m0 own nL ini xs L J (.arraylength) pc v lv ws G out := by
  obtain ⟨hB, hC, hlo, hst, hfa, hI⟩ := id hS
  have hC : x_Cs cs v := hC
  dsimp only [x_step] at h
  split at h
  · rename_i b r
    obtain ⟨w1, r1, rfl, g1, hs1⟩ := x_gs_cons hst
    split at h
    · rename_i h5
      cases h
      obtain ⟨bk, bl⟩ := b
      obtain rfl : bk = 5 := h5
      obtain rfl : w1 = .ref pm_KB := g1
      exact ⟨_, List.mem_singleton.mpr rfl, v, lv, .int (Int32.ofNat 35) :: r1, G, x_ag.rf, by dsimp only [pm_step]; rw [if_neg (by decide), if_pos rfl], x_psh hS ⟨_, rfl, by rw [xl_c_ev]; rfl⟩ hs1, x_eff.rf⟩
    · split at h
      · rename_i hk
        cases h
        obtain ⟨c, rfl, ec, tc⟩ := x_g_cell g1 hk.1
        obtain ⟨e, he, hsh⟩ := (hI.2.2 c _ tc).1
        obtain ⟨-, -, n1, n2⟩ := hI.cell tc
        have hlen : ∃ t0 x0, e = .inl (t0, x0) ∧ t0 < 10 ∧ x0.1 = (tb (b.1 - 10)).2.2.1 := by
          unfold x_shape at hsh
          split at hsh
          · omega
          · exact ⟨_, _, rfl, by omega, hsh.2.2.1⟩
          · exact ⟨_, _, rfl, by omega, hsh.2.2.1⟩
          · exact ⟨_, _, rfl, by omega, hsh.2.2.1⟩
          · exact hsh.elim
        obtain ⟨t0, x0, rfl, ht0, hx0⟩ := hlen
        exact ⟨_, List.mem_singleton.mpr rfl, v, lv, .int (Int32.ofNat x0.1) :: r1, G, x_ag.rf, by dsimp only [pm_step]; rw [if_neg n1, if_neg n2, he]; dsimp only; rw [if_pos ht0], x_psh hS ⟨_, rfl, by rw [xl_c_ev, hx0]; exact nI_toInt (by omega)⟩ hs1, x_eff.rf⟩
      · cases h
  · cases h
end XE
