-- ===== a call by its contract =====
def x_ans (th : List Nat) (v : Nat → Int) (a : Option xV) (r : Option Value) : Prop := match a, r with
  | none, none => True
  | some a, some w => x_g th v a w
  | _, _ => False
def x_runs (xs : Nat → Int32) (L J d : Nat) (M : pM) (pc : Nat) (lv : pL) (ws : List Value) (G : List pE) (r : Option Value) (G' : List pE) : Prop := ∃ f0, ∀ f, f0 ≤ f → pm_run xs L J f d M pc lv ws G 0 0 = some (r, G', 0, 0)
def x_Holds (tb : Nat → xT) (th : List Nat) (xs : Nat → Int32) (L J : Nat) (c : xC) (dm : Nat) : Prop := ∃ M, pm_tab[c.1]? = some M ∧ ∀ d, dm ≤ d → ∀ (v : Nat → Int) (as : List Value) (G : List pE), x_Bd v → x_Cs c.2.2.1 v → x_gs th v c.2.1 as → (∀ q ∈ c.2.2.2.1, x_fact th v G q) → xI tb th G → (x_flag c.2.2.2.2.2.1 = true → x_Q th G) →
  ∃ r G' v', x_runs xs L J d M 0 (lv_args 0 as) [] G r G' ∧ x_ag c.2.2.2.2.1 v v' ∧ x_Bd v' ∧ xI tb th G' ∧ x_eff th c.2.2.2.2.2.1 G G' ∧ ∃ p ∈ c.2.2.2.2.2.2.2, x_Cs p.2.1 v' ∧ (∀ q ∈ p.2.2, x_fact th v' G' q) ∧ x_ans th v' p.1 r
theorem xt_lt_ev {n : Nat} {v v' : Nat → Int} (h : ∀ i, i < n → v' i = v i) : ∀ {l : List (Nat × Int)}, l.all (fun q => decide (q.1 < n)) = true → xt_ev l v' = xt_ev l v
  | [], _ => rfl
  | q :: r, hl => by
    rw [List.all_cons, Bool.and_eq_true] at hl
    rw [xt_ev, xt_ev, xt_lt_ev h hl.2, h q.1 (of_decide_eq_true hl.1)]
theorem xl_lt_ev {n : Nat} {v v' : Nat → Int} (h : ∀ i, i < n → v' i = v i) {l : xL} (hl : l.1.all (fun q => decide (q.1 < n)) = true) : xl_ev l v' = xl_ev l v := by
  unfold xl_ev
  rw [xt_lt_ev h hl]
section XH
variable {tb : Nat → xT} {th : List Nat} {v : Nat → Int} {lv : pL} {ws : List Value} {G : List pE} {g : xG} {m : Nat}
theorem x_gs_len : ∀ {as : List xV} {ws : List Value}, x_gs th v as ws → ws.length = as.length
  | [], [], _ => rfl
  | [], _ :: _, h => h.elim
  | _ :: _, [], h => h.elim
  | a :: as, w :: ws, h => by rw [List.length_cons, List.length_cons, x_gs_len h.2]
theorem x_gs_app : ∀ {as bs : List xV} {ws us : List Value}, x_gs th v as ws → x_gs th v bs us → x_gs th v (as ++ bs) (ws ++ us)
  | [], _, [], _, _, h => h
  | [], _, _ :: _, _, h, _ => h.elim
  | _ :: _, _, [], _, h, _ => h.elim
  | a :: as, bs, w :: ws, us, h, h2 => ⟨h.1, x_gs_app h.2 h2⟩
theorem x_gs_take : ∀ (n : Nat) {as : List xV} {ws : List Value}, x_gs th v as ws → x_gs th v (as.take n).reverse (ws.take n).reverse ∧ x_gs th v (as.drop n) (ws.drop n)
  | 0, as, ws, h => ⟨trivial, h⟩
  | n + 1, [], [], _ => ⟨trivial, trivial⟩
  | n + 1, [], _ :: _, h => h.elim
  | n + 1, _ :: _, [], h => h.elim
  | n + 1, a :: as, w :: ws, h => by
    obtain ⟨h1, h2⟩ := x_gs_take n h.2
    refine ⟨?_, h2⟩
    rw [List.take_succ_cons, List.take_succ_cons, List.reverse_cons, List.reverse_cons]
    exact x_gs_app h1 ⟨h.1, trivial⟩
theorem x_gs_lt {n : Nat} {v' : Nat → Int} (hv : ∀ i, i < n → v' i = v i) : ∀ {as : List xV} {ws : List Value}, as.all (x_ltV n) = true → x_gs th v as ws → x_gs th v' as ws
  | [], [], _, _ => trivial
  | [], _ :: _, _, h => h.elim
  | _ :: _, [], _, h => h.elim
  | a :: as, w :: ws, hl, h => by
    rw [List.all_cons, Bool.and_eq_true] at hl
    exact ⟨x_g_ext (xl_lt_ev hv hl.1) h.1, x_gs_lt hv hl.2 h.2⟩
theorem x_S_lt {n : Nat} {v' : Nat → Int} (hv : ∀ i, i < n → v' i = v i) (hB : x_Bd v') (hl : x_ltG n g = true) (hS : x_S tb th v g lv ws G) : x_S tb th v' g lv ws G := by
  unfold x_ltG at hl
  simp only [Bool.and_eq_true, List.all_eq_true] at hl
  obtain ⟨⟨⟨l1, l2⟩, l3⟩, l4⟩ := hl
  obtain ⟨a1, a2, a3, a4, a5, a6⟩ := hS
  refine ⟨hB, fun c hc => ?_, fun q hq => ?_, x_gs_lt hv (List.all_eq_true.mpr l3) a4, fun q hq => ?_, a6⟩
  · rw [xl_lt_ev hv (List.all_eq_true.mpr (l1 c hc))]
    exact a2 c hc
  · obtain ⟨w, w1, w2⟩ := a3 q hq
    exact ⟨w, w1, x_g_ext (xl_lt_ev hv (l2 q hq)) w2⟩
  · obtain ⟨a, f1, f2, w, f3, f4⟩ := a5 q hq
    exact ⟨a, by rw [xl_lt_ev hv (List.all_eq_true.mpr (l4 q hq).1)]; exact f1, f2, w, f3, x_g_ext (xl_lt_ev hv (l4 q hq).2) f4⟩
theorem x_subE_ok {E E' : List (Nat × Nat × Nat)} {G' : List pE} (h : x_subE E E' = true) (he : x_eff th E G G') : x_eff th E' G G' := by
  refine he.mono (fun q hq => ?_)
  obtain ⟨r, h1, h2, h3, h4⟩ := x_cov_ok (List.all_eq_true.mp h q hq)
  exact ⟨r, h1, h2, h3, h4⟩
theorem x_subE_flag {E E' : List (Nat × Nat × Nat)} (h : x_subE E E' = true) (hf : x_flag E = true) : x_flag E' = true := by
  obtain ⟨q, hq, h1⟩ := List.any_eq_true.mp hf
  obtain ⟨r, h2, h3, -, -⟩ := x_cov_ok (List.all_eq_true.mp h q hq)
  exact List.any_eq_true.mpr ⟨r, h2, by rw [h3]; exact h1⟩
set_option maxHeartbeats 1000000 in
theorem x_call1_ok {xs : Nat → Int32} {L J : Nat} {E : List (Nat × Nat × Nat)} {c : xC} {dm d na pc : Nat} {M' : pM} {out : List (Nat × xG)} (hH : x_Holds tb th xs L J c dm) (hM : pm_tab[c.1]? = some M') (hd : dm ≤ d) (hS : x_S tb th v g lv ws G) (hQ : x_flag E = true → x_Q th G) (h : x_call1 tb E m c na pc g = some out) : ∃ q ∈ out, ∃ v2 r G', x_ag m v v2 ∧ x_runs xs L J d M' 0 (lv_args 0 (ws.take na).reverse) [] G r G' ∧ q.1 = pc ∧ x_S tb th v2 q.2 lv (r.toList ++ ws.drop na) G' ∧ x_eff th E G G' := by
  unfold x_call1 at h
  split at h
  · rename_i g2 bl hi
    split at h
    · rename_i hok
      cases h
      obtain ⟨k1, k2, k3, k4⟩ := hok
      obtain ⟨v', i1, i2, i3, i4, i5, i6, i7, i8⟩ := x_inst_ok hi hS
      obtain ⟨M0, hM0, hrun⟩ := hH
      rw [hM] at hM0
      cases hM0
      obtain ⟨t1, t2⟩ := x_gs_take na i2.2.2.2.1
      have hargs := i8 (ws.take na).reverse (by rw [← i4]; exact t1)
      obtain ⟨r, G', vc', r1, r2, r3, r4, r5, p, hp, p1, p2, p3⟩ := hrun d hd _ _ G i5 i6 hargs i7 i2.2.2.2.2.2 (fun z => hQ (x_subE_flag k4 z))
      have e0 : ∃ v2 : Nat → Int, (∀ i, i < g2.2.2.2.2 → v2 i = v' i) ∧ x_Bd v2 ∧ ∀ i, xl_ev (x_b2 bl c.2.2.2.2.1 g2.2.2.2.2 i) v2 = vc' i := by
        refine ⟨fun j => if j < g2.2.2.2.2 then v' j else vc' (j - g2.2.2.2.2 + c.2.2.2.2.1), fun i hi => if_pos hi, fun j => ?_, fun i => ?_⟩
        · dsimp only
          split
          · exact i2.1 j
          · exact r3 _
        · unfold x_b2
          split
          · rename_i hi
            rw [xl_lt_ev (v := v') (n := g2.2.2.2.2) (fun i hi => if_pos hi)]
            · exact (r2 i hi).symm
            · unfold x_b
              split
              · rename_i q hq
                exact List.all_eq_true.mp k3 q (List.mem_of_find?_eq_some hq)
              · rfl
          · rename_i hi
            rw [xl_s_ev]
            rw [if_neg (by omega)]
            congr 1
            omega
      obtain ⟨v2, e1, e2, e3⟩ := e0
      have ef : (fun i => xl_ev (x_b2 bl c.2.2.2.2.1 g2.2.2.2.2 i) v2) = vc' := funext e3
      have es : ∀ l : xL, xl_ev (xl_subst (x_b2 bl c.2.2.2.2.1 g2.2.2.2.2) l) v2 = xl_ev l vc' := fun l => by rw [xl_subst_ev, ef]
      have hg : ∀ (a : xV) (w : Value), x_g th vc' a w → x_g th v2 (x_subV (x_b2 bl c.2.2.2.2.1 g2.2.2.2.2) a) w := by
        intro a w ha
        refine x_g_kok (v := vc') (p := x_subV _ a) (a := a) ?_ (Or.inl (es a.2)) ha
        unfold x_kok x_subV
        simp
      have hS2 := x_S_lt e1 e2 k2 i2
      have hpc : x_Cs (p.2.1.map (xl_subst (x_b2 bl c.2.2.2.2.1 g2.2.2.2.2))) v2 := fun cc h => by
        obtain ⟨l, hl, rfl⟩ := List.mem_map.mp h
        rw [es]
        exact p1 l hl
      refine ⟨_, List.mem_map.mpr ⟨p, List.mem_filter.mpr ⟨hp, by rw [x_inf_ok hS2.1 hS2.2.1 hpc]; rfl⟩, rfl⟩, v2, r, G', fun i hi => (e1 i (by omega)).trans (i1 i hi), r1, rfl, ⟨e2, fun cc hc => ?_, ?_, ?_, fun q hq => ?_, r4⟩, x_subE_ok k4 r5⟩
      · rcases List.mem_append.mp hc with h | h
        · obtain ⟨l, hl, rfl⟩ := List.mem_map.mp h
          rw [es]
          exact p1 l hl
        · exact hS2.2.1 cc h
      · exact hS2.2.2.1
      · refine x_gs_app ?_ (x_gs_take na hS2.2.2.2.1).2
        cases hp1 : p.1 with
        | none =>
          rw [hp1] at p3
          cases r with
          | none => trivial
          | some w => exact False.elim p3
        | some a =>
          rw [hp1] at p3
          cases r with
          | none => exact False.elim p3
          | some w => exact ⟨hg _ _ p3, trivial⟩
      · rcases List.mem_append.mp hq with h | h
        · obtain ⟨f, hf, rfl⟩ := List.mem_map.mp h
          obtain ⟨a, f1, f2, w, f3, f4⟩ := p2 f hf
          exact ⟨a, by show _ = xl_ev (xl_subst _ f.2.1) v2; rw [es]; exact f1, f2, w, f3, hg _ _ f4⟩
        · unfold x_killE at h
          obtain ⟨h1, h2⟩ := List.mem_filter.mp h
          obtain ⟨a, f1, f2, w, f3, f4⟩ := hS2.2.2.2.2.1 q h1
          refine ⟨a, f1, f2, w, ?_, f4⟩
          rw [r5 a q.1 q.2.2.1 f2]
          · exact f3
          · intro z hz hh
            rw [Bool.not_eq_true'] at h2
            have := List.any_eq_false.mp h2 z hz
            simp [hh.1, hh.2.1, hh.2.2] at this
    · cases h
  · cases h
theorem x_call_ok {xs : Nat → Int32} {L J : Nat} {E : List (Nat × Nat × Nat)} {dm d mi na pc : Nat} {M' : pM} {out : List (Nat × xG)} (hM : pm_tab[mi]? = some M') (hd : dm ≤ d) (hS : x_S tb th v g lv ws G) (hQ : x_flag E = true → x_Q th G) : ∀ {cts : List xC}, (∀ c ∈ cts, x_Holds tb th xs L J c dm) → x_call tb E m mi na pc g cts = some out → ∃ q ∈ out, ∃ v2 r G', x_ag m v v2 ∧ x_runs xs L J d M' 0 (lv_args 0 (ws.take na).reverse) [] G r G' ∧ q.1 = pc ∧ x_S tb th v2 q.2 lv (r.toList ++ ws.drop na) G' ∧ x_eff th E G G'
  | [], _, h => by cases h
  | c :: cts, hc, h => by
    unfold x_call at h
    have ih := fun h => x_call_ok (E := E) (pc := pc) (na := na) (out := out) hM hd hS hQ (cts := cts) (fun c h => hc c (List.mem_cons_of_mem _ h)) h
    split at h
    · rename_i hmi
      split at h
      · rename_i r0 hr0
        cases h
        subst hmi
        exact x_call1_ok (hc c List.mem_cons_self) hM hd hS hQ hr0
      · exact ih h
    · exact ih h
end XH
