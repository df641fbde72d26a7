-- ===== the checker is sound =====
def x_Post (tb : Nat → xT) (th : List Nat) (E : List (Nat × Nat × Nat)) (ps : List xP) (m0 : Nat) (v0 : Nat → Int) (G0 : List pE) (r : Option Value) (G' : List pE) : Prop := ∃ v', x_ag m0 v0 v' ∧ x_Bd v' ∧ xI tb th G' ∧ x_eff th E G0 G' ∧ ∃ p ∈ ps, x_Cs p.2.1 v' ∧ (∀ q ∈ p.2.2, x_fact th v' G' q) ∧ x_ans th v' p.1 r
def x_Good (tb : Nat → xT) (th : List Nat) (xs : Nat → Int32) (L J d : Nat) (M : pM) (E : List (Nat × Nat × Nat)) (ps : List xP) (m0 : Nat) (v0 : Nat → Int) (G0 : List pE) (pc : Nat) (lv : pL) (ws : List Value) (G : List pE) : Prop := ∃ r G', x_runs xs L J d M pc lv ws G r G' ∧ x_Post tb th E ps m0 v0 G0 r G'
theorem x_ret_none {i : Instr} (h : x_isRet i = false) (rt : Option FieldType) (ws : List Value) : pm_ret i rt ws = none := by
  cases i <;> first | rfl | cases h
section XR
variable {xs : Nat → Int32} {L J d : Nat} {M : pM} {pc n : Nat} {i : Instr} {lv lv' : pL} {ws ws' : List Value} {G G1 G' : List pE} {r : Option Value}
theorem x_runs_ret (hd : decode M.code pc = .ok (i, n)) (hn : pm_len i n = n) (hr : pm_ret i M.ret ws = some r) : x_runs xs L J d M pc lv ws G r G := by
  refine ⟨1, fun f hf => ?_⟩
  obtain ⟨f, rfl⟩ : ∃ k, f = k + 1 := ⟨f - 1, by omega⟩
  rw [pm_run, hd]
  dsimp only
  rw [if_pos hn, hr]
theorem x_runs_step {pc' : Nat} (hd : decode M.code pc = .ok (i, n)) (hn : pm_len i n = n) (hi : x_isRet i = false) (hc : pm_call i = none) (hs : pm_step M.own M.maxL (decide (M.y.name = "<init>")) xs L J i pc lv ws G = some (pc', lv', ws', G1, 0, 0)) (hk : x_runs xs L J d M pc' lv' ws' G1 r G') : x_runs xs L J d M pc lv ws G r G' := by
  obtain ⟨f0, hf0⟩ := hk
  refine ⟨f0 + 1, fun f hf => ?_⟩
  obtain ⟨f, rfl⟩ : ∃ k, f = k + 1 := ⟨f - 1, by omega⟩
  rw [pm_run, hd]
  dsimp only
  rw [if_pos hn, x_ret_none hi, hc]
  dsimp only
  rw [hs]
  exact hf0 f (by omega)
theorem x_runs_call {w k : Nat} {q : Nat × Nat × Nat × Nat × Nat} {M' : pM} {r1 : Option Value} (hd : decode M.code pc = .ok (i, n)) (hn : pm_len i n = n) (hi : x_isRet i = false) (hc : pm_call i = some (w, k)) (hf : pm_ctab.find? (fun r => r.1 == M.own && r.2.1 == k) = some q) (h0 : q.2.2.1 ≠ 0 ∧ q.2.2.1 ≠ 7 ∧ q.2.2.1 ≠ 8 ∧ q.2.2.1 ≠ 9) (hM' : pm_tab[q.2.2.2.1]? = some M')
    (hok : (q.2.2.1 = w ∨ q.2.2.1 = w + 3) ∧ pm_na M' ≤ ws.length ∧ pm_recv q.2.2.1 M' (ws.take (pm_na M')).reverse G = true ∧ (lg_sl (ws.take (pm_na M')).reverse).length ≤ M'.maxL ∧ ((ws.drop (pm_na M')).map fun v => v.category).sum ≤ 8)
    (h1 : x_runs xs L J d M' 0 (lv_args 0 (ws.take (pm_na M')).reverse) [] G r1 G1) (h2 : x_runs xs L J (d + 1) M (pc + 3) lv (r1.toList ++ ws.drop (pm_na M')) G1 r G') : x_runs xs L J (d + 1) M pc lv ws G r G' := by
  obtain ⟨f1, hf1⟩ := h1
  obtain ⟨f2, hf2⟩ := h2
  refine ⟨f1 + f2 + 1, fun f hf0 => ?_⟩
  obtain ⟨f, rfl⟩ : ∃ k, f = k + 1 := ⟨f - 1, by omega⟩
  rw [pm_run, hd]
  dsimp only
  rw [if_pos hn, x_ret_none hi, hc]
  dsimp only
  rw [hf]
  dsimp only
  split
  · rename_i h; exact absurd h h0.1
  · rename_i h; exact absurd h h0.2.1
  · rename_i h; exact absurd h h0.2.2.1
  · rename_i h; exact absurd h h0.2.2.2
  · rw [hM']
    dsimp only
    rw [if_pos hok, hf1 f (by omega)]
    dsimp only
    rw [hf2 f (by omega)]
theorem x_runs_max {k : Nat} {q : Nat × Nat × Nat × Nat × Nat} {x y : Int32} {rr : List Value} (hd : decode M.code pc = .ok (i, n)) (hn : pm_len i n = n) (hi : x_isRet i = false) (hc : pm_call i = some (2, k)) (hf : pm_ctab.find? (fun r => r.1 == M.own && r.2.1 == k) = some q) (h0 : q.2.2.1 = 7) (hs : (rr.map fun v => v.category).sum ≤ 8) (h2 : x_runs xs L J (d + 1) M (pc + 3) lv (.int (if x < y then y else x) :: rr) G r G') : x_runs xs L J (d + 1) M pc lv (.int y :: .int x :: rr) G r G' := by
  obtain ⟨f2, hf2⟩ := h2
  refine ⟨f2 + 1, fun f hf0 => ?_⟩
  obtain ⟨f, rfl⟩ : ∃ k, f = k + 1 := ⟨f - 1, by omega⟩
  rw [pm_run, hd]
  dsimp only
  rw [if_pos hn, x_ret_none hi, hc]
  dsimp only
  rw [hf]
  dsimp only
  rw [h0]
  show (if 2 = 2 ∧ 0 < d + 1 ∧ (rr.map fun v => v.category).sum ≤ 8 then pm_run xs L J f (d + 1) M (pc + 3) lv (.int (if x < y then y else x) :: rr) G 0 0 else none) = _
  rw [if_pos ⟨rfl, by omega, hs⟩]
  exact hf2 f (by omega)
theorem x_runs_min {k : Nat} {q : Nat × Nat × Nat × Nat × Nat} {x y : Int32} {rr : List Value} (hd : decode M.code pc = .ok (i, n)) (hn : pm_len i n = n) (hi : x_isRet i = false) (hc : pm_call i = some (2, k)) (hf : pm_ctab.find? (fun r => r.1 == M.own && r.2.1 == k) = some q) (h0 : q.2.2.1 = 8) (hs : (rr.map fun v => v.category).sum ≤ 8) (h2 : x_runs xs L J (d + 1) M (pc + 3) lv (.int (if y < x then y else x) :: rr) G r G') : x_runs xs L J (d + 1) M pc lv (.int y :: .int x :: rr) G r G' := by
  obtain ⟨f2, hf2⟩ := h2
  refine ⟨f2 + 1, fun f hf0 => ?_⟩
  obtain ⟨f, rfl⟩ : ∃ k, f = k + 1 := ⟨f - 1, by omega⟩
  rw [pm_run, hd]
  dsimp only
  rw [if_pos hn, x_ret_none hi, hc]
  dsimp only
  rw [hf]
  dsimp only
  rw [h0]
  show (if 2 = 2 ∧ 0 < d + 1 ∧ (rr.map fun v => v.category).sum ≤ 8 then pm_run xs L J f (d + 1) M (pc + 3) lv (.int (if y < x then y else x) :: rr) G 0 0 else none) = _
  rw [if_pos ⟨rfl, by omega, hs⟩]
  exact hf2 f (by omega)
theorem x_runs_abs {k : Nat} {q : Nat × Nat × Nat × Nat × Nat} {x : Int32} {rr : List Value} (hd : decode M.code pc = .ok (i, n)) (hn : pm_len i n = n) (hi : x_isRet i = false) (hc : pm_call i = some (2, k)) (hf : pm_ctab.find? (fun r => r.1 == M.own && r.2.1 == k) = some q) (h0 : q.2.2.1 = 9) (hs : (rr.map fun v => v.category).sum ≤ 8) (h2 : x_runs xs L J (d + 1) M (pc + 3) lv (.int (if 0 ≤ x then x else 0 - x) :: rr) G r G') : x_runs xs L J (d + 1) M pc lv (.int x :: rr) G r G' := by
  obtain ⟨f2, hf2⟩ := h2
  refine ⟨f2 + 1, fun f hf0 => ?_⟩
  obtain ⟨f, rfl⟩ : ∃ k, f = k + 1 := ⟨f - 1, by omega⟩
  rw [pm_run, hd]
  dsimp only
  rw [if_pos hn, x_ret_none hi, hc]
  dsimp only
  rw [hf]
  dsimp only
  rw [h0]
  show (if 2 = 2 ∧ 0 < d + 1 ∧ (rr.map fun v => v.category).sum ≤ 8 then pm_run xs L J f (d + 1) M (pc + 3) lv (.int (if 0 ≤ x then x else 0 - x) :: rr) G 0 0 else none) = _
  rw [if_pos ⟨rfl, by omega, hs⟩]
  exact hf2 f (by omega)
end XR
section XK
variable {tb : Nat → xT} {th : List Nat} {v : Nat → Int} {lv : pL} {ws : List Value} {G : List pE} {g : xG} {m m0 : Nat}
theorem x_retk_ok {i : Instr} {rt : Option FieldType} {cs : List xL} {st : List xV} {ra : Option xV} (hB : x_Bd v) (hC : x_Cs cs v) (hst : x_gs th v st ws) (h : x_retk i rt cs st = some ra) : ∃ r, pm_ret i rt ws = some r ∧ ((ra = none ∧ r = none) ∨ ∃ b w, ra = some b ∧ st = [b] ∧ ws = [w] ∧ r = some w) := by
  unfold x_retk at h
  split at h
  · split at h
    · rename_i ht
      cases h
      cases ws with
      | nil => exact ⟨none, by unfold pm_ret; simp [ht], Or.inl ⟨rfl, rfl⟩⟩
      | cons w r => exact hst.elim
    · cases h
  · rename_i l
    obtain ⟨w1, r1, rfl, g1, hs1⟩ := x_gs_cons hst
    obtain ⟨x, rfl, ex⟩ := x_g0 g1
    cases r1 with
    | cons w r => exact hs1.elim
    | nil =>
      split at h
      · cases h
        exact ⟨some (.int x), by unfold pm_ret; simp [narrow], Or.inr ⟨_, _, rfl, rfl, rfl, rfl⟩⟩
      · split at h
        · rename_i hh
          cases h
          rw [Bool.and_eq_true] at hh
          have k1 := x_ent_ok hB hC hh.1
          have k2 := x_ent_ok hB hC hh.2
          rw [xl_sub_ev, xl_c_ev] at k2
          refine ⟨some (.int x), ?_, Or.inr ⟨_, _, rfl, rfl, rfl, rfl⟩⟩
          have : x.toInt = 0 ∨ x.toInt = 1 := by omega
          rcases this with h3 | h3
          · obtain rfl : x = 0 := Int32.toInt_inj.mp h3
            rfl
          · obtain rfl : x = 1 := Int32.toInt_inj.mp h3
            rfl
        · cases h
      · cases h
  · rename_i a
    obtain ⟨w1, r1, rfl, g1, hs1⟩ := x_gs_cons hst
    cases r1 with
    | cons w r => exact hs1.elim
    | nil =>
      split at h
      · split at h
        · rename_i hk
          cases h
          rcases x_g_ref g1 (by omega) with ⟨k, rfl⟩ | rfl
          · exact ⟨some (.ref k), rfl, Or.inr ⟨_, _, rfl, rfl, rfl, rfl⟩⟩
          · exfalso
            obtain ⟨ak, al⟩ := a
            rcases hk with h3 | h3
            · obtain rfl : ak = 3 := h3
              obtain ⟨k, z, -⟩ := g1
              cases z
            · obtain ⟨k, z, -⟩ := x_g_cell g1 h3
              cases z
        · cases h
      · cases h
  · cases h
theorem x_isId_ag {bl : List (Nat × xL)} {v' : Nat → Int} (h : x_isId m0 bl = true) : x_ag m0 v' (fun i => xl_ev (x_b bl i) v') := by
  intro i hi
  have := of_decide_eq_true (List.all_eq_true.mp h i (List.mem_range.mpr hi))
  show xl_ev (x_b bl i) v' = v' i
  rw [this, xl_s_ev]
theorem x_end_ok {E : List (Nat × Nat × Nat)} {ps : List xP} {v0 : Nat → Int} {G0 : List pE} {ra : Option xV} {r : Option Value} (h : x_end tb m0 m g ra ps = true) (hm : m0 ≤ m) (hS : x_S tb th v g lv ws G) (h0 : x_ag m0 v0 v) (hE : x_eff th E G0 G) (hr : (ra = none ∧ r = none) ∨ ∃ b w, ra = some b ∧ g.2.2.1 = [b] ∧ ws = [w] ∧ r = some w) : x_Post tb th E ps m0 v0 G0 r G := by
  unfold x_end at h
  obtain ⟨p, hp, h1⟩ := List.any_eq_true.mp h
  split at h1
  · rename_i hpn
    split at h1
    · rename_i g2 bl hi
      obtain ⟨v', k1, k2, k3, k4, k5, k6, k7, k8⟩ := x_inst_ok hi hS
      rcases hr with ⟨-, rfl⟩ | ⟨b, w, hb, -⟩
      · exact ⟨_, h0.tr (x_ag.tr (m := m0) (v1 := v') (fun i hi => k1 i (by omega)) (x_isId_ag h1)), k5, k2.2.2.2.2.2, hE, p, hp, k6, k7, by rw [hpn]; trivial⟩
      · cases hb
    · cases h1
  · rename_i a b hpa
    split at h1
    · rename_i g2 bl hi
      obtain ⟨v', k1, k2, k3, k4, k5, k6, k7, k8⟩ := x_inst_ok hi hS
      rcases hr with ⟨hb, -⟩ | ⟨b', w, hb, hs, rfl, rfl⟩
      · cases hb
      · cases hb
        have hgs := k2.2.2.2.1
        rw [k4, hs] at hgs
        exact ⟨_, h0.tr (x_ag.tr (m := m0) (v1 := v') (fun i hi => k1 i (by omega)) (x_isId_ag h1)), k5, k2.2.2.2.2.2, hE, p, hp, k6, k7, by rw [hpa]; exact (k8 [w] hgs).1⟩
    · cases h1
  · cases h1
def x_lex : List Nat → List Nat → Prop
  | b :: bs, a :: as => b < a ∨ (b ≤ a ∧ x_lex bs as)
  | _, _ => False
theorem x_lex_ind : ∀ (k : Nat) (P : List Nat → Prop), (∀ a : List Nat, a.length = k → (∀ b : List Nat, b.length = k → x_lex b a → P b) → P a) → ∀ a : List Nat, a.length = k → P a
  | 0, P, h, a, ha => h a ha (fun b hb hl => by
      cases b with
      | nil => exact hl.elim
      | cons x y => cases hb)
  | k + 1, P, h, a, ha => by
    cases a with
    | nil => cases ha
    | cons x xs =>
      have key : ∀ x : Nat, ∀ xs : List Nat, xs.length = k → P (x :: xs) := by
        intro x
        induction x using Nat.strongRecOn with
        | ind x ihx =>
          intro xs hxs
          refine x_lex_ind k (fun ys => P (x :: ys)) (fun ys hys ih => ?_) xs hxs
          refine h (x :: ys) (by rw [List.length_cons, hys]) (fun b hb hl => ?_)
          cases b with
          | nil => cases hb
          | cons z zs =>
            have hzs : zs.length = k := by simpa using hb
            rcases hl with hl | ⟨hl1, hl2⟩
            · exact ihx z hl zs hzs
            · rcases Nat.lt_or_ge z x with h3 | h3
              · exact ihx z h3 zs hzs
              · obtain rfl : z = x := by omega
                exact ih zs hzs hl2
      exact key x xs (by simpa using ha)
theorem x_dec_ok {cs : List xL} (hB : x_Bd v) (hC : x_Cs cs v) : ∀ {as bs : List xL}, x_dec cs as bs = true → x_lex (bs.map (fun l => (xl_ev l v).toNat)) (as.map (fun l => (xl_ev l v).toNat))
  | [], _, h => by cases h
  | _ :: _, [], h => by cases h
  | a :: as, b :: bs, h => by
    unfold x_dec at h
    simp only [Bool.and_eq_true, Bool.or_eq_true] at h
    have h1 := x_ent_ok hB hC h.1
    rcases h.2 with h2 | ⟨h2, h3⟩
    · have h2 := x_ent_ok hB hC h2
      rw [xl_add_ev, xl_sub_ev, xl_c_ev] at h2
      exact Or.inl (show (xl_ev b v).toNat < (xl_ev a v).toNat by omega)
    · have h2 := x_ent_ok hB hC h2
      rw [xl_sub_ev] at h2
      exact Or.inr ⟨show (xl_ev b v).toNat ≤ (xl_ev a v).toNat by omega, x_dec_ok hB hC h3⟩
theorem x_lgets_ok {lo : List (Nat × xV)} (hlo : ∀ q ∈ lo, ∃ w, pm_get lv q.1 = some w ∧ x_g th v q.2 w) : ∀ {nl : List (Nat × xV)} {av : List xV}, x_lgets lo nl = some av → ∃ wv, x_gs th v av wv ∧ ∀ vn, x_gs th vn (nl.map (fun q => q.2)) wv → ∀ q ∈ nl, ∃ w, pm_get lv q.1 = some w ∧ x_g th vn q.2 w
  | [], av, h => by
    cases h
    exact ⟨[], trivial, fun vn _ q hq => by cases hq⟩
  | q :: qs, av, h => by
    unfold x_lgets at h
    split at h
    · rename_i a as ha has
      cases h
      obtain ⟨w, w1, w2⟩ := x_lget_ok ha hlo
      obtain ⟨wv, k1, k2⟩ := x_lgets_ok hlo has
      refine ⟨w :: wv, ⟨w2, k1⟩, fun vn hv z hz => ?_⟩
      rcases List.mem_cons.mp hz with rfl | hz
      · exact ⟨w, w1, hv.1⟩
      · exact k2 vn hv.2 z hz
    · cases h
theorem x_node_ok {org : Option (List xL)} {n : xN} (h : x_node tb m0 m org g n = true) (hm : m0 ≤ m) (hS : x_S tb th v g lv ws G) : ws = [] ∧ ∃ vn v', x_ag m0 v vn ∧ x_ag m v v' ∧ x_S tb th vn (n.2.2.2.1, n.2.1, [], n.2.2.1, n.2.2.2.2.1) lv [] G ∧ ∀ a, org = some a → x_lex (n.2.2.2.2.2.map (fun l => (xl_ev l vn).toNat)) (a.map (fun l => (xl_ev l v').toNat)) := by
  unfold x_node at h
  split at h
  · rename_i hst
    have hw := hS.2.2.2.1
    rw [hst] at hw
    obtain rfl : ws = [] := by
      cases ws with
      | nil => rfl
      | cons a b => exact hw.elim
    refine ⟨rfl, ?_⟩
    split at h
    · rename_i av hav
      split at h
      · rename_i g2 bl hi
        rw [Bool.and_eq_true] at h
        obtain ⟨v', k1, k2, k3, k4, k5, k6, k7, k8⟩ := x_inst_ok hi hS
        have hlo := k2.2.2.1
        rw [k3] at hlo
        obtain ⟨wv, j1, j2⟩ := x_lgets_ok hlo hav
        refine ⟨fun i => xl_ev (x_b bl i) v', v', x_ag.tr (m := m0) (v1 := v') (fun i hi => k1 i (by omega)) (x_isId_ag h.1), k1, ⟨k5, k6, j2 _ (k8 wv j1), trivial, k7, k2.2.2.2.2.2⟩, fun a ha => ?_⟩
        have h2 := h.2
        rw [ha] at h2
        have h3 := x_dec_ok k2.1 k2.2.1 h2
        rw [List.map_map] at h3
        have e : (fun l => (xl_ev l v').toNat) ∘ xl_subst (x_b bl) = fun l => (xl_ev l (fun i => xl_ev (x_b bl i) v')).toNat := by
          funext l
          show (xl_ev (xl_subst (x_b bl) l) v').toNat = _
          rw [xl_subst_ev]
        rw [e] at h3
        exact h3
      · cases h
    · cases h
  · cases h
end XK
