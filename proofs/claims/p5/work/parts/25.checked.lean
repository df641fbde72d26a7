-- ===== the checker is sound, all of it =====
theorem x_cat2 {th : List Nat} {v : Nat → Int} {a : xV} {w : Value} (h : x_g th v a w) : w.category = if a.1 = 1 then 2 else 1 := by
  split
  · rename_i h1
    obtain ⟨ak, al⟩ := a
    obtain rfl : ak = 1 := h1
    obtain ⟨x, rfl⟩ := h
    rfl
  · rename_i h1
    exact x_g_cat h h1
theorem x_sum_ok {th : List Nat} {v : Nat → Int} : ∀ {st : List xV} {ws : List Value}, x_gs th v st ws → (ws.map fun w => w.category).sum = x_sum st
  | [], [], _ => rfl
  | [], _ :: _, h => h.elim
  | _ :: _, [], h => h.elim
  | a :: st, w :: ws, h => by
    unfold x_sum
    rw [List.map_cons, List.map_cons, List.sum_cons, List.sum_cons, x_sum_ok h.2, x_cat2 h.1]
    rfl
theorem x_sl_sum : ∀ as : List Value, (lg_sl as).length = (as.map fun w => w.category).sum
  | [] => rfl
  | w :: as => by
    have h := x_sl_sum as
    unfold lg_sl at h ⊢
    rw [List.flatMap_cons, List.length_append, h, List.map_cons, List.sum_cons]
    congr 1
    rcases lv_cat w with h1 | h1 <;> simp [h1]
theorem x_sum_rev (as : List Value) : (as.reverse.map fun w => w.category).sum = (as.map fun w => w.category).sum := by
  rw [List.map_reverse]
  exact List.sum_reverse _
theorem x_gs_take1 {th : List Nat} {v : Nat → Int} : ∀ (n : Nat) {as : List xV} {ws : List Value}, x_gs th v as ws → x_gs th v (as.take n) (ws.take n)
  | 0, _, _, _ => trivial
  | _ + 1, [], [], _ => trivial
  | _ + 1, [], _ :: _, h => h.elim
  | _ + 1, _ :: _, [], h => h.elim
  | n + 1, a :: as, w :: ws, h => ⟨h.1, x_gs_take1 n h.2⟩
theorem x_recv_ok {tb : Nat → xT} {th : List Nat} {v : Nat → Int} {M' : pM} {st : List xV} {as : List Value} {G : List pE} {k : Nat} (hI : xI tb th G) (hg : x_gs th v st as) (h : M'.st = true ∨ x_rcv tb M' st = true) : pm_recv k M' as G = true := by
  unfold pm_recv
  rcases h with h | h
  · rw [h]
  · split
    · rfl
    · cases st with
      | nil => cases h
      | cons a st' =>
        obtain ⟨w, r, rfl, g1, -⟩ := x_gs_cons hg
        unfold x_rcv at h
        simp only [Bool.and_eq_true, decide_eq_true_eq, beq_iff_eq] at h
        obtain ⟨b, rfl, -, hb⟩ := x_g_cell g1 h.1.1
        obtain ⟨e, he, hs⟩ := (hI.2.2 b _ hb).1
        obtain ⟨fs, rfl, -⟩ := x_obj hs h.1.2
        dsimp only
        split
        · rfl
        · rfl
        · rw [he]
          dsimp only
          rw [h.2]
          simp
theorem x_runs_iastore {xs : Nat → Int32} {L J d : Nat} {M : pM} {pc pc' : Nat} {lv lv' : pL} {ws ws' : List Value} {G G1 G' : List pE} {r : Option Value} (hd : decode M.code pc = .ok (Instr.iastore, 1)) (hs : pm_step M.own M.maxL (decide (M.y.name = "<init>")) xs L J .iastore pc lv ws G = some (pc', lv', ws', G1, 0, 0)) (hk : x_runs xs L J d M pc' lv' ws' G1 r G') : x_runs xs L J d M pc lv ws G r G' := x_runs_step (i := .iastore) (n := 1) hd rfl rfl rfl hs hk
/-- runs to an end of which K holds -/
def x_Gd (xs : Nat → Int32) (L J d : Nat) (M : pM) (K : Option Value → List pE → Prop) (pc : Nat) (lv : pL) (ws : List Value) (G : List pE) : Prop := ∃ r G', x_runs xs L J d M pc lv ws G r G' ∧ K r G'
theorem x_Gd.via {xs : Nat → Int32} {L J d : Nat} {M : pM} {K : Option Value → List pE → Prop} {pc pc' : Nat} {lv lv' : pL} {ws ws' : List Value} {G G1 : List pE} (h : x_Gd xs L J d M K pc' lv' ws' G1) (hr : ∀ r G', x_runs xs L J d M pc' lv' ws' G1 r G' → x_runs xs L J d M pc lv ws G r G') : x_Gd xs L J d M K pc lv ws G := by
  obtain ⟨r, G', h1, h2⟩ := h
  exact ⟨r, G', hr r G' h1, h2⟩
set_option maxHeartbeats 1000000 in
theorem x_wrd_ok {tb : Nat → xT} {th : List Nat} {v : Nat → Int} {lv : pL} {ws : List Value} {G : List pE} {E : List (Nat × Nat × Nat)} {m own nL L J pc : Nat} {ini : Bool} {xs : Nat → Int32} {i : Instr} {g : xG} {out : List (Nat × xG)} (hT : x_wf tb) (h36 : (tb 36).1 = 1 ∧ (tb 36).2.1 = 0 ∧ (tb 36).2.2.1 = 324) (hS : x_S tb th v g lv ws G) (hQ : x_flag E = true → x_Q th G) (h : x_wrd E m i pc g = some out) : x_Go tb th E m own nL ini xs L J i pc v lv ws G out := by
  obtain ⟨cs, lo, st, fa, nx⟩ := g
  obtain ⟨hB, hC, hlo, hst, hfa, hI⟩ := id hS
  dsimp only [x_wrd] at h
  split at h
  · rename_i l b r
    obtain ⟨w1, r1, rfl, g1, hs1⟩ := x_gs_cons hst
    obtain ⟨w2, r2, rfl, g2, hs2⟩ := x_gs_cons hs1
    split at h
    · rename_i hk
      obtain ⟨k1, k2, k3, k4⟩ := hk
      split at h
      · rename_i q hq
        split at h
        · rename_i hk5
          obtain ⟨j, rfl, ej⟩ := x_g0 g1
          obtain ⟨c, rfl, ec, tc⟩ := x_g_cell g2 (by omega)
          rw [k1] at tc
          have tc : th[c]? = some 36 := tc
          obtain ⟨e, he, hsh⟩ := (hI.2.2 c _ tc).1
          have m3 := x_ent_ok hB hC k3
          have m4 := x_ent_ok hB hC k4
          have m5 := x_ent_ok hB hC hk5.2
          rw [xl_add_ev, xl_c_ev] at m3
          rw [xl_sub_ev, xl_c_ev] at m4
          rw [xl_sub_ev, xl_add_ev, xl_c_ev] at m5
          obtain ⟨n, n1, n2, n3⟩ := x_of_nn (x := j) (by omega)
          have n4 : j.toNatClampNeg = n := by
            have : j.toNatClampNeg = j.toInt.toNat := rfl
            omega
          have n5 : pm_bad j 324 = false := by
            unfold pm_bad
            have a1 : ¬ j < 0 := by rw [Int32.lt_iff_toInt_lt]; show ¬ j.toInt < 0; omega
            have a2 : ¬ 324 ≤ j.toNatClampNeg := by omega
            simp [a1, a2]
          obtain ⟨f, rfl⟩ := x_arr_int hsh h36.1 (by omega)
          have hsl : ∀ k, k < 324 → x_sl G c k = some (.int (f k)) := fun k hk => by unfold x_sl; rw [he]; show (if k < _ then _ else _) = _; rw [if_pos (by rw [h36.2.2]; exact hk)]
          have hpm : pm_step own nL ini xs L J .iaload pc lv (.int j :: .ref c :: r2) G = some (pc + 1, lv, .int (f n) :: r2, G, 0, 0) := by
            dsimp only [pm_step]
            rw [if_neg (hI.cell tc).2.2.1, he, h36.2.1, h36.2.2]
            show (if pm_bad j _ = true then none else some (pc + 1, lv, Value.int (f j.toNatClampNeg) :: r2, G, 0, 0)) = _
            rw [n5, n4]
            rfl
          have hq1 := List.find?_some hq
          simp only [Bool.and_eq_true, beq_iff_eq, decide_eq_true_eq] at hq1
          obtain ⟨a, a1, a2, w, a3, a4⟩ := hfa q (List.mem_of_find?_eq_some hq)
          rw [hq1.2] at a1
          have : a = c := by omega
          subst this
          rw [hq1.1.2, hsl 3 (by omega)] at a3
          cases a3
          obtain ⟨q1, q2, q3, q4, q5⟩ := q
          obtain rfl : q4 = 0 := hk5.1
          obtain ⟨x3, x4, x5⟩ := x_g0 a4
          cases x4
          have m5 : 0 ≤ xl_ev q5 v + 40 - xl_ev l v := m5
          have hw := (hQ k2 a tc).1 (f 3) (f n) (n - 41) (hsl 3 (by omega)) (by omega) (by omega) (by rw [show 41 + (n - 41) = n from by omega]; exact hsl n (by omega))
          obtain ⟨z, z1, v', z2, z3, z4⟩ := x_hv_ok (rest := r2) (n0 := nx) hS h (f n) (fun v' hS' e => ⟨fun cc hcc => by
            rw [List.mem_singleton.mp hcc, xl_add_ev, xl_s_ev, xl_c_ev]
            omega, hS'.2.2.2.1.2.2⟩)
          exact ⟨z, z1, v', lv, _, G, z2, by rw [z3]; exact hpm, z4, x_eff.rf⟩
        · cases h
      · cases h
    · cases h
  · cases h
set_option maxHeartbeats 1000000 in
theorem x_cpy_ok {tb : Nat → xT} {th : List Nat} {v : Nat → Int} {lv : pL} {ws : List Value} {G : List pE} {E : List (Nat × Nat × Nat)} {own nL L J pc : Nat} {ini : Bool} {xs : Nat → Int32} {D : xD} {ns : List xN} {i : Instr} {g : xG} {z : Nat × xG} (hT : x_wf tb) (hS : x_S tb th v g lv ws G) (h : x_cpy tb E D ns i pc g = some z) : i = .iaload ∧ (pc + 1, Instr.iastore, 1) ∈ D ∧ ∃ ws1 ws' G', pm_step own nL ini xs L J .iaload pc lv ws G = some (pc + 1, lv, ws1, G, 0, 0) ∧ pm_step own nL ini xs L J .iastore (pc + 1) lv ws1 G = some (z.1, lv, ws', G', 0, 0) ∧ x_S tb th v z.2 lv ws' G' ∧ x_eff th E G G' := by
  obtain ⟨cs, lo, st, fa, nx⟩ := g
  obtain ⟨hB, hC, hlo, hst, hfa, hI⟩ := id hS
  dsimp only [x_cpy] at h
  split at h
  · rename_i l1 b1 l2 b2 r
    obtain ⟨w1, r1, rfl, g1, hs1⟩ := x_gs_cons hst
    obtain ⟨w2, r2, rfl, g2, hs2⟩ := x_gs_cons hs1
    obtain ⟨w3, r3, rfl, g3, hs3⟩ := x_gs_cons hs2
    obtain ⟨w4, r4, rfl, g4, hs4⟩ := x_gs_cons hs3
    split at h
    · rename_i hk
      cases h
      obtain ⟨k1, k2, k3, k4, k5, k6, k7, k8, -, -, k9, -, k10, k11⟩ := hk
      refine ⟨rfl, List.mem_of_find?_eq_some k9, ?_⟩
      obtain ⟨j1, rfl, ej1⟩ := x_g0 g1
      obtain ⟨j2, rfl, ej2⟩ := x_g0 g3
      obtain ⟨c1, rfl, ec1, tc1⟩ := x_g_cell g2 k1
      obtain ⟨c2, rfl, ec2, tc2⟩ := x_g_cell g4 k5
      obtain ⟨e1, he1, hsh1⟩ := (hI.2.2 c1 _ tc1).1
      obtain ⟨e2, he2, hsh2⟩ := (hI.2.2 c2 _ tc2).1
      obtain ⟨n, n1, n2, n3, n4, n5, n6, n7, n8⟩ := x_idx_ok (cs := cs) hB hC k4 ej1
      obtain ⟨p, p1, p2, p3, p4, p5, p6, p7, p8⟩ := x_idx_ok (cs := cs) hB hC k8 ej2
      obtain ⟨f1, rfl⟩ := x_arr_int hsh1 k2 (by omega)
      obtain ⟨f2, rfl⟩ := x_arr_int hsh2 k6 (by omega)
      have hsl : x_sl G c1 n = some (.int (f1 n)) := by unfold x_sl; rw [he1]; show (if n < _ then _ else _) = _; rw [if_pos n1]
      have hu := x_upd_int (x := f1 n) he2 p1
      obtain ⟨q9, e1, e2, e3, e4⟩ := x_cov_ok k10
      refine ⟨.int (f1 n) :: .int j2 :: .ref c2 :: r4, r4, _, ?_, ?_, ⟨hB, hC, hlo, hs4, fun f9 hf9 => x_kill_ok hu tc2 p7 p8 hfa f9 hf9, hI.upd hu tc2 (fun f8 h8 => ?_)⟩, x_eff.upd hu tc2 e1 e2 (Nat.le_trans e3 p7) (Nat.le_trans p8 e4)⟩
      · dsimp only [pm_step]
        rw [if_neg (hI.cell tc1).2.2.1, he1, k3]
        show (if pm_bad j1 _ = true then none else some (pc + 1, lv, Value.int (f1 j1.toNatClampNeg) :: .int j2 :: .ref c2 :: r4, G, 0, 0)) = _
        rw [n4, n2]
        rfl
      · dsimp only [pm_step]
        rw [he2, k7]
        show (if pm_bad j2 _ = true then none else some (pc + 1 + 1, lv, r4, G.set c2 (.inl (0, _, .inl (upd f2 j2.toNatClampNeg (f1 n)))), 0, 0)) = _
        rw [p4, p2]
        rfl
      · have hen := x_en_ok hB hC _ _ _ k11
        unfold x_sub1 at hen
        rw [← n3, ← p3] at hen
        rw [Int.toNat_natCast, Int.toNat_natCast, h8] at hen
        split at hen
        · rename_i fa1 fb1 hA hB1
          cases hB1
          simp only [Bool.and_eq_true, beq_iff_eq, decide_eq_true_eq] at hen
          obtain ⟨⟨⟨s1, s2⟩, s3⟩, s4⟩ := hen
          obtain ⟨w, hw, hok⟩ := (hI.2.2 c1 _ tc1).2 n _ hA
          rw [hsl] at hw
          cases hw
          unfold xf_ok at hok ⊢
          rw [s1] at hok
          rw [s2]
          obtain ⟨x, x1, x2, x3⟩ := hok
          exact ⟨x, x1, by omega, by omega⟩
        · cases hen
    · cases h
  · cases h
section XQ
variable {tb : Nat → xT} {th : List Nat} {xs : Nat → Int32} {L J : Nat} {cts : List xC} {M : pM} {D : xD} {E : List (Nat × Nat × Nat)} {m0 m : Nat} {ps : List xP} {ns : List xN} {org : Option (List xL)} {dm d : Nat} {v0 vorg : Nat → Int} {G0 : List pE}
set_option maxHeartbeats 4000000 in
theorem x_exec_ok {K : Option Value → List pE → Prop} (hT : x_wf tb) (h36 : (tb 36).1 = 1 ∧ (tb 36).2.1 = 0 ∧ (tb 36).2.2.1 = 324) (hQ : x_flag E = true → ∀ G, x_eff th E G0 G → x_Q th G) (hK : ∀ r G', x_Post tb th E ps m0 v0 G0 r G' → K r G') (hD : ∀ q ∈ D, decode M.code q.1 = .ok (q.2.1, q.2.2)) (hc : ∀ c ∈ cts, x_Holds tb th xs L J c dm) (hd : dm ≤ d) (hm : m0 ≤ m) (horg : ∀ a, org = some a → ∀ r ∈ a, r.1.all (fun q => decide (q.1 < m)) = true)
    (IH : ∀ n ∈ ns, ∀ (vn : Nat → Int) (lv : pL) (G : List pE), x_ag m0 v0 vn → x_S tb th vn (n.2.2.2.1, n.2.1, [], n.2.2.1, n.2.2.2.2.1) lv [] G → x_eff th E G0 G → (∀ a, org = some a → x_lex (n.2.2.2.2.2.map (fun l => (xl_ev l vn).toNat)) (a.map (fun l => (xl_ev l vorg).toNat))) → x_Gd xs L J (d + 1) M K n.1 lv [] G) :
    ∀ (f : Nat) (go : Bool) (pc : Nat) (g : xG) (v : Nat → Int) (lv : pL) (ws : List Value) (G : List pE), x_exec tb cts M D E m0 m ps ns org f go pc g = true → x_ag m0 v0 v → x_ag m vorg v → x_S tb th v g lv ws G → x_eff th E G0 G → x_Gd xs L J (d + 1) M K pc lv ws G
  | 0, _, _, _, _, _, _, _, h, _, _, _, _ => by cases h
  | f + 1, go, pc, g, v, lv, ws, G, h, h0, h1, hS, hE => by
    have ih := x_exec_ok hT h36 hQ hK hD hc hd hm horg IH f
    rw [x_exec] at h
    split at h
    · -- a cut point
      rename_i n9 nr9 hn
      have hn2 : ns.filter (fun n => n.1 == pc) = n9 :: nr9 := by
        cases go with
        | true => cases hn
        | false => exact hn
      rw [← hn2] at h
      obtain ⟨n, hn4, h⟩ := List.any_eq_true.mp h
      obtain ⟨hn5, hn6⟩ := List.mem_filter.mp hn4
      have hn3 : n.1 = pc := by simpa using hn6
      obtain ⟨rfl, vn, v', k1, k2, k3, k4⟩ := x_node_ok h hm hS
      rw [← hn3]
      refine IH n hn5 vn lv G (h0.tr k1) k3 hE (fun a ha => ?_)
      have h5 := k4 a ha
      have e : a.map (fun l => (xl_ev l v').toNat) = a.map (fun l => (xl_ev l vorg).toNat) := by
        apply List.map_congr_left
        intro r hr
        rw [xl_lt_ev (h1.tr k2) (horg a ha r hr)]
      rw [e] at h5
      exact h5
    · split at h
      · cases h
      · rename_i q hq
        have hq1 : q.1 = pc := by simpa using List.find?_some hq
        have hdec := hD q (List.mem_of_find?_eq_some hq)
        rw [hq1] at hdec
        split at h
        · rename_i hlen
          split at h
          · -- an end
            split at h
            · rename_i ra hra
              obtain ⟨r, r1, r2⟩ := x_retk_ok hS.1 hS.2.1 hS.2.2.2.1 hra
              exact ⟨r, G, x_runs_ret hdec hlen r1, hK _ _ (x_end_ok h hm hS h0 hE r2)⟩
            · cases h
          · rename_i hnr
            have hnr : x_isRet q.2.1 = false := by simpa using hnr
            split at h
            · -- a step
              rename_i hcl
              split at h
              · rename_i z hz
                obtain ⟨hi, hm2, ws1, ws', G', c1, c2, c3, c4⟩ := x_cpy_ok (own := M.own) (nL := M.maxL) (ini := decide (M.y.name = "<init>")) (xs := xs) (L := L) (J := J) hT hS hz
                have := ih false z.1 z.2 v lv ws' G' h h0 h1 c3 (hE.tr c4)
                rw [hi] at hdec hlen hnr hcl
                have hdec2 := hD (pc + 1, Instr.iastore, 1) hm2
                dsimp only at hdec2
                exact this.via (fun r G' hr => x_runs_step hdec hlen hnr hcl c1 (x_runs_iastore hdec2 c2 hr))
              split at h
              · rename_i out hout
                obtain ⟨z, hz, v', lv', ws', G1, z1, z2, z3, z4⟩ := x_wrd_ok (own := M.own) (nL := M.maxL) (ini := decide (M.y.name = "<init>")) (xs := xs) (L := L) (J := J) hT h36 hS (fun z => hQ z G hE) hout
                have := ih false z.1 z.2 v' lv' ws' G1 (List.all_eq_true.mp h z hz) (h0.tr (fun i hi => z1 i (by omega))) (h1.tr z1) z3 (hE.tr z4)
                exact this.via (fun r G' hr => x_runs_step hdec hlen hnr hcl z2 hr)
              split at h
              · rename_i out hout
                obtain ⟨z, hz, v', lv', ws', G1, z1, z2, z3, z4⟩ := xs_step (ini := decide (M.y.name = "<init>")) (xs := xs) (L := L) (J := J) hT hS hout
                have := ih false z.1 z.2 v' lv' ws' G1 (List.all_eq_true.mp h z hz) (h0.tr (fun i hi => z1 i (by omega))) (h1.tr z1) z3 (hE.tr z4)
                exact this.via (fun r G' hr => x_runs_step hdec hlen hnr hcl z2 hr)
              · cases h
            · -- a call
              rename_i w k hcl
              split at h
              · cases h
              · rename_i c0 hc0
                split at h
                · cases h
                · rename_i hk7
                  split at h
                  · rename_i l1 l2 r hst
                    rw [Bool.and_eq_true, decide_eq_true_eq] at h
                    obtain ⟨⟨rfl, hsum⟩, h⟩ := h
                    split at h
                    · rename_i out hout
                      have hgs := hS.2.2.2.1
                      rw [hst] at hgs
                      obtain ⟨w1, r1, rfl, g1, hs1⟩ := x_gs_cons hgs
                      obtain ⟨w2, r2, rfl, g2, hs2⟩ := x_gs_cons hs1
                      obtain ⟨y, rfl, -⟩ := x_g0 g1
                      obtain ⟨x, rfl, -⟩ := x_g0 g2
                      obtain ⟨z, hz, v', z1, z2, z3⟩ := x_hv_ok (rest := r2) (n0 := g.2.2.2.2) hS hout (if x < y then y else x) (fun v' hS' _ => ⟨fun c hc => absurd hc List.not_mem_nil, by have := hS'.2.2.2.1; dsimp only at this; rw [hst] at this; exact this.2.2⟩)
                      have := ih false z.1 z.2 v' lv _ G (List.all_eq_true.mp h z hz) (h0.tr (fun i hi => z1 i (by omega))) (h1.tr z1) z3 hE
                      rw [z2] at this
                      exact this.via (fun r G' hr => x_runs_max hdec hlen hnr hcl hc0 hk7 (by rw [x_sum_ok hs2]; exact hsum) hr)
                    · cases h
                  · cases h
                · rename_i hk8
                  split at h
                  · rename_i l1 l2 r hst
                    rw [Bool.and_eq_true, decide_eq_true_eq] at h
                    obtain ⟨⟨rfl, hsum⟩, h⟩ := h
                    split at h
                    · rename_i out hout
                      have hgs := hS.2.2.2.1
                      rw [hst] at hgs
                      obtain ⟨w1, r1, rfl, g1, hs1⟩ := x_gs_cons hgs
                      obtain ⟨w2, r2, rfl, g2, hs2⟩ := x_gs_cons hs1
                      obtain ⟨y, rfl, -⟩ := x_g0 g1
                      obtain ⟨x, rfl, -⟩ := x_g0 g2
                      obtain ⟨z, hz, v', z1, z2, z3⟩ := x_hv_ok (rest := r2) (n0 := g.2.2.2.2) hS hout (if y < x then y else x) (fun v' hS' _ => ⟨fun c hc => absurd hc List.not_mem_nil, by have := hS'.2.2.2.1; dsimp only at this; rw [hst] at this; exact this.2.2⟩)
                      have := ih false z.1 z.2 v' lv _ G (List.all_eq_true.mp h z hz) (h0.tr (fun i hi => z1 i (by omega))) (h1.tr z1) z3 hE
                      rw [z2] at this
                      exact this.via (fun r G' hr => x_runs_min hdec hlen hnr hcl hc0 hk8 (by rw [x_sum_ok hs2]; exact hsum) hr)
                    · cases h
                  · cases h
                · rename_i hk9
                  split at h
                  · rename_i l1 r hst
                    rw [Bool.and_eq_true, decide_eq_true_eq] at h
                    obtain ⟨⟨rfl, hsum⟩, h⟩ := h
                    split at h
                    · rename_i out hout
                      have hgs := hS.2.2.2.1
                      rw [hst] at hgs
                      obtain ⟨w1, r1, rfl, g1, hs1⟩ := x_gs_cons hgs
                      obtain ⟨x, rfl, -⟩ := x_g0 g1
                      obtain ⟨z, hz, v', z1, z2, z3⟩ := x_hv_ok (rest := r1) (n0 := g.2.2.2.2) hS hout (if 0 ≤ x then x else 0 - x) (fun v' hS' _ => ⟨fun c hc => absurd hc List.not_mem_nil, by have := hS'.2.2.2.1; dsimp only at this; rw [hst] at this; exact this.2⟩)
                      have := ih false z.1 z.2 v' lv _ G (List.all_eq_true.mp h z hz) (h0.tr (fun i hi => z1 i (by omega))) (h1.tr z1) z3 hE
                      rw [z2] at this
                      exact this.via (fun r G' hr => x_runs_abs hdec hlen hnr hcl hc0 hk9 (by rw [x_sum_ok hs1]; exact hsum) hr)
                    · cases h
                  · cases h
                · rename_i n0 n7 n8 n9
                  split at h
                  · rename_i M' hM'
                    split at h
                    · rename_i hok
                      obtain ⟨o1, o2, o3, o4, o5⟩ := hok
                      split at h
                      · rename_i out hout
                        obtain ⟨z, hz, v2, r1, G1, z1, z2, z3, z4, z5⟩ := x_call_ok hM' hd hS (fun z => hQ z G hE) hc hout
                        have := ih false z.1 z.2 v2 lv _ G1 (List.all_eq_true.mp h z hz) (h0.tr (fun i hi => z1 i (by omega))) (h1.tr z1) z4 (hE.tr z5)
                        rw [z3] at this
                        obtain ⟨t1, t2⟩ := x_gs_take (pm_na M') hS.2.2.2.1
                        refine this.via (fun r G' hr => x_runs_call hdec hlen hnr hcl hc0 ⟨n0, n7, n8, n9⟩ hM' ⟨o1, ?_, ?_, ?_, ?_⟩ z2 hr)
                        · rw [x_gs_len hS.2.2.2.1]; exact o2
                        · exact x_recv_ok hS.2.2.2.2.2 t1 o5
                        · rw [x_sl_sum, x_sum_rev, x_sum_ok (x_gs_take1 (pm_na M') hS.2.2.2.1)]; exact o4
                        · rw [x_sum_ok t2]; exact o3
                      · cases h
                    · cases h
                  · cases h
        · cases h
theorem x_args_ok {v : Nat → Int} : ∀ {as : List xV} {ws : List Value} (i : Nat), x_gs th v as ws → ∀ q ∈ lv_argsX i as, ∃ w, (q.1, w) ∈ lv_args i ws ∧ x_g th v q.2 w
  | [], _, _, _, q, hq => by cases hq
  | _ :: _, [], _, h, _, _ => h.elim
  | a :: as, w :: ws, i, h, q, hq => by
    unfold lv_argsX at hq
    rcases List.mem_cons.mp hq with rfl | hq
    · exact ⟨w, List.mem_cons_self, h.1⟩
    · obtain ⟨w', h1, h2⟩ := x_args_ok _ h.2 q hq
      refine ⟨w', ?_, h2⟩
      unfold lv_args
      rw [x_cat2 h.1]
      refine List.mem_cons_of_mem _ ?_
      by_cases ha : a.1 = 1
      · simpa [ha] using h1
      · simpa [ha] using h1
theorem x_args_key : ∀ (ws : List Value) (i : Nat) (q : Nat × Value), q ∈ lv_args i ws → i ≤ q.1
  | [], _, _, h => by cases h
  | w :: ws, i, q, h => by
    unfold lv_args at h
    rcases List.mem_cons.mp h with rfl | h
    · exact Nat.le_refl _
    · have := x_args_key ws _ q h
      split at this <;> omega
theorem x_args_get : ∀ (ws : List Value) (i : Nat) (q : Nat × Value), q ∈ lv_args i ws → pm_get (lv_args i ws) q.1 = some q.2
  | [], _, _, h => by cases h
  | w :: ws, i, q, h => by
    unfold lv_args at h ⊢
    unfold pm_get
    rw [List.find?_cons]
    rcases List.mem_cons.mp h with rfl | h
    · simp
    · have h1 := x_args_key ws _ q h
      have h2 : (i == q.1) = false := by
        rw [beq_eq_false_iff_ne]
        split at h1 <;> omega
      simp only [h2]
      exact x_args_get ws _ q h
/-- what the checker says holds -/
theorem x_chk_ok {c : xC} {f : Nat} (hT : x_wf tb) (h36 : (tb 36).1 = 1 ∧ (tb 36).2.1 = 0 ∧ (tb 36).2.2.1 = 324) (hD : ∀ q ∈ D, decode M.code q.1 = .ok (q.2.1, q.2.2)) (hM : pm_tab[c.1]? = some M) (hc : ∀ c ∈ cts, x_Holds tb th xs L J c dm) (h : x_chk tb cts c M D ns f = true) : x_Holds tb th xs L J c (dm + 1) := by
  refine ⟨M, hM, fun d0 hd0 v as G hB hC hg hf hI hQ0 => ?_⟩
  obtain ⟨d, rfl⟩ : ∃ d, d0 = d + 1 := ⟨d0 - 1, by omega⟩
  have hd : dm ≤ d := by omega
  unfold x_chk at h
  rw [Bool.and_eq_true, Bool.and_eq_true] at h
  obtain ⟨⟨hfl, hent⟩, hns⟩ := h
  have hQ : x_flag c.2.2.2.2.2.1 = true → ∀ G1, x_eff th c.2.2.2.2.2.1 G G1 → x_Q th G1 := fun z G1 he => by
    rw [z] at hfl
    exact x_Q_eff (by simpa using hfl) he (hQ0 z)
  have hns : ∀ n ∈ ns, c.2.2.2.2.1 ≤ n.2.2.2.2.1 ∧ n.2.2.2.2.2.length = 5 ∧ (∀ r ∈ n.2.2.2.2.2, r.1.all (fun q => decide (q.1 < n.2.2.2.2.1)) = true) ∧ x_exec tb cts M D c.2.2.2.2.2.1 c.2.2.2.2.1 n.2.2.2.2.1 c.2.2.2.2.2.2.2 ns (some n.2.2.2.2.2) f true n.1 (n.2.2.2.1, n.2.1, [], n.2.2.1, n.2.2.2.2.1) = true := by
    intro n hn
    have := List.all_eq_true.mp hns n hn
    simp only [Bool.and_eq_true, decide_eq_true_eq] at this
    exact ⟨this.1.1.1, this.1.1.2, fun r hr => List.all_eq_true.mp this.1.2 r hr, this.2⟩
  have nodes : ∀ a : List Nat, a.length = 5 → ∀ n ∈ ns, ∀ (vn : Nat → Int) (lv : pL) (G1 : List pE), n.2.2.2.2.2.map (fun l => (xl_ev l vn).toNat) = a → x_ag c.2.2.2.2.1 v vn → x_S tb th vn (n.2.2.2.1, n.2.1, [], n.2.2.1, n.2.2.2.2.1) lv [] G1 → x_eff th c.2.2.2.2.2.1 G G1 → x_Gd xs L J (d + 1) M (x_Post tb th c.2.2.2.2.2.1 c.2.2.2.2.2.2.2 c.2.2.2.2.1 v G) n.1 lv [] G1 := by
    refine x_lex_ind 5 _ (fun a ha ih n hn vn lv G1 hra hag hSn hEn => ?_)
    obtain ⟨n1, n2, n3, n4⟩ := hns n hn
    refine x_exec_ok (vorg := vn) hT h36 hQ (fun _ _ h => h) hD hc hd n1 (fun a' ha' r hr => ?_) (fun n' hn' vn' lv' G' hag' hS' hE' hlex => ?_) f true n.1 _ vn lv [] G1 n4 hag x_ag.rf hSn hEn
    · cases ha'
      exact n3 r hr
    · have hl := hlex _ rfl
      rw [hra] at hl
      exact ih _ (by rw [List.length_map]; exact (hns n' hn').2.1) hl n' hn' vn' lv' G' rfl hag' hS' hE'
  have hgood := x_exec_ok (vorg := v) (v0 := v) (G0 := G) (K := x_Post tb th c.2.2.2.2.2.1 c.2.2.2.2.2.2.2 c.2.2.2.2.1 v G) hT h36 hQ (fun _ _ h => h) hD hc hd (Nat.le_refl _) (fun a ha => by cases ha) (fun n hn vn lv G1 hag hSn hEn _ => nodes _ (by rw [List.length_map]; exact (hns n hn).2.1) n hn vn lv G1 rfl hag hSn hEn) f false 0 _ v (lv_args 0 as) [] G hent x_ag.rf x_ag.rf ⟨hB, hC, fun q hq => by
    obtain ⟨w, w1, w2⟩ := x_args_ok 0 hg q hq
    exact ⟨w, x_args_get as 0 _ w1, w2⟩, trivial, hf, hI⟩ x_eff.rf
  obtain ⟨r, G', r1, v', p1, p2, p3, p4, p5⟩ := hgood
  exact ⟨r, G', v', r1, p1, p2, p3, p4, p5⟩
end XQ
