-- ===== the checker is sound, all of it =====
theorem x_cat2 {th : List Nat} {v : Nat → Int} {a : xV} {w : Value} (h : x_g th v a w) : w.category = if a.1 = 1 then 2 else 1 := by
  split
  · rename_i h1
    obtain ⟨ak, al⟩ := a
    obtain rfl : ak = 1 := h1
    obtain ⟨x, rfl⟩ := h
    rfl
  · rename_i h1
    exact x_g_cat h h1
theorem x_sum_ok {th : List Nat} {v : Nat → Int} : ∀ {st : List xV} {ws : List Value}, x_gs th v st ws → (ws.map fun w => w.category).sum = x_sum st
  | [], [], _ => rfl
  | [], _ :: _, h => h.elim
  | _ :: _, [], h => h.elim
  | a :: st, w :: ws, h => by
    unfold x_sum
    rw [List.map_cons, List.map_cons, List.sum_cons, List.sum_cons, x_sum_ok h.2, x_cat2 h.1]
    rfl
theorem x_sl_sum : ∀ as : List Value, (lg_sl as).length = (as.map fun w => w.category).sum
  | [] => rfl
  | w :: as => by
    have h := x_sl_sum as
    unfold lg_sl at h ⊢
    rw [List.flatMap_cons, List.length_append, h, List.map_cons, List.sum_cons]
    congr 1
    rcases lv_cat w with h1 | h1 <;> simp [h1]
theorem x_sum_rev (as : List Value) : (as.reverse.map fun w => w.category).sum = (as.map fun w => w.category).sum := by
  rw [List.map_reverse]
  exact List.sum_reverse _
theorem x_gs_take1 {th : List Nat} {v : Nat → Int} : ∀ (n : Nat) {as : List xV} {ws : List Value}, x_gs th v as ws → x_gs th v (as.take n) (ws.take n)
  | 0, _, _, _ => trivial
  | _ + 1, [], [], _ => trivial
  | _ + 1, [], _ :: _, h => h.elim
  | _ + 1, _ :: _, [], h => h.elim
  | n + 1, a :: as, w :: ws, h => ⟨h.1, x_gs_take1 n h.2⟩
theorem x_recv_ok {tb : Nat → xT} {th : List Nat} {v : Nat → Int} {M' : pM} {st : List xV} {as : List Value} {G : List pE} {k : Nat} (hI : xI tb th G) (hg : x_gs th v st as) (h : M'.st = true ∨ x_rcv tb M' st = true) : pm_recv k M' as G = true := by
  unfold pm_recv
  rcases h with h | h
  · rw [h]
  · split
    · rfl
    · cases st with
      | nil => cases h
      | cons a st' =>
        obtain ⟨w, r, rfl, g1, -⟩ := x_gs_cons hg
        unfold x_rcv at h
        simp only [Bool.and_eq_true, decide_eq_true_eq, beq_iff_eq] at h
        obtain ⟨b, rfl, -, hb⟩ := x_g_cell g1 h.1.1
        obtain ⟨e, he, hs⟩ := (hI.2.2 b _ hb).1
        obtain ⟨fs, rfl, -⟩ := x_obj hs h.1.2
        dsimp only
        split
        · rfl
        · rfl
        · rw [he]
          dsimp only
          rw [h.2]
          simp
section XQ
variable {tb : Nat → xT} {th : List Nat} {xs : Nat → Int32} {L J : Nat} {cts : List xC} {M : pM} {D : xD} {E : List (Nat × Nat × Nat)} {m0 m : Nat} {ps : List xP} {ns : List xN} {org : Option (List xL)} {dm d : Nat} {v0 vorg : Nat → Int} {G0 : List pE}
theorem x_Good.via {pc pc' : Nat} {lv lv' : pL} {ws ws' : List Value} {G G1 : List pE} (h : x_Good tb th xs L J d M E ps m0 v0 G0 pc' lv' ws' G1) (hr : ∀ r G', x_runs xs L J d M pc' lv' ws' G1 r G' → x_runs xs L J d M pc lv ws G r G') : x_Good tb th xs L J d M E ps m0 v0 G0 pc lv ws G := by
  obtain ⟨r, G', h1, h2⟩ := h
  exact ⟨r, G', hr r G' h1, h2⟩
set_option maxHeartbeats 4000000 in
theorem x_exec_ok (hT : x_wf tb) (hD : ∀ q ∈ D, decode M.code q.1 = .ok (q.2.1, q.2.2)) (hc : ∀ c ∈ cts, x_Holds tb th xs L J c dm) (hd : dm ≤ d) (hm : m0 ≤ m) (horg : ∀ a, org = some a → ∀ r ∈ a, r.1.all (fun q => decide (q.1 < m)) = true)
    (IH : ∀ n ∈ ns, ∀ (vn : Nat → Int) (lv : pL) (G : List pE), x_ag m0 v0 vn → x_S tb th vn (n.2.2.2.1, n.2.1, [], n.2.2.1, n.2.2.2.2.1) lv [] G → x_eff th E G0 G → (∀ a, org = some a → x_lex (n.2.2.2.2.2.map (fun l => (xl_ev l vn).toNat)) (a.map (fun l => (xl_ev l vorg).toNat))) → x_Good tb th xs L J (d + 1) M E ps m0 v0 G0 n.1 lv [] G) :
    ∀ (f : Nat) (go : Bool) (pc : Nat) (g : xG) (v : Nat → Int) (lv : pL) (ws : List Value) (G : List pE), x_exec tb cts M D E m0 m ps ns org f go pc g = true → x_ag m0 v0 v → x_ag m vorg v → x_S tb th v g lv ws G → x_eff th E G0 G → x_Good tb th xs L J (d + 1) M E ps m0 v0 G0 pc lv ws G
  | 0, _, _, _, _, _, _, _, h, _, _, _, _ => by cases h
  | f + 1, go, pc, g, v, lv, ws, G, h, h0, h1, hS, hE => by
    have ih := x_exec_ok hT hD hc hd hm horg IH f
    rw [x_exec] at h
    split at h
    · -- a cut point
      rename_i n hn
      have hn2 : ns.find? (fun n => n.1 == pc) = some n := by
        cases go with
        | true => cases hn
        | false => exact hn
      have hn3 : n.1 = pc := by simpa using List.find?_some hn2
      obtain ⟨rfl, vn, v', k1, k2, k3, k4⟩ := x_node_ok h hm hS
      rw [← hn3]
      refine IH n (List.mem_of_find?_eq_some hn2) vn lv G (h0.tr k1) k3 hE (fun a ha => ?_)
      have h5 := k4 a ha
      have e : a.map (fun l => (xl_ev l v').toNat) = a.map (fun l => (xl_ev l vorg).toNat) := by
        apply List.map_congr_left
        intro r hr
        rw [xl_lt_ev (h1.tr k2) (horg a ha r hr)]
      rw [e] at h5
      exact h5
    · split at h
      · cases h
      · rename_i q hq
        have hq1 : q.1 = pc := by simpa using List.find?_some hq
        have hdec := hD q (List.mem_of_find?_eq_some hq)
        rw [hq1] at hdec
        split at h
        · rename_i hlen
          split at h
          · -- an end
            split at h
            · rename_i ra hra
              obtain ⟨r, r1, r2⟩ := x_retk_ok hS.1 hS.2.1 hS.2.2.2.1 hra
              exact ⟨r, G, x_runs_ret hdec hlen r1, x_end_ok h hm hS h0 hE r2⟩
            · cases h
          · rename_i hnr
            have hnr : x_isRet q.2.1 = false := by simpa using hnr
            split at h
            · -- a step
              rename_i hcl
              split at h
              · rename_i out hout
                obtain ⟨z, hz, v', lv', ws', G1, z1, z2, z3, z4⟩ := xs_step (ini := decide (M.y.name = "<init>")) (xs := xs) (L := L) (J := J) hT hS hout
                have := ih false z.1 z.2 v' lv' ws' G1 (List.all_eq_true.mp h z hz) (h0.tr (fun i hi => z1 i (by omega))) (h1.tr z1) z3 (hE.tr z4)
                exact this.via (fun r G' hr => x_runs_step hdec hlen hnr hcl z2 hr)
              · cases h
            · -- a call
              rename_i w k hcl
              split at h
              · cases h
              · rename_i c0 hc0
                split at h
                · cases h
                · rename_i hk7
                  split at h
                  · rename_i l1 l2 r hst
                    rw [Bool.and_eq_true, decide_eq_true_eq] at h
                    obtain ⟨⟨rfl, hsum⟩, h⟩ := h
                    split at h
                    · rename_i out hout
                      have hgs := hS.2.2.2.1
                      rw [hst] at hgs
                      obtain ⟨w1, r1, rfl, g1, hs1⟩ := x_gs_cons hgs
                      obtain ⟨w2, r2, rfl, g2, hs2⟩ := x_gs_cons hs1
                      obtain ⟨y, rfl, -⟩ := x_g0 g1
                      obtain ⟨x, rfl, -⟩ := x_g0 g2
                      obtain ⟨z, hz, v', z1, z2, z3⟩ := x_hv_ok (rest := r2) (n0 := g.2.2.2.2) hS hout (if x < y then y else x) (fun v' hS' _ => ⟨fun c hc => absurd hc List.not_mem_nil, by have := hS'.2.2.2.1; dsimp only at this; rw [hst] at this; exact this.2.2⟩)
                      have := ih false z.1 z.2 v' lv _ G (List.all_eq_true.mp h z hz) (h0.tr (fun i hi => z1 i (by omega))) (h1.tr z1) z3 hE
                      rw [z2] at this
                      exact this.via (fun r G' hr => x_runs_max hdec hlen hnr hcl hc0 hk7 (by rw [x_sum_ok hs2]; exact hsum) hr)
                    · cases h
                  · cases h
                · rename_i hk8
                  split at h
                  · rename_i l1 l2 r hst
                    rw [Bool.and_eq_true, decide_eq_true_eq] at h
                    obtain ⟨⟨rfl, hsum⟩, h⟩ := h
                    split at h
                    · rename_i out hout
                      have hgs := hS.2.2.2.1
                      rw [hst] at hgs
                      obtain ⟨w1, r1, rfl, g1, hs1⟩ := x_gs_cons hgs
                      obtain ⟨w2, r2, rfl, g2, hs2⟩ := x_gs_cons hs1
                      obtain ⟨y, rfl, -⟩ := x_g0 g1
                      obtain ⟨x, rfl, -⟩ := x_g0 g2
                      obtain ⟨z, hz, v', z1, z2, z3⟩ := x_hv_ok (rest := r2) (n0 := g.2.2.2.2) hS hout (if y < x then y else x) (fun v' hS' _ => ⟨fun c hc => absurd hc List.not_mem_nil, by have := hS'.2.2.2.1; dsimp only at this; rw [hst] at this; exact this.2.2⟩)
                      have := ih false z.1 z.2 v' lv _ G (List.all_eq_true.mp h z hz) (h0.tr (fun i hi => z1 i (by omega))) (h1.tr z1) z3 hE
                      rw [z2] at this
                      exact this.via (fun r G' hr => x_runs_min hdec hlen hnr hcl hc0 hk8 (by rw [x_sum_ok hs2]; exact hsum) hr)
                    · cases h
                  · cases h
                · rename_i hk9
                  split at h
                  · rename_i l1 r hst
                    rw [Bool.and_eq_true, decide_eq_true_eq] at h
                    obtain ⟨⟨rfl, hsum⟩, h⟩ := h
                    split at h
                    · rename_i out hout
                      have hgs := hS.2.2.2.1
                      rw [hst] at hgs
                      obtain ⟨w1, r1, rfl, g1, hs1⟩ := x_gs_cons hgs
                      obtain ⟨x, rfl, -⟩ := x_g0 g1
                      obtain ⟨z, hz, v', z1, z2, z3⟩ := x_hv_ok (rest := r1) (n0 := g.2.2.2.2) hS hout (if 0 ≤ x then x else 0 - x) (fun v' hS' _ => ⟨fun c hc => absurd hc List.not_mem_nil, by have := hS'.2.2.2.1; dsimp only at this; rw [hst] at this; exact this.2⟩)
                      have := ih false z.1 z.2 v' lv _ G (List.all_eq_true.mp h z hz) (h0.tr (fun i hi => z1 i (by omega))) (h1.tr z1) z3 hE
                      rw [z2] at this
                      exact this.via (fun r G' hr => x_runs_abs hdec hlen hnr hcl hc0 hk9 (by rw [x_sum_ok hs1]; exact hsum) hr)
                    · cases h
                  · cases h
                · rename_i n0 n7 n8 n9
                  split at h
                  · rename_i M' hM'
                    split at h
                    · rename_i hok
                      obtain ⟨o1, o2, o3, o4, o5⟩ := hok
                      split at h
                      · rename_i out hout
                        obtain ⟨z, hz, v2, r1, G1, z1, z2, z3, z4, z5⟩ := x_call_ok hM' hd hS hc hout
                        have := ih false z.1 z.2 v2 lv _ G1 (List.all_eq_true.mp h z hz) (h0.tr (fun i hi => z1 i (by omega))) (h1.tr z1) z4 (hE.tr z5)
                        rw [z3] at this
                        obtain ⟨t1, t2⟩ := x_gs_take (pm_na M') hS.2.2.2.1
                        refine this.via (fun r G' hr => x_runs_call hdec hlen hnr hcl hc0 ⟨n0, n7, n8, n9⟩ hM' ⟨o1, ?_, ?_, ?_, ?_⟩ z2 hr)
                        · rw [x_gs_len hS.2.2.2.1]; exact o2
                        · exact x_recv_ok hS.2.2.2.2.2 t1 o5
                        · rw [x_sl_sum, x_sum_rev, x_sum_ok (x_gs_take1 (pm_na M') hS.2.2.2.1)]; exact o4
                        · rw [x_sum_ok t2]; exact o3
                      · cases h
                    · cases h
                  · cases h
        · cases h
theorem x_args_ok {v : Nat → Int} : ∀ {as : List xV} {ws : List Value} (i : Nat), x_gs th v as ws → ∀ q ∈ lv_argsX i as, ∃ w, (q.1, w) ∈ lv_args i ws ∧ x_g th v q.2 w
  | [], _, _, _, q, hq => by cases hq
  | _ :: _, [], _, h, _, _ => h.elim
  | a :: as, w :: ws, i, h, q, hq => by
    unfold lv_argsX at hq
    rcases List.mem_cons.mp hq with rfl | hq
    · exact ⟨w, List.mem_cons_self, h.1⟩
    · obtain ⟨w', h1, h2⟩ := x_args_ok _ h.2 q hq
      refine ⟨w', ?_, h2⟩
      unfold lv_args
      rw [x_cat2 h.1]
      refine List.mem_cons_of_mem _ ?_
      by_cases ha : a.1 = 1
      · simpa [ha] using h1
      · simpa [ha] using h1
theorem x_args_key : ∀ (ws : List Value) (i : Nat) (q : Nat × Value), q ∈ lv_args i ws → i ≤ q.1
  | [], _, _, h => by cases h
  | w :: ws, i, q, h => by
    unfold lv_args at h
    rcases List.mem_cons.mp h with rfl | h
    · exact Nat.le_refl _
    · have := x_args_key ws _ q h
      split at this <;> omega
theorem x_args_get : ∀ (ws : List Value) (i : Nat) (q : Nat × Value), q ∈ lv_args i ws → pm_get (lv_args i ws) q.1 = some q.2
  | [], _, _, h => by cases h
  | w :: ws, i, q, h => by
    unfold lv_args at h ⊢
    unfold pm_get
    rw [List.find?_cons]
    rcases List.mem_cons.mp h with rfl | h
    · simp
    · have h1 := x_args_key ws _ q h
      have h2 : (i == q.1) = false := by
        rw [beq_eq_false_iff_ne]
        split at h1 <;> omega
      simp only [h2]
      exact x_args_get ws _ q h
/-- what the checker says holds -/
theorem x_chk_ok {c : xC} {f : Nat} (hT : x_wf tb) (hD : ∀ q ∈ D, decode M.code q.1 = .ok (q.2.1, q.2.2)) (hM : pm_tab[c.1]? = some M) (hc : ∀ c ∈ cts, x_Holds tb th xs L J c dm) (h : x_chk tb cts c M D ns f = true) : x_Holds tb th xs L J c (dm + 1) := by
  refine ⟨M, hM, fun d0 hd0 v as G hB hC hg hf hI => ?_⟩
  obtain ⟨d, rfl⟩ : ∃ d, d0 = d + 1 := ⟨d0 - 1, by omega⟩
  have hd : dm ≤ d := by omega
  unfold x_chk at h
  rw [Bool.and_eq_true] at h
  obtain ⟨hent, hns⟩ := h
  have hns : ∀ n ∈ ns, c.2.2.2.2.1 ≤ n.2.2.2.2.1 ∧ n.2.2.2.2.2.length = 5 ∧ (∀ r ∈ n.2.2.2.2.2, r.1.all (fun q => decide (q.1 < n.2.2.2.2.1)) = true) ∧ x_exec tb cts M D c.2.2.2.2.2.1 c.2.2.2.2.1 n.2.2.2.2.1 c.2.2.2.2.2.2.2 ns (some n.2.2.2.2.2) f true n.1 (n.2.2.2.1, n.2.1, [], n.2.2.1, n.2.2.2.2.1) = true := by
    intro n hn
    have := List.all_eq_true.mp hns n hn
    simp only [Bool.and_eq_true, decide_eq_true_eq] at this
    exact ⟨this.1.1.1, this.1.1.2, fun r hr => List.all_eq_true.mp this.1.2 r hr, this.2⟩
  have nodes : ∀ a : List Nat, a.length = 5 → ∀ n ∈ ns, ∀ (vn : Nat → Int) (lv : pL) (G1 : List pE), n.2.2.2.2.2.map (fun l => (xl_ev l vn).toNat) = a → x_ag c.2.2.2.2.1 v vn → x_S tb th vn (n.2.2.2.1, n.2.1, [], n.2.2.1, n.2.2.2.2.1) lv [] G1 → x_eff th c.2.2.2.2.2.1 G G1 → x_Good tb th xs L J (d + 1) M c.2.2.2.2.2.1 c.2.2.2.2.2.2.2 c.2.2.2.2.1 v G n.1 lv [] G1 := by
    refine x_lex_ind 5 _ (fun a ha ih n hn vn lv G1 hra hag hSn hEn => ?_)
    obtain ⟨n1, n2, n3, n4⟩ := hns n hn
    refine x_exec_ok (vorg := vn) hT hD hc hd n1 (fun a' ha' r hr => ?_) (fun n' hn' vn' lv' G' hag' hS' hE' hlex => ?_) f true n.1 _ vn lv [] G1 n4 hag x_ag.rf hSn hEn
    · cases ha'
      exact n3 r hr
    · have hl := hlex _ rfl
      rw [hra] at hl
      exact ih _ (by rw [List.length_map]; exact (hns n' hn').2.1) hl n' hn' vn' lv' G' rfl hag' hS' hE'
  have hgood := x_exec_ok (vorg := v) (v0 := v) (G0 := G) hT hD hc hd (Nat.le_refl _) (fun a ha => by cases ha) (fun n hn vn lv G1 hag hSn hEn _ => nodes _ (by rw [List.length_map]; exact (hns n hn).2.1) n hn vn lv G1 rfl hag hSn hEn) f false 0 _ v (lv_args 0 as) [] G hent x_ag.rf x_ag.rf ⟨hB, hC, fun q hq => by
    obtain ⟨w, w1, w2⟩ := x_args_ok 0 hg q hq
    exact ⟨w, x_args_get as 0 _ w1, w2⟩, trivial, hf, hI⟩ x_eff.rf
  obtain ⟨r, G', r1, v', p1, p2, p3, p4, p5⟩ := hgood
  exact ⟨r, G', v', r1, p1, p2, p3, p4, p5⟩
end XQ
