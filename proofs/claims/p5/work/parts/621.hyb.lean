-- ===== contracts by segments and by hand =====
section YH
variable {tb : Nat → xT} {th : List Nat} {xs : Nat → Int32} {L J dm f : Nat} {M : pM} {D : xD} {cts : List xC} {ns os : List xN}
theorem x_hyb {c : xC} (hT : x_wf tb) (h36 : (tb 36).1 = 1 ∧ (tb 36).2.1 = 0 ∧ (tb 36).2.2.1 = 324) (hD : ∀ q ∈ D, decode M.code q.1 = .ok (q.2.1, q.2.2)) (hM : pm_tab[c.1]? = some M) (hc : ∀ c ∈ cts, x_Holds tb th xs L J c dm) (hfl : (!x_flag c.2.2.2.2.2.1 || x_dis c.2.2.2.2.2.1) = true) (h : x_seg tb cts M D c.2.2.2.2.2.1 c.2.2.2.2.1 c.2.2.2.2.2.2.2 ns os f false 0 (c.2.2.1, lv_argsX 0 c.2.1, [], c.2.2.2.1, c.2.2.2.2.1) = true)
    (hO : ∀ d, dm ≤ d → ∀ (v : Nat → Int) (G0 : List pE), x_Bd v → (x_flag c.2.2.2.2.2.1 = true → ∀ G1, x_eff th c.2.2.2.2.2.1 G0 G1 → x_Q th G1) → ∀ n ∈ os, ∀ (vn : Nat → Int) (lv : pL) (G1 : List pE), x_ag c.2.2.2.2.1 v vn → x_S tb th vn (n.2.2.2.1, n.2.1, [], n.2.2.1, n.2.2.2.2.1) lv [] G1 → x_eff th c.2.2.2.2.2.1 G0 G1 → x_Gd xs L J (d + 1) M (x_Post tb th c.2.2.2.2.2.1 c.2.2.2.2.2.2.2 c.2.2.2.2.1 v G0) n.1 lv [] G1) : x_Holds tb th xs L J c (dm + 1) := by
  refine ⟨M, hM, fun d0 hd0 v as G hB hC hg hf hI hQ0 => ?_⟩
  obtain ⟨d, rfl⟩ : ∃ d, d0 = d + 1 := ⟨d0 - 1, by omega⟩
  have hd : dm ≤ d := by omega
  have hQ : x_flag c.2.2.2.2.2.1 = true → ∀ G1, x_eff th c.2.2.2.2.2.1 G G1 → x_Q th G1 := fun z G1 he => by
    rw [z] at hfl
    exact x_Q_eff (by simpa using hfl) he (hQ0 z)
  obtain ⟨r, G', r1, v', p1, p2, p3, p4, p5⟩ := x_seg_ok (G0 := G) (K := x_Post tb th c.2.2.2.2.2.1 c.2.2.2.2.2.2.2 c.2.2.2.2.1 v G) hT h36 hD hc hd h (v := v) (lv := lv_args 0 as) (ws := []) (G := G) ⟨hB, hC, fun q hq => by
    obtain ⟨w, w1, w2⟩ := x_args_ok 0 hg q hq
    exact ⟨w, x_args_get as 0 _ w1, w2⟩, trivial, hf, hI⟩ x_eff.rf hQ (fun _ _ h => h) (fun n hn vn lv G1 hag hSn hEn => hO d hd v G hB hQ n hn vn lv G1 hag hSn hEn)
  exact ⟨r, G', v', r1, p1, p2, p3, p4, p5⟩
theorem y_postI {E : List (Nat × Nat × Nat)} {m0 : Nat} {v : Nat → Int} {G0 G' : List pE} (z : Int32) (hB : x_Bd v) (hI : xI tb th G') (hE : x_eff th E G0 G') : x_Post tb th E [(some (0, ([(m0, 1)], 0)), [], [])] m0 v G0 (some (.int z)) G' := by
  obtain ⟨h1, h2⟩ := x_i32 z
  exact ⟨x_up v m0 z.toInt, x_ag.up (Nat.le_refl _), x_up_Bd hB h1 h2, hI, hE, _, List.mem_cons_self, fun c hc => absurd hc List.not_mem_nil, fun q hq => absurd hq List.not_mem_nil, z, rfl, by simp [xl_ev, xt_ev, x_up]⟩
theorem y_postN {E : List (Nat × Nat × Nat)} {m0 : Nat} {v : Nat → Int} {G0 G' : List pE} (hB : x_Bd v) (hI : xI tb th G') (hE : x_eff th E G0 G') : x_Post tb th E [(none, [], [])] m0 v G0 none G' :=
  ⟨v, x_ag.rf, hB, hI, hE, _, List.mem_cons_self, fun c hc => absurd hc List.not_mem_nil, fun q hq => absurd hq List.not_mem_nil, trivial⟩
/-- a local of a cut point -/
theorem x_S.lo0 {v : Nat → Int} {g : xG} {lv : pL} {ws : List Value} {G : List pE} (h : x_S tb th v g lv ws G) {i : Nat} {l : xL} (hm : (i, ((0 : Nat), l)) ∈ g.2.1) : ∃ x : Int32, pm_get lv i = some (.int x) ∧ x.toInt = xl_ev l v := by
  obtain ⟨w, h1, x, rfl, h2⟩ := h.2.2.1 _ hm
  exact ⟨x, h1, h2⟩
theorem x_S.loC {v : Nat → Int} {g : xG} {lv : pL} {ws : List Value} {G : List pE} (h : x_S tb th v g lv ws G) {i t : Nat} {l : xL} (hm : (i, (t + 10, l)) ∈ g.2.1) : ∃ a : Nat, pm_get lv i = some (.ref a) ∧ (a : Int) = xl_ev l v ∧ th[a]? = some t := by
  obtain ⟨w, h1, h2⟩ := h.2.2.1 _ hm
  obtain ⟨a, rfl, h3, h4⟩ := h2
  exact ⟨a, h1, h3, h4⟩
end YH
theorem x_eff.sub {th : List Nat} {E E' : List (Nat × Nat × Nat)} {G G' : List pE} (h : x_eff th E G G') (hs : x_subE E E' = true) : x_eff th E' G G' := by
  refine h.mono (fun q hq => ?_)
  obtain ⟨r, h1, h2, h3, h4⟩ := x_cov_ok (List.all_eq_true.mp hs q hq)
  exact ⟨r, h1, h2, h3, h4⟩
