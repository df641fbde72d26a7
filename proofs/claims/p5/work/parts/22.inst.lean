-- ===== patterns hold =====
section XG1
variable {tb : Nat → xT} {th : List Nat} {v : Nat → Int} {lv : pL} {ws : List Value} {G : List pE} {g : xG} {m : Nat}
theorem x_gs_mem {a : xV} : ∀ {as : List xV} {ws : List Value}, a ∈ as → x_gs th v as ws → ∃ w, x_g th v a w
  | [], _, h, _ => by cases h
  | _ :: _, [], _, h => h.elim
  | b :: as, w :: ws, h, hg => by
    rcases List.mem_cons.mp h with rfl | h
    · exact ⟨w, hg.1⟩
    · exact x_gs_mem h hg.2
theorem x_isC_ok {t : Nat} {cl : xL} (h : x_isC g t cl = true) (hS : x_S tb th v g lv ws G) : ∃ a : Nat, (a : Int) = xl_ev cl v ∧ th[a]? = some t := by
  have key : ∀ (a : xV) (w : Value), a.1 = t + 10 → a.2 = cl → x_g th v a w → ∃ b : Nat, (b : Int) = xl_ev cl v ∧ th[b]? = some t := by
    intro a w h1 h2 hg
    obtain ⟨b, -, h4, h5⟩ := x_g_cell hg (by omega)
    exact ⟨b, by rw [← h2]; exact h4, by rw [h5, h1, Nat.add_sub_cancel]⟩
  unfold x_isC at h
  simp only [Bool.or_eq_true, List.any_eq_true, Bool.and_eq_true, beq_iff_eq, decide_eq_true_eq] at h
  rcases h with ((⟨a, h1, h2, h3⟩ | ⟨q, h1, h2, h3⟩) | ⟨q, h1, h2, h3⟩) | ⟨q, h1, h2, h3⟩
  · obtain ⟨w, hw⟩ := x_gs_mem h1 hS.2.2.2.1
    exact key a w h2 h3 hw
  · obtain ⟨w, -, hw⟩ := hS.2.2.1 q h1
    exact key q.2 w h2 h3 hw
  · obtain ⟨a, -, -, w, -, hw⟩ := hS.2.2.2.2.1 q h1
    exact key q.2.2.2 w h2 h3 hw
  · obtain ⟨a, f1, f2, -⟩ := hS.2.2.2.2.1 q h1
    exact ⟨a, by rw [← h3]; exact f1, by rw [f2, h2]⟩
theorem x_isC_no {t i : Nat} {cl : xL} (h : x_isC g t cl = true) (hn : x_noG i g = true) : xt_no i cl.1 = true := by
  unfold x_noG at hn
  simp only [Bool.and_eq_true, List.all_eq_true] at hn
  obtain ⟨⟨⟨n1, n2⟩, n3⟩, n4⟩ := hn
  unfold x_isC at h
  simp only [Bool.or_eq_true, List.any_eq_true, Bool.and_eq_true, beq_iff_eq, decide_eq_true_eq] at h
  rcases h with ((⟨a, h1, h2, h3⟩ | ⟨q, h1, h2, h3⟩) | ⟨q, h1, h2, h3⟩) | ⟨q, h1, h2, h3⟩
  · rw [← h3]; exact n3 a h1
  · rw [← h3]; exact n2 q h1
  · rw [← h3]; exact (n4 q h1).2
  · rw [← h3]; exact (n4 q h1).1
theorem x_mat_ok {t i : Nat} {cl : xL} {g2 : xG} (h : x_mat tb m g t cl i = some g2) (hS : x_S tb th v g lv ws G) : ∃ v', x_ag m v v' ∧ x_S tb th v' g2 lv ws G ∧ g2.2.1 = g.2.1 ∧ g2.2.2.1 = g.2.2.1 := by
  unfold x_mat at h
  split at h
  · cases h
    exact ⟨v, x_ag.rf, hS, rfl, rfl⟩
  · split at h
    · rename_i hC
      split at h
      · rename_i f hf
        obtain ⟨b, hb, ht⟩ := x_isC_ok hC hS
        obtain ⟨w, hw, hok⟩ := (hS.2.2.2.2.2.2.2 b t ht).2 i f hf
        unfold xf_ok at hok
        split at h
        · rename_i h0
          rw [h0] at hok
          obtain ⟨x, rfl, b1, b2⟩ := hok
          split at h
          · rename_i hh
            cases h
            obtain ⟨c1, c2⟩ := x_i32 x
            obtain ⟨a1, a2, a3, a4, a5, a6⟩ := x_S_up (i := g.2.2.2.2) (x := x.toInt) hS hh.2 c1 c2
            refine ⟨_, x_ag.up hh.1, ⟨a1, fun c hc => ?_, a3, a4, fun q hq => ?_, a6⟩, rfl, rfl⟩
            · rcases List.mem_append.mp hc with h | h
              · rcases List.mem_cons.mp h with rfl | h
                · rw [xl_add_ev, xl_s_ev, xl_c_ev]
                  simp only [x_up, if_true]
                  omega
                · rw [List.mem_singleton.mp h, xl_sub_ev, xl_s_ev, xl_c_ev]
                  simp only [x_up, if_true]
                  omega
              · exact a2 c h
            · rcases List.mem_cons.mp hq with rfl | hq
              · exact ⟨b, by rw [xl_no_ev v _ (x_isC_no hC hh.2)]; exact hb, ht, _, hw, ⟨x, rfl, by rw [xl_s_ev]; simp [x_up]⟩⟩
              · exact a5 q hq
          · cases h
        · rename_i u h0
          rw [h0] at hok
          obtain ⟨k, rfl, hu⟩ := hok
          split at h
          · rename_i hh
            cases h
            have hkl := (hS.2.2.2.2.2.cell hu).1
            obtain ⟨a1, a2, a3, a4, a5, a6⟩ := x_S_up (i := g.2.2.2.2) (x := (k : Int)) hS hh.2 (by omega) (by unfold pm_TB at hkl; omega)
            refine ⟨_, x_ag.up hh.1, ⟨a1, a2, a3, a4, fun q hq => ?_, a6⟩, rfl, rfl⟩
            rcases List.mem_cons.mp hq with rfl | hq
            · exact ⟨b, by rw [xl_no_ev v _ (x_isC_no hC hh.2)]; exact hb, ht, _, hw, x_g_of_cell (by rw [xl_s_ev]; simp [x_up]) hu⟩
            · exact a5 q hq
          · cases h
        · cases h
      · cases h
    · cases h
theorem x_matL_ok : ∀ {pf : List xA} {g : xG} {v : Nat → Int} {bl bl2 : List (Nat × xL)} {g2 : xG}, x_matL tb m pf g bl = some (g2, bl2) → x_S tb th v g lv ws G → ∃ v', x_ag m v v' ∧ x_S tb th v' g2 lv ws G ∧ g2.2.1 = g.2.1 ∧ g2.2.2.1 = g.2.2.1
  | [], g, v, bl, bl2, g2, h, hS => by
    cases h
    exact ⟨v, x_ag.rf, hS, rfl, rfl⟩
  | q :: qs, g, v, bl, bl2, g2, h, hS => by
    unfold x_matL at h
    split at h
    · rename_i g1 hg1
      split at h
      · obtain ⟨v1, k1, k2, k3, k4⟩ := x_mat_ok hg1 hS
        obtain ⟨v2, j1, j2, j3, j4⟩ := x_matL_ok h k2
        exact ⟨v2, k1.tr j1, j2, j3.trans k3, j4.trans k4⟩
      · cases h
    · cases h
theorem x_g_kok {vc : Nat → Int} {p a : xV} {w : Value} (hk : x_kok p.1 a.1 = true) (he : xl_ev p.2 vc = xl_ev a.2 v ∨ (p.1 ≠ 0 ∧ p.1 < 10)) (hg : x_g th v a w) : x_g th vc p w := by
  obtain ⟨pk, pl⟩ := p
  obtain ⟨ak, al⟩ := a
  unfold x_kok at hk
  simp only [Bool.or_eq_true, Bool.and_eq_true, beq_iff_eq] at hk
  rcases hk with rfl | ⟨rfl, rfl⟩
  · unfold x_g at hg ⊢
    dsimp only at he hg ⊢
    split at hg
    · rename_i h0
      rcases he with he | he
      · rw [he]; exact hg
      · exact absurd rfl he.1
    · exact hg
    · exact hg
    · exact hg
    · exact hg
    · exact hg
    · rcases he with he | he
      · rw [he]; exact hg
      · exact absurd he.2 (by omega)
    · exact hg.elim
  · exact Or.inr hg
theorem x_okL_ok {b : Nat → xL} {v' : Nat → Int} : ∀ {pv av : List xV} {wv : List Value}, x_okL b pv av = true → x_gs th v' av wv → x_gs th (fun i => xl_ev (b i) v') pv wv
  | [], [], [], _, _ => trivial
  | [], [], _ :: _, _, h => h.elim
  | [], _ :: _, _, h, _ => by cases h
  | _ :: _, [], _, h, _ => by cases h
  | _ :: _, _ :: _, [], _, h => h.elim
  | p :: ps, a :: as, w :: ws, h, hg => by
    unfold x_okL at h
    simp only [Bool.and_eq_true, decide_eq_true_eq] at h
    refine ⟨x_g_kok h.1.1 (h.1.2.imp (fun e => ?_) id) hg.1, x_okL_ok h.2 hg.2⟩
    rw [← e, xl_subst_ev]
theorem x_ffind_ok {fa : List xA} {t i : Nat} {cl : xL} {f : xA} (h : x_ffind fa t cl i = some f) : f ∈ fa ∧ f.1 = t ∧ f.2.2.1 = i ∧ f.2.1 = cl := by
  unfold x_ffind at h
  have h1 := List.find?_some h
  simp only [Bool.and_eq_true, beq_iff_eq, decide_eq_true_eq] at h1
  exact ⟨List.mem_of_find?_eq_some h, h1.1.1, h1.1.2, h1.2⟩
theorem x_b_Bd {bl : List (Nat × xL)} {cs : List xL} (hB : x_Bd v) (hC : x_Cs cs v) (h : bl.all (fun q => x_rng cs q.2) = true) : x_Bd (fun i => xl_ev (x_b bl i) v) := by
  intro i
  show -2147483648 ≤ xl_ev (x_b bl i) v ∧ xl_ev (x_b bl i) v ≤ 2147483647
  unfold x_b
  split
  · rename_i q hq
    have := x_rng_ok hB hC (List.all_eq_true.mp h q (List.mem_of_find?_eq_some hq))
    omega
  · rw [xl_c_ev]
    omega
theorem x_inst_ok {bl bl2 : List (Nat × xL)} {pv av : List xV} {pf : List xA} {pc : List xL} {g2 : xG} (h : x_inst tb m bl pv pf pc av g = some (g2, bl2)) (hS : x_S tb th v g lv ws G) : ∃ v', x_ag m v v' ∧ x_S tb th v' g2 lv ws G ∧ g2.2.1 = g.2.1 ∧ g2.2.2.1 = g.2.2.1 ∧ x_Bd (fun i => xl_ev (x_b bl2 i) v') ∧ x_Cs pc (fun i => xl_ev (x_b bl2 i) v') ∧ (∀ q ∈ pf, x_fact th (fun i => xl_ev (x_b bl2 i) v') G q) ∧ ∀ wv, x_gs th v' av wv → x_gs th (fun i => xl_ev (x_b bl2 i) v') pv wv := by
  unfold x_inst at h
  split at h
  · rename_i g3 bl3 hm
    split at h
    · rename_i hok
      cases h
      obtain ⟨v', k1, k2, k3, k4⟩ := x_matL_ok hm hS
      refine ⟨v', k1, k2, k3, k4, x_b_Bd k2.1 k2.2.1 hok.2.2.2, fun c hc => ?_, fun q hq => ?_, fun wv hw => x_okL_ok hok.1 hw⟩
      · have := x_ent_ok k2.1 k2.2.1 (List.all_eq_true.mp hok.2.2.1 c hc)
        rw [xl_subst_ev] at this
        exact this
      · have hq1 := List.all_eq_true.mp hok.2.1 q hq
        unfold x_okF at hq1
        split at hq1
        · rename_i f hf
          obtain ⟨f1, f2, f3, f4⟩ := x_ffind_ok hf
          simp only [Bool.and_eq_true, decide_eq_true_eq] at hq1
          obtain ⟨a, e1, e2, w, e3, e4⟩ := k2.2.2.2.2.1 f f1
          refine ⟨a, ?_, by rw [e2, f2], w, by rw [← f3]; exact e3, x_g_kok hq1.1 (hq1.2.imp (fun e => ?_) id) e4⟩
          · rw [e1, f4, xl_subst_ev]
          · rw [← e, xl_subst_ev]
        · cases hq1
    · cases h
  · cases h
end XG1
