-- ===== reading and writing slots, abstractly =====
def x_wf (tb : Nat → xT) : Prop := ∀ t i, i < (tb t).2.2.1 → ∃ f, x_at (tb t).2.2.2 i = some f
section XC
variable {tb : Nat → xT} {th : List Nat} {v : Nat → Int} {cs : List xL} {lo : List (Nat × xV)} {st : List xV} {fa : List xA} {nx : Nat} {lv : pL} {ws : List Value} {G G' : List pE}
theorem x_g_ref {a : xV} {w : Value} (h : x_g th v a w) (ha : 3 ≤ a.1) : (∃ k : Nat, w = .ref k) ∨ w = .null := by
  unfold x_g at h
  split at h
  · rename_i h1; omega
  · rename_i h1; omega
  · obtain ⟨k, rfl, -⟩ := h; exact Or.inl ⟨k, rfl⟩
  · rcases h with rfl | ⟨k, rfl, -⟩
    · exact Or.inr rfl
    · exact Or.inl ⟨k, rfl⟩
  · exact Or.inl ⟨_, h⟩
  · exact Or.inl ⟨_, h⟩
  · obtain ⟨k, rfl, -⟩ := h; exact Or.inl ⟨k, rfl⟩
  · exact h.elim
theorem x_g_cell {a : xV} {w : Value} (h : x_g th v a w) (ha : 10 ≤ a.1) : ∃ b : Nat, w = .ref b ∧ (b : Int) = xl_ev a.2 v ∧ th[b]? = some (a.1 - 10) := by
  unfold x_g at h
  split at h <;> try (rename_i h1; omega)
  · rename_i t h1
    obtain ⟨b, h2, h3, h4⟩ := h
    refine ⟨b, h2, h3, ?_⟩
    rw [show a.1 - 10 = t by omega]
    exact h4
  · exact h.elim
theorem x_g_of_cell {t b : Nat} {l : xL} (h1 : (b : Int) = xl_ev l v) (h2 : th[b]? = some t) : x_g th v (t + 10, l) (.ref b) := ⟨b, rfl, h1, h2⟩
theorem xI.cell (hI : xI tb th G) {b t : Nat} (hb : th[b]? = some t) : b < pm_TB ∧ pm_isTok b = false ∧ b ≠ pm_SB ∧ b ≠ pm_KB := by
  have h1 := (List.getElem?_eq_some_iff.mp hb).1
  have h2 := hI.2.1
  have h3 : b < pm_TB := by omega
  refine ⟨h3, ?_, ?_, ?_⟩
  · unfold pm_isTok
    rw [decide_eq_false (by omega)]
    rfl
  · unfold pm_TB at h3; unfold pm_SB; omega
  · unfold pm_TB at h3; unfold pm_KB; omega
theorem x_fit_ok (hB : x_Bd v) (hC : x_Cs cs v) {f : xF} {a : xV} {w : Value} (h : x_fit cs f a = true) (hw : x_g th v a w) : xf_ok th f w := by
  obtain ⟨ak, al⟩ := a
  unfold x_fit at h
  unfold xf_ok
  split at h
  · rename_i hf
    simp only [Bool.and_eq_true, beq_iff_eq] at h
    obtain ⟨⟨rfl, h2⟩, h3⟩ := h
    obtain ⟨x, rfl, hx⟩ := x_g0 hw
    have h2 := x_ent_ok hB hC h2
    have h3 := x_ent_ok hB hC h3
    rw [xl_add_ev, xl_c_ev] at h2
    rw [xl_sub_ev, xl_c_ev] at h3
    rw [hf]
    exact ⟨x, rfl, by omega, by omega⟩
  · rename_i hf
    obtain rfl : ak = 1 := by simpa using h
    rw [hf]
    exact hw
  · rename_i hf
    obtain rfl : ak = 3 := by simpa using h
    rw [hf]
    exact hw
  · rename_i hf
    simp only [Bool.or_eq_true, beq_iff_eq] at h
    rw [hf]
    rcases h with rfl | rfl
    · exact Or.inr hw
    · exact hw
  · rename_i t hf
    obtain rfl : ak = t + 10 := by simpa using h
    rw [hf]
    obtain ⟨b, h1, -, h2⟩ := hw
    exact ⟨b, h1, h2⟩
  · cases h
theorem x_jty_ok {ty : FieldType} {f : xF} {w : Value} (h : x_jty ty f = true) (hw : xf_ok th f w) : narrow ty w = w ∧ fits ty w = true := by
  unfold x_jty at h
  unfold xf_ok at hw
  split at h
  · have h0 : f.1 = 0 := by simpa using h
    rw [h0] at hw
    obtain ⟨x, rfl, -⟩ := hw
    exact ⟨rfl, rfl⟩
  · simp only [Bool.and_eq_true, beq_iff_eq, decide_eq_true_eq] at h
    rw [h.1.1] at hw
    obtain ⟨x, rfl, h1, h2⟩ := hw
    have : x.toInt = 0 ∨ x.toInt = 1 := by omega
    rcases this with h3 | h3
    · obtain rfl : x = 0 := Int32.toInt_inj.mp h3
      exact ⟨by decide, by decide⟩
    · obtain rfl : x = 1 := Int32.toInt_inj.mp h3
      exact ⟨by decide, by decide⟩
  · have h0 : f.1 = 1 := by simpa using h
    rw [h0] at hw
    obtain ⟨x, rfl⟩ := hw
    exact ⟨rfl, rfl⟩
  · simp only [Bool.or_eq_true, beq_iff_eq, decide_eq_true_eq] at h
    rcases h with (h0 | h0) | h0
    · rw [h0] at hw
      obtain ⟨k, rfl, -⟩ := hw
      exact ⟨rfl, rfl⟩
    · rw [h0] at hw
      rcases hw with rfl | ⟨k, rfl, -⟩
      · exact ⟨rfl, rfl⟩
      · exact ⟨rfl, rfl⟩
    · obtain ⟨t, ht⟩ : ∃ t, f.1 = t + 10 := ⟨f.1 - 10, by omega⟩
      rw [ht] at hw
      obtain ⟨k, rfl, -⟩ := hw
      exact ⟨rfl, rfl⟩
  · have h0 : 10 ≤ f.1 := by simpa using h
    obtain ⟨t, ht⟩ : ∃ t, f.1 = t + 10 := ⟨f.1 - 10, by omega⟩
    rw [ht] at hw
    obtain ⟨k, rfl, -⟩ := hw
    exact ⟨rfl, rfl⟩
  · cases h
theorem x_cov_ok {E : List (Nat × Nat × Nat)} {t l h : Nat} (hc : x_cov E t l h = true) : ∃ q ∈ E, q.1 = t ∧ q.2.1 ≤ l ∧ h ≤ q.2.2 := by
  unfold x_cov at hc
  obtain ⟨q, h1, h2⟩ := List.any_eq_true.mp hc
  simp only [Bool.and_eq_true, decide_eq_true_eq] at h2
  exact ⟨q, h1, h2.1.1, h2.1.2, h2.2⟩
theorem x_kill_ok {b i t l h : Nat} {w : Value} (hu : x_upd G G' b i w) (hb : th[b]? = some t) (h1 : l ≤ i) (h2 : i ≤ h) (hfa : ∀ q ∈ fa, x_fact th v G q) : ∀ q ∈ x_kill fa t l h, x_fact th v G' q := by
  intro q hq
  unfold x_kill at hq
  obtain ⟨g1, g2⟩ := List.mem_filter.mp hq
  obtain ⟨a, f1, f2, w', f3, f4⟩ := hfa q g1
  refine ⟨a, f1, f2, w', ?_, f4⟩
  rw [hu.2.1 a q.2.2.1]
  rw [if_neg]
  · exact f3
  · rintro ⟨rfl, hi⟩
    rw [f2] at hb
    have ht : q.1 = t := Option.some.inj hb
    rw [ht, hi] at g2
    simp [h1, h2] at g2
/-- a slot is read -/
theorem x_rd_ok {m0 pc' t b i n0 : Nat} {full st' : List xV} {cl : xL} {out : List (Nat × xG)} {rest : List Value} {w : Value} (hS : x_S tb th v (cs, lo, full, fa, n0) lv ws G) (h : x_rd tb m0 pc' cs lo full st' fa nx t cl i = some out) (hb : (b : Int) = xl_ev cl v) (ht : th[b]? = some t) (hw : x_sl G b i = some w) (hcl : ∃ a ∈ full, a.2 = cl) (hk : ∀ v', x_S tb th v' (cs, lo, full, fa, n0) lv ws G → x_gs th v' st' rest) : ∃ q ∈ out, ∃ v', x_ag m0 v v' ∧ q.1 = pc' ∧ x_S tb th v' q.2 lv (w :: rest) G := by
  have hcx : ∀ y : Int, x_noG nx (cs, lo, full, fa, 0) = true → xl_ev cl (x_up v nx y) = xl_ev cl v := by
    intro y hn
    unfold x_noG at hn
    simp only [Bool.and_eq_true, List.all_eq_true] at hn
    obtain ⟨a, ha, rfl⟩ := hcl
    exact xl_no_ev v y (hn.1.2 a ha)
  unfold x_rd at h
  split at h
  · rename_i q hf
    cases h
    have h1 := List.find?_some hf
    simp only [Bool.and_eq_true, beq_iff_eq, decide_eq_true_eq] at h1
    obtain ⟨a, f1, f2, w', f3, f4⟩ := hS.2.2.2.2.1 q (List.mem_of_find?_eq_some hf)
    rw [h1.2, ← hb] at f1
    have hab : a = b := by omega
    rw [hab, h1.1.2, hw] at f3
    cases f3
    exact ⟨_, List.mem_singleton.mpr rfl, v, x_ag.rf, rfl, x_psh hS f4 (hk v hS)⟩
  · split at h
    · rename_i f hf
      obtain ⟨w', g1, g2⟩ := (hS.2.2.2.2.2.2.2 b t ht).2 i f hf
      rw [hw] at g1
      cases g1
      unfold x_rdt at h
      unfold xf_ok at g2
      split at h
      · rename_i h0
        rw [h0] at g2
        obtain ⟨x, rfl, b1, b2⟩ := g2
        split at h
        · rename_i hh
          cases h
          obtain ⟨c1, c2⟩ := x_i32 x
          have hS' := x_S_up (i := nx) (x := x.toInt) hS hh.2 c1 c2
          have hkk := hk _ hS'
          obtain ⟨a1, a2, a3, a4, a5, a6⟩ := hS'
          refine ⟨_, List.mem_singleton.mpr rfl, _, x_ag.up hh.1, rfl, a1, fun c hc => ?_, a3, ⟨⟨x, rfl, by rw [xl_s_ev]; simp [x_up]⟩, hkk⟩, fun q hq => ?_, a6⟩
          · rcases List.mem_append.mp hc with h | h
            · rcases List.mem_cons.mp h with rfl | h
              · rw [xl_add_ev, xl_s_ev, xl_c_ev]
                simp only [x_up, if_true]
                omega
              · rw [List.mem_singleton.mp h, xl_sub_ev, xl_s_ev, xl_c_ev]
                simp only [x_up, if_true]
                omega
            · exact a2 c h
          · rcases List.mem_cons.mp hq with rfl | hq
            · exact ⟨b, by rw [hcx _ hh.2]; exact hb, ht, _, hw, ⟨x, rfl, by rw [xl_s_ev]; simp [x_up]⟩⟩
            · exact a5 q hq
        · cases h
      · rename_i h0
        rw [h0] at g2
        cases h
        exact ⟨_, List.mem_singleton.mpr rfl, v, x_ag.rf, rfl, x_psh hS g2 (hk v hS)⟩
      · rename_i h0
        rw [h0] at g2
        cases h
        exact ⟨_, List.mem_singleton.mpr rfl, v, x_ag.rf, rfl, x_psh hS g2 (hk v hS)⟩
      · rename_i h0
        rw [h0] at g2
        cases h
        exact ⟨_, List.mem_singleton.mpr rfl, v, x_ag.rf, rfl, x_psh hS g2 (hk v hS)⟩
      · rename_i u h0
        rw [h0] at g2
        obtain ⟨k, rfl, hu⟩ := g2
        split at h
        · rename_i hh
          cases h
          have hkl := (hS.2.2.2.2.2.cell hu).1
          have hS' := x_S_up (i := nx) (x := (k : Int)) hS hh.2 (by omega) (by unfold pm_TB at hkl; omega)
          have hkk := hk _ hS'
          obtain ⟨a1, a2, a3, a4, a5, a6⟩ := hS'
          refine ⟨_, List.mem_singleton.mpr rfl, _, x_ag.up hh.1, rfl, a1, a2, a3, ⟨x_g_of_cell (by rw [xl_s_ev]; simp [x_up]) hu, hkk⟩, fun q hq => ?_, a6⟩
          rcases List.mem_cons.mp hq with rfl | hq
          · exact ⟨b, by rw [hcx _ hh.2]; exact hb, ht, _, hw, x_g_of_cell (by rw [xl_s_ev]; simp [x_up]) hu⟩
          · exact a5 q hq
        · cases h
      · cases h
    · cases h
end XC
