/-- what the machine's words give at the entry -/
theorem st_K {s : State} {b L : Nat} {xs : Nat → Int32} (hts : ∀ w ∈ lw_tbl, w.before #[Value.ref b] s = true) (hX : va_X b L xs s s.heap) (hbl : b < s.heap.size) (hgv : (Jvm.Cond.and given_1 narrow_1).before #[Value.ref b] s = true) : ∃ o : Om, pm_K o s ∧ o.J = 0 ∧ o.B = s.heap.size ∧ o.scr = b ∧ o.H0 = s.heap ∧ o.L = L := by
  obtain ⟨fC, hfC⟩ := Classical.axiomOfChoice (st_cls hts)
  obtain ⟨fA, hfA⟩ := Classical.axiomOfChoice (st_arr hts)
  obtain ⟨tad, tks, hT⟩ := st_tok (A := fun q => s.heap.size ≤ q) hts hgv (fun a h => Nat.not_le.mpr h)
  refine ⟨(s.heap.size, b, tks, tad, fA, fun k => (fC k).1, fun k => (fC k).2, s.heap, xs, L, 0), ⟨fun w hw hg => pm_good_at (State.WarmedH.refl s) hg (hts w hw), ⟨fun k q hq => hfC k q hq, fun k q hk => ?_⟩, hT, hX, hbl, rfl⟩, rfl, rfl, rfl, rfl, rfl⟩
  by_cases h : k < 10
  · rw [pm_tys_at _ h] at hk
    cases hk
    exact hfA k
  · exfalso
    unfold pm_tys at hk
    have := (List.getElem?_eq_some_iff.mp hk).1
    rw [List.length_map, List.length_range] at this
    exact h this
