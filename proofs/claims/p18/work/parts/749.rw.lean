-- ===== a LAND on both sides =====
/-- w: the class's, by cell and slot of a hill's block; s: the model's row -/
def RW (w : Nat → Nat → Option Value) (s : Nat → Option Value) : Prop := s 0 = w 2 0 ∧ s 1 = w 2 1 ∧ s 2 = w 1 5 ∧ s 3 = w 0 4 ∧ s 4 = w 0 5 ∧ s 5 = w 0 6 ∧ (∀ i, i < 4 → s (6 + i) = w 3 i) ∧ s 10 = w 1 2 ∧ s 11 = w 1 3 ∧ s 12 = w 1 4 ∧ (∀ (np : Int32) (p : Nat), w 1 5 = some (.int np) → (p : Int) < np.toInt → p < 4 → s (13 + p) = w 4 p ∧ s (17 + p) = w 5 p ∧ s (21 + p) = w 6 p ∧ ∃ l : Int32, s (13 + p) = some (.int l) ∧ 2 ≤ l.toInt)
theorem RW.c {w : Nat → Nat → Option Value} {s s' : Nat → Option Value} (h : RW w s) (e : ∀ i, i < 25 → s' i = s i) : RW w s' := by
  obtain ⟨h0, h1, h2, h3, h4, h5, hb, h10, h11, h12, hp⟩ := h
  exact ⟨(e 0 (by decide)).trans h0, (e 1 (by decide)).trans h1, (e 2 (by decide)).trans h2, (e 3 (by decide)).trans h3, (e 4 (by decide)).trans h4, (e 5 (by decide)).trans h5, fun i hi => (e _ (by omega)).trans (hb i hi), (e 10 (by decide)).trans h10, (e 11 (by decide)).trans h11, (e 12 (by decide)).trans h12, fun np p a b c => by
    obtain ⟨x, y, z, l, l1, l2⟩ := hp np p a b c
    exact ⟨(e _ (by omega)).trans x, (e _ (by omega)).trans y, (e _ (by omega)).trans z, l, (e _ (by omega)).trans l1, l2⟩⟩
def wq (cc : Nat → Int32) (np nt nl nn : Int32) (c i : Nat) : Option Value := if c = 0 then (if i = 4 then some (.int nt) else if i = 5 then some (.int nl) else some (.int nn)) else if c = 1 then (if i = 5 then some (.int np) else some (.int (cc (8 + i)))) else if c = 2 then some (.int (cc i)) else if c = 3 then some (.int (cc (6 + i))) else if c = 4 then some (.int (cc (13 + i))) else if c = 5 then some (.int (cc (17 + i))) else some (.int (cc (21 + i)))
theorem CQ.lv {cc : Nat → Int32} {np nt nl nn : Int32} {G : List pE} (h : CQ cc np nt nl nn G) : LV 32 (wq cc np nt nl nn) G := by
  intro c i hc
  obtain ⟨a4, a5, a6, b2, b3, b4, b5, fc, fb, fl, fw, fa⟩ := h
  unfold h_rel at hc
  simp only [Bool.or_eq_true, Bool.and_eq_true, beq_iff_eq, decide_eq_true_eq] at hc
  rcases hc with ((⟨⟨rfl, h1⟩, h2⟩ | ⟨⟨rfl, h1⟩, h2⟩) | ⟨rfl, h1⟩) | ⟨⟨h1, h2⟩, h3⟩
  · rcases (show i = 4 ∨ i = 5 ∨ i = 6 by omega) with rfl | rfl | rfl
    · exact a4
    · exact a5
    · exact a6
  · rcases (show i = 2 ∨ i = 3 ∨ i = 4 ∨ i = 5 by omega) with rfl | rfl | rfl | rfl
    · exact b2
    · exact b3
    · exact b4
    · exact b5
  · exact fc i h1
  · rcases (show c = 3 ∨ c = 4 ∨ c = 5 ∨ c = 6 by omega) with rfl | rfl | rfl | rfl
    · exact fb i h3
    · exact fl i h3
    · exact fw i h3
    · exact fa i h3
theorem DQ.rw {cc hf : Nat → Int32} {np nt nl nn : Int32} {s : Nat → Option Value} (h : DQ cc np nt nl nn hf) (hs : ∀ i, i < 25 → s i = some (.int (hf i))) : RW (wq cc np nt nl nn) s := by
  obtain ⟨c0, c1, p, t, l, m, ld⟩ := h
  have e : ∀ j, 6 ≤ j → j < 13 → s j = some (.int (cc j)) := fun j a b => by rw [hs j (by omega), ld.1 j a b]
  refine ⟨by rw [hs 0 (by decide), ← c0]; rfl, by rw [hs 1 (by decide), ← c1]; rfl, by rw [hs 2 (by decide), ← p]; rfl, by rw [hs 3 (by decide), ← t]; rfl, by rw [hs 4 (by decide), ← l]; rfl, by rw [hs 5 (by decide), ← m]; rfl, fun i hi => (e (6 + i) (by omega) (by omega)).trans rfl, (e 10 (by decide) (by decide)).trans rfl, (e 11 (by decide) (by decide)).trans rfl, (e 12 (by decide) (by decide)).trans rfl, fun np' q a b c => ?_⟩
  have a' : some (Value.int np) = some (.int np') := a
  cases a'
  obtain ⟨x, y, z, l⟩ := ld.2 q b c
  exact ⟨by rw [hs _ (by omega), ← x]; rfl, by rw [hs _ (by omega), ← y]; rfl, by rw [hs _ (by omega), ← z]; rfl, cc (13 + q), by rw [hs _ (by omega), ← x], l⟩
