-- ===== a LAND on both sides =====
/-- a name on both sides -/
def z_nr (v v' : Option Value) : Prop := ∃ a b : Int64, v = some (.long a) ∧ v' = some (.long b) ∧ NR a b
/-- the model's row and its names -/
def z_nrow (G : List pE) (i : Nat) : Option Value := if i < 400 then x_sl G 351 i else x_sl G 354 (i - 400)
def z_nrowk (q : Nat) (G : List pE) (i : Nat) : Option Value := if i < 400 then x_sl G 362 (324 * q + i) else x_sl G 363 (16 * q + (i - 400))
/-- w: the class's, by cell and slot of a hill's block; s: the model's row -/
def RW (w : Nat → Nat → Option Value) (s : Nat → Option Value) : Prop := s 0 = w 2 0 ∧ s 1 = w 2 1 ∧ s 2 = w 1 5 ∧ s 3 = w 0 4 ∧ s 4 = w 0 5 ∧ s 5 = w 0 6 ∧ (∀ i, i < 4 → s (6 + i) = w 3 i) ∧ s 10 = w 1 2 ∧ s 11 = w 1 3 ∧ s 12 = w 1 4 ∧ (∀ (np : Int32) (p : Nat), w 1 5 = some (.int np) → (p : Int) < np.toInt → p < 4 → s (13 + p) = w 4 p ∧ s (17 + p) = w 5 p ∧ s (21 + p) = w 6 p) ∧ (∀ x : Int32, w 0 4 = some (.int x) → ∀ i : Nat, (i : Int) < x.toInt → i < 8 → z_nr (w (10 + i) 0) (s (400 + i))) ∧ ∀ x : Int32, w 0 6 = some (.int x) → ∀ i : Nat, (i : Int) < x.toInt → i < 4 → z_nr (w (22 + i) 0) (s (412 + i))
theorem RW.c {w : Nat → Nat → Option Value} {s s' : Nat → Option Value} (h : RW w s) (e0 : ∀ i, i < 25 ∨ (400 ≤ i ∧ i < 416) → s' i = s i) : RW w s' := by
  obtain ⟨h0, h1, h2, h3, h4, h5, hb, h10, h11, h12, hp, ht, hm⟩ := h
  have e : ∀ i, i < 25 → s' i = s i := fun i hi => e0 i (Or.inl hi)
  exact ⟨(e 0 (by decide)).trans h0, (e 1 (by decide)).trans h1, (e 2 (by decide)).trans h2, (e 3 (by decide)).trans h3, (e 4 (by decide)).trans h4, (e 5 (by decide)).trans h5, fun i hi => (e _ (by omega)).trans (hb i hi), (e 10 (by decide)).trans h10, (e 11 (by decide)).trans h11, (e 12 (by decide)).trans h12, fun np p a b c => by
    obtain ⟨x, y, z⟩ := hp np p a b c
    exact ⟨(e _ (by omega)).trans x, (e _ (by omega)).trans y, (e _ (by omega)).trans z⟩, fun x hx i hi h8 => by rw [e0 _ (by omega)]; exact ht x hx i hi h8, fun x hx i hi h4 => by rw [e0 _ (by omega)]; exact hm x hx i hi h4⟩
def wqo (cc : Nat → Int32) (np nt nl nn : Int32) (c i : Nat) : Option Value := if c = 0 then (if i = 4 then some (.int nt) else if i = 5 then some (.int nl) else some (.int nn)) else if c = 1 then (if i = 5 then some (.int np) else some (.int (cc (8 + i)))) else if c = 2 then some (.int (cc i)) else if c = 3 then some (.int (cc (6 + i))) else if c = 4 then some (.int (cc (13 + i))) else if c = 5 then some (.int (cc (17 + i))) else some (.int (cc (21 + i)))
def wq (cc : Nat → Int32) (np nt nl nn : Int32) (tn mn : Nat → Int64) (c i : Nat) : Option Value := if c < 10 then wqo cc np nt nl nn c i else if c < 22 then some (.long (tn (c - 10))) else some (.long (mn (c - 22)))
theorem wq_t {cc : Nat → Int32} {np nt nl nn : Int32} {tn mn : Nat → Int64} {i : Nat} (hi : i < 8) : wq cc np nt nl nn tn mn (10 + i) 0 = some (.long (tn i)) := by
  unfold wq
  rw [if_neg (by omega), if_pos (by omega), show 10 + i - 10 = i by omega]
theorem wq_m {cc : Nat → Int32} {np nt nl nn : Int32} {tn mn : Nat → Int64} {i : Nat} (hi : i < 4) : wq cc np nt nl nn tn mn (22 + i) 0 = some (.long (mn i)) := by
  unfold wq
  rw [if_neg (by omega), if_neg (by omega), show 22 + i - 22 = i by omega]
theorem CQ.lv {cc : Nat → Int32} {np nt nl nn : Int32} {tn mn : Nat → Int64} {G : List pE} (h : CQ cc np nt nl nn tn mn G) : LV 32 (wq cc np nt nl nn tn mn) G := by
  obtain ⟨a4, a5, a6, b2, b3, b4, b5, fc, fb, fl, fw, fa, ft, fm⟩ := h
  refine ⟨fun c i hc => ?_, fun x hx i hi h8 => (ft i h8).trans (wq_t h8).symm, fun x hx i hi h4 => (fm i h4).trans (wq_m h4).symm⟩
  unfold h_rel at hc
  simp only [Bool.or_eq_true, Bool.and_eq_true, beq_iff_eq, decide_eq_true_eq] at hc
  rcases hc with ((⟨⟨rfl, h1⟩, h2⟩ | ⟨⟨rfl, h1⟩, h2⟩) | ⟨rfl, h1⟩) | ⟨⟨h1, h2⟩, h3⟩
  · rcases (show i = 4 ∨ i = 5 ∨ i = 6 by omega) with rfl | rfl | rfl
    · exact a4
    · exact a5
    · exact a6
  · rcases (show i = 2 ∨ i = 3 ∨ i = 4 ∨ i = 5 by omega) with rfl | rfl | rfl | rfl
    · exact b2
    · exact b3
    · exact b4
    · exact b5
  · exact fc i h1
  · rcases (show c = 3 ∨ c = 4 ∨ c = 5 ∨ c = 6 by omega) with rfl | rfl | rfl | rfl
    · exact fb i h3
    · exact fl i h3
    · exact fw i h3
    · exact fa i h3
theorem DQ.rw {cc hf : Nat → Int32} {np nt nl nn : Int32} {tn mn nf : Nat → Int64} {s : Nat → Option Value} (h : DQ cc np nt nl nn tn mn hf nf) (hs : ∀ i, i < 25 → s i = some (.int (hf i))) (hn : ∀ i, i < 16 → s (400 + i) = some (.long (nf (16 + i)))) : RW (wq cc np nt nl nn tn mn) s := by
  obtain ⟨c0, c1, p, t, l, m, ld, nT, nM⟩ := h
  have e : ∀ j, 6 ≤ j → j < 13 → s j = some (.int (cc j)) := fun j a b => by rw [hs j (by omega), ld.1 j a b]
  refine ⟨by rw [hs 0 (by decide), ← c0]; rfl, by rw [hs 1 (by decide), ← c1]; rfl, by rw [hs 2 (by decide), ← p]; rfl, by rw [hs 3 (by decide), ← t]; rfl, by rw [hs 4 (by decide), ← l]; rfl, by rw [hs 5 (by decide), ← m]; rfl, fun i hi => (e (6 + i) (by omega) (by omega)).trans rfl, (e 10 (by decide) (by decide)).trans rfl, (e 11 (by decide) (by decide)).trans rfl, (e 12 (by decide) (by decide)).trans rfl, fun np' q a b c => ?_, fun x hx i hi h8 => ?_, fun x hx i hi h4 => ?_⟩
  rotate_left
  · cases hx
    exact ⟨_, _, wq_t h8, hn i (by omega), nT i hi⟩
  · cases hx
    exact ⟨_, _, wq_m h4, by rw [show 412 + i = 400 + (12 + i) by omega, hn _ (by omega)], by rw [show 16 + (12 + i) = 28 + i by omega]; exact nM i hi⟩
  have a' : some (Value.int np) = some (.int np') := a
  cases a'
  obtain ⟨x, y, z⟩ := ld.2 q b c
  exact ⟨by rw [hs _ (by omega), ← x]; rfl, by rw [hs _ (by omega), ← y]; rfl, by rw [hs _ (by omega), ← z]; rfl⟩
