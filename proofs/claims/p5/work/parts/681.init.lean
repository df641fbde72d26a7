/-- types that a heap holds, by program -/
def xf_okb (th : List Nat) (f : xF) (v : Value) : Bool := match v with
  | .int x => f.1 == 0 && decide (f.2.1 ≤ x.toInt) && decide (x.toInt ≤ f.2.2)
  | .long _ => f.1 == 1
  | .null => f.1 == 4
  | .ref k => ((f.1 == 3 || f.1 == 4) && pm_isTok k) || (decide (10 ≤ f.1) && decide (th[k]? = some (f.1 - 10)))
  | _ => false
theorem xf_okb_ok {th : List Nat} {f : xF} {v : Value} (h : xf_okb th f v = true) : xf_ok th f v := by
  obtain ⟨k, lo, hi⟩ := f
  unfold xf_okb at h
  split at h
  · rename_i x
    simp only [Bool.and_eq_true, beq_iff_eq, decide_eq_true_eq] at h
    obtain ⟨⟨h1, h2⟩, h3⟩ := h
    subst h1
    exact ⟨x, rfl, h2, h3⟩
  · rename_i x
    simp only [beq_iff_eq] at h
    subst h
    exact ⟨x, rfl⟩
  · simp only [beq_iff_eq] at h
    subst h
    exact Or.inl rfl
  · rename_i a
    simp only [Bool.or_eq_true, Bool.and_eq_true, beq_iff_eq, decide_eq_true_eq] at h
    rcases h with ⟨h1 | h1, h2⟩ | ⟨h1, h2⟩
    · subst h1
      exact ⟨a, rfl, h2⟩
    · subst h1
      exact Or.inr ⟨a, rfl, h2⟩
    · obtain ⟨t, rfl⟩ : ∃ t, k = t + 10 := ⟨k - 10, by omega⟩
      exact ⟨a, rfl, by rw [h2]; simp⟩
  · cases h
def x_shapeb (t : xT) (e : pE) : Bool := match e with
  | .inr (ci, fs) => t.1 == 0 && ci == t.2.1 && fs.length == t.2.2.1
  | .inl (c, n, .inl _) => t.1 == 1 && c == t.2.1 && n == t.2.2.1 && decide (c < 3)
  | .inl (c, n, .inr (.inl _)) => t.1 == 1 && c == t.2.1 && n == t.2.2.1 && c == 3
  | .inl (c, n, .inr (.inr (.inr (.inr _)))) => t.1 == 1 && c == t.2.1 && n == t.2.2.1 && decide (4 ≤ c) && decide (c ≤ 9)
  | _ => false
theorem x_shapeb_ok {t : xT} {e : pE} (h : x_shapeb t e = true) : x_shape t e := by
  unfold x_shapeb at h
  unfold x_shape
  split at h
  · simp only [Bool.and_eq_true, beq_iff_eq] at h
    exact ⟨h.1.1, h.1.2, h.2⟩
  · simp only [Bool.and_eq_true, beq_iff_eq, decide_eq_true_eq] at h
    exact ⟨h.1.1.1, h.1.1.2, h.1.2, h.2⟩
  · simp only [Bool.and_eq_true, beq_iff_eq] at h
    exact ⟨h.1.1.1, h.1.1.2, h.1.2, h.2⟩
  · simp only [Bool.and_eq_true, beq_iff_eq, decide_eq_true_eq] at h
    exact ⟨h.1.1.1.1, h.1.1.1.2, h.1.1.2, h.1.2, h.2⟩
  · cases h
def x_cellb (tb : Nat → xT) (th : List Nat) (t : Nat) (e : pE) : Bool := x_shapeb (tb t) e && (List.range ((tb t).2.2.2.map (fun q => q.1)).sum).all (fun i => match x_at (tb t).2.2.2 i with
  | some f => (match x_slot e i with
    | some v => xf_okb th f v
    | none => false)
  | none => true)
def x_chkI (tb : Nat → xT) (th : List Nat) (G : List pE) : Bool := decide (G.length = th.length) && decide (th.length ≤ pm_TB) && (th.zip G).all (fun q => x_cellb tb th q.1 q.2)
theorem x_chkI_ok {tb : Nat → xT} {th : List Nat} {G : List pE} (h : x_chkI tb th G = true) : xI tb th G := by
  unfold x_chkI at h
  rw [Bool.and_eq_true, Bool.and_eq_true, decide_eq_true_eq, decide_eq_true_eq] at h
  obtain ⟨⟨h1, h2⟩, h3⟩ := h
  refine ⟨h1, h2, fun k t hk => ?_⟩
  have hl := (List.getElem?_eq_some_iff.mp hk).1
  obtain ⟨e, he⟩ : ∃ e, G[k]? = some e := ⟨G[k]'(by omega), List.getElem?_eq_getElem (by omega)⟩
  have hm : (t, e) ∈ th.zip G := List.mem_of_getElem? (i := k) (by rw [List.getElem?_zip_eq_some]; exact ⟨hk, he⟩)
  have hc := List.all_eq_true.mp h3 _ hm
  unfold x_cellb at hc
  rw [Bool.and_eq_true] at hc
  refine ⟨⟨e, he, x_shapeb_ok hc.1⟩, fun i f hf => ?_⟩
  have hi : i < ((tb t).2.2.2.map (fun q => q.1)).sum := by
    rcases Nat.lt_or_ge i ((tb t).2.2.2.map (fun q => q.1)).sum with z | z
    · exact z
    · rw [y_at_none _ i z] at hf
      cases hf
  have := List.all_eq_true.mp hc.2 i (List.mem_range.mpr hi)
  rw [hf] at this
  dsimp only at this
  split at this
  · rename_i v hv
    exact ⟨v, by unfold x_sl; rw [he]; exact hv, xf_okb_ok this⟩
  · cases this
def th1 : List Nat := [9, 7, 28, 2, 19, 20, 0, 1, 14, 15, 16, 17, 18, 11, 12, 13, 8, 8, 8, 8, 8, 8, 8, 8, 5, 5, 5, 5, 4, 4, 4, 4, 0, 1, 14, 15, 16, 17, 18, 11, 12, 13, 8, 8, 8, 8, 8, 8, 8, 8, 5, 5, 5, 5, 4, 4, 4, 4, 29, 6, 24, 25, 26, 27, 6, 24, 25, 26, 27, 30, 31, 32, 3, 21, 22, 23, 33, 8, 34, 0, 1, 14, 15, 16, 17, 18, 11, 12, 13, 8, 8, 8, 8, 8, 8, 8, 8, 5, 5, 5, 5, 4, 4, 4, 4, 0, 1, 14, 15, 16, 17, 18, 11, 12, 13, 8, 8, 8, 8, 8, 8, 8, 8, 5, 5, 5, 5, 4, 4, 4, 4, 0, 1, 14, 15, 16, 17, 18, 11, 12, 13, 8, 8, 8, 8, 8, 8, 8, 8, 5, 5, 5, 5, 4, 4, 4, 4, 0, 1, 14, 15, 16, 17, 18, 11, 12, 13, 8, 8, 8, 8, 8, 8, 8, 8, 5, 5, 5, 5, 4, 4, 4, 4, 0, 1, 14, 15, 16, 17, 18, 11, 12, 13, 8, 8, 8, 8, 8, 8, 8, 8, 5, 5, 5, 5, 4, 4, 4, 4, 0, 1, 14, 15, 16, 17, 18, 11, 12, 13, 8, 8, 8, 8, 8, 8, 8, 8, 5, 5, 5, 5, 4, 4, 4, 4, 0, 1, 14, 15, 16, 17, 18, 11, 12, 13, 8, 8, 8, 8, 8, 8, 8, 8, 5, 5, 5, 5, 4, 4, 4, 4, 0, 1, 14, 15, 16, 17, 18, 11, 12, 13, 8, 8, 8, 8, 8, 8, 8, 8, 5, 5, 5, 5, 4, 4, 4, 4, 0, 1, 14, 15, 16, 17, 18, 11, 12, 13, 8, 8, 8, 8, 8, 8, 8, 8, 5, 5, 5, 5, 4, 4, 4, 4, 6, 24, 25, 26, 27, 0, 1, 14, 15, 16, 17, 18, 11, 12, 13, 8, 8, 8, 8, 8, 8, 8, 8, 5, 5, 5, 5, 4, 4, 4, 4, 6, 24, 25, 26, 27, 10, 35, 36, 37, 38, 39, 40, 41, 42, 43, 44, 45, 46, 47, 48, 49]
def th0 : List Nat := th1 ++ [50]
def x_tbd (t : Nat) : xT := if t = 36 then (1, 0, 324, [(324, (0, -2147483648, 2147483647))]) else x_tbc t
/-- the cells behind new BreathingHill() -/
def z_G1 : List pE := z_Hf [.inr (9, pm_d 9)] 0
def z_G2 : List pE := z_G1 ++ [.inr (10, pm_d 10)]
/-- and ahead of clears() in new BreathingHillModel() -/
def z_G3 : List pE := hp z_G2 349 (z_mdl 350) (z_mdlL 350)
set_option maxRecDepth 1000000 in
set_option maxHeartbeats 4000000 in
theorem z_G1_len : z_G1.length = 349 := by decide +kernel
set_option maxRecDepth 1000000 in
set_option maxHeartbeats 4000000 in
theorem z_G3_ok : x_chkI x_tbd th1 z_G3 = true := by decide +kernel
