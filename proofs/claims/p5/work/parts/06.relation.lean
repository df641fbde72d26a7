-- ===== the pure cells in the machine's heap =====
abbrev Om : Type := Nat × Nat × Nat × (Nat → Nat) × (Nat → ClassId) × (Nat → ClassId) × (Nat → Nat → Nat) × Heap × (Nat → Int32) × Nat × Nat
abbrev Om.B (o : Om) : Nat := o.1
abbrev Om.scr (o : Om) : Nat := o.2.1
abbrev Om.tks (o : Om) : Nat := o.2.2.1
abbrev Om.tad (o : Om) : Nat → Nat := o.2.2.2.1
abbrev Om.dA (o : Om) : Nat → ClassId := o.2.2.2.2.1
abbrev Om.dC (o : Om) : Nat → ClassId := o.2.2.2.2.2.1
abbrev Om.dI (o : Om) : Nat → Nat → Nat := o.2.2.2.2.2.2.1
abbrev Om.H0 (o : Om) : Heap := o.2.2.2.2.2.2.2.1
abbrev Om.xs (o : Om) : Nat → Int32 := o.2.2.2.2.2.2.2.2.1
abbrev Om.L (o : Om) : Nat := o.2.2.2.2.2.2.2.2.2.1
/-- how many cells lie behind the pure ones (exceptions that were thrown) -/
abbrev Om.J (o : Om) : Nat := o.2.2.2.2.2.2.2.2.2.2
abbrev Om.A (o : Om) : Nat → Prop := fun q => o.B ≤ q
def pm_ad (o : Om) (n : Nat) : Nat := if n < pm_TB then o.B + n else if n < pm_SB then o.tad (n - pm_TB) else if n < pm_KB then o.scr else o.tks
def pm_v (o : Om) (v : Value) : Value := match v with
  | .ref n => .ref (pm_ad o n)
  | v => v
def pm_a (o : Om) (a : vp_A) : vp_A := match a with
  | (n, .inr (.inr (.inr (.inr g)))) => (n, .inr (.inr (.inr (.inr (fun j => (g j).map (pm_ad o))))))
  | (n, .inr (.inr (.inr (.inl g)))) => (n, .inr (.inr (.inr (.inl g))))
  | (n, .inr (.inr (.inl g))) => (n, .inr (.inr (.inl g)))
  | (n, .inr (.inl g)) => (n, .inr (.inl g))
  | (n, .inl g) => (n, .inl g)
def pm_e (o : Om) (e : pE) : va_E := match e with
  | .inl (t, a) => .inl (o.dA t, pm_a o a)
  | .inr (c, fs) => .inr (c, fs.map (pm_v o))
def pm_w (o : Om) : Nat → List pE → va_W
  | _, [] => []
  | b, e :: es => (b, pm_e o e) :: pm_w o (b + 1) es
theorem pm_w_get (o : Om) : ∀ (G : List pE) (b k : Nat), (pm_w o b G)[k]? = (G[k]?).map (fun e => (b + k, pm_e o e))
  | [], b, k => by simp [pm_w]
  | e :: es, b, 0 => by simp [pm_w]
  | e :: es, b, k + 1 => by
    rw [pm_w, List.getElem?_cons_succ, List.getElem?_cons_succ, pm_w_get o es (b + 1) k]
    rw [Nat.add_assoc, Nat.add_comm 1 k]
theorem pm_w_set (o : Om) (e : pE) : ∀ (G : List pE) (b k : Nat), pm_w o b (G.set k e) = (pm_w o b G).set k (b + k, pm_e o e)
  | [], b, k => by simp [pm_w]
  | x :: es, b, 0 => by simp [pm_w]
  | x :: es, b, k + 1 => by
    rw [List.set_cons_succ, pm_w, pm_w, List.set_cons_succ, pm_w_set o e es (b + 1) k, Nat.add_assoc, Nat.add_comm 1 k]
theorem pm_w_app (o : Om) (e : pE) : ∀ (G : List pE) (b : Nat), pm_w o b (G ++ [e]) = pm_w o b G ++ [(b + G.length, pm_e o e)]
  | [], b => by simp [pm_w]
  | x :: es, b => by
    rw [List.cons_append, pm_w, pm_w, List.cons_append, pm_w_app o e es (b + 1), List.length_cons, Nat.add_assoc, Nat.add_comm 1 es.length]
theorem pm_w_D (o : Om) (b : Nat) (G : List pE) : va_D (fun q => b ≤ q) (pm_w o b G) := by
  refine ⟨fun i j p q hi hj h => ?_, fun k q hk => ?_⟩
  · rw [pm_w_get] at hi hj
    cases hgi : G[i]? with
    | none => rw [hgi] at hi; cases hi
    | some x =>
      cases hgj : G[j]? with
      | none => rw [hgj] at hj; cases hj
      | some y =>
        rw [hgi] at hi
        rw [hgj] at hj
        cases hi
        cases hj
        simp only at h
        omega
  · rw [pm_w_get] at hk
    cases hg : G[k]? with
    | none => rw [hg] at hk; cases hk
    | some x =>
      rw [hg] at hk
      cases hk
      exact Nat.le_add_right b k
/-- the machine's heap holds the cells G, from o.B on, and nothing else there; below it is as at the start -/
def pm_W (o : Om) (G : List pE) (H : Heap) : Prop := va_P (o.dC, o.dI) vwCl (pm_w o o.B G) H ∧ H.size = o.B + G.length + o.J ∧ (∀ q : Nat, q < o.B → H[q]? = o.H0[q]?) ∧ G.length ≤ pm_TB
theorem pm_W.lt {o : Om} {G : List pE} {H : Heap} (h : pm_W o G H) {k : Nat} {e : pE} (hk : G[k]? = some e) : pm_ad o k = o.B + k := by
  have h1 := (List.getElem?_eq_some_iff.mp hk).1
  have h2 := h.2.2.2
  unfold pm_ad
  rw [if_pos (by omega)]
theorem pm_W.at {o : Om} {G : List pE} {H : Heap} (h : pm_W o G H) {k : Nat} {e : pE} (hk : G[k]? = some e) : (pm_w o o.B G)[k]? = some (pm_ad o k, pm_e o e) := by
  rw [pm_w_get, hk, h.lt hk]
  rfl
theorem pm_W.set {o : Om} {G : List pE} {H H1 : Heap} (h : pm_W o G H) {k : Nat} {e0 e : pE} (hk : G[k]? = some e0) (he : va_at (o.dC, o.dI) vwCl (pm_ad o k, pm_e o e) H1) (hz : H1.size = H.size) (ho : ∀ q : Nat, q ≠ pm_ad o k → H1[q]? = H[q]?) : pm_W o (G.set k e) H1 := by
  have hl := h.lt hk
  refine ⟨?_, ?_, fun q hq => ?_, ?_⟩
  · rw [pm_w_set]
    rw [hl] at he ho
    exact h.1.set (pm_w_D o o.B G) (by rw [h.at hk, hl]) he ho
  · rw [hz, h.2.1, List.length_set]
  · rw [ho q (by rw [hl]; have := Nat.le_add_right o.B k; omega)]
    exact h.2.2.1 q hq
  · rw [List.length_set]
    exact h.2.2.2
theorem pm_W.push {o : Om} {G : List pE} {H H1 : Heap} (h : pm_W o G H) {e : pE} (hJ : o.J = 0) (hl : G.length < pm_TB) (he : va_at (o.dC, o.dI) vwCl (H.size, pm_e o e) H1) (hz : H1.size = H.size + 1) (ho : ∀ q : Nat, q < H.size → H1[q]? = H[q]?) : pm_W o (G ++ [e]) H1 := by
  refine ⟨?_, ?_, fun q hq => ?_, ?_⟩
  · rw [pm_w_app]
    refine va_P.app (h.1.kept (fun k q hk => ho q.1 (h.1 k q hk).lt)) (fun k q hk => ?_)
    have hz : k < 1 := (List.getElem?_eq_some_iff.mp hk).1
    rw [show k = 0 by omega] at hk
    cases hk
    have h21 := h.2.1
    rw [hJ, Nat.add_zero] at h21
    rw [← h21]
    exact he
  · rw [hz, h.2.1, List.length_append, List.length_singleton]
    omega
  · rw [ho q (by rw [h.2.1]; omega)]
    exact h.2.2.1 q hq
  · rw [List.length_append]
    exact hl
theorem pm_ad_new {o : Om} {G : List pE} {H : Heap} (h : pm_W o G H) (hJ : o.J = 0) (hl : G.length < pm_TB) : pm_ad o G.length = H.size := by
  unfold pm_ad
  rw [if_pos hl, h.2.1, hJ]
  rfl
-- ===== what holds of the tables =====
def pm_good (w : Cond) : Bool := match w with
  | .fieldLinkNest _ _ _ _ _ _ => true
  | .methodLinkNest _ _ _ _ => true
  | .arrayOver (.object _) => true
  | w => goodWord w
theorem pm_good_at {args a' : Array Value} {s U : State} (hW : s.WarmedH U.vm) {w : Cond} (hg : pm_good w = true) (h : w.before args s = true) : w.before a' U = true := by
  by_cases hn : goodWord w = true
  · exact word_at hW (good_of_word hn) h
  · unfold pm_good at hg
    split at hg
    · exact va_Nw.use rfl (va_Nw.warmF hW (va_Nw.of rfl h))
    · exact va_Nw.use rfl (va_Nw.warmM hW (va_Nw.of rfl h))
    · exact va_AO.use (va_AO.moved hW.alike (va_AO.of h))
    · exact absurd hg hn
def pm_tys (o : Om) : List (ClassId × FieldType) := (List.range 10).map (fun t => (o.dA t, pm_arr t))
theorem pm_tys_at (o : Om) {t : Nat} (h : t < 10) : (pm_tys o)[t]? = some (o.dA t, pm_arr t) := by
  unfold pm_tys
  rw [List.getElem?_map, List.getElem?_range h]
  rfl
def pm_Tk (o : Om) (U : State) : Prop :=
  (∀ k, k < 35 → va_Z "BreathingHill$Token" (pm_tok.getD k "") "LBreathingHill$Token;" (.ref (o.tad k)) o.A U o.H0 ∧ va_O "BreathingHill$Token" (o.tad k) o.A U o.H0 ∧ va_OF "BreathingHill$Token" "code" "J" (.long (pm_tokc.getD k 0)) (o.tad k) o.A U o.H0)
  ∧ va_Z "BreathingHill$Tape" "TOKENS" "[LBreathingHill$Token;" (.ref o.tks) o.A U o.H0 ∧ va_T (.object "BreathingHill$Token") o.tks 35 (fun j => .ref (o.tad j)) o.A U o.H0
  ∧ (∀ i j, i < 35 → j < 35 → o.tad i = o.tad j → i = j) ∧ ∃ cC, U.vm.findClass "BreathingHill$Token" = some cC ∧ ∃ k : Class, U.vm.classes[cC]? = some k
def pm_K (o : Om) (U : State) : Prop := (∀ w ∈ lw_tbl, pm_good w = true → w.before #[] U = true) ∧ va_K (o.dC, o.dI) vwCl (pm_tys o) U ∧ pm_Tk o U ∧ va_X o.scr o.L o.xs U o.H0 ∧ o.scr < o.B ∧ o.H0.size = o.B
theorem pm_K.warm {o : Om} {s U : State} (hW : s.WarmedH U.vm) (h : pm_K o s) : pm_K o U := by
  obtain ⟨h1, h2, ⟨t1, t2, t3, t4, cC, t5⟩, h4, h5⟩ := h
  have hA := hW.alike
  refine ⟨fun w hw hg => pm_good_at hW hg (h1 w hw hg), va_K.moved hA h2, ⟨fun k hk => ⟨va_Z.moved hA (t1 k hk).1, va_O.moved hA (t1 k hk).2.1, va_OF.moved hA (t1 k hk).2.2⟩, va_Z.moved hA t2, va_T.moved hA t3, t4, cC, ?_⟩, va_X.moved hA h4, h5⟩
  obtain ⟨g1, k, g2⟩ := t5
  obtain ⟨k', hk', -⟩ := hA.2.2 _ _ g2
  exact ⟨by rw [hA.findClass]; exact g1, k', hk'⟩
theorem pm_K.calling {o : Om} {U : State} {g : JFrame} {mk : MethodId} {a : Array Value} (h : pm_K o U) : pm_K o (U.calling g mk a) := pm_K.warm (s := U) (U := U.calling g mk a) (State.WarmedH.refl U) h
theorem pm_K.word {o : Om} {s : State} (h : pm_K o s) {i : Nat} {w : Cond} (hi : lw_tbl[i]? = some w) (hg : pm_good w = true) (args : Array Value) : w.before args s = true := pm_good_at (State.WarmedH.refl s) hg (h.1 w (List.mem_of_getElem? hi) hg)
