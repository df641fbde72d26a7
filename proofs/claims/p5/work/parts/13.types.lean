-- ===== the pure cells by slots, and their types =====
abbrev xF : Type := Nat × Int × Int
abbrev xT : Type := Nat × Nat × Nat × List (Nat × xF)
/-- what the i-th slot holds: runs -/
def x_at : List (Nat × xF) → Nat → Option xF
  | [], _ => none
  | q :: r, i => if i < q.1 then some q.2 else x_at r (i - q.1)
def x_slot (e : pE) (i : Nat) : Option Value := match e with
  | .inr (_, fs) => fs[i]?
  | .inl (_, n, .inl f) => if i < n then some (.int (f i)) else none
  | .inl (_, n, .inr (.inl f)) => if i < n then some (.long (f i)) else none
  | .inl (_, n, .inr (.inr (.inr (.inr g)))) => if i < n then some (va_rf (g i)) else none
  | _ => none
def x_sl (G : List pE) (k i : Nat) : Option Value := match G[k]? with
  | some e => x_slot e i
  | none => none
def x_shape (t : xT) (e : pE) : Prop := match e with
  | .inr (ci, fs) => t.1 = 0 ∧ ci = t.2.1 ∧ fs.length = t.2.2.1
  | .inl (c, n, .inl _) => t.1 = 1 ∧ c = t.2.1 ∧ n = t.2.2.1 ∧ c < 3
  | .inl (c, n, .inr (.inl _)) => t.1 = 1 ∧ c = t.2.1 ∧ n = t.2.2.1 ∧ c = 3
  | .inl (c, n, .inr (.inr (.inr (.inr _)))) => t.1 = 1 ∧ c = t.2.1 ∧ n = t.2.2.1 ∧ 4 ≤ c ∧ c ≤ 9
  | _ => False
def xf_ok (th : List Nat) (f : xF) (v : Value) : Prop := match f.1 with
  | 0 => ∃ x : Int32, v = .int x ∧ f.2.1 ≤ x.toInt ∧ x.toInt ≤ f.2.2
  | 1 => ∃ x : Int64, v = .long x
  | 3 => ∃ k : Nat, v = .ref k ∧ pm_isTok k = true
  | 4 => v = .null ∨ ∃ k : Nat, v = .ref k ∧ pm_isTok k = true
  | t + 10 => ∃ a : Nat, v = .ref a ∧ th[a]? = some t
  | _ => False
/-- the cells are of their types -/
def xI (tb : Nat → xT) (th : List Nat) (G : List pE) : Prop := G.length = th.length ∧ th.length ≤ pm_TB ∧ ∀ k t : Nat, th[k]? = some t → (∃ e, G[k]? = some e ∧ x_shape (tb t) e) ∧ ∀ i f, x_at (tb t).2.2.2 i = some f → ∃ v, x_sl G k i = some v ∧ xf_ok th f v
/-- one slot is written -/
def x_upd (G G' : List pE) (a i : Nat) (v : Value) : Prop := G'.length = G.length ∧ (∀ k j : Nat, x_sl G' k j = if k = a ∧ j = i then some v else x_sl G k j) ∧ ∀ (k : Nat) (t : xT), (∃ e, G[k]? = some e ∧ x_shape t e) → ∃ e, G'[k]? = some e ∧ x_shape t e
theorem x_upd_of {G : List pE} {a i : Nat} {v : Value} {e e' : pE} (hg : G[a]? = some e) (hs : ∀ j, x_slot e' j = if j = i then some v else x_slot e j) (hsh : ∀ t, x_shape t e → x_shape t e') : x_upd G (G.set a e') a i v := by
  have hl := (List.getElem?_eq_some_iff.mp hg).1
  refine ⟨List.length_set, fun k j => ?_, fun k t h => ?_⟩
  · unfold x_sl
    by_cases hk : k = a
    · subst hk
      rw [List.getElem?_set_self hl, hg]
      simp only [true_and]
      exact hs j
    · rw [List.getElem?_set_ne (Ne.symm hk)]
      simp [hk]
  · obtain ⟨e0, h1, h2⟩ := h
    by_cases hk : k = a
    · subst hk
      rw [hg] at h1
      cases h1
      exact ⟨e', List.getElem?_set_self hl, hsh t h2⟩
    · exact ⟨e0, by rw [List.getElem?_set_ne (Ne.symm hk)]; exact h1, h2⟩
theorem x_upd_put {G : List pE} {a i ci : Nat} {fs : List Value} {v : Value} (hg : G[a]? = some (.inr (ci, fs))) (hi : i < fs.length) : x_upd G (G.set a (.inr (ci, fs.set i v))) a i v := by
  refine x_upd_of hg (fun j => ?_) (fun t h => ?_)
  · show (fs.set i v)[j]? = if j = i then some v else fs[j]?
    split
    · rename_i h
      subst h
      exact List.getElem?_set_self hi
    · rename_i h
      exact List.getElem?_set_ne (Ne.symm h)
  · exact ⟨h.1, h.2.1, by rw [List.length_set]; exact h.2.2⟩
theorem x_upd_int {G : List pE} {a i c n : Nat} {f : Nat → Int32} {x : Int32} (hg : G[a]? = some (.inl (c, n, .inl f))) (hi : i < n) : x_upd G (G.set a (.inl (c, n, .inl (upd f i x)))) a i (.int x) := by
  refine x_upd_of hg (fun j => ?_) (fun t h => h)
  show (if j < n then some (Value.int (upd f i x j)) else none) = if j = i then some (.int x) else if j < n then some (Value.int (f j)) else none
  by_cases h : j = i
  · subst h
    simp [hi, upd]
  · simp [h, upd]
theorem x_upd_long {G : List pE} {a i c n : Nat} {f : Nat → Int64} {x : Int64} (hg : G[a]? = some (.inl (c, n, .inr (.inl f)))) (hi : i < n) : x_upd G (G.set a (.inl (c, n, .inr (.inl (vp_updL f i x))))) a i (.long x) := by
  refine x_upd_of hg (fun j => ?_) (fun t h => h)
  show (if j < n then some (Value.long (vp_updL f i x j)) else none) = if j = i then some (.long x) else if j < n then some (Value.long (f j)) else none
  by_cases h : j = i
  · subst h
    simp [hi, vp_updL]
  · simp [h, vp_updL]
theorem x_upd_ref {G : List pE} {a i c n : Nat} {g : Nat → Option Nat} {x : Option Nat} (hg : G[a]? = some (.inl (c, n, .inr (.inr (.inr (.inr g)))))) (hi : i < n) : x_upd G (G.set a (.inl (c, n, .inr (.inr (.inr (.inr (va_up g i x))))))) a i (va_rf x) := by
  refine x_upd_of hg (fun j => ?_) (fun t h => h)
  show (if j < n then some (va_rf (va_up g i x j)) else none) = if j = i then some (va_rf x) else if j < n then some (va_rf (g j)) else none
  by_cases h : j = i
  · subst h
    simp [hi, va_up]
  · simp [h, va_up]
theorem xI.upd {tb : Nat → xT} {th : List Nat} {G G' : List pE} {a i : Nat} {v : Value} {t : Nat} (h : xI tb th G) (hu : x_upd G G' a i v) (ha : th[a]? = some t) (hv : ∀ f, x_at (tb t).2.2.2 i = some f → xf_ok th f v) : xI tb th G' := by
  refine ⟨hu.1.trans h.1, h.2.1, fun k t' hk => ?_⟩
  obtain ⟨h1, h2⟩ := h.2.2 k t' hk
  refine ⟨hu.2.2 k _ h1, fun j f hf => ?_⟩
  rw [hu.2.1 k j]
  split
  · rename_i hh
    obtain ⟨rfl, rfl⟩ := hh
    rw [ha] at hk
    cases hk
    exact ⟨v, rfl, hv f hf⟩
  · exact h2 j f hf
/-- only slots that E names are other -/
def x_eff (th : List Nat) (E : List (Nat × Nat × Nat)) (G G' : List pE) : Prop := ∀ k t i : Nat, th[k]? = some t → (∀ q ∈ E, ¬ (q.1 = t ∧ q.2.1 ≤ i ∧ i ≤ q.2.2)) → x_sl G' k i = x_sl G k i
theorem x_eff.rf {th : List Nat} {E : List (Nat × Nat × Nat)} {G : List pE} : x_eff th E G G := fun _ _ _ _ _ => rfl
theorem x_eff.tr {th : List Nat} {E : List (Nat × Nat × Nat)} {G1 G2 G3 : List pE} (h1 : x_eff th E G1 G2) (h2 : x_eff th E G2 G3) : x_eff th E G1 G3 := fun k t i hk hi => (h2 k t i hk hi).trans (h1 k t i hk hi)
theorem x_eff.mono {th : List Nat} {E E' : List (Nat × Nat × Nat)} {G1 G2 : List pE} (h : x_eff th E G1 G2) (hs : ∀ q ∈ E, ∃ r ∈ E', r.1 = q.1 ∧ r.2.1 ≤ q.2.1 ∧ q.2.2 ≤ r.2.2) : x_eff th E' G1 G2 := by
  intro k t i hk hi
  refine h k t i hk (fun q hq hh => ?_)
  obtain ⟨r, hr, h1, h2, h3⟩ := hs q hq
  exact hi r hr ⟨h1.trans hh.1, Nat.le_trans h2 hh.2.1, Nat.le_trans hh.2.2 h3⟩
theorem x_eff.upd {th : List Nat} {E : List (Nat × Nat × Nat)} {G G' : List pE} {a i t : Nat} {v : Value} (hu : x_upd G G' a i v) (ha : th[a]? = some t) {q : Nat × Nat × Nat} (hq : q ∈ E) (h1 : q.1 = t) (h2 : q.2.1 ≤ i) (h3 : i ≤ q.2.2) : x_eff th E G G' := by
  intro k t' j hk hj
  rw [hu.2.1 k j]
  split
  · rename_i hh
    obtain ⟨rfl, rfl⟩ := hh
    rw [ha] at hk
    cases hk
    exact absurd ⟨h1, h2, h3⟩ (hj q hq)
  · rfl
-- ===== abstract values, abstract states =====
abbrev xV : Type := Nat × xL
def x_g (th : List Nat) (v : Nat → Int) (a : xV) (w : Value) : Prop := match a.1 with
  | 0 => ∃ x : Int32, w = .int x ∧ x.toInt = xl_ev a.2 v
  | 1 => ∃ x : Int64, w = .long x
  | 3 => ∃ k : Nat, w = .ref k ∧ pm_isTok k = true
  | 4 => w = .null ∨ ∃ k : Nat, w = .ref k ∧ pm_isTok k = true
  | 5 => w = .ref pm_KB
  | 6 => w = .ref pm_SB
  | t + 10 => ∃ b : Nat, w = .ref b ∧ (b : Int) = xl_ev a.2 v ∧ th[b]? = some t
  | _ => False
def x_gs (th : List Nat) (v : Nat → Int) : List xV → List Value → Prop
  | [], [] => True
  | a :: as, w :: ws => x_g th v a w ∧ x_gs th v as ws
  | _, _ => False
abbrev xA : Type := Nat × xL × Nat × xV
def x_fact (th : List Nat) (v : Nat → Int) (G : List pE) (q : xA) : Prop := ∃ a : Nat, (a : Int) = xl_ev q.2.1 v ∧ th[a]? = some q.1 ∧ ∃ w, x_sl G a q.2.2.1 = some w ∧ x_g th v q.2.2.2 w
/-- constraints, locals, stack, facts, next symbol -/
abbrev xG : Type := List xL × List (Nat × xV) × List xV × List xA × Nat
def x_S (tb : Nat → xT) (th : List Nat) (v : Nat → Int) (g : xG) (lv : pL) (st : List Value) (G : List pE) : Prop :=
  x_Bd v ∧ x_Cs g.1 v ∧ (∀ q ∈ g.2.1, ∃ w, pm_get lv q.1 = some w ∧ x_g th v q.2 w) ∧ x_gs th v g.2.2.1 st ∧ (∀ q ∈ g.2.2.2.1, x_fact th v G q) ∧ xI tb th G
def x_noV (i : Nat) (a : xV) : Bool := xt_no i a.2.1
def x_noG (i : Nat) (g : xG) : Bool := g.1.all (fun c => xt_no i c.1) && g.2.1.all (fun q => x_noV i q.2) && g.2.2.1.all (x_noV i) && g.2.2.2.1.all (fun q => xt_no i q.2.1.1 && x_noV i q.2.2.2)
theorem x_g_ext {th : List Nat} {v v' : Nat → Int} {a : xV} {w : Value} (h : xl_ev a.2 v' = xl_ev a.2 v) (hg : x_g th v a w) : x_g th v' a w := by
  unfold x_g at hg ⊢
  split at hg <;> first | exact hg | (rw [h]; exact hg)
theorem x_g_up {th : List Nat} {v : Nat → Int} {i : Nat} {x : Int} {a : xV} {w : Value} (h : x_noV i a = true) (hg : x_g th v a w) : x_g th (x_up v i x) a w := x_g_ext (xl_no_ev v x h) hg
theorem x_gs_up {th : List Nat} {v : Nat → Int} {i : Nat} {x : Int} : ∀ {as : List xV} {ws : List Value}, as.all (x_noV i) = true → x_gs th v as ws → x_gs th (x_up v i x) as ws
  | [], [], _, _ => trivial
  | [], _ :: _, _, h => h.elim
  | _ :: _, [], _, h => h.elim
  | a :: as, w :: ws, hn, h => by
    rw [List.all_cons, Bool.and_eq_true] at hn
    exact ⟨x_g_up hn.1 h.1, x_gs_up hn.2 h.2⟩
theorem x_S_up {tb : Nat → xT} {th : List Nat} {v : Nat → Int} {g : xG} {lv : pL} {st : List Value} {G : List pE} {i : Nat} {x : Int} (h : x_S tb th v g lv st G) (hn : x_noG i g = true) (h1 : -2147483648 ≤ x) (h2 : x ≤ 2147483647) : x_S tb th (x_up v i x) g lv st G := by
  obtain ⟨a1, a2, a3, a4, a5, a6⟩ := h
  unfold x_noG at hn
  simp only [Bool.and_eq_true, List.all_eq_true] at hn
  obtain ⟨⟨⟨n1, n2⟩, n3⟩, n4⟩ := hn
  refine ⟨x_up_Bd a1 h1 h2, fun c hc => ?_, fun q hq => ?_, x_gs_up (List.all_eq_true.mpr n3) a4, fun q hq => ?_, a6⟩
  · rw [xl_no_ev v x (n1 c hc)]
    exact a2 c hc
  · obtain ⟨w, g1, g2⟩ := a3 q hq
    exact ⟨w, g1, x_g_up (n2 q hq) g2⟩
  · obtain ⟨a, f1, f2, w, f3, f4⟩ := a5 q hq
    exact ⟨a, by rw [xl_no_ev v x (n4 q hq).1]; exact f1, f2, w, f3, x_g_up (n4 q hq).2 f4⟩
