-- ===== what an open cut point gives =====
section YS
variable {tb : Nat → xT} {th : List Nat} {v : Nat → Int} {g : xG} {lv : pL} {ws : List Value} {G : List pE}
theorem x_S.loCe (h : x_S tb th v g lv ws G) {i t a : Nat} {l : xL} (hm : (i, (t + 10, l)) ∈ g.2.1) (he : xl_ev l v = (a : Int)) : pm_get lv i = some (.ref a) := by
  obtain ⟨a', h1, h2, -⟩ := h.loC hm
  obtain rfl : a' = a := by omega
  exact h1
theorem x_S.lo0e (h : x_S tb th v g lv ws G) {i : Nat} {l : xL} (hm : (i, ((0 : Nat), l)) ∈ g.2.1) {x : Int32} (he : xl_ev l v = x.toInt) : pm_get lv i = some (.int x) := by
  obtain ⟨x', h1, h2⟩ := h.lo0 hm
  obtain rfl : x' = x := Int32.toInt_inj.mp (h2.trans he)
  exact h1
theorem x_S.fa0 (h : x_S tb th v g lv ws G) {i t a : Nat} {l cl : xL} (hm : (t, cl, i, ((0 : Nat), l)) ∈ g.2.2.2.1) (he : xl_ev cl v = (a : Int)) : ∃ x : Int32, x_sl G a i = some (.int x) ∧ x.toInt = xl_ev l v := by
  obtain ⟨a', h1, h2, w, h3, x, hw, h4⟩ := h.2.2.2.2.1 _ hm
  have h1 : (a' : Int) = xl_ev cl v := h1
  obtain rfl : a' = a := by omega
  have hw : w = .int x := hw
  subst hw
  exact ⟨x, h3, h4⟩
theorem x_S.fa0e (h : x_S tb th v g lv ws G) {i t a : Nat} {l cl : xL} (hm : (t, cl, i, ((0 : Nat), l)) ∈ g.2.2.2.1) (he : xl_ev cl v = (a : Int)) {x : Int32} (hx : xl_ev l v = x.toInt) : x_sl G a i = some (.int x) := by
  obtain ⟨x', h1, h2⟩ := h.fa0 hm he
  obtain rfl : x' = x := Int32.toInt_inj.mp (h2.trans hx)
  exact h1
end YS
/-- an end with a constant answer -/
theorem y_p1 {th : List Nat} {v : Nat → Int} {r : Option Value} {z : Int} (h : x_ans th v (some (0, ([], z))) r) : ∃ y : Int32, r = some (.int y) ∧ y.toInt = z := by
  cases r with
  | none => exact h.elim
  | some w =>
    obtain ⟨y, hy, h2⟩ := h
    have hy : w = .int y := hy
    subst hy
    exact ⟨y, rfl, by rw [h2]; simp [xl_ev, xt_ev]⟩
theorem z_S.effE {th : List Nat} {E : List (Nat × Nat × Nat)} {G G' : List pE} {a rb sb : Nat} {F : Nat → Option Value} {rd st : Nat → Int32} {c t : Int32} {w : Int} (h : z_S th G a rb sb F rd st c t w) (hI : xI x_tb th G') (he : x_eff th E G G') (h1 : (y_out E 10 8 && y_out E 10 35 && y_out E 10 36 && y_out E 10 38) = true) (h2 : ∀ i, i < 135 → y_out E 38 i = true) (h3 : ∀ i, i < 45 → y_out E 45 i = true) : ∃ F', z_S th G' a rb sb F' rd st c t w ∧ ∀ k, y_out E 10 k = true → F' k = F k := by
  rw [Bool.and_eq_true, Bool.and_eq_true, Bool.and_eq_true] at h1
  obtain ⟨⟨⟨k1, k2⟩, k3⟩, k4⟩ := h1
  obtain ⟨F', j1, j2⟩ := h.1.eff hI he ⟨k1, k2⟩ h2 h3
  exact ⟨F', ⟨j1, (j2 36 k3).trans h.2.1, (j2 38 k4).trans h.2.2.1, h.2.2.2⟩, j2⟩
theorem z_S.code {th : List Nat} {G G' : List pE} {a rb sb : Nat} {F : Nat → Option Value} {rd rd' st : Nat → Int32} {c t x : Int32} (h : z_S th G a rb sb F rd st c t 0) (hV : z_V th G' a rb sb (fun k => if k = 36 then some (.int (c + 1)) else F k) rd' st) (h1 : rd' (3 * c.toInt.toNat) = x) (h2 : ∀ i, i < c.toInt.toNat → rd' (3 * i) = rd (3 * i)) (hx : x ≠ 20 ∧ x ≠ 21 ∧ x ≠ 22) (hct : c.toInt + t.toInt ≤ 38) : z_S th G' a rb sb (fun k => if k = 36 then some (.int (c + 1)) else F k) rd' st (c + 1) t 1 := by
  obtain ⟨hV0, hc, ht, c0, t0, ct, hW, hD⟩ := h
  have e1 : (c + 1).toInt = c.toInt + 1 := y_add1 (by omega)
  obtain ⟨w1, w2⟩ := z_W_s h2 h1 hW (fun z => absurd z hx.1) (fun z => absurd z (fun z => z.elim hx.2.1 hx.2.2))
  rw [if_neg hx.1, if_neg (fun z => z.elim hx.2.1 hx.2.2)] at w2
  have e2 : (c + 1).toInt.toNat = c.toInt.toNat + 1 := by omega
  exact ⟨hV, rfl, ht, by omega, t0, by omega, by rw [e2]; exact w1, by rw [e2, w2]; omega⟩
