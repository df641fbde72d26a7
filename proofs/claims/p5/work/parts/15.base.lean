-- ===== what the abstract steps rest on =====
theorem x_find_and {α : Type} {p q : α → Bool} {x : α} : ∀ {l : List α}, l.find? p = some x → q x = true → (l.filter q).find? p = some x
  | [], h, _ => by cases h
  | a :: l, h, hq => by
    rw [List.find?_cons] at h
    cases hp : p a with
    | true =>
      rw [hp] at h
      cases h
      rw [List.filter_cons_of_pos hq, List.find?_cons, hp]
    | false =>
      rw [hp] at h
      cases hqa : q a with
      | true =>
        rw [List.filter_cons_of_pos hqa, List.find?_cons, hp]
        exact x_find_and h hq
      | false =>
        rw [List.filter_cons_of_neg (by rw [hqa]; decide)]
        exact x_find_and h hq
theorem x_get_put {lv : pL} {i j : Nat} {w w0 : Value} (h : pm_get lv j = some w0) (hj : j ≠ i) (hc : ¬ (j + 1 = i ∧ w0.category = 2)) : pm_get (pm_put1 lv i w) j = some w0 := by
  unfold pm_get at h ⊢
  cases hf : lv.find? (fun q => q.1 == j) with
  | none => rw [hf] at h; cases h
  | some q =>
    rw [hf] at h
    have hq : q.2 = w0 := by cases h; rfl
    have hq1 : q.1 = j := by simpa using List.find?_some hf
    unfold pm_put1
    rw [List.find?_cons]
    have hij : (i == j) = false := by simp [Ne.symm hj]
    simp only [hij]
    rw [x_find_and hf]
    · exact congrArg some hq
    · rw [hq1, hq]
      simp only [Bool.and_eq_true, Bool.not_eq_true', beq_eq_false_iff_ne, Bool.and_eq_false_iff, beq_eq_false_iff_ne]
      refine ⟨hj, ?_⟩
      by_cases h1 : j + 1 = i
      · exact Or.inr (fun z => hc ⟨h1, z⟩)
      · exact Or.inl h1
theorem x_get_self {lv : pL} {i : Nat} {w : Value} : pm_get (pm_put1 lv i w) i = some w := by
  unfold pm_get pm_put1
  simp
section XB
variable {tb : Nat → xT} {th : List Nat} {v : Nat → Int} {cs : List xL} {lo : List (Nat × xV)} {st : List xV} {fa : List xA} {nx : Nat} {lv : pL} {ws : List Value} {G : List pE}
theorem x_g_cat {a : xV} {w : Value} (h : x_g th v a w) (ha : a.1 ≠ 1) : w.category = 1 := by
  unfold x_g at h
  split at h
  · obtain ⟨x, rfl, -⟩ := h; rfl
  · rename_i h1; exact absurd h1 ha
  · obtain ⟨k, rfl, -⟩ := h; rfl
  · rcases h with rfl | ⟨k, rfl, -⟩ <;> rfl
  · rw [h]; rfl
  · rw [h]; rfl
  · obtain ⟨k, rfl, -⟩ := h; rfl
  · exact h.elim
theorem x_lget_ok {i : Nat} {a : xV} (h : x_lget lo i = some a) (hlo : ∀ q ∈ lo, ∃ w, pm_get lv q.1 = some w ∧ x_g th v q.2 w) : ∃ w, pm_get lv i = some w ∧ x_g th v a w := by
  unfold x_lget at h
  cases hf : lo.find? (fun q => q.1 == i) with
  | none => rw [hf] at h; cases h
  | some q =>
    rw [hf] at h
    cases h
    have h1 := hlo q (List.mem_of_find?_eq_some hf)
    have h2 : q.1 = i := by simpa using List.find?_some hf
    rw [h2] at h1
    exact h1
theorem x_lput_ok {i : Nat} {a : xV} {w : Value} (hlo : ∀ q ∈ lo, ∃ w, pm_get lv q.1 = some w ∧ x_g th v q.2 w) (ha : x_g th v a w) : ∀ q ∈ x_lput lo i a, ∃ w', pm_get (pm_put1 lv i w) q.1 = some w' ∧ x_g th v q.2 w' := by
  intro q hq
  unfold x_lput at hq
  rcases List.mem_cons.mp hq with rfl | hq
  · exact ⟨w, x_get_self, ha⟩
  · obtain ⟨h1, h2⟩ := List.mem_filter.mp hq
    obtain ⟨w0, h3, h4⟩ := hlo q h1
    simp only [Bool.and_eq_true, Bool.not_eq_true', beq_eq_false_iff_ne, Bool.and_eq_false_iff] at h2
    refine ⟨w0, x_get_put h3 h2.1 (fun z => ?_), h4⟩
    rcases h2.2 with h5 | h5
    · exact h5 z.1
    · have := x_g_cat h4 h5
      omega
theorem x_gs_cons {a : xV} {as : List xV} (h : x_gs th v (a :: as) ws) : ∃ w r, ws = w :: r ∧ x_g th v a w ∧ x_gs th v as r := by
  cases ws with
  | nil => exact h.elim
  | cons w r => exact ⟨w, r, rfl, h.1, h.2⟩
theorem x_g0 {l : xL} {w : Value} (h : x_g th v (0, l) w) : ∃ x : Int32, w = .int x ∧ x.toInt = xl_ev l v := h
theorem x_rng_ok (hB : x_Bd v) (hC : x_Cs cs v) {l : xL} (h : x_rng cs l = true) : -2 ^ 31 ≤ xl_ev l v ∧ xl_ev l v < 2 ^ 31 := by
  unfold x_rng at h
  rw [Bool.and_eq_true] at h
  have h1 := x_ent_ok hB hC h.1
  have h2 := x_ent_ok hB hC h.2
  rw [xl_add_ev, xl_c_ev] at h1
  rw [xl_sub_ev, xl_c_ev] at h2
  omega
theorem x_i32 (x : Int32) : -2147483648 ≤ x.toInt ∧ x.toInt ≤ 2147483647 := by
  have h1 := x.le_toInt
  have h2 := x.toInt_lt
  omega
/-- one state of many that holds, behind a step -/
def x_Go (tb : Nat → xT) (th : List Nat) (E : List (Nat × Nat × Nat)) (m0 own nL : Nat) (ini : Bool) (xs : Nat → Int32) (L J : Nat) (i : Instr) (pc : Nat) (v : Nat → Int) (lv : pL) (ws : List Value) (G : List pE) (out : List (Nat × xG)) : Prop :=
  ∃ q ∈ out, ∃ v' lv' ws' G', x_ag m0 v v' ∧ pm_step own nL ini xs L J i pc lv ws G = some (q.1, lv', ws', G', 0, 0) ∧ x_S tb th v' q.2 lv' ws' G' ∧ x_eff th E G G'
theorem x_hv_ok {m0 pc' : Nat} {full st' : List xV} {k : xL → List xL} {out : List (Nat × xG)} {n0 : Nat} {rest : List Value} (hS : x_S tb th v (cs, lo, full, fa, n0) lv ws G) (h : x_hv m0 pc' cs lo full st' fa nx k = some out) (x : Int32) (hk : ∀ v', x_S tb th v' (cs, lo, full, fa, n0) lv ws G → v' nx = x.toInt → x_Cs (k (xl_s nx)) v' ∧ x_gs th v' st' rest) : ∃ q ∈ out, ∃ v', x_ag m0 v v' ∧ q.1 = pc' ∧ x_S tb th v' q.2 lv (.int x :: rest) G := by
  unfold x_hv at h
  split at h
  · rename_i hh
    cases h
    obtain ⟨b1, b2⟩ := x_i32 x
    have hS' := x_S_up (i := nx) (x := x.toInt) hS hh.2 b1 b2
    obtain ⟨k1, k2⟩ := hk _ hS' (by simp [x_up])
    obtain ⟨a1, a2, a3, a4, a5, a6⟩ := hS'
    refine ⟨_, List.mem_singleton.mpr rfl, _, x_ag.up hh.1, rfl, a1, fun c hc => ?_, a3, ⟨⟨x, rfl, ?_⟩, k2⟩, a5, a6⟩
    · rcases List.mem_append.mp hc with h | h
      · exact k1 c h
      · exact a2 c h
    · rw [xl_s_ev]
      simp [x_up]
  · cases h
theorem x_psh {a : xV} {w : Value} {st' : List xV} {rest : List Value} {n1 : Nat} (hS : x_S tb th v (cs, lo, st, fa, nx) lv ws G) (ha : x_g th v a w) (hr : x_gs th v st' rest) : x_S tb th v (cs, lo, a :: st', fa, n1) lv (w :: rest) G := ⟨hS.1, hS.2.1, hS.2.2.1, ⟨ha, hr⟩, hS.2.2.2.2.1, hS.2.2.2.2.2⟩
-- conditions
theorem x_cnd_ok {c : ClassFile.Cond} {l : xL} {x y : Int32} (hl : xl_ev l v = x.toInt - y.toInt) (h : pm_holds c x y = true) : ∃ d ∈ x_cnd c l, x_Cs d v := by
  have e1 : ∀ a b : xL, 0 ≤ xl_ev a v → 0 ≤ xl_ev b v → x_Cs [a, b] v := fun a b h1 h2 z hz => by
    rcases List.mem_cons.mp hz with rfl | hz
    · exact h1
    · rw [List.mem_singleton.mp hz]; exact h2
  have e2 : ∀ a : xL, 0 ≤ xl_ev a v → x_Cs [a] v := fun a h1 z hz => by rw [List.mem_singleton.mp hz]; exact h1
  cases c <;> simp only [pm_holds, decide_eq_true_eq] at h
  · subst h
    exact ⟨_, List.mem_singleton.mpr rfl, e1 _ _ (by omega) (by rw [xl_mul_ev]; omega)⟩
  · have hne : x.toInt ≠ y.toInt := fun z => h (Int32.toInt_inj.mp z)
    rcases Int.lt_or_gt_of_ne hne with hh | hh
    · exact ⟨_, List.mem_cons_of_mem _ List.mem_cons_self, e2 _ (by rw [xl_add_ev, xl_mul_ev, xl_c_ev]; omega)⟩
    · exact ⟨_, List.mem_cons_self, e2 _ (by rw [xl_add_ev, xl_c_ev]; omega)⟩
  · rw [Int32.lt_iff_toInt_lt] at h
    exact ⟨_, List.mem_singleton.mpr rfl, e2 _ (by rw [xl_add_ev, xl_mul_ev, xl_c_ev]; omega)⟩
  · rw [Int32.le_iff_toInt_le] at h
    exact ⟨_, List.mem_singleton.mpr rfl, e2 _ (by omega)⟩
  · rw [Int32.lt_iff_toInt_lt] at h
    exact ⟨_, List.mem_singleton.mpr rfl, e2 _ (by rw [xl_add_ev, xl_c_ev]; omega)⟩
  · rw [Int32.le_iff_toInt_le] at h
    exact ⟨_, List.mem_singleton.mpr rfl, e2 _ (by rw [xl_mul_ev]; omega)⟩
theorem x_neg_holds {c : ClassFile.Cond} {x y : Int32} (h : ¬ pm_holds c x y = true) : pm_holds (x_neg c) x y = true := by
  have ht : ∀ a b : Int32, ¬ a < b → b ≤ a := fun a b h => by rw [Int32.lt_iff_toInt_lt] at h; rw [Int32.le_iff_toInt_le]; omega
  have hu : ∀ a b : Int32, ¬ a ≤ b → b < a := fun a b h => by rw [Int32.le_iff_toInt_le] at h; rw [Int32.lt_iff_toInt_lt]; omega
  cases c <;> simp only [pm_holds, x_neg, decide_eq_true_eq] at h ⊢
  · exact h
  · exact Decidable.not_not.mp h
  · exact ht _ _ h
  · exact hu _ _ h
  · exact ht _ _ h
  · exact hu _ _ h
theorem x_inf_ok (hB : x_Bd v) (hC : x_Cs cs v) {d : List xL} (hd : x_Cs d v) : x_inf cs d = false := by
  cases h : x_inf cs d with
  | false => rfl
  | true =>
    unfold x_inf at h
    obtain ⟨e, he, h1⟩ := List.any_eq_true.mp h
    have h2 := x_ent_ok hB hC h1
    have h3 := hd e he
    rw [xl_add_ev, xl_mul_ev, xl_c_ev] at h2
    omega
theorem x_brs_ok {pc n0 : Nat} {ds : List (List xL)} {d : List xL} (hS : x_S tb th v (cs, lo, st, fa, n0) lv ws G) (hd : d ∈ ds) (hv : x_Cs d v) : ∃ q ∈ x_brs pc cs lo st fa nx ds, q.1 = pc ∧ x_S tb th v q.2 lv ws G := by
  refine ⟨(pc, (d ++ cs, lo, st, fa, nx)), List.mem_map.mpr ⟨d, List.mem_filter.mpr ⟨hd, ?_⟩, rfl⟩, rfl, hS.1, ?_, hS.2.2.1, hS.2.2.2.1, hS.2.2.2.2.1, hS.2.2.2.2.2⟩
  · rw [x_inf_ok hS.1 hS.2.1 hv]
    rfl
  · intro c hc
    rcases List.mem_append.mp hc with h | h
    · exact hv c h
    · exact hS.2.1 c h
theorem x_br_ok {c : ClassFile.Cond} {l : xL} {pc : Nat} {off : Int} {out : List (Nat × xG)} {x y : Int32} {n0 : Nat} (hS : x_S tb th v (cs, lo, st, fa, n0) lv ws G) (hl : xl_ev l v = x.toInt - y.toInt) (h : x_br c l pc off cs lo st fa nx = some out) : ∃ q ∈ out, x_S tb th v q.2 lv ws G ∧ pm_if (pm_holds c x y) pc off lv ws G = some (q.1, lv, ws, G, 0, 0) := by
  unfold x_br at h
  split at h
  · cases h
  · rename_i t ht
    cases h
    unfold pm_if
    rw [ht]
    by_cases hh : pm_holds c x y = true
    · obtain ⟨d, hd, hv⟩ := x_cnd_ok hl hh
      obtain ⟨q, q1, q2, q3⟩ := x_brs_ok (pc := t) (nx := nx) hS hd hv
      refine ⟨q, List.mem_append_left _ q1, q3, ?_⟩
      rw [hh, q2]
      rfl
    · obtain ⟨d, hd, hv⟩ := x_cnd_ok hl (x_neg_holds hh)
      obtain ⟨q, q1, q2, q3⟩ := x_brs_ok (pc := pc + 3) (nx := nx) hS hd hv
      refine ⟨q, List.mem_append_right _ q1, q3, ?_⟩
      have hf : pm_holds c x y = false := by cases h0 : pm_holds c x y <;> first | rfl | exact absurd h0 hh
      rw [hf, q2]
      rfl
-- numbers
theorem x_and_le {x y : Int32} (hy : 0 ≤ y.toInt) : 0 ≤ (x &&& y).toInt ∧ (x &&& y).toInt ≤ y.toInt := by
  have e : ∀ z : Int32, z.toInt = z.toBitVec.toInt := fun _ => rfl
  have hyn : y.toBitVec.toNat < 2 ^ 31 := by
    rw [e, BitVec.toInt_eq_toNat_cond] at hy
    have := y.toBitVec.isLt
    split at hy <;> omega
  have hle : (x &&& y).toBitVec.toNat ≤ y.toBitVec.toNat := by
    show (x.toBitVec &&& y.toBitVec).toNat ≤ _
    rw [BitVec.toNat_and]
    exact Nat.and_le_right
  rw [e, e, BitVec.toInt_eq_toNat_cond, BitVec.toInt_eq_toNat_cond]
  rw [if_pos (by omega), if_pos (by omega)]
  omega
theorem x_and_comm (x y : Int32) : x &&& y = y &&& x := Int32.and_comm x y
theorem x_or255 {x y : Int32} (hx : 0 ≤ x.toInt ∧ x.toInt ≤ 255) (hy : 0 ≤ y.toInt ∧ y.toInt ≤ 255) : 0 ≤ (x ||| y).toInt ∧ (x ||| y).toInt ≤ 255 := by
  have e : ∀ z : Int32, z.toInt = z.toBitVec.toInt := fun _ => rfl
  have hn : ∀ z : Int32, 0 ≤ z.toInt ∧ z.toInt ≤ 255 → z.toBitVec.toNat < 2 ^ 8 := by
    intro z hz
    rw [e, BitVec.toInt_eq_toNat_cond] at hz
    have := z.toBitVec.isLt
    split at hz <;> omega
  have h1 : (x ||| y).toBitVec.toNat < 2 ^ 8 := by
    show (x.toBitVec ||| y.toBitVec).toNat < _
    rw [BitVec.toNat_or]
    exact Nat.or_lt_two_pow (hn x hx) (hn y hy)
  rw [e, BitVec.toInt_eq_toNat_cond, if_pos (by omega)]
  omega
theorem x_i2b_le (x : Int32) : -128 ≤ x.toInt8.toInt32.toInt ∧ x.toInt8.toInt32.toInt ≤ 127 := by
  rw [Int8.toInt_toInt32]
  have h1 := x.toInt8.le_toInt
  have h2 := x.toInt8.toInt_lt
  omega
theorem x_of_nn {x : Int32} (h : 0 ≤ x.toInt) : ∃ n : Nat, n < 2 ^ 31 ∧ x = nI n ∧ x.toInt = n := by
  obtain ⟨n, h1, h2⟩ := nI_of (x := x) (by rw [Int32.lt_iff_toInt_lt]; show ¬ x.toInt < 0; omega)
  exact ⟨n, h1, h2, by rw [h2, nI_toInt h1]⟩
theorem x_rem_le {x y : Int32} (hx : 0 ≤ x.toInt) (hy : 1 ≤ y.toInt) : 0 ≤ (x - x / y * y).toInt ∧ (x - x / y * y).toInt ≤ y.toInt - 1 := by
  obtain ⟨n, n1, n2, n3⟩ := x_of_nn hx
  obtain ⟨k, k1, k2, k3⟩ := x_of_nn (x := y) (by omega)
  have hk : 0 < k := by omega
  rw [n2, k2, pk_rem n1 hk k1, nI_toInt (by have := Nat.mod_lt n hk; omega), nI_toInt k1]
  have := Nat.mod_lt n hk
  omega
end XB
