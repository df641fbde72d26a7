-- ===== both sides in step: what was told =====
/-- the LAND's numbers -/
def DL (cc hf : Nat → Int32) (np : Int32) : Prop := (∀ j : Nat, 6 ≤ j → j < 13 → cc j = hf j) ∧ ∀ i : Nat, (i : Int) < np.toInt → i < 4 → cc (13 + i) = hf (13 + i) ∧ cc (17 + i) = hf (17 + i) ∧ cc (21 + i) = hf (21 + i)
theorem DL.h {cc hf hf' : Nat → Int32} {np : Int32} (h : DL cc hf np) (e : ∀ j : Nat, 6 ≤ j → j < 25 → hf' j = hf j) : DL cc hf' np := ⟨fun j a b => (h.1 j a b).trans (e j a (by omega)).symm, fun i hi h4 => by
  obtain ⟨a, b, c⟩ := h.2 i hi h4
  exact ⟨a.trans (e _ (by omega) (by omega)).symm, b.trans (e _ (by omega) (by omega)).symm, c.trans (e _ (by omega) (by omega)).symm⟩⟩
theorem DL.one {cc hf : Nat → Int32} {np v : Int32} (h : DL cc hf np) {k : Nat} (hk : k < 13) : DL (fun j => if j = k then v else cc j) (fun j => if j = k then v else hf j) np := ⟨fun j a b => by
  dsimp only
  by_cases e : j = k
  · rw [if_pos e, if_pos e]
  · rw [if_neg e, if_neg e]; exact h.1 j a b, fun i hi h4 => by
  dsimp only
  rw [if_neg (by omega), if_neg (by omega), if_neg (by omega), if_neg (by omega), if_neg (by omega), if_neg (by omega)]
  exact h.2 i hi h4⟩
def DR (cc : Nat → Int32) (np nt nl nn oc : Int32) (ot : Nat → Nat) (tn ln mn : Nat → Int64) (hf : Nat → Int32) (nf : Nat → Int64) (on : Int32) : Prop :=
  (cc 0 = hf 0) ∧ (cc 1 = hf 1) ∧ (np = hf 2) ∧ (nt = hf 3) ∧ (nl = hf 4) ∧ (nn = hf 5) ∧ (0 ≤ np.toInt ∧ np.toInt ≤ 4) ∧ (0 ≤ nt.toInt ∧ nt.toInt ≤ 8) ∧ (0 ≤ nl.toInt ∧ nl.toInt ≤ 4) ∧ (0 ≤ nn.toInt ∧ nn.toInt ≤ 4) ∧ (0 ≤ oc.toInt ∧ oc.toInt ≤ 5) ∧ (∀ i : Nat, (i : Int) < nt.toInt → NR (tn i) (nf (16 + i))) ∧ (∀ i : Nat, (i : Int) < nl.toInt → NR (ln i) (nf (24 + i))) ∧ (∀ i : Nat, (i : Int) < nn.toInt → NR (mn i) (nf (28 + i))) ∧ (∀ x : Fin 5, t_bit on (Int32.ofInt x.val) = true ↔ (∃ i : Nat, (i : Int) < oc.toInt ∧ ot i = 10 + x.val) ∨ (x.val = 0 ∧ 0 < nt.toInt + nl.toInt + nn.toInt)) ∧ (∀ i j : Nat, (i : Int) < oc.toInt → (j : Int) < oc.toInt → ot i = ot j → i = j) ∧ (∀ i : Nat, (i : Int) < oc.toInt → 10 ≤ ot i ∧ ot i < 15) ∧ (DL cc hf np)
section PR2
variable {cc cc' hf hf' : Nat → Int32} {np nt nl nn oc on : Int32} {ot : Nat → Nat} {tn ln mn nf : Nat → Int64} {nm wd : Int64}
theorem DR.c0 (h : DR cc np nt nl nn oc ot tn ln mn hf nf on) : cc 0 = hf 0 := h.1
theorem DR.c1 (h : DR cc np nt nl nn oc ot tn ln mn hf nf on) : cc 1 = hf 1 := h.2.1
theorem DR.p (h : DR cc np nt nl nn oc ot tn ln mn hf nf on) : np = hf 2 := h.2.2.1
theorem DR.t (h : DR cc np nt nl nn oc ot tn ln mn hf nf on) : nt = hf 3 := h.2.2.2.1
theorem DR.l (h : DR cc np nt nl nn oc ot tn ln mn hf nf on) : nl = hf 4 := h.2.2.2.2.1
theorem DR.m (h : DR cc np nt nl nn oc ot tn ln mn hf nf on) : nn = hf 5 := h.2.2.2.2.2.1
theorem DR.rp (h : DR cc np nt nl nn oc ot tn ln mn hf nf on) : 0 ≤ np.toInt ∧ np.toInt ≤ 4 := h.2.2.2.2.2.2.1
theorem DR.rt (h : DR cc np nt nl nn oc ot tn ln mn hf nf on) : 0 ≤ nt.toInt ∧ nt.toInt ≤ 8 := h.2.2.2.2.2.2.2.1
theorem DR.rl (h : DR cc np nt nl nn oc ot tn ln mn hf nf on) : 0 ≤ nl.toInt ∧ nl.toInt ≤ 4 := h.2.2.2.2.2.2.2.2.1
theorem DR.rm (h : DR cc np nt nl nn oc ot tn ln mn hf nf on) : 0 ≤ nn.toInt ∧ nn.toInt ≤ 4 := h.2.2.2.2.2.2.2.2.2.1
theorem DR.ro (h : DR cc np nt nl nn oc ot tn ln mn hf nf on) : 0 ≤ oc.toInt ∧ oc.toInt ≤ 5 := h.2.2.2.2.2.2.2.2.2.2.1
theorem DR.nT (h : DR cc np nt nl nn oc ot tn ln mn hf nf on) : ∀ i : Nat, (i : Int) < nt.toInt → NR (tn i) (nf (16 + i)) := h.2.2.2.2.2.2.2.2.2.2.2.1
theorem DR.nL (h : DR cc np nt nl nn oc ot tn ln mn hf nf on) : ∀ i : Nat, (i : Int) < nl.toInt → NR (ln i) (nf (24 + i)) := h.2.2.2.2.2.2.2.2.2.2.2.2.1
theorem DR.nM (h : DR cc np nt nl nn oc ot tn ln mn hf nf on) : ∀ i : Nat, (i : Int) < nn.toInt → NR (mn i) (nf (28 + i)) := h.2.2.2.2.2.2.2.2.2.2.2.2.2.1
theorem DR.bit (h : DR cc np nt nl nn oc ot tn ln mn hf nf on) : ∀ x : Fin 5, t_bit on (Int32.ofInt x.val) = true ↔ (∃ i : Nat, (i : Int) < oc.toInt ∧ ot i = 10 + x.val) ∨ (x.val = 0 ∧ 0 < nt.toInt + nl.toInt + nn.toInt) := h.2.2.2.2.2.2.2.2.2.2.2.2.2.2.1
theorem DR.inj (h : DR cc np nt nl nn oc ot tn ln mn hf nf on) : ∀ i j : Nat, (i : Int) < oc.toInt → (j : Int) < oc.toInt → ot i = ot j → i = j := h.2.2.2.2.2.2.2.2.2.2.2.2.2.2.2.1
theorem DR.rng (h : DR cc np nt nl nn oc ot tn ln mn hf nf on) : ∀ i : Nat, (i : Int) < oc.toInt → 10 ≤ ot i ∧ ot i < 15 := h.2.2.2.2.2.2.2.2.2.2.2.2.2.2.2.2.1
theorem DR.ld (h : DR cc np nt nl nn oc ot tn ln mn hf nf on) : DL cc hf np := h.2.2.2.2.2.2.2.2.2.2.2.2.2.2.2.2.2
theorem t_bit_or (v : Int32) : ∀ k x : Fin 5, t_bit (v ||| (Int32.ofInt 1 <<< (Int32.ofInt k.val &&& 31))) (Int32.ofInt x.val) = (t_bit v (Int32.ofInt x.val) || decide (x = k)) := by
  intro k x
  have e : ∀ k x : Fin 5, (Int32.ofInt 1 <<< (Int32.ofInt k.val &&& 31)).toBitVec.getLsbD x.val = decide (x = k) := by decide +kernel
  rw [t_bit_eq, t_bit_eq, Int32.toBitVec_or, BitVec.getLsbD_or, e]
theorem t_bit_or1 (v : Int32) : ∀ x : Fin 5, t_bit (v ||| Int32.ofInt 1) (Int32.ofInt x.val) = (t_bit v (Int32.ofInt x.val) || decide (x = 0)) := by
  intro x
  have e : ∀ x : Fin 5, (Int32.ofInt 1).toBitVec.getLsbD x.val = decide (x = 0) := by decide +kernel
  rw [t_bit_eq, t_bit_eq, Int32.toBitVec_or, BitVec.getLsbD_or, e]
theorem DR.told (h : DR cc np nt nl nn oc ot tn ln mn hf nf on) (r : NR nm wd) : c_Told nt nl nn tn ln mn nm ↔ t_Told hf nf wd := by
  unfold c_Told t_Told
  rw [← h.t, ← h.l, ← h.m]
  constructor
  · rintro (⟨i, a, b⟩ | ⟨i, a, b⟩ | ⟨i, a, b⟩)
    · exact Or.inr (Or.inl ⟨i, a, ((h.nL i a).iff r).mp b⟩)
    · exact Or.inl ⟨i, a, ((h.nT i a).iff r).mp b⟩
    · exact Or.inr (Or.inr ⟨i, a, ((h.nM i a).iff r).mp b⟩)
  · rintro (⟨i, a, b⟩ | ⟨i, a, b⟩ | ⟨i, a, b⟩)
    · exact Or.inr (Or.inl ⟨i, a, ((h.nT i a).iff r).mpr b⟩)
    · exact Or.inl ⟨i, a, ((h.nL i a).iff r).mpr b⟩
    · exact Or.inr (Or.inr ⟨i, a, ((h.nM i a).iff r).mpr b⟩)
theorem t_pig : ∀ a b c d e t : Fin 5, (a == b || a == c || a == d || a == e || b == c || b == d || b == e || c == d || c == e || d == e || a == t || b == t || c == t || d == t || e == t) = true := by decide +kernel
theorem t_pigeon (a b c d e t : Fin 5) (hab : a ≠ b) (hac : a ≠ c) (had : a ≠ d) (hae : a ≠ e) (hbc : b ≠ c) (hbd : b ≠ d) (hbe : b ≠ e) (hcd : c ≠ d) (hce : c ≠ e) (hde : d ≠ e) (hat : a ≠ t) (hbt : b ≠ t) (hct : c ≠ t) (hdt : d ≠ t) (het : e ≠ t) : False := by
  have z := t_pig a b c d e t
  rw [beq_eq_false_iff_ne.mpr hab, beq_eq_false_iff_ne.mpr hac, beq_eq_false_iff_ne.mpr had, beq_eq_false_iff_ne.mpr hae, beq_eq_false_iff_ne.mpr hbc, beq_eq_false_iff_ne.mpr hbd, beq_eq_false_iff_ne.mpr hbe, beq_eq_false_iff_ne.mpr hcd, beq_eq_false_iff_ne.mpr hce, beq_eq_false_iff_ne.mpr hde, beq_eq_false_iff_ne.mpr hat, beq_eq_false_iff_ne.mpr hbt, beq_eq_false_iff_ne.mpr hct, beq_eq_false_iff_ne.mpr hdt, beq_eq_false_iff_ne.mpr het] at z
  exact absurd z (by decide)
theorem DR.lt5 (h : DR cc np nt nl nn oc ot tn ln mn hf nf on) {k : Nat} (hk : k < 5) (hno : ∀ i : Nat, (i : Int) < oc.toInt → ot i ≠ 10 + k) : oc.toInt < 5 := by
  have ro := h.ro
  rcases Int.lt_or_le oc.toInt 5 with c | c
  · exact c
  exfalso
  have g : ∀ i : Nat, i < 5 → 10 ≤ ot i ∧ ot i < 15 := fun i hi => h.rng i (by omega)
  have b : ∀ i : Nat, i < 5 → ot i - 10 < 5 := fun i hi => by have := g i hi; omega
  have ne : ∀ i j : Nat, (hi : i < 5) → (hj : j < 5) → i ≠ j → (⟨ot i - 10, b i hi⟩ : Fin 5) ≠ ⟨ot j - 10, b j hj⟩ := fun i j hi hj hij z => hij (h.inj i j (by omega) (by omega) (by have := g i hi; have := g j hj; have := Fin.mk.inj z; omega))
  have nk : ∀ i : Nat, (hi : i < 5) → (⟨ot i - 10, b i hi⟩ : Fin 5) ≠ ⟨k, hk⟩ := fun i hi z => hno i (by omega) (by have := g i hi; have := Fin.mk.inj z; omega)
  exact t_pigeon _ _ _ _ _ _ (ne 0 1 (by decide) (by decide) (by decide)) (ne 0 2 (by decide) (by decide) (by decide)) (ne 0 3 (by decide) (by decide) (by decide)) (ne 0 4 (by decide) (by decide) (by decide)) (ne 1 2 (by decide) (by decide) (by decide)) (ne 1 3 (by decide) (by decide) (by decide)) (ne 1 4 (by decide) (by decide) (by decide)) (ne 2 3 (by decide) (by decide) (by decide)) (ne 2 4 (by decide) (by decide) (by decide)) (ne 3 4 (by decide) (by decide) (by decide)) (nk 0 (by decide)) (nk 1 (by decide)) (nk 2 (by decide)) (nk 3 (by decide)) (nk 4 (by decide))
theorem DR.once (h : DR cc np nt nl nn oc ot tn ln mn hf nf on) {k : Fin 5} (hno : ∀ i : Nat, (i : Int) < oc.toInt → ot i ≠ 10 + k.val) (e0 : cc' 0 = hf' 0) (e1 : cc' 1 = hf' 1) (e2 : hf' 2 = hf 2) (e3 : hf' 3 = hf 3) (e4 : hf' 4 = hf 4) (e5 : hf' 5 = hf 5) (eL : DL cc' hf' np) : DR cc' np nt nl nn (oc + Int32.ofInt 1) (fun j => if j = oc.toInt.toNat then 10 + k.val else ot j) tn ln mn hf' nf (on ||| (Int32.ofInt 1 <<< (Int32.ofInt k.val &&& 31))) := by
  have ro := h.ro
  have h5 := h.lt5 k.2 hno
  have eo : (oc + Int32.ofInt 1).toInt = oc.toInt + 1 := y_add1 (t := oc) (by omega)
  refine ⟨e0, e1, e2.symm ▸ h.p, e3.symm ▸ h.t, e4.symm ▸ h.l, e5.symm ▸ h.m, h.rp, h.rt, h.rl, h.rm, by omega, h.nT, h.nL, h.nM, fun x => ?_, fun i j hi hj hij => ?_, fun i hi => ?_, eL⟩
  · rw [t_bit_or, Bool.or_eq_true, h.bit x, decide_eq_true_eq]
    constructor
    · rintro ((⟨i, a, b⟩ | z) | z)
      · exact Or.inl ⟨i, by omega, by dsimp only; rw [if_neg (by omega)]; exact b⟩
      · exact Or.inr z
      · exact Or.inl ⟨oc.toInt.toNat, by omega, by dsimp only; rw [if_pos rfl, z]⟩
    · rintro (⟨i, a, b⟩ | z)
      · dsimp only at b
        by_cases c : i = oc.toInt.toNat
        · rw [if_pos c] at b
          exact Or.inr (Fin.ext (by omega))
        · rw [if_neg c] at b
          exact Or.inl (Or.inl ⟨i, by omega, b⟩)
      · exact Or.inl (Or.inr z)
  · dsimp only at hij
    by_cases c : i = oc.toInt.toNat
    · by_cases c2 : j = oc.toInt.toNat
      · omega
      · rw [if_pos c, if_neg c2] at hij
        exact absurd hij.symm (hno j (by omega))
    · by_cases c2 : j = oc.toInt.toNat
      · rw [if_neg c, if_pos c2] at hij
        exact absurd hij (hno i (by omega))
      · rw [if_neg c, if_neg c2] at hij
        exact h.inj i j (by omega) (by omega) hij
  · dsimp only
    by_cases c : i = oc.toInt.toNat
    · rw [if_pos c]
      have := k.2
      omega
    · rw [if_neg c]
      exact h.rng i (by omega)
theorem DR.pass (h : DR cc np nt nl nn oc ot tn ln mn hf nf on) (hc : np.toInt < 4) (k0 : cc' 0 = cc 0) (k1 : cc' 1 = cc 1) (eL : DL cc' hf' (np + Int32.ofInt 1)) (e0 : hf' 0 = hf 0) (e1 : hf' 1 = hf 1) (e2 : hf' 2 = hf 2 + Int32.ofInt 1) (e3 : hf' 3 = hf 3) (e4 : hf' 4 = hf 4) (e5 : hf' 5 = hf 5) : DR cc' (np + Int32.ofInt 1) nt nl nn oc ot tn ln mn hf' nf on := by
  have rp := h.rp
  have eo : (np + Int32.ofInt 1).toInt = np.toInt + 1 := y_add1 (t := np) (by omega)
  exact ⟨k0.trans (h.c0.trans e0.symm), k1.trans (h.c1.trans e1.symm), by rw [e2, ← h.p], e3.symm ▸ h.t, e4.symm ▸ h.l, e5.symm ▸ h.m, by omega, h.rt, h.rl, h.rm, h.ro, h.nT, h.nL, h.nM, h.bit, h.inj, h.rng, eL⟩
theorem DR.thing (h : DR cc np nt nl nn oc ot tn ln mn hf nf on) (hc : nt.toInt < 8) (r : NR nm wd) {J : Nat} (hJ : J = 16 + nt.toInt.toNat) (eL : DL cc hf' np) (e0 : hf' 0 = hf 0) (e1 : hf' 1 = hf 1) (e2 : hf' 2 = hf 2) (e3 : hf' 3 = hf 3 + Int32.ofInt 1) (e4 : hf' 4 = hf 4) (e5 : hf' 5 = hf 5) : DR cc np (nt + Int32.ofInt 1) nl nn oc ot (fun j => if j = nt.toInt.toNat then nm else tn j) ln mn hf' (fun i => if i = J then wd else nf i) (on ||| Int32.ofInt 1) := by
  have r0 := h.rt
  have rt := h.rt
  have rl := h.rl
  have rm := h.rm
  have eo : (nt + Int32.ofInt 1).toInt = nt.toInt + 1 := y_add1 (t := nt) (by omega)
  refine ⟨e0.symm ▸ h.c0, e1.symm ▸ h.c1, e2.symm ▸ h.p, by rw [e3, ← h.t], e4.symm ▸ h.l, e5.symm ▸ h.m, h.rp, by omega, h.rl, h.rm, h.ro, ?_, ?_, ?_, fun x => ?_, h.inj, h.rng, eL⟩
  · exact fun i hi => by
      dsimp only
      by_cases e : i = nt.toInt.toNat
      · rw [if_pos e, if_pos (by omega)]
        exact r
      · rw [if_neg e, if_neg (by omega)]
        exact h.nT i (by omega)
  · exact fun i hi => by
      dsimp only
      rw [if_neg (by have := h.rl; omega)]
      exact h.nL i hi
  · exact fun i hi => by
      dsimp only
      rw [if_neg (by have := h.rm; omega)]
      exact h.nM i hi
  · rw [t_bit_or1, Bool.or_eq_true, h.bit x, decide_eq_true_eq]
    constructor
    · rintro ((z | z) | z)
      · exact Or.inl z
      · exact Or.inr ⟨z.1, by omega⟩
      · exact Or.inr ⟨by rw [z]; rfl, by omega⟩
    · rintro (z | z)
      · exact Or.inl (Or.inl z)
      · exact Or.inr (Fin.ext z.1)
theorem DR.mill (h : DR cc np nt nl nn oc ot tn ln mn hf nf on) (hc : nl.toInt < 4) (r : NR nm wd) {J : Nat} (hJ : J = 24 + nl.toInt.toNat) (eL : DL cc hf' np) (e0 : hf' 0 = hf 0) (e1 : hf' 1 = hf 1) (e2 : hf' 2 = hf 2) (e3 : hf' 3 = hf 3) (e4 : hf' 4 = hf 4 + Int32.ofInt 1) (e5 : hf' 5 = hf 5) : DR cc np nt (nl + Int32.ofInt 1) nn oc ot tn (fun j => if j = nl.toInt.toNat then nm else ln j) mn hf' (fun i => if i = J then wd else nf i) (on ||| Int32.ofInt 1) := by
  have r0 := h.rl
  have rt := h.rt
  have rl := h.rl
  have rm := h.rm
  have eo : (nl + Int32.ofInt 1).toInt = nl.toInt + 1 := y_add1 (t := nl) (by omega)
  refine ⟨e0.symm ▸ h.c0, e1.symm ▸ h.c1, e2.symm ▸ h.p, e3.symm ▸ h.t, by rw [e4, ← h.l], e5.symm ▸ h.m, h.rp, h.rt, by omega, h.rm, h.ro, ?_, ?_, ?_, fun x => ?_, h.inj, h.rng, eL⟩
  · exact fun i hi => by
      dsimp only
      rw [if_neg (by have := h.rt; omega)]
      exact h.nT i hi
  · exact fun i hi => by
      dsimp only
      by_cases e : i = nl.toInt.toNat
      · rw [if_pos e, if_pos (by omega)]
        exact r
      · rw [if_neg e, if_neg (by omega)]
        exact h.nL i (by omega)
  · exact fun i hi => by
      dsimp only
      rw [if_neg (by have := h.rm; omega)]
      exact h.nM i hi
  · rw [t_bit_or1, Bool.or_eq_true, h.bit x, decide_eq_true_eq]
    constructor
    · rintro ((z | z) | z)
      · exact Or.inl z
      · exact Or.inr ⟨z.1, by omega⟩
      · exact Or.inr ⟨by rw [z]; rfl, by omega⟩
    · rintro (z | z)
      · exact Or.inl (Or.inl z)
      · exact Or.inr (Fin.ext z.1)
theorem DR.man (h : DR cc np nt nl nn oc ot tn ln mn hf nf on) (hc : nn.toInt < 4) (r : NR nm wd) {J : Nat} (hJ : J = 28 + nn.toInt.toNat) (eL : DL cc hf' np) (e0 : hf' 0 = hf 0) (e1 : hf' 1 = hf 1) (e2 : hf' 2 = hf 2) (e3 : hf' 3 = hf 3) (e4 : hf' 4 = hf 4) (e5 : hf' 5 = hf 5 + Int32.ofInt 1) : DR cc np nt nl (nn + Int32.ofInt 1) oc ot tn ln (fun j => if j = nn.toInt.toNat then nm else mn j) hf' (fun i => if i = J then wd else nf i) (on ||| Int32.ofInt 1) := by
  have r0 := h.rm
  have rt := h.rt
  have rl := h.rl
  have rm := h.rm
  have eo : (nn + Int32.ofInt 1).toInt = nn.toInt + 1 := y_add1 (t := nn) (by omega)
  refine ⟨e0.symm ▸ h.c0, e1.symm ▸ h.c1, e2.symm ▸ h.p, e3.symm ▸ h.t, e4.symm ▸ h.l, by rw [e5, ← h.m], h.rp, h.rt, h.rl, by omega, h.ro, ?_, ?_, ?_, fun x => ?_, h.inj, h.rng, eL⟩
  · exact fun i hi => by
      dsimp only
      rw [if_neg (by have := h.rt; omega)]
      exact h.nT i hi
  · exact fun i hi => by
      dsimp only
      rw [if_neg (by have := h.rl; omega)]
      exact h.nL i hi
  · exact fun i hi => by
      dsimp only
      by_cases e : i = nn.toInt.toNat
      · rw [if_pos e, if_pos (by omega)]
        exact r
      · rw [if_neg e, if_neg (by omega)]
        exact h.nM i (by omega)
  · rw [t_bit_or1, Bool.or_eq_true, h.bit x, decide_eq_true_eq]
    constructor
    · rintro ((z | z) | z)
      · exact Or.inl z
      · exact Or.inr ⟨z.1, by omega⟩
      · exact Or.inr ⟨by rw [z]; rfl, by omega⟩
    · rintro (z | z)
      · exact Or.inl (Or.inl z)
      · exact Or.inr (Fin.ext z.1)
end PR2
