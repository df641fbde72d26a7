-- ===== what both call the same token =====
theorem t_End.ex (q : Int32 → Bool) (f : Nat → Int32) (n : Nat) : ∀ (m a : Nat), a ≤ n → n - a = m → ∃ p, t_End q f n a p := by
  intro m
  induction m with
  | zero => exact fun a h1 h2 => ⟨a, Nat.le_refl _, h1, fun i h3 h4 => absurd h3 (by omega), fun z => by omega⟩
  | succ m ih =>
    intro a h1 h2
    cases hq : q (f a)
    · exact ⟨a, Nat.le_refl _, h1, fun i h3 h4 => absurd h3 (by omega), fun _ => hq⟩
    · obtain ⟨p, p1, p2, p3, p4⟩ := ih (a + 1) (by omega) (by omega)
      refine ⟨p, by omega, p2, fun i h3 h4 => ?_, p4⟩
      by_cases hi : i = a
      · rw [hi]; exact hq
      · exact p3 i (by omega) h4
def nw (x : Int64) : Nat := x.toBitVec.toNat
theorem nw_inj {x y : Int64} (h : nw x = nw y) : x = y := Int64.toBitVec_inj.mp (BitVec.eq_of_toNat_eq h)
theorem nw_26 : ∀ v : Fin 26, nw ((Int32.ofInt ((v.val : Int) + 97)).toInt64) = v.val + 97 ∧ nw ((Int32.ofInt ((v.val : Int) + 97) &&& 255).toInt64) = v.val + 97 := by decide +kernel
theorem nw_le {b : Int32} (h : t_le b = true) : nw b.toInt64 = b.toInt.toNat ∧ nw (b &&& 255).toInt64 = b.toInt.toNat ∧ 97 ≤ b.toInt.toNat ∧ b.toInt.toNat ≤ 122 := by
  unfold t_le at h
  simp only [Bool.and_eq_true, decide_eq_true_eq] at h
  have hb : (b.toInt.toNat - 97) < 26 := by omega
  have k := nw_26 ⟨b.toInt.toNat - 97, hb⟩
  have e : Int32.ofInt (((b.toInt.toNat - 97 : Nat) : Int) + 97) = b := by
    rw [show ((b.toInt.toNat - 97 : Nat) : Int) + 97 = b.toInt by omega, Int32.ofInt_toInt]
  have k1 := k.1
  have k2 := k.2
  dsimp only at k1 k2
  rw [e] at k1 k2
  exact ⟨by rw [k1]; omega, by rw [k2]; omega, by omega, by omega⟩
/-- a word as a number to the base B -/
def t_e (B : Nat) (f : Nat → Int32) (p : Nat) : Nat → Nat
  | 0 => 0
  | k + 1 => t_e B f p k * B + (f (p + k)).toInt.toNat
def t_L (f : Nat → Int32) (p k : Nat) : Prop := ∀ i, i < k → t_le (f (p + i)) = true
theorem t_L.pre {f : Nat → Int32} {p k : Nat} (h : t_L f p (k + 1)) : t_L f p k := fun i hi => h i (by omega)
theorem t_e_lt {B : Nat} (hB : 123 ≤ B) {f : Nat → Int32} {p : Nat} : ∀ k, t_L f p k → t_e B f p k < B ^ k
  | 0, _ => by show 0 < 1; omega
  | k + 1, h => by
    have h1 := t_e_lt hB k h.pre
    have h2 := (nw_le (h k (by omega))).2.2.2
    show t_e B f p k * B + _ < B ^ (k + 1)
    rw [Nat.pow_succ]
    have : (t_e B f p k + 1) * B ≤ B ^ k * B := Nat.mul_le_mul_right _ h1
    rw [Nat.add_mul] at this
    omega
theorem nw_nm {f : Nat → Int32} {p : Nat} : ∀ k, k ≤ 7 → t_L f p k → nw (t_nm f p k) = t_e 128 f p k
  | 0, _, _ => rfl
  | k + 1, hk, h => by
    have ih := nw_nm k (by omega) h.pre
    have hlt := t_e_lt (B := 128) (by decide) k h.pre
    obtain ⟨l1, -, l3, l4⟩ := nw_le (h k (by omega))
    have hp : (128 : Nat) ^ k ≤ 128 ^ 6 := Nat.pow_le_pow_right (by decide) (by omega)
    show nw (t_nm f p k * 128 + (f (p + k)).toInt64) = t_e 128 f p k * 128 + _
    unfold nw at ih l1 ⊢
    rw [Int64.toBitVec_add, Int64.toBitVec_mul, BitVec.toNat_add, BitVec.toNat_mul, ih, l1, show (128 : Int64).toBitVec.toNat = 128 from rfl]
    have : (128 : Nat) ^ 6 = 4398046511104 := by decide
    omega
theorem nw_wd {f : Nat → Int32} {p : Nat} : ∀ k, k ≤ 7 → t_L f p k → nw (t_wd f p k) = t_e 256 f p k
  | 0, _, _ => rfl
  | k + 1, hk, h => by
    have ih := nw_wd k (by omega) h.pre
    have hlt := t_e_lt (B := 256) (by decide) k h.pre
    obtain ⟨-, l1, l3, l4⟩ := nw_le (h k (by omega))
    have hp : (256 : Nat) ^ k ≤ 256 ^ 6 := Nat.pow_le_pow_right (by decide) (by omega)
    have h6 : (256 : Nat) ^ 6 = 281474976710656 := by decide
    rw [t_wd, if_pos (by omega)]
    show nw (t_wd f p k <<< (((Int8.ofInt 8).toInt32 &&& 63).toInt64) ||| (f (p + k) &&& 255).toInt64) = t_e 256 f p k * 256 + _
    unfold nw at ih l1 ⊢
    have e8 : ((t_wd f p k) <<< (((Int8.ofInt 8).toInt32 &&& 63).toInt64)).toBitVec.toNat = t_e 256 f p k * 256 := by
      rw [show (((Int8.ofInt 8).toInt32 &&& 63).toInt64) = 8 from rfl, Int64.toBitVec_shiftLeft, show ((8 : Int64).toBitVec.smod 64) = 8#64 from rfl, BitVec.shiftLeft_eq', BitVec.toNat_shiftLeft, ih, show (8#64 : BitVec 64).toNat = 8 from rfl, Nat.shiftLeft_eq]
      omega
    rw [Int64.toBitVec_or, BitVec.toNat_or, e8, l1]
    have := Nat.shiftLeft_add_eq_or_of_lt (a := t_e 256 f p k) (b := (f (p + k)).toInt.toNat) (i := 8) (by omega)
    rw [Nat.shiftLeft_eq] at this
    exact this.symm
theorem t_e_inj {B : Nat} (hB : 123 ≤ B) {f g : Nat → Int32} {p q : Nat} : ∀ k j, t_L f p k → t_L g q j → t_e B f p k = t_e B g q j → k = j ∧ ∀ i, i < k → (f (p + i)).toInt.toNat = (g (q + i)).toInt.toNat
  | 0, 0, _, _, _ => ⟨rfl, fun i hi => absurd hi (by omega)⟩
  | 0, j + 1, _, h2, h => by
    have := (nw_le (h2 j (by omega))).2.2.1
    have h : 0 = t_e B g q j * B + (g (q + j)).toInt.toNat := h
    omega
  | k + 1, 0, h1, _, h => by
    have := (nw_le (h1 k (by omega))).2.2.1
    have h : t_e B f p k * B + (f (p + k)).toInt.toNat = 0 := h
    omega
  | k + 1, j + 1, h1, h2, h => by
    have a1 := (nw_le (h1 k (by omega))).2.2.2
    have a2 := (nw_le (h2 j (by omega))).2.2.2
    have h : t_e B f p k * B + (f (p + k)).toInt.toNat = t_e B g q j * B + (g (q + j)).toInt.toNat := h
    have hm : (f (p + k)).toInt.toNat = (g (q + j)).toInt.toNat := by
      have := congrArg (· % B) h
      simp only [Nat.mul_add_mod_self_right, Nat.mod_eq_of_lt (show (f (p + k)).toInt.toNat < B by omega), Nat.mod_eq_of_lt (show (g (q + j)).toInt.toNat < B by omega)] at this
      exact this
    have he : t_e B f p k = t_e B g q j := Nat.eq_of_mul_eq_mul_right (show 0 < B by omega) (by omega)
    obtain ⟨rfl, hi⟩ := t_e_inj hB k j h1.pre h2.pre he
    refine ⟨rfl, fun i hik => ?_⟩
    by_cases hk : i = k
    · rw [hk]; exact hm
    · exact hi i (by omega)
theorem t_e_ext {B : Nat} {f g : Nat → Int32} {p q : Nat} : ∀ k, (∀ i, i < k → (f (p + i)).toInt.toNat = (g (q + i)).toInt.toNat) → t_e B f p k = t_e B g q k
  | 0, _ => rfl
  | k + 1, h => by
    show t_e B f p k * B + _ = t_e B g q k * B + _
    rw [t_e_ext k (fun i hi => h i (by omega)), h k (by omega)]
/-- the class's name and the model's word of one WORD -/
def NR (nm wd : Int64) : Prop := ∃ (f : Nat → Int32) (p k : Nat), 0 < k ∧ k ≤ 7 ∧ t_L f p k ∧ nm = t_nm f p k ∧ wd = t_wd f p k
theorem NR.iff {nm wd nm' wd' : Int64} (h : NR nm wd) (h' : NR nm' wd') : nm = nm' ↔ wd = wd' := by
  obtain ⟨f, p, k, -, k7, hl, rfl, rfl⟩ := h
  obtain ⟨g, q, j, -, j7, hl', rfl, rfl⟩ := h'
  constructor
  · intro h
    have e := congrArg nw h
    rw [nw_nm k k7 hl, nw_nm j j7 hl'] at e
    obtain ⟨rfl, hi⟩ := t_e_inj (B := 128) (by decide) k j hl hl' e
    exact nw_inj (by rw [nw_wd k k7 hl, nw_wd k j7 hl', t_e_ext k hi])
  · intro h
    have e := congrArg nw h
    rw [nw_wd k k7 hl, nw_wd j j7 hl'] at e
    obtain ⟨rfl, hi⟩ := t_e_inj (B := 256) (by decide) k j hl hl' e
    exact nw_inj (by rw [nw_nm k k7 hl, nw_nm k j7 hl', t_e_ext k hi])
/-- the reserved words: letters; the model's number -/
def t_rw : List (List Nat) := [[108, 111, 110, 103], [98, 114, 101, 97, 116, 104], [102, 111, 114, 99, 101], [102, 97, 100, 101], [104, 101, 108, 100], [112, 97, 115, 115, 97, 103, 101], [116, 104, 105, 110, 103], [116, 105, 101, 100], [109, 105, 108, 108], [109, 97, 110], [116, 105, 101, 115], [108, 111, 111, 115, 101, 115], [119, 97, 108, 107, 115], [104, 111, 117, 114], [99, 111, 117, 103, 104, 115], [111, 114], [97, 110, 100], [110, 111, 116], [105, 110, 115, 105, 100, 101], [98, 101, 121, 111, 110, 100], [108, 111, 115, 116], [99, 101, 108, 108], [119, 101, 105, 103, 104, 116], [99, 111, 108, 111, 117, 114], [110, 117, 109, 98, 101, 114]]
def t_Wl : List Int64 := [1819242087, 108243466679400, 439956431717, 1717658725, 1751477348, 31632345876490085, 499967946343, 1953064292, 1835625580, 7168366, 1953064307, 119225867003251, 512735603571, 1752135026, 109330362230899, 28530, 6385252, 7237492, 115923103605861, 108187968564836, 1819243380, 1667591276, 131277443786868, 109330211763570, 121450625394034]
def t_W (x : Nat) : Int64 := t_Wl.getD x 0
def t_g (x i : Nat) : Int32 := Int32.ofNat ((t_rw.getD x []).getD i 0)
theorem t_rw_ok : ∀ x, x < 25 → 0 < (t_rw.getD x []).length ∧ (t_rw.getD x []).length ≤ 7 ∧ (∀ i, i < (t_rw.getD x []).length → t_le (t_g x (0 + i)) = true) ∧ pm_tokc.getD (10 + x) 0 = t_nm (t_g x) 0 (t_rw.getD x []).length ∧ t_W x = t_wd (t_g x) 0 (t_rw.getD x []).length := by decide +kernel
theorem t_NRW {x : Nat} (hx : x < 25) : NR (pm_tokc.getD (10 + x) 0) (t_W x) := by
  obtain ⟨h1, h2, h3, h4, h5⟩ := t_rw_ok x hx
  exact ⟨t_g x, 0, _, h1, h2, h3, h4, h5⟩
theorem t_tc_lo : ∀ i, i < 10 → nw (pm_tokc.getD i 0) < 97 := by decide +kernel
theorem t_tc_ne : ∀ i, i < 35 → ∀ j, j < 35 → 10 ≤ j → pm_tokc.getD i 0 = pm_tokc.getD j 0 → i = j := by decide +kernel
theorem NR.big {nm wd : Int64} (h : NR nm wd) : 97 ≤ nw nm := by
  obtain ⟨f, p, k, k0, k7, hl, rfl, -⟩ := h
  rw [nw_nm k k7 hl]
  obtain ⟨k, rfl⟩ : ∃ j, k = j + 1 := ⟨k - 1, by omega⟩
  have := (nw_le (hl k (by omega))).2.2.1
  show 97 ≤ t_e 128 f p k * 128 + _
  omega
/-- a WORD's token -/
theorem NR.tok {nm wd : Int64} (h : NR nm wd) : (∃ x, x < 25 ∧ wd = t_W x ∧ t_spelt nm 3 = 10 + x) ∨ ((∀ x, x < 25 → wd ≠ t_W x) ∧ t_spelt nm 3 = 3) := by
  have hb := h.big
  have h0 : nm ≠ 0 := fun z => by rw [z] at hb; exact absurd hb (by decide)
  by_cases hx : ∃ x, x < 25 ∧ wd = t_W x
  · obtain ⟨x, x1, x2⟩ := hx
    refine Or.inl ⟨x, x1, x2, ?_⟩
    have e : nm = pm_tokc.getD (10 + x) 0 := (h.iff (t_NRW x1)).mpr x2
    exact t_spelt_k h0 (by omega) (fun i hi z => by have := t_tc_ne i (by omega) (10 + x) (by omega) (by omega) (z.trans e); omega) e.symm
  · have hx : ∀ x, x < 25 → wd ≠ t_W x := fun x x1 x2 => hx ⟨x, x1, x2⟩
    refine Or.inr ⟨hx, t_spelt_z (Or.inr (fun i hi z => ?_))⟩
    by_cases h10 : i < 10
    · have := t_tc_lo i h10
      rw [z] at this
      omega
    · have e : pm_tokc.getD (10 + (i - 10)) 0 = nm := by rw [show 10 + (i - 10) = i by omega]; exact z
      exact hx (i - 10) (by omega) ((h.iff (t_NRW (by omega))).mp e.symm)
