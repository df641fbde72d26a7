/-- the class's token and the model's are the same -/
def TR (tk : Nat) (num : Int32) (nm : Int64) (tok mn : Int32) (wd : Int64) : Prop :=
  (tk = 0 ∧ tok = Int32.ofInt 0) ∨ (tk = 1 ∧ tok = Int32.ofInt 4) ∨ (tk = 2 ∧ tok = Int32.ofInt 2 ∧ num = mn) ∨ (∃ j, j < 6 ∧ tk = 4 + j ∧ tok = Int32.ofInt 3 ∧ mn.toInt = ([59, 60, 61, 62, 40, 41] : List Int).getD j 0) ∨
  (tok = Int32.ofInt 1 ∧ NR nm wd ∧ ((∃ x, x < 25 ∧ tk = 10 + x ∧ wd = t_W x) ∨ (tk = 3 ∧ ∀ x, x < 25 → wd ≠ t_W x)))
theorem t_sign256 : ∀ v : Fin 256, t_ld (Int32.ofInt ((v.val : Int) - 128)) = false → (t_sg (Int32.ofInt ((v.val : Int) - 128) &&& 255) = false ∧ t_spelt (Int32.ofInt ((v.val : Int) - 128)).toInt64 1 = 1) ∨ (t_sg (Int32.ofInt ((v.val : Int) - 128) &&& 255) = true ∧ ∃ j, j < 6 ∧ t_spelt (Int32.ofInt ((v.val : Int) - 128)).toInt64 1 = 4 + j ∧ (Int32.ofInt ((v.val : Int) - 128) &&& 255).toInt = ([59, 60, 61, 62, 40, 41] : List Int).getD j 0) := by decide +kernel
theorem t_sign {b : Int32} (h : -128 ≤ b.toInt ∧ b.toInt ≤ 127) (hl : t_ld b = false) : (t_sg (b &&& 255) = false ∧ t_spelt b.toInt64 1 = 1) ∨ (t_sg (b &&& 255) = true ∧ ∃ j, j < 6 ∧ t_spelt b.toInt64 1 = 4 + j ∧ (b &&& 255).toInt = ([59, 60, 61, 62, 40, 41] : List Int).getD j 0) := by
  have hb : (b.toInt + 128).toNat < 256 := by omega
  have k := t_sign256 ⟨(b.toInt + 128).toNat, hb⟩
  have e : Int32.ofInt (((b.toInt + 128).toNat : Int) - 128) = b := by
    rw [show ((b.toInt + 128).toNat : Int) - 128 = b.toInt by omega, Int32.ofInt_toInt]
  dsimp only at k
  rw [e] at k
  exact k hl
def t_LD (f : Nat → Int32) (p k : Nat) : Prop := ∀ i, i < k → t_ld (f (p + i)) = true
def t_D (f : Nat → Int32) (p k : Nat) : Prop := ∀ i, i < k → t_di (f (p + i)) = true
theorem t_ld_or {b : Int32} (h : t_ld b = true) : (t_le b = true ∧ t_di b = false ∧ 57 < b.toInt) ∨ (t_le b = false ∧ t_di b = true ∧ b.toInt ≤ 57) := by
  unfold t_ld at h
  rcases Bool.or_eq_true_iff.mp h with z | z
  · refine Or.inl ⟨z, ?_⟩
    unfold t_le at z
    simp only [Bool.and_eq_true, decide_eq_true_eq] at z
    refine ⟨?_, by omega⟩
    simp only [t_di, Bool.and_eq_false_iff, decide_eq_false_iff_not]
    omega
  · refine Or.inr ⟨?_, z, ?_⟩
    · unfold t_di at z
      simp only [Bool.and_eq_true, decide_eq_true_eq] at z
      simp only [t_le, Bool.and_eq_false_iff, decide_eq_false_iff_not]
      omega
    · unfold t_di at z
      simp only [Bool.and_eq_true, decide_eq_true_eq] at z
      omega
theorem t_dg0 {f : Nat → Int32} {p : Nat} : ∀ k, t_LD f p k → (t_dg f p k = 0 ↔ t_L f p k)
  | 0, _ => ⟨fun _ i hi => absurd hi (by omega), fun _ => rfl⟩
  | k + 1, h => by
    have ih := t_dg0 k (fun i hi => h i (by omega))
    have hk := t_ld_or (h k (by omega))
    unfold t_dg
    constructor
    · intro z i hi
      by_cases hik : i = k
      · subst hik
        rcases hk with hk | hk
        · exact hk.1
        · rw [if_pos hk.2.2] at z
          omega
      · exact ih.mp (by omega) i (by omega)
    · intro z
      rcases hk with hk | hk
      · rw [if_neg (by omega), ih.mpr z.pre]
      · have := z k (by omega)
        rw [hk.1] at this
        cases this
theorem t_dgk {f : Nat → Int32} {p : Nat} : ∀ k, t_LD f p k → (t_dg f p k = k ↔ t_D f p k)
  | 0, _ => ⟨fun _ i hi => absurd hi (by omega), fun _ => rfl⟩
  | k + 1, h => by
    have ih := t_dgk k (fun i hi => h i (by omega))
    have hk := t_ld_or (h k (by omega))
    have hle := t_dg_le f p k
    unfold t_dg
    constructor
    · intro z i hi
      by_cases hik : i = k
      · subst hik
        rcases hk with hk | hk
        · rw [if_neg (by omega)] at z
          omega
        · exact hk.2.1
      · exact ih.mp (by split at z <;> omega) i (by omega)
    · intro z
      have zz : t_D f p k := fun i hi => z i (by omega)
      rcases hk with hk | hk
      · have := z k (by omega)
        rw [hk.2.1] at this
        cases this
      · rw [if_pos hk.2.2, ih.mpr zz]
theorem t_al_iff {f : Nat → Int32} {p : Nat} : ∀ k, (t_al f p k = true ↔ ∀ i, i < k → t_le (f (p + i)) = t_le (f p))
  | 0 => ⟨fun _ i hi => absurd hi (by omega), fun _ => rfl⟩
  | k + 1 => by
    have ih := t_al_iff (f := f) (p := p) k
    unfold t_al
    rw [Bool.and_eq_true, ih, beq_iff_eq]
    constructor
    · rintro ⟨z1, z2⟩ i hi
      by_cases hik : i = k
      · rw [hik]; exact z2
      · exact z1 i (by omega)
    · exact fun z => ⟨fun i hi => z i (by omega), z k (by omega)⟩
theorem t_di_and : ∀ v : Fin 10, (Int32.ofInt ((v.val : Int) + 48) &&& 255) = Int32.ofInt ((v.val : Int) + 48) := by decide +kernel
theorem t_num_mn {f : Nat → Int32} {p : Nat} : ∀ k, k ≤ 3 → t_D f p k → t_num f p k = t_mn f p k
  | 0, _, _ => rfl
  | k + 1, hk, h => by
    have ih := t_num_mn k (by omega) (fun i hi => h i (by omega))
    have hd := h k (by omega)
    have e : (f (p + k)) &&& 255 = f (p + k) := by
      unfold t_di at hd
      simp only [Bool.and_eq_true, decide_eq_true_eq] at hd
      have hb : ((f (p + k)).toInt - 48).toNat < 10 := by omega
      have z := t_di_and ⟨_, hb⟩
      dsimp only at z
      rw [show (((f (p + k)).toInt - 48).toNat : Int) + 48 = (f (p + k)).toInt by omega, Int32.ofInt_toInt] at z
      exact z
    rw [t_num, t_mn, if_pos (by omega), ih, e, Int32.mul_comm]
theorem t_run {f : Nat → Int32} {p k : Nat} (hk : 0 < k) (h : t_LD f p k) : TR (t_tk f p k) (t_num f p k) (t_nm f p k) (t_mt f p k) (t_mn f p k) (t_wd f p k) := by
  have h0 := t_ld_or (h 0 hk)
  rw [Nat.add_zero] at h0
  have d0 := t_dg0 k h
  have dk := t_dgk k h
  have al := t_al_iff (f := f) (p := p) k
  have hkn : k ≠ 0 := by omega
  unfold t_tk t_mt
  rw [if_neg hkn]
  by_cases hL : t_L f p k
  · have e1 : t_le (f p) = true := by have := hL 0 hk; rwa [Nat.add_zero] at this
    have e2 : t_al f p k = true := al.mpr (fun i hi => by rw [hL i hi, e1])
    by_cases h7 : k ≤ 7
    · rw [if_pos ⟨d0.mpr hL, h7⟩, if_pos ⟨e2, by rw [e1]; exact h7⟩, e1]
      have hN : NR (t_nm f p k) (t_wd f p k) := ⟨f, p, k, hk, h7, hL, rfl, rfl⟩
      refine Or.inr (Or.inr (Or.inr (Or.inr ⟨rfl, hN, ?_⟩)))
      rcases hN.tok with ⟨x, x1, x2, x3⟩ | ⟨x1, x2⟩
      · exact Or.inl ⟨x, x1, x3, x2⟩
      · exact Or.inr ⟨x2, x1⟩
    · rw [if_neg (fun z => h7 z.2), if_neg (fun z => by have := d0.mpr hL; omega), if_neg (fun z => by rw [e1] at z; exact h7 z.2)]
      exact Or.inr (Or.inl ⟨rfl, rfl⟩)
  · rw [if_neg (fun z => hL (d0.mp z.1))]
    by_cases hD : t_D f p k
    · have e1 : t_le (f p) = false := by
        rcases h0 with z | z
        · have := hD 0 hk
          rw [Nat.add_zero, z.2.1] at this
          cases this
        · exact z.1
      have e2 : t_al f p k = true := al.mpr (fun i hi => by
        rw [e1]
        rcases t_ld_or (h i hi) with z | z
        · have := hD i hi
          rw [z.2.1] at this
          cases this
        · exact z.1)
      by_cases h3 : k ≤ 3
      · rw [if_pos ⟨dk.mpr hD, h3⟩, if_pos ⟨e2, by rw [e1]; exact h3⟩, e1]
        exact Or.inr (Or.inr (Or.inl ⟨rfl, rfl, t_num_mn k h3 hD⟩))
      · rw [if_neg (fun z => h3 z.2), if_neg (fun z => by rw [e1] at z; exact h3 z.2)]
        exact Or.inr (Or.inl ⟨rfl, rfl⟩)
    · rw [if_neg (fun z => hD (dk.mp z.1)), if_neg (fun z => ?_)]
      · exact Or.inr (Or.inl ⟨rfl, rfl⟩)
      · have z1 := al.mp z.1
        rcases h0 with y | y
        · exact hL (fun i hi => by rw [z1 i hi, y.1])
        · refine hD (fun i hi => ?_)
          rcases t_ld_or (h i hi) with w | w
          · have := z1 i hi
            rw [w.1, y.1] at this
            cases this
          · exact w.2.1
theorem t_pos {a b : Int32} (ha : 0 ≤ a.toInt) (hb : 0 ≤ b.toInt) (h : a.toInt.toNat = b.toInt.toNat) : a = b := Int32.toInt_inj.mp (by omega)
set_option maxHeartbeats 2000000 in
/-- both read on: the same token -/
theorem k_tok2 {f : Nat → Int32} {n lim P : Int32} (hn : n.toInt ≤ 940) (hP : 0 ≤ P.toInt) (hPn : P.toInt ≤ n.toInt) (hfb : ∀ i, i < 940 → -128 ≤ (f i).toInt ∧ (f i).toInt ≤ 127) (num : Int32) (nm : Int64) (mn : Int32) (wd : Int64) :
    ∃ (nx : Int32) (tk : Nat) (pl num' : Int32) (nm' : Int64) (tok mn' sp' : Int32) (wd' : Int64), 0 ≤ nx.toInt ∧ nx.toInt ≤ n.toInt ∧ (P.toInt < nx.toInt ∨ (P.toInt ≤ nx.toInt ∧ (tk = 0 ∨ tk = 1))) ∧ TR tk num' nm' tok mn' wd' ∧
      (∀ (th : List Nat) (xs : Nat → Int32) (L J d tp b : Nat) (G0 G : List pE) (tk0 : Nat) (pl0 ft fp : Int32), TC th tp b f G0 n lim P tk0 pl0 num nm ft fp G → x_Gd xs L J (d + 1) m_21 (fun r G' => r = none ∧ TC th tp b f G0 n lim nx tk pl num' nm' ft fp G') 0 (lv_args 0 [.ref tp]) [] G) ∧
      (∀ (th : List Nat) (xs : Nat → Int32) (L J d am mb : Nat) (G0 G : List pE) (tok0 at0 sp0 : Int32), TM th am mb f G0 n lim P tok0 at0 sp0 mn wd G → x_Gd xs L J (d + 1) m_163 (fun r G' => r = none ∧ TM th am mb f G0 n lim nx tok pl sp' mn' wd' G') 0 (lv_args 0 [.ref am]) [] G) := by
  obtain ⟨q1, hq1⟩ := t_End.ex t_bl f n.toInt.toNat _ P.toInt.toNat (by omega) rfl
  obtain ⟨v, hv⟩ : ∃ v : Int32, v.toInt = q1 := ⟨Int32.ofNat q1, nI_toInt (by have := hq1.2.1; omega)⟩
  have v0 : 0 ≤ v.toInt := by omega
  have hq : t_End t_bl f n.toInt.toNat P.toInt.toNat v.toInt.toNat := by rw [show v.toInt.toNat = q1 by omega]; exact hq1
  have v1 : v.toInt ≤ n.toInt := by have := hq.2.1; omega
  have same : ∀ w : Int32, 0 ≤ w.toInt → t_End t_bl f n.toInt.toNat P.toInt.toNat w.toInt.toNat → w = v := fun w w0 hw => t_pos w0 v0 (hw.one hq)
  by_cases c1 : lim.toInt < n.toInt ∧ lim.toInt ≤ v.toInt
  · refine ⟨v, 1, lim, num, nm, Int32.ofInt 4, mn, Int32.ofInt 0, wd, v0, v1, Or.inr ⟨by have := hq.1; omega, Or.inr rfl⟩, Or.inr (Or.inl ⟨rfl, rfl⟩), fun th xs L J d tp b G0 G tk0 pl0 ft fp h => ?_, fun th xs L J d am mb G0 G tok0 at0 sp0 h => ?_⟩
    · refine (k_readToken hn h hP hPn).mono (fun r G' h' => ?_)
      obtain ⟨rfl, w, w0, hw, ht⟩ := h'
      obtain rfl := same w w0 hw
      rcases ht with ⟨-, -, t⟩ | ⟨t, -⟩ | ⟨t, -⟩
      · exact ⟨rfl, t⟩
      · exact absurd c1 t
      · exact absurd c1 t
    · refine (k_next hn h hP hPn).mono (fun r G' h' => ?_)
      obtain ⟨rfl, w, w0, hw, ht⟩ := h'
      obtain rfl := same w w0 hw
      rcases ht with ⟨-, -, t⟩ | ⟨t, -⟩ | ⟨t, -⟩ | ⟨t, -⟩
      · exact ⟨rfl, t⟩
      · exact absurd c1 t
      · exact absurd c1 t
      · exact absurd c1 t
  by_cases c2 : n.toInt ≤ v.toInt
  · refine ⟨v, 0, v, num, nm, Int32.ofInt 0, mn, Int32.ofInt 0, wd, v0, v1, Or.inr ⟨by have := hq.1; omega, Or.inl rfl⟩, Or.inl ⟨rfl, rfl⟩, fun th xs L J d tp b G0 G tk0 pl0 ft fp h => ?_, fun th xs L J d am mb G0 G tok0 at0 sp0 h => ?_⟩
    · refine (k_readToken hn h hP hPn).mono (fun r G' h' => ?_)
      obtain ⟨rfl, w, w0, hw, ht⟩ := h'
      obtain rfl := same w w0 hw
      rcases ht with ⟨t1, t2, -⟩ | ⟨-, -, t⟩ | ⟨-, t, -⟩
      · exact absurd ⟨t1, t2⟩ c1
      · exact ⟨rfl, t⟩
      · omega
    · refine (k_next hn h hP hPn).mono (fun r G' h' => ?_)
      obtain ⟨rfl, w, w0, hw, ht⟩ := h'
      obtain rfl := same w w0 hw
      rcases ht with ⟨t1, t2, -⟩ | ⟨-, -, t⟩ | ⟨-, t, -⟩ | ⟨-, t, -⟩
      · exact absurd ⟨t1, t2⟩ c1
      · exact ⟨rfl, t⟩
      · omega
      · omega
  obtain ⟨q2, hq2⟩ := t_End.ex t_ld f n.toInt.toNat _ v.toInt.toNat (by omega) rfl
  obtain ⟨k, rfl⟩ : ∃ k, q2 = v.toInt.toNat + k := ⟨q2 - v.toInt.toNat, by have := hq2.1; omega⟩
  have hk9 := hq2.2.1
  have hLD : t_LD f v.toInt.toNat k := fun i hi => hq2.2.2.1 _ (by omega) (by omega)
  rcases Nat.eq_zero_or_pos k with k0 | k0
  · subst k0
    have hnl : t_ld (f v.toInt.toNat) = false := by have := hq2.2.2.2 (by omega); rwa [Nat.add_zero] at this
    have e1 : (v + Int32.ofInt 1).toInt = v.toInt + 1 := y_add1 (t := v) (by omega)
    refine ⟨v + Int32.ofInt 1, t_tk f v.toInt.toNat 0, v, t_num f v.toInt.toNat 0, t_nm f v.toInt.toNat 0, if t_sg (f v.toInt.toNat &&& 255) then Int32.ofInt 3 else Int32.ofInt 4, f v.toInt.toNat &&& 255, Int32.ofInt 0, wd, by omega, by omega, Or.inl (by have := hq.1; omega), ?_, fun th xs L J d tp b G0 G tk0 pl0 ft fp h => ?_, fun th xs L J d am mb G0 G tok0 at0 sp0 h => ?_⟩
    · unfold t_tk
      rw [if_pos rfl]
      rcases t_sign (hfb v.toInt.toNat (by omega)) hnl with ⟨z1, z2⟩ | ⟨z1, j, z2, z3, z4⟩
      · rw [z1, z2]
        exact Or.inr (Or.inl ⟨rfl, rfl⟩)
      · rw [z1, z3]
        exact Or.inr (Or.inr (Or.inr (Or.inl ⟨j, z2, rfl, rfl, z4⟩)))
    · refine (k_readToken hn h hP hPn).mono (fun r G' h' => ?_)
      obtain ⟨rfl, w, w0, hw, ht⟩ := h'
      obtain rfl := same w w0 hw
      rcases ht with ⟨t1, t2, -⟩ | ⟨-, t, -⟩ | ⟨-, -, k', p2, t1, t2, t3⟩
      · exact absurd ⟨t1, t2⟩ c1
      · omega
      · have := t1.one hq2
        obtain rfl : k' = 0 := by omega
        rw [if_pos rfl] at t2
        obtain rfl : p2 = w + Int32.ofInt 1 := Int32.toInt_inj.mp (by omega)
        exact ⟨rfl, t3⟩
    · refine (k_next hn h hP hPn).mono (fun r G' h' => ?_)
      obtain ⟨rfl, w, w0, hw, ht⟩ := h'
      obtain rfl := same w w0 hw
      rcases ht with ⟨t1, t2, -⟩ | ⟨-, t, -⟩ | ⟨-, -, -, p2, t2, t3⟩ | ⟨-, -, k', p2, sp, t0, t1, -, -⟩
      · exact absurd ⟨t1, t2⟩ c1
      · omega
      · obtain rfl : p2 = w + Int32.ofInt 1 := Int32.toInt_inj.mp (by omega)
        exact ⟨rfl, t3⟩
      · have := t1.one hq2
        omega
  · obtain ⟨p2, hp2⟩ : ∃ p2 : Int32, p2.toInt = v.toInt + k := ⟨Int32.ofNat (v.toInt.toNat + k), by rw [show (Int32.ofNat (v.toInt.toNat + k)).toInt = ((v.toInt.toNat + k : Nat) : Int) from nI_toInt (by omega)]; omega⟩
    obtain ⟨sp, hsp⟩ : ∃ sp : Int32, sp.toInt = k := ⟨Int32.ofNat k, nI_toInt (by omega)⟩
    refine ⟨p2, t_tk f v.toInt.toNat k, v, t_num f v.toInt.toNat k, t_nm f v.toInt.toNat k, t_mt f v.toInt.toNat k, t_mn f v.toInt.toNat k, sp, t_wd f v.toInt.toNat k, by omega, by omega, Or.inl (by have := hq.1; omega), t_run k0 hLD, fun th xs L J d tp b G0 G tk0 pl0 ft fp h => ?_, fun th xs L J d am mb G0 G tok0 at0 sp0 h => ?_⟩
    · refine (k_readToken hn h hP hPn).mono (fun r G' h' => ?_)
      obtain ⟨rfl, w, w0, hw, ht⟩ := h'
      obtain rfl := same w w0 hw
      rcases ht with ⟨t1, t2, -⟩ | ⟨-, t, -⟩ | ⟨-, -, k', p2', t1, t2, t3⟩
      · exact absurd ⟨t1, t2⟩ c1
      · omega
      · have := t1.one hq2
        obtain rfl : k' = k := by omega
        rw [if_neg (by omega)] at t2
        obtain rfl : p2' = p2 := Int32.toInt_inj.mp (by omega)
        exact ⟨rfl, t3⟩
    · refine (k_next hn h hP hPn).mono (fun r G' h' => ?_)
      obtain ⟨rfl, w, w0, hw, ht⟩ := h'
      obtain rfl := same w w0 hw
      rcases ht with ⟨t1, t2, -⟩ | ⟨-, t, -⟩ | ⟨-, -, t1, -⟩ | ⟨-, -, k', p2', sp', t0, t1, t2, t4, t3⟩
      · exact absurd ⟨t1, t2⟩ c1
      · omega
      · have := hLD 0 k0
        rw [Nat.add_zero, t1] at this
        cases this
      · have := t1.one hq2
        obtain rfl : k' = k := by omega
        obtain rfl : p2' = p2 := Int32.toInt_inj.mp (by omega)
        obtain rfl : sp' = sp := Int32.toInt_inj.mp (by omega)
        exact ⟨rfl, t3⟩
