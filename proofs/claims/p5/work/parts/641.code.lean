-- ===== the model's SENTENCE: codes and stack, as the heap has them =====
def z_V (th : List Nat) (G : List pE) (a rb sb : Nat) (F : Nat → Option Value) (rd st : Nat → Int32) : Prop := xI x_tb th G ∧ th[a]? = some 10 ∧ (∀ k, x_sl G a k = F k) ∧ F 8 = some (.ref rb) ∧ F 35 = some (.ref sb) ∧ th[rb]? = some 38 ∧ th[sb]? = some 45 ∧ (∀ i, i < 135 → x_sl G rb i = some (.int (rd i))) ∧ ∀ i, i < 45 → x_sl G sb i = some (.int (st i))
theorem y_one {n i : Nat} {f : xF} (h : i < n) : x_at [(n, f)] i = some f := by
  unfold x_at
  rw [if_pos h]
theorem y_okI {th : List Nat} {R : List (Nat × xF)} {i : Nat} {lo hi : Int} {x : Int32} (e : x_at R i = some (0, lo, hi)) (h1 : lo ≤ x.toInt) (h2 : x.toInt ≤ hi) : ∀ f', x_at R i = some f' → xf_ok th f' (.int x) := by
  intro f' h
  rw [e] at h
  cases h
  exact ⟨x, rfl, h1, h2⟩
theorem y_okA {th : List Nat} {R : List (Nat × xF)} {i : Nat} {x : Int32} (e : x_at R i = some (0, -2147483648, 2147483647)) : ∀ f', x_at R i = some f' → xf_ok th f' (.int x) := y_okI e (x_i32 x).1 (x_i32 x).2
section ZV
variable {th : List Nat} {G G1 : List pE} {a rb sb i : Nat} {F : Nat → Option Value} {rd st : Nat → Int32}
theorem z_V.ne (h : z_V th G a rb sb F rd st) : a ≠ rb ∧ a ≠ sb ∧ rb ≠ sb := by
  obtain ⟨-, h1, -, -, -, h2, h3, -⟩ := h
  refine ⟨fun h => ?_, fun h => ?_, fun h => ?_⟩
  · rw [h, h2] at h1; cases h1
  · rw [h, h3] at h1; cases h1
  · rw [h, h3] at h2; cases h2
theorem z_V.putF {v : Value} (h : z_V th G a rb sb F rd st) (u : x_upd G G1 a i v) (hx : ∀ f', x_at (x_tb 10).2.2.2 i = some f' → xf_ok th f' v) (hi : i ≠ 8 ∧ i ≠ 35) : z_V th G1 a rb sb (fun k => if k = i then some v else F k) rd st := by
  obtain ⟨n1, n2, n3⟩ := h.ne
  obtain ⟨hI, h1, h2, h3, h4, h5, h6, h7, h8⟩ := h
  refine ⟨hI.upd u h1 hx, h1, fun k => ?_, by dsimp only; rw [if_neg (Ne.symm hi.1)]; exact h3, by dsimp only; rw [if_neg (Ne.symm hi.2)]; exact h4, h5, h6, fun j hj => ?_, fun j hj => ?_⟩
  · rw [u.2.1, h2]
    simp
  · rw [u.2.1, if_neg (fun z => n1 z.1.symm)]
    exact h7 j hj
  · rw [u.2.1, if_neg (fun z => n2 z.1.symm)]
    exact h8 j hj
theorem z_V.putR {x : Int32} (h : z_V th G a rb sb F rd st) (u : x_upd G G1 rb i (.int x)) (hi : i < 135) : z_V th G1 a rb sb F (fun k => if k = i then x else rd k) st := by
  obtain ⟨n1, n2, n3⟩ := h.ne
  obtain ⟨hI, h1, h2, h3, h4, h5, h6, h7, h8⟩ := h
  refine ⟨hI.upd u h5 (y_okA (y_one hi)), h1, fun k => ?_, h3, h4, h5, h6, fun j hj => ?_, fun j hj => ?_⟩
  · rw [u.2.1, if_neg (fun z => n1 z.1)]
    exact h2 k
  · rw [u.2.1]
    by_cases hji : j = i
    · rw [if_pos ⟨rfl, hji⟩]
      dsimp only
      rw [if_pos hji]
    · rw [if_neg (fun z => hji z.2)]
      dsimp only
      rw [if_neg hji]
      exact h7 j hj
  · rw [u.2.1, if_neg (fun z => n3 z.1.symm)]
    exact h8 j hj
theorem z_V.putS {x : Int32} (h : z_V th G a rb sb F rd st) (u : x_upd G G1 sb i (.int x)) (hi : i < 45) : z_V th G1 a rb sb F rd (fun k => if k = i then x else st k) := by
  obtain ⟨n1, n2, n3⟩ := h.ne
  obtain ⟨hI, h1, h2, h3, h4, h5, h6, h7, h8⟩ := h
  refine ⟨hI.upd u h6 (y_okA (y_one hi)), h1, fun k => ?_, h3, h4, h5, h6, fun j hj => ?_, fun j hj => ?_⟩
  · rw [u.2.1, if_neg (fun z => n2 z.1)]
    exact h2 k
  · rw [u.2.1, if_neg (fun z => n3 z.1)]
    exact h7 j hj
  · rw [u.2.1]
    by_cases hji : j = i
    · rw [if_pos ⟨rfl, hji⟩]
      dsimp only
      rw [if_pos hji]
    · rw [if_neg (fun z => hji z.2)]
      dsimp only
      rw [if_neg hji]
      exact h8 j hj
end ZV
def E_sen : List (Nat × Nat × Nat) := [(10, 36, 40), (38, 0, 134), (45, 0, 44)]
def z_D (rd : Nat → Int32) : Nat → Int
  | 0 => 0
  | i + 1 => if rd (3 * i) = 20 then z_D rd i else if rd (3 * i) = 21 ∨ rd (3 * i) = 22 then z_D rd i - 1 else z_D rd i + 1
def z_B (st : Nat → Int32) : Nat → Int
  | 0 => 0
  | i + 1 => z_B st i + (if st i = 21 ∨ st i = 22 then 1 else 0)
def z_W (rd : Nat → Int32) (c : Nat) : Prop := ∀ i, i < c → (rd (3 * i) = 20 → 1 ≤ z_D rd i) ∧ (rd (3 * i) = 21 ∨ rd (3 * i) = 22 → 2 ≤ z_D rd i)
theorem z_D_c {rd rd' : Nat → Int32} : ∀ {c : Nat}, (∀ i, i < c → rd' (3 * i) = rd (3 * i)) → z_D rd' c = z_D rd c
  | 0, _ => rfl
  | c + 1, h => by
    unfold z_D
    rw [h c (by omega), z_D_c (fun i hi => h i (by omega))]
theorem z_B_c {st st' : Nat → Int32} : ∀ {c : Nat}, (∀ i, i < c → st' i = st i) → z_B st' c = z_B st c
  | 0, _ => rfl
  | c + 1, h => by
    unfold z_B
    rw [h c (by omega), z_B_c (fun i hi => h i (by omega))]
theorem z_B_nn (st : Nat → Int32) : ∀ c, 0 ≤ z_B st c
  | 0 => Int.le_refl _
  | c + 1 => by
    have := z_B_nn st c
    unfold z_B
    split <;> omega
theorem z_W_c {rd rd' : Nat → Int32} {c : Nat} (h : ∀ i, i < c → rd' (3 * i) = rd (3 * i)) (hw : z_W rd c) : z_W rd' c := by
  intro i hi
  rw [h i hi, z_D_c (fun j hj => h j (by omega))]
  exact hw i hi
/-- one code more -/
theorem z_W_s {rd rd' : Nat → Int32} {c : Nat} {x : Int32} (h : ∀ i, i < c → rd' (3 * i) = rd (3 * i)) (hx : rd' (3 * c) = x) (hw : z_W rd c) (h1 : x = 20 → 1 ≤ z_D rd c) (h2 : x = 21 ∨ x = 22 → 2 ≤ z_D rd c) : z_W rd' (c + 1) ∧ z_D rd' (c + 1) = if x = 20 then z_D rd c else if x = 21 ∨ x = 22 then z_D rd c - 1 else z_D rd c + 1 := by
  have e := z_D_c h
  constructor
  · intro i hi
    by_cases hic : i < c
    · rw [h i hic, z_D_c (fun j hj => h j (by omega))]
      exact hw i hic
    · obtain rfl : i = c := by omega
      rw [hx, e]
      exact ⟨h1, h2⟩
  · show (if rd' (3 * c) = 20 then z_D rd' c else if rd' (3 * c) = 21 ∨ rd' (3 * c) = 22 then z_D rd' c - 1 else z_D rd' c + 1) = _
    rw [hx, e]
theorem y_mul3 {c : Int32} (h1 : 0 ≤ c.toInt) (h2 : c.toInt ≤ 100) : (Int32.ofInt 3 * c).toInt = 3 * c.toInt := by
  rw [Int32.toInt_mul, show (Int32.ofInt 3).toInt = 3 from rfl, Jvm.Kit.bmod32 (by omega) (by omega)]
def d_249 : xD := [(0, .aload_n 0, 1), (1, .getfield 40, 3), (4, .iconst 3, 1), (5, .aload_n 0, 1), (6, .getfield 368, 3), (9, .imul, 1), (10, .iload_n 1, 1), (11, .iastore, 1), (12, .aload_n 0, 1), (13, .getfield 40, 3), (16, .iconst 3, 1), (17, .aload_n 0, 1), (18, .getfield 368, 3), (21, .imul, 1), (22, .iconst 1, 1), (23, .iadd, 1), (24, .iload_n 2, 1), (25, .iastore, 1), (26, .aload_n 0, 1), (27, .getfield 40, 3), (30, .iconst 3, 1), (31, .aload_n 0, 1), (32, .getfield 368, 3), (35, .imul, 1), (36, .iconst 2, 1), (37, .iadd, 1), (38, .iload_n 3, 1), (39, .iastore, 1), (40, .aload_n 0, 1), (41, .dup, 1), (42, .getfield 368, 3), (45, .iconst 1, 1), (46, .iadd, 1), (47, .putfield 368, 3), (50, .return_, 1)]
set_option maxRecDepth 100000 in
theorem d_249_ok : x_dchk 249 d_249 = true := by decide +kernel
def m_249 : pM := (⟨"BreathingHillModel", "code", "(III)V"⟩, 1825, 4, none, 17, 3, false, 10, 103, 1824, 83)
set_option maxRecDepth 100000 in
theorem m_249_ok : pm_tab[249]? = some m_249 := rfl
theorem e_249 : ∀ q ∈ d_249, decode m_249.code q.1 = .ok (q.2.1, q.2.2) := y_dec d_249_ok m_249_ok
set_option maxHeartbeats 2000000 in
set_option maxRecDepth 100000 in
theorem g_code {th : List Nat} {xs : Nat → Int32} {L J d a rb sb : Nat} {F : Nat → Option Value} {rd st : Nat → Int32} {G : List pE} (hV : z_V th G a rb sb F rd st) {c : Int32} (hc : F 36 = some (.int c)) (c0 : 0 ≤ c.toInt) (c1 : c.toInt ≤ 44) (w1 w2 w3 : Int32) : x_Gd xs L J d m_249 (fun r G' => r = none ∧ x_eff th E_sen G G' ∧ ∃ rd', z_V th G' a rb sb (fun k => if k = 36 then some (.int (c + 1)) else F k) rd' st ∧ rd' (3 * c.toInt.toNat) = w1 ∧ ∀ i, i < c.toInt.toNat → rd' (3 * i) = rd (3 * i)) 0 [(0, .ref a), (1, .int w1), (2, .int w2), (3, .int w3)] [] G := by
  have ta := hV.2.1
  have tr := hV.2.2.2.2.2.1
  have m3 := y_mul3 c0 (by omega)
  have one : (Int32.ofInt 1).toInt = 1 := rfl
  have two : (Int32.ofInt 2).toInt = 2 := rfl
  have a1 : (Int32.ofInt 3 * c + Int32.ofInt 1).toInt = 3 * c.toInt + 1 := by rw [y_add (by omega) (by omega)]; omega
  have a2 : (Int32.ofInt 3 * c + Int32.ofInt 2).toInt = 3 * c.toInt + 2 := by rw [y_add (by omega) (by omega)]; omega
  have hV0 := hV
  have hc0 := hc
  refine y_aln (e_249 (0, .aload_n 0, 1) (List.mem_of_getElem? (i := 0) rfl)) rfl ?_
  refine y_getf hV.1 ta (e_249 (1, .getfield 40, 3) (List.mem_of_getElem? (i := 1) rfl)) u_17_40 ⟨rfl, rfl⟩ ((hV.2.2.1 8).trans hV.2.2.2.1) ?_
  refine y_st (e_249 (4, .iconst 3, 1) (List.mem_of_getElem? (i := 2) rfl)) ⟨rfl, rfl, rfl, rfl⟩ ?_
  refine y_aln (e_249 (5, .aload_n 0, 1) (List.mem_of_getElem? (i := 3) rfl)) rfl ?_
  refine y_getf hV.1 ta (e_249 (6, .getfield 368, 3) (List.mem_of_getElem? (i := 4) rfl)) u_17_368 ⟨rfl, rfl⟩ ((hV.2.2.1 36).trans hc) ?_
  refine y_st (e_249 (9, .imul, 1) (List.mem_of_getElem? (i := 5) rfl)) ⟨rfl, rfl, rfl, rfl⟩ ?_
  refine y_iln (e_249 (10, .iload_n 1, 1) (List.mem_of_getElem? (i := 6) rfl)) rfl ?_
  refine y_iast hV.1 tr (e_249 (11, .iastore, 1) (List.mem_of_getElem? (i := 7) rfl)) ⟨rfl, rfl⟩ ⟨by omega, by show _ < (135 : Int); omega⟩ (fun G1 u1 => ?_)
  rw [show (Int32.ofInt 3 * c).toInt.toNat = 3 * c.toInt.toNat + 0 by omega] at u1
  replace hV := hV.putR u1 (by omega)
  have ef1 := x_eff.upd (E := E_sen) u1 tr (q := (38, 0, 134)) (List.mem_of_getElem? (i := 1) rfl) rfl (Nat.zero_le _) (by show _ ≤ 134; omega)
  refine y_aln (e_249 (12, .aload_n 0, 1) (List.mem_of_getElem? (i := 8) rfl)) rfl ?_
  refine y_getf hV.1 ta (e_249 (13, .getfield 40, 3) (List.mem_of_getElem? (i := 9) rfl)) u_17_40 ⟨rfl, rfl⟩ ((hV.2.2.1 8).trans hV.2.2.2.1) ?_
  refine y_st (e_249 (16, .iconst 3, 1) (List.mem_of_getElem? (i := 10) rfl)) ⟨rfl, rfl, rfl, rfl⟩ ?_
  refine y_aln (e_249 (17, .aload_n 0, 1) (List.mem_of_getElem? (i := 11) rfl)) rfl ?_
  refine y_getf hV.1 ta (e_249 (18, .getfield 368, 3) (List.mem_of_getElem? (i := 12) rfl)) u_17_368 ⟨rfl, rfl⟩ ((hV.2.2.1 36).trans hc) ?_
  refine y_st (e_249 (21, .imul, 1) (List.mem_of_getElem? (i := 13) rfl)) ⟨rfl, rfl, rfl, rfl⟩ ?_
  refine y_st (e_249 (22, .iconst 1, 1) (List.mem_of_getElem? (i := 14) rfl)) ⟨rfl, rfl, rfl, rfl⟩ ?_
  refine y_st (e_249 (23, .iadd, 1) (List.mem_of_getElem? (i := 15) rfl)) ⟨rfl, rfl, rfl, rfl⟩ ?_
  refine y_iln (e_249 (24, .iload_n 2, 1) (List.mem_of_getElem? (i := 16) rfl)) rfl ?_
  refine y_iast hV.1 tr (e_249 (25, .iastore, 1) (List.mem_of_getElem? (i := 17) rfl)) ⟨rfl, rfl⟩ ⟨by omega, by show _ < (135 : Int); omega⟩ (fun G2 u2 => ?_)
  rw [show (Int32.ofInt 3 * c + Int32.ofInt 1).toInt.toNat = 3 * c.toInt.toNat + 1 by omega] at u2
  replace hV := hV.putR u2 (by omega)
  have ef2 := x_eff.upd (E := E_sen) u2 tr (q := (38, 0, 134)) (List.mem_of_getElem? (i := 1) rfl) rfl (Nat.zero_le _) (by show _ ≤ 134; omega)
  refine y_aln (e_249 (26, .aload_n 0, 1) (List.mem_of_getElem? (i := 18) rfl)) rfl ?_
  refine y_getf hV.1 ta (e_249 (27, .getfield 40, 3) (List.mem_of_getElem? (i := 19) rfl)) u_17_40 ⟨rfl, rfl⟩ ((hV.2.2.1 8).trans hV.2.2.2.1) ?_
  refine y_st (e_249 (30, .iconst 3, 1) (List.mem_of_getElem? (i := 20) rfl)) ⟨rfl, rfl, rfl, rfl⟩ ?_
  refine y_aln (e_249 (31, .aload_n 0, 1) (List.mem_of_getElem? (i := 21) rfl)) rfl ?_
  refine y_getf hV.1 ta (e_249 (32, .getfield 368, 3) (List.mem_of_getElem? (i := 22) rfl)) u_17_368 ⟨rfl, rfl⟩ ((hV.2.2.1 36).trans hc) ?_
  refine y_st (e_249 (35, .imul, 1) (List.mem_of_getElem? (i := 23) rfl)) ⟨rfl, rfl, rfl, rfl⟩ ?_
  refine y_st (e_249 (36, .iconst 2, 1) (List.mem_of_getElem? (i := 24) rfl)) ⟨rfl, rfl, rfl, rfl⟩ ?_
  refine y_st (e_249 (37, .iadd, 1) (List.mem_of_getElem? (i := 25) rfl)) ⟨rfl, rfl, rfl, rfl⟩ ?_
  refine y_iln (e_249 (38, .iload_n 3, 1) (List.mem_of_getElem? (i := 26) rfl)) rfl ?_
  refine y_iast hV.1 tr (e_249 (39, .iastore, 1) (List.mem_of_getElem? (i := 27) rfl)) ⟨rfl, rfl⟩ ⟨by omega, by show _ < (135 : Int); omega⟩ (fun G3 u3 => ?_)
  rw [show (Int32.ofInt 3 * c + Int32.ofInt 2).toInt.toNat = 3 * c.toInt.toNat + 2 by omega] at u3
  replace hV := hV.putR u3 (by omega)
  have ef3 := x_eff.upd (E := E_sen) u3 tr (q := (38, 0, 134)) (List.mem_of_getElem? (i := 1) rfl) rfl (Nat.zero_le _) (by show _ ≤ 134; omega)
  refine y_aln (e_249 (40, .aload_n 0, 1) (List.mem_of_getElem? (i := 28) rfl)) rfl ?_
  refine y_st (e_249 (41, .dup, 1) (List.mem_of_getElem? (i := 29) rfl)) ⟨rfl, rfl, rfl, rfl⟩ ?_
  refine y_getf hV.1 ta (e_249 (42, .getfield 368, 3) (List.mem_of_getElem? (i := 30) rfl)) u_17_368 ⟨rfl, rfl⟩ ((hV.2.2.1 36).trans hc) ?_
  refine y_st (e_249 (45, .iconst 1, 1) (List.mem_of_getElem? (i := 31) rfl)) ⟨rfl, rfl, rfl, rfl⟩ ?_
  refine y_st (e_249 (46, .iadd, 1) (List.mem_of_getElem? (i := 32) rfl)) ⟨rfl, rfl, rfl, rfl⟩ ?_
  have e1 : (c + Int32.ofInt 1).toInt = c.toInt + 1 := by rw [y_add (by omega) (by omega)]; omega
  refine y_putf (f := (0, 0, 45)) hV.1 ta (e_249 (47, .putfield 368, 3) (List.mem_of_getElem? (i := 33) rfl)) u_17_368 ⟨rfl, rfl, by decide, rfl, rfl⟩ ⟨_, rfl, by show (0 : Int) ≤ _; omega, by show _ ≤ (45 : Int); omega⟩ (fun G4 u4 => ?_)
  have ef4 := x_eff.upd (E := E_sen) u4 ta (q := (10, 36, 40)) List.mem_cons_self rfl (by decide) (by decide)
  have hV4 := hV.putF u4 (y_okI rfl (by show (0 : Int) ≤ _; omega) (by show _ ≤ (45 : Int); omega)) ⟨by decide, by decide⟩
  refine y_ret (e_249 (50, .return_, 1) (List.mem_of_getElem? (i := 34) rfl)) ⟨rfl, rfl⟩ ⟨rfl, ((ef1.tr ef2).tr ef3).tr ef4, _, hV4, ?_, fun i hi => ?_⟩
  · rw [if_neg (by omega), if_neg (by omega), if_pos (by omega)]
  · rw [if_neg (by omega), if_neg (by omega), if_neg (by omega)]
