-- ===== a SENTENCE on both sides =====
def s_TS (n nx : Int32) (tk : Nat) (num : Int32) (nm : Int64) (tok mu : Int32) (wd : Int64) : Prop := (0 ≤ nx.toInt ∧ nx.toInt ≤ n.toInt) ∧ TR tk num nm tok mu wd ∧ (tk = 2 → 0 ≤ num.toInt ∧ num.toInt ≤ 999)
/-- the class's method answers true, having read so far -/
def s_CY (m : pM) (D w : Nat) (f : Nat → Int32) (n lim nx : Int32) (tk : Nat) (pl num : Int32) (nm : Int64) (sz on : Nat) (nx' : Int32) (tk' : Nat) (pl' num' : Int32) (nm' : Int64) (sz' on' : Nat) : Prop := ∀ (th : List Nat) (tp b sc : Nat) (ft fp : Int32) (xs : Nat → Int32) (L J d : Nat) (G : List pE), D ≤ d → SC th tp b sc f n lim nx tk pl num nm ft fp sz on G → x_Gd xs L J d m (fun r G' => r = some (.int 1) ∧ SC th tp b sc f n lim nx' tk' pl' num' nm' ft fp sz' on' G') 0 (lv_args 0 [.ref sc, .ref tp, .int (Int32.ofNat w)]) [] G
/-- it tells a FAULT -/
def s_CN (m : pM) (D w : Nat) (f : Nat → Int32) (n lim nx : Int32) (tk : Nat) (pl num : Int32) (nm : Int64) (sz on : Nat) (q p9 : Int32) : Prop := ∀ (th : List Nat) (tp b sc : Nat) (ft fp : Int32) (xs : Nat → Int32) (L J d : Nat) (G : List pE), D ≤ d → SC th tp b sc f n lim nx tk pl num nm ft fp sz on G → x_Gd xs L J d m (fun r G' => r = some (.int 0) ∧ x_sl G' tp 8 = some (.int q) ∧ x_sl G' tp 9 = some (.int p9)) 0 (lv_args 0 [.ref sc, .ref tp, .int (Int32.ofNat w)]) [] G
def s_LY (m : pM) (D w k : Nat) (f : Nat → Int32) (n lim nx : Int32) (tk : Nat) (pl num : Int32) (nm : Int64) (sz on : Nat) (nx' : Int32) (tk' : Nat) (pl' num' : Int32) (nm' : Int64) (sz' on' : Nat) : Prop := ∀ (th : List Nat) (tp b sc : Nat) (ft fp : Int32) (xs : Nat → Int32) (L J d : Nat) (G : List pE) (lv : pL), D ≤ d → SC th tp b sc f n lim nx tk pl num nm ft fp sz on G → pm_get lv 0 = some (.ref sc) → pm_get lv 1 = some (.ref tp) → pm_get lv 2 = some (.int (Int32.ofNat w)) → pm_get lv 3 = some (.int (Int32.ofNat k)) → x_Gd xs L J d m (fun r G' => r = some (.int 1) ∧ SC th tp b sc f n lim nx' tk' pl' num' nm' ft fp sz' on' G') 13 lv [] G
def s_LN (m : pM) (D w k : Nat) (f : Nat → Int32) (n lim nx : Int32) (tk : Nat) (pl num : Int32) (nm : Int64) (sz on : Nat) (q p9 : Int32) : Prop := ∀ (th : List Nat) (tp b sc : Nat) (ft fp : Int32) (xs : Nat → Int32) (L J d : Nat) (G : List pE) (lv : pL), D ≤ d → SC th tp b sc f n lim nx tk pl num nm ft fp sz on G → pm_get lv 0 = some (.ref sc) → pm_get lv 1 = some (.ref tp) → pm_get lv 2 = some (.int (Int32.ofNat w)) → pm_get lv 3 = some (.int (Int32.ofNat k)) → x_Gd xs L J d m (fun r G' => r = some (.int 0) ∧ x_sl G' tp 8 = some (.int q) ∧ x_sl G' tp 9 = some (.int p9)) 13 lv [] G
/-- the model's loop comes so far -/
def s_MY (f : Nat → Int32) (n lim nx tok pl sp mu : Int32) (wd : Int64) (cd on dp wh : Nat) (st : List Nat) (nx' tok' pl' sp' mu' : Int32) (wd' : Int64) (cd' on' dp' wh' : Nat) (st' : List Nat) : Prop := ∀ (th : List Nat) (am mb sb : Nat) (qf : Int32) (xs : Nat → Int32) (L J d : Nat) (G : List pE) (lv : pL) (K : Option Value → List pE → Prop), SM th am mb sb f n lim nx tok pl sp mu wd cd on dp wh st qf G → pm_get lv 0 = some (.ref am) → pm_get lv 1 = some (.int 1) → (∀ G' : List pE, SM th am mb sb f n lim nx' tok' pl' sp' mu' wd' cd' on' dp' wh' st' qf G' → x_Gd xs L J (d + 3) m_247 K 48 lv [] G') → x_Gd xs L J (d + 3) m_247 K 48 lv [] G
def s_MN (f : Nat → Int32) (n lim nx tok pl sp mu : Int32) (wd : Int64) (cd on dp wh : Nat) (st : List Nat) (q p9 : Int32) : Prop := ∀ (th : List Nat) (am mb sb : Nat) (qf : Int32) (xs : Nat → Int32) (L J d : Nat) (G : List pE) (lv : pL), SM th am mb sb f n lim nx tok pl sp mu wd cd on dp wh st qf G → pm_get lv 0 = some (.ref am) → pm_get lv 1 = some (.int 1) → x_Gd xs L J (d + 3) m_247 (fun r G' => r = some (.int (Int32.ofInt (-1) - p9)) ∧ x_sl G' am 15 = some (.int q)) 48 lv [] G
def s_P1 (f : Nat → Int32) (n lim : Int32) (on : Nat) : Prop := ∀ (nx : Int32) (tk : Nat) (pl num : Int32) (nm : Int64) (tok sp mu : Int32) (wd : Int64) (sz cd j : Nat) (rest : List Nat) (dp : Nat), s_TS n nx tk num nm tok mu wd → (∀ v ∈ rest, v < 100) → rest.head? ≠ some 20 → dp + j ≤ 9 → sz ≤ 2 * on → cd + j + rest.length ≤ 2 * on →
  (∃ q p9 : Int32, s_CN m_140 (3 * (9 - (dp + j)) + 5) (dp + j) f n lim nx tk pl num nm sz on q p9 ∧ s_MN f n lim nx tok pl sp mu wd cd on (dp + j) 0 (List.replicate j 20 ++ rest) q p9) ∨
  (∃ (nx2 : Int32) (tk2 : Nat) (pl2 num2 : Int32) (nm2 : Int64) (tok2 sp2 mu2 : Int32) (wd2 : Int64) (sz2 on2 cd2 j2 : Nat), s_TS n nx2 tk2 num2 nm2 tok2 mu2 wd2 ∧ (on < on2 ∧ on2 ≤ 20) ∧ sz2 + 1 + 2 * on ≤ sz + 2 * on2 ∧ cd2 + j2 + rest.length + 1 ≤ 2 * on2 ∧ s_CY m_140 (3 * (9 - (dp + j)) + 5) (dp + j) f n lim nx tk pl num nm sz on nx2 tk2 pl2 num2 nm2 sz2 on2 ∧ s_MY f n lim nx tok pl sp mu wd cd on (dp + j) 0 (List.replicate j 20 ++ rest) nx2 tok2 pl2 sp2 mu2 wd2 cd2 on2 (dp + j2) 1 (List.replicate j2 20 ++ rest))
def s_PA (f : Nat → Int32) (n lim : Int32) (on : Nat) : Prop := ∀ (nx : Int32) (tk : Nat) (pl num : Int32) (nm : Int64) (tok sp mu : Int32) (wd : Int64) (sz cd : Nat) (rest : List Nat) (dp : Nat), s_TS n nx tk num nm tok mu wd → (∀ v ∈ rest, v < 100) → rest.head? ≠ some 20 → rest.head? ≠ some 21 → dp ≤ 9 → sz ≤ 2 * on → cd + rest.length ≤ 2 * on →
  (∃ q p9 : Int32, s_CN m_139 (3 * (9 - dp) + 6) (dp) f n lim nx tk pl num nm sz on q p9 ∧ s_MN f n lim nx tok pl sp mu wd cd on (dp) 0 (rest) q p9) ∨
  (∃ (nx2 : Int32) (tk2 : Nat) (pl2 num2 : Int32) (nm2 : Int64) (tok2 sp2 mu2 : Int32) (wd2 : Int64) (sz2 on2 cd2 j2 : Nat) (A : List Nat), s_TS n nx2 tk2 num2 nm2 tok2 mu2 wd2 ∧ tk2 ≠ 26 ∧ (A = [] ∨ A = [21]) ∧ (on < on2 ∧ on2 ≤ 20) ∧ sz2 + 1 + 2 * on ≤ sz + 2 * on2 ∧ cd2 + j2 + (A.length + rest.length) + 1 ≤ 2 * on2 ∧ s_CY m_139 (3 * (9 - dp) + 6) (dp) f n lim nx tk pl num nm sz on nx2 tk2 pl2 num2 nm2 sz2 on2 ∧ s_MY f n lim nx tok pl sp mu wd cd on (dp) 0 (rest) nx2 tok2 pl2 sp2 mu2 wd2 cd2 on2 (dp + j2) 1 (List.replicate j2 20 ++ (A ++ rest)))
def s_PC (f : Nat → Int32) (n lim : Int32) (on : Nat) : Prop := ∀ (nx : Int32) (tk : Nat) (pl num : Int32) (nm : Int64) (tok sp mu : Int32) (wd : Int64) (sz cd : Nat) (rest : List Nat) (dp : Nat), s_TS n nx tk num nm tok mu wd → (∀ v ∈ rest, v < 100) → rest.head? ≠ some 20 → rest.head? ≠ some 21 → rest.head? ≠ some 22 → dp ≤ 9 → sz ≤ 2 * on → cd + rest.length ≤ 2 * on →
  (∃ q p9 : Int32, s_CN m_138 (3 * (9 - dp) + 7) (dp) f n lim nx tk pl num nm sz on q p9 ∧ s_MN f n lim nx tok pl sp mu wd cd on (dp) 0 (rest) q p9) ∨
  (∃ (nx2 : Int32) (tk2 : Nat) (pl2 num2 : Int32) (nm2 : Int64) (tok2 sp2 mu2 : Int32) (wd2 : Int64) (sz2 on2 cd2 j2 : Nat) (A O : List Nat), s_TS n nx2 tk2 num2 nm2 tok2 mu2 wd2 ∧ tk2 ≠ 26 ∧ tk2 ≠ 25 ∧ (A = [] ∨ A = [21]) ∧ (O = [] ∨ O = [22]) ∧ (on < on2 ∧ on2 ≤ 20) ∧ sz2 + 1 + 2 * on ≤ sz + 2 * on2 ∧ cd2 + j2 + (A.length + O.length + rest.length) + 1 ≤ 2 * on2 ∧ s_CY m_138 (3 * (9 - dp) + 7) (dp) f n lim nx tk pl num nm sz on nx2 tk2 pl2 num2 nm2 sz2 on2 ∧ s_MY f n lim nx tok pl sp mu wd cd on (dp) 0 (rest) nx2 tok2 pl2 sp2 mu2 wd2 cd2 on2 (dp + j2) 1 (List.replicate j2 20 ++ (A ++ (O ++ rest))))
def s_PAL (f : Nat → Int32) (n lim : Int32) (on : Nat) : Prop := ∀ (nx : Int32) (tk : Nat) (pl num : Int32) (nm : Int64) (tok sp mu : Int32) (wd : Int64) (sz cd j k : Nat) (A0 rest : List Nat) (dp : Nat), s_TS n nx tk num nm tok mu wd → (∀ v ∈ rest, v < 100) → rest.head? ≠ some 20 → rest.head? ≠ some 21 → (A0 = [] ∨ A0 = [21]) → dp ≤ 9 → k + 1 ≤ on → sz + 1 ≤ 2 * on → cd + j + (A0.length + rest.length) + 1 ≤ 2 * on →
  (∃ q p9 : Int32, s_LN m_139 (3 * (9 - dp) + 6) (dp) k f n lim nx tk pl num nm sz on q p9 ∧ s_MN f n lim nx tok pl sp mu wd cd on (dp + j) 1 (List.replicate j 20 ++ (A0 ++ rest)) q p9) ∨
  (∃ (nx2 : Int32) (tk2 : Nat) (pl2 num2 : Int32) (nm2 : Int64) (tok2 sp2 mu2 : Int32) (wd2 : Int64) (sz2 on2 cd2 j2 : Nat) (A : List Nat), s_TS n nx2 tk2 num2 nm2 tok2 mu2 wd2 ∧ tk2 ≠ 26 ∧ (A = [] ∨ A = [21]) ∧ (on ≤ on2 ∧ on2 ≤ 20) ∧ sz2 + 1 + 2 * on ≤ sz + 1 + 2 * on2 ∧ cd2 + j2 + (A.length + rest.length) + 1 ≤ 2 * on2 ∧ s_LY m_139 (3 * (9 - dp) + 6) (dp) k f n lim nx tk pl num nm sz on nx2 tk2 pl2 num2 nm2 sz2 on2 ∧ s_MY f n lim nx tok pl sp mu wd cd on (dp + j) 1 (List.replicate j 20 ++ (A0 ++ rest)) nx2 tok2 pl2 sp2 mu2 wd2 cd2 on2 (dp + j2) 1 (List.replicate j2 20 ++ (A ++ rest)))
def s_PCL (f : Nat → Int32) (n lim : Int32) (on : Nat) : Prop := ∀ (nx : Int32) (tk : Nat) (pl num : Int32) (nm : Int64) (tok sp mu : Int32) (wd : Int64) (sz cd j k : Nat) (A0 O0 rest : List Nat) (dp : Nat), s_TS n nx tk num nm tok mu wd → (∀ v ∈ rest, v < 100) → rest.head? ≠ some 20 → rest.head? ≠ some 21 → rest.head? ≠ some 22 → (A0 = [] ∨ A0 = [21]) → (O0 = [] ∨ O0 = [22]) → tk ≠ 26 → dp ≤ 9 → k + 1 ≤ on → sz + 1 ≤ 2 * on → cd + j + (A0.length + O0.length + rest.length) + 1 ≤ 2 * on →
  (∃ q p9 : Int32, s_LN m_138 (3 * (9 - dp) + 7) (dp) k f n lim nx tk pl num nm sz on q p9 ∧ s_MN f n lim nx tok pl sp mu wd cd on (dp + j) 1 (List.replicate j 20 ++ (A0 ++ (O0 ++ rest))) q p9) ∨
  (∃ (nx2 : Int32) (tk2 : Nat) (pl2 num2 : Int32) (nm2 : Int64) (tok2 sp2 mu2 : Int32) (wd2 : Int64) (sz2 on2 cd2 j2 : Nat) (A O : List Nat), s_TS n nx2 tk2 num2 nm2 tok2 mu2 wd2 ∧ tk2 ≠ 26 ∧ tk2 ≠ 25 ∧ (A = [] ∨ A = [21]) ∧ (O = [] ∨ O = [22]) ∧ (on ≤ on2 ∧ on2 ≤ 20) ∧ sz2 + 1 + 2 * on ≤ sz + 1 + 2 * on2 ∧ cd2 + j2 + (A.length + O.length + rest.length) + 1 ≤ 2 * on2 ∧ s_LY m_138 (3 * (9 - dp) + 7) (dp) k f n lim nx tk pl num nm sz on nx2 tk2 pl2 num2 nm2 sz2 on2 ∧ s_MY f n lim nx tok pl sp mu wd cd on (dp + j) 1 (List.replicate j 20 ++ (A0 ++ (O0 ++ rest))) nx2 tok2 pl2 sp2 mu2 wd2 cd2 on2 (dp + j2) 1 (List.replicate j2 20 ++ (A ++ (O ++ rest))))
theorem s_pj1 {A rest : List Nat} (hA : A = [] ∨ A = [21]) (h : rest.head? ≠ some 21) : s_pj 21 (A ++ rest) = rest := by
  have e : s_pj 21 rest = rest := by
    cases rest with
    | nil => rfl
    | cons v r =>
      unfold s_pj
      rw [if_neg]
      rintro (z | z)
      · exact h (by rw [z]; rfl)
      · exact absurd z.2 (by decide)
  rcases hA with rfl | rfl
  · exact e
  · exact e
theorem s_pj2 {A O rest : List Nat} (hA : A = [] ∨ A = [21]) (hO : O = [] ∨ O = [22]) (h1 : rest.head? ≠ some 21) (h2 : rest.head? ≠ some 22) : s_pj 22 (A ++ (O ++ rest)) = rest := by
  have e : s_pj 22 rest = rest := by
    cases rest with
    | nil => rfl
    | cons v r =>
      unfold s_pj
      rw [if_neg]
      rintro (z | z)
      · exact h1 (by rw [z]; rfl)
      · exact h2 (by rw [z.1]; rfl)
  rcases hA with rfl | rfl <;> rcases hO with rfl | rfl <;> exact e
theorem s_hd {A O rest : List Nat} (hA : A = [] ∨ A = [21]) (hO : O = [] ∨ O = [22]) (h : rest.head? ≠ some 20) : (A ++ (O ++ rest)).head? ≠ some 20 := by
  rcases hA with rfl | rfl <;> rcases hO with rfl | rfl
  · exact h
  · simp
  · simp
  · simp
theorem s_lt {A O rest : List Nat} (hA : A = [] ∨ A = [21]) (hO : O = [] ∨ O = [22]) (h : ∀ v ∈ rest, v < 100) : ∀ v ∈ A ++ (O ++ rest), v < 100 := by
  intro v hv
  rcases hA with rfl | rfl <;> rcases hO with rfl | rfl <;> simp only [List.nil_append, List.cons_append, List.mem_cons] at hv
  · exact h v hv
  · rcases hv with rfl | hv
    · decide
    · exact h v hv
  · rcases hv with rfl | hv
    · decide
    · exact h v hv
  · rcases hv with rfl | rfl | hv
    · decide
    · decide
    · exact h v hv
theorem s_len2 {A O rest : List Nat} : (A ++ (O ++ rest)).length = A.length + O.length + rest.length := by
  rw [List.length_append, List.length_append]
  omega
theorem s_A1 {A : List Nat} (h : A = [] ∨ A = [21]) : A.length ≤ 1 := by rcases h with rfl | rfl <;> decide
theorem s_O1 {A : List Nat} (h : A = [] ∨ A = [22]) : A.length ≤ 1 := by rcases h with rfl | rfl <;> decide
section S8
variable {f : Nat → Int32} {n lim : Int32}
set_option maxHeartbeats 2000000 in
theorem s_one_all (hn : n.toInt ≤ 940) (hfb : ∀ i, i < 940 → -128 ≤ (f i).toInt ∧ (f i).toInt ≤ 127) {on : Nat} (hon : on ≤ 20) (hI : on < 20 → s_P1 f n lim (on + 1) ∧ s_PC f n lim (on + 1)) : s_P1 f n lim on := by
  intro nx tk pl num nm tok sp mu wd sz cd j rest dp hT hlt hr hw hsz hY
  obtain ⟨hP, tr, hnum⟩ := hT
  cases hst : s_sta tk
  · exact Or.inl ⟨Int32.ofInt 1, pl, fun th tp b sc ft fp xs L J d G hd h => by
      obtain ⟨d, rfl⟩ : ∃ k, d = k + 1 := ⟨d - 1, by omega⟩
      exact s_one_a h hst, fun th am mb sb qf xs L J d G lv h g0 g1 => s_lp_af h rfl (s_op_a h tr hst) g0 g1⟩
  by_cases hb : on = 20 ∨ 8 < dp + j
  · exact Or.inl ⟨Int32.ofInt 4, pl, fun th tp b sc ft fp xs L J d G hd h => by
      obtain ⟨d, rfl⟩ : ∃ k, d = k + 1 := ⟨d - 1, by omega⟩
      exact s_one_b h hst hon hw hb, fun th am mb sb qf xs L J d G lv h g0 g1 => s_lp_af h rfl (s_op_b h tr hst hon hw hb) g0 g1⟩
  have hon' : on < 20 := by omega
  have hw8 : dp + j ≤ 8 := by omega
  obtain ⟨IH1, IHC⟩ := hI hon'
  have hL : (List.replicate j 20 ++ rest).length = j + rest.length := by rw [List.length_append, List.length_replicate]
  obtain ⟨nx2, tk2, pl2, num2, nm2, tok2, mu2, sp2, wd2, hP2, -, tr2, hnum2, N2, M2⟩ := s_nx (lim := lim) hn hP hfb num nm mu wd
  by_cases c8 : tk = 8
  · rcases IHC nx2 tk2 pl2 num2 nm2 tok2 sp2 mu2 wd2 sz cd (23 :: (List.replicate j 20 ++ rest)) (dp + j + 1) ⟨hP2, tr2, hnum2⟩ (fun v hv => by
        rcases List.mem_cons.mp hv with rfl | hv
        · decide
        · rcases List.mem_append.mp hv with hv | hv
          · rw [(List.mem_replicate.mp hv).2]; decide
          · exact hlt v hv) (by simp) (by simp) (by simp) (by omega) (by omega) (by rw [List.length_cons, hL]; omega) with ⟨q, p9, hc, hm⟩ | ⟨nx3, tk3, pl3, num3, nm3, tok3, sp3, mu3, wd3, sz3, on3, cd3, j3, A, O, hT3, n26, n25, hA, hO, ⟨b1, b2⟩, b3, b4, hc, hm⟩
    · exact Or.inl ⟨q, p9, fun th tp b sc ft fp xs L J d G hd h => by
        obtain ⟨d, rfl⟩ : ∃ k, d = k + 2 := ⟨d - 2, by omega⟩
        exact s_one_o1 h c8 hon' hw8 N2 (fun G1 h1 => hc _ _ _ _ _ _ _ _ _ _ _ (by omega) h1), fun th am mb sb qf xs L J d G lv h g0 g1 => s_lp_ag h rfl (s_op_o h tr c8 hon' hw8 M2 (by rw [hL]; omega)) g0 g1 (fun G1 h1 => hm _ _ _ _ _ _ _ _ _ _ _ h1 g0 g1)⟩
    obtain ⟨hP3, tr3, hnum3⟩ := hT3
    have a1 := s_A1 hA
    have o1 := s_O1 hO
    rw [List.length_cons, hL] at b4
    have hL3 : (A ++ (O ++ 23 :: (List.replicate j 20 ++ rest))).length = A.length + O.length + (j + rest.length + 1) := by rw [s_len2, List.length_cons, hL]
    have hr3 : (A ++ (O ++ 23 :: (List.replicate j 20 ++ rest))).head? ≠ some 20 := s_hd hA hO (by simp)
    have hlt3 : ∀ v ∈ A ++ (O ++ 23 :: (List.replicate j 20 ++ rest)), v < 100 := s_lt hA hO (fun v hv => by
        rcases List.mem_cons.mp hv with rfl | hv
        · decide
        · rcases List.mem_append.mp hv with hv | hv
          · rw [(List.mem_replicate.mp hv).2]; decide
          · exact hlt v hv)
    have hpj : s_pj 22 (A ++ (O ++ 23 :: (List.replicate j 20 ++ rest))) = 23 :: (List.replicate j 20 ++ rest) := s_pj2 hA hO (by simp) (by simp)
    by_cases c9 : tk3 = 9
    rotate_left
    · refine Or.inl ⟨Int32.ofInt 1, pl3, fun th tp b sc ft fp xs L J d G hd h => ?_, fun th am mb sb qf xs L J d G lv h g0 g1 => s_lp_ag h rfl (s_op_o h tr c8 hon' hw8 M2 (by rw [hL]; omega)) g0 g1 (fun G1 h1 => hm _ _ _ _ _ _ _ _ _ _ _ _ h1 g0 g1 (fun G2 h2 => ?_))⟩
      · obtain ⟨d, rfl⟩ : ∃ k, d = k + 2 := ⟨d - 2, by omega⟩
        exact s_one_o2 h c8 hon' hw8 N2 (fun G1 h1 => hc _ _ _ _ _ _ _ _ _ _ _ (by omega) h1) c9
      · by_cases c0 : tk3 = 0
        · exact s_lp_sf h2 rfl (tr3.end9.mp c0) hr3 hlt3 (by rw [hL3]; omega) (by rw [hL3]; omega) g0 g1 (by rw [hpj]; simp)
        · exact s_lp_bf h2 rfl (fun z => c0 (tr3.end9.mpr z)) (s_bh_n h2 hr3 hlt3 (by rw [hL3]; omega) (by rw [hL3]; omega) tr3 ⟨n25, n26⟩ (Or.inl c9)) g0 g1
    · obtain ⟨nx4, tk4, pl4, num4, nm4, tok4, mu4, sp4, wd4, hP4, -, tr4, hnum4, N4, M4⟩ := s_nx (lim := lim) hn hP3 hfb num3 nm3 mu3 wd3
      refine Or.inr ⟨nx4, tk4, pl4, num4, nm4, tok4, sp4, mu4, wd4, sz3, on3, cd3 + j3 + (A ++ (O ++ 23 :: (List.replicate j 20 ++ rest))).length - ((List.replicate j 20 ++ rest).length + 1), j, ⟨hP4, tr4, hnum4⟩, ⟨by omega, b2⟩, by omega, by rw [hL3, hL]; omega, fun th tp b sc ft fp xs L J d G hd h => ?_, fun th am mb sb qf xs L J d G lv K h g0 g1 hk => s_lp_ag h rfl (s_op_o h tr c8 hon' hw8 M2 (by rw [hL]; omega)) g0 g1 (fun G1 h1 => hm _ _ _ _ _ _ _ _ _ _ _ _ h1 g0 g1 (fun G2 h2 => ?_))⟩
      · obtain ⟨d, rfl⟩ : ∃ k, d = k + 3 := ⟨d - 3, by omega⟩
        exact s_one_o3 h c8 hon' hw8 N2 (fun G1 h1 => hc _ _ _ _ _ _ _ _ _ _ _ (by omega) h1) c9 N4
      · exact s_lp_bg h2 rfl (fun z => by have := tr3.end9.mpr z; omega) (s_bh_c h2 hr3 hlt3 (by rw [hL3]; omega) (by rw [hL3]; omega) tr3 c9 hpj M4) g0 g1 (fun G3 h3 => hk _ h3)
  by_cases c27 : tk = 27
  · rcases IH1 nx2 tk2 pl2 num2 nm2 tok2 sp2 mu2 wd2 sz cd (j + 1) rest dp ⟨hP2, tr2, hnum2⟩ hlt hr (by omega) (by omega) (by omega) with ⟨q, p9, hc, hm⟩ | ⟨nx3, tk3, pl3, num3, nm3, tok3, sp3, mu3, wd3, sz3, on3, cd3, j3, hT3, ⟨b1, b2⟩, b3, b4, hc, hm⟩
    · exact Or.inl ⟨q, p9, fun th tp b sc ft fp xs L J d G hd h => by
        obtain ⟨d, rfl⟩ : ∃ k, d = k + 2 := ⟨d - 2, by omega⟩
        exact s_one_n1 h c27 hon' hw8 N2 (fun G1 h1 => hc _ _ _ _ _ _ _ _ _ _ _ (by omega) h1), fun th am mb sb qf xs L J d G lv h g0 g1 => s_lp_ag h rfl (s_op_n h tr c27 hon' hw8 M2 (by rw [hL]; omega)) g0 g1 (fun G1 h1 => hm _ _ _ _ _ _ _ _ _ _ _ h1 g0 g1)⟩
    · exact Or.inr ⟨nx3, tk3, pl3, num3, nm3, tok3, sp3, mu3, wd3, sz3 + 1, on3, cd3, j3, hT3, ⟨by omega, b2⟩, by omega, by omega, fun th tp b sc ft fp xs L J d G hd h => by
        obtain ⟨d, rfl⟩ : ∃ k, d = k + 2 := ⟨d - 2, by omega⟩
        exact s_one_n2 h c27 hon' hw8 N2 (fun G1 h1 => hc _ _ _ _ _ _ _ _ _ _ _ (by omega) h1) (by omega), fun th am mb sb qf xs L J d G lv K h g0 g1 hk => s_lp_ag h rfl (s_op_n h tr c27 hon' hw8 M2 (by rw [hL]; omega)) g0 g1 (fun G1 h1 => hm _ _ _ _ _ _ _ _ _ _ _ _ h1 g0 g1 hk)⟩
  by_cases cp : s_pln tk = true
  · exact Or.inr ⟨nx2, tk2, pl2, num2, nm2, tok2, sp2, mu2, wd2, sz + 1, on + 1, cd + 1, j, ⟨hP2, tr2, hnum2⟩, ⟨by omega, by omega⟩, by omega, by omega, fun th tp b sc ft fp xs L J d G hd h => by
        obtain ⟨d, rfl⟩ : ∃ k, d = k + 2 := ⟨d - 2, by omega⟩
        exact s_one_p h cp hon' hw8 N2 (by omega), fun th am mb sb qf xs L J d G lv K h g0 g1 hk => s_lp_ag h rfl (s_op_p h tr cp hon' hw8 M2 (by omega)) g0 g1 hk⟩
  have cc : s_cmp tk = true := by
    rw [Bool.not_eq_true] at cp
    unfold s_sta at hst
    rw [cp, beq_eq_false_iff_ne.mpr c27, beq_eq_false_iff_ne.mpr c8] at hst
    exact hst
  by_cases cs : tk2 = 5 ∨ tk2 = 6 ∨ tk2 = 7
  rotate_left
  · exact Or.inl ⟨Int32.ofInt 1, pl2, fun th tp b sc ft fp xs L J d G hd h => by
      obtain ⟨d, rfl⟩ : ∃ k, d = k + 2 := ⟨d - 2, by omega⟩
      exact s_one_c h cc hon' hw8 N2 (fun G1 h1 => (s_cmp_a h1 (by omega)).mono (fun r G' z => ⟨Or.inl z.1, z⟩)), fun th am mb sb qf xs L J d G lv h g0 g1 => s_lp_af h rfl (s_op_cn h tr cc hon' hw8 M2 tr2 (by omega)) g0 g1⟩
  obtain ⟨nx3, tk3, pl3, num3, nm3, tok3, mu3, sp3, wd3, hP3, -, tr3, hnum3, N3, M3⟩ := s_nx (lim := lim) hn hP2 hfb num2 nm2 mu2 wd2
  by_cases c2 : tk3 = 2
  rotate_left
  · exact Or.inl ⟨Int32.ofInt 1, pl3, fun th tp b sc ft fp xs L J d G hd h => by
      obtain ⟨d, rfl⟩ : ∃ k, d = k + 3 := ⟨d - 3, by omega⟩
      exact s_one_c h cc hon' hw8 N2 (fun G1 h1 => (s_cmp_b h1 cs N3 c2).mono (fun r G' z => ⟨Or.inl z.1, z⟩)), fun th am mb sb qf xs L J d G lv h g0 g1 => s_lp_af h rfl (s_op_cb h tr cc hon' hw8 M2 tr2 cs M3 tr3 c2) g0 g1⟩
  obtain ⟨nx4, tk4, pl4, num4, nm4, tok4, mu4, sp4, wd4, hP4, -, tr4, hnum4, N4, M4⟩ := s_nx (lim := lim) hn hP3 hfb num3 nm3 mu3 wd3
  exact Or.inr ⟨nx4, tk4, pl4, num4, nm4, tok4, sp4, mu4, wd4, sz + 1, on + 1, cd + 1, j, ⟨hP4, tr4, hnum4⟩, ⟨by omega, by omega⟩, by omega, by omega, fun th tp b sc ft fp xs L J d G hd h => by
      obtain ⟨d, rfl⟩ : ∃ k, d = k + 4 := ⟨d - 4, by omega⟩
      exact s_one_c h cc hon' hw8 N2 (fun G1 h1 => (s_cmp_c h1 h.1.tk35 (by omega) cs N3 c2 (hnum3 c2) N4).mono (fun r G' z => ⟨Or.inr z.1, z⟩)), fun th am mb sb qf xs L J d G lv K h g0 g1 hk => s_lp_ag h rfl (s_op_c h tr cc hon' hw8 M2 tr2 cs M3 tr3 c2 M4 (by omega)) g0 g1 hk⟩
/-- once round the loop of ALL -/
theorem s_allL1 (hn : n.toInt ≤ 940) (hfb : ∀ i, i < 940 → -128 ≤ (f i).toInt ∧ (f i).toInt ≤ 127) {on : Nat} (h1 : s_P1 f n lim on) (hon : on ≤ 20) (ih : ∀ on2, on < on2 → on2 ≤ 20 → s_PAL f n lim on2) : s_PAL f n lim on := by
  intro nx tk pl num nm tok sp mu wd sz cd j k A0 rest dp hT hlt hr0 hr1 hA hw hk hsz hY
  have a1 := s_A1 hA
  obtain ⟨hP, tr, hnum⟩ := id hT
  by_cases c : tk = 26
  rotate_left
  · exact Or.inr ⟨nx, tk, pl, num, nm, tok, sp, mu, wd, sz, on, cd, j, A0, hT, c, hA, ⟨Nat.le_refl _, hon⟩, by omega, hY, fun th tp b sc ft fp xs L J d G lv hd h g0 g1 g2 g3 => (s_all_end h c g0 g1 g2 g3).mono (fun r G' z => ⟨z.1, by rw [z.2]; exact h⟩), fun th am mb sb qf xs L J d G lv K h g0 g1 hk => hk _ h⟩
  have hL : (A0 ++ rest).length = A0.length + rest.length := List.length_append
  have hr : (A0 ++ rest).head? ≠ some 20 := s_hd (O := []) hA (Or.inl rfl) hr0
  have hl : ∀ v ∈ A0 ++ rest, v < 100 := s_lt (O := []) hA (Or.inl rfl) hlt
  have hpj := s_pj1 hA hr1
  have t0 : tok ≠ Int32.ofInt 0 := fun z => by have := tr.end9.mpr z; omega
  obtain ⟨nx2, tk2, pl2, num2, nm2, tok2, mu2, sp2, wd2, hP2, -, tr2, hnum2, N2, M2⟩ := s_nx (lim := lim) hn hP hfb num nm mu wd
  have step : s_MY f n lim nx tok pl sp mu wd cd on (dp + j) 1 (List.replicate j 20 ++ (A0 ++ rest)) nx2 tok2 pl2 sp2 mu2 wd2 (cd + j + (A0 ++ rest).length - rest.length) on dp 0 (21 :: rest) := fun th am mb sb qf xs L J d G lv K h g0 g1 hk => by
    have z := s_bh_j (xs := xs) (L := L) (J := J) (d := d) h hr hl (by omega) (by omega) (by omega) tr (t := 21) (Or.inl ⟨c, rfl⟩) M2
    rw [hpj] at z
    exact s_lp_bg h rfl t0 z g0 g1 hk
  rcases h1 nx2 tk2 pl2 num2 nm2 tok2 sp2 mu2 wd2 sz (cd + j + (A0 ++ rest).length - rest.length) 0 (21 :: rest) dp ⟨hP2, tr2, hnum2⟩ (fun v hv => by
        rcases List.mem_cons.mp hv with rfl | hv
        · decide
        · exact hlt v hv) (by simp) (by omega) (by omega) (by rw [List.length_cons]; omega) with ⟨q, p9, hc, hm⟩ | ⟨nx3, tk3, pl3, num3, nm3, tok3, sp3, mu3, wd3, sz3, on3, cd3, j3, hT3, ⟨b1, b2⟩, b3, b4, hc, hm⟩
  · exact Or.inl ⟨q, p9, fun th tp b sc ft fp xs L J d G lv hd h g0 g1 g2 g3 => by
      obtain ⟨d, rfl⟩ : ∃ k, d = k + 2 := ⟨d - 2, by omega⟩
      exact s_all_f1 h c (by omega) N2 (fun G1 h1 => hc _ _ _ _ _ _ _ _ _ _ _ (by omega) h1) g0 g1 g2 g3, fun th am mb sb qf xs L J d G lv h g0 g1 => step _ _ _ _ _ _ _ _ _ _ _ _ h g0 g1 (fun G1 h1 => hm _ _ _ _ _ _ _ _ _ _ _ h1 g0 g1)⟩
  rw [List.length_cons] at b4
  rcases ih on3 b1 b2 nx3 tk3 pl3 num3 nm3 tok3 sp3 mu3 wd3 (sz3 + 1) cd3 j3 (k + 1) [21] rest dp hT3 hlt hr0 hr1 (Or.inr rfl) hw (by omega) (by omega) (by rw [show ([21] : List Nat).length = 1 from rfl]; omega) with ⟨q, p9, hc4, hm4⟩ | ⟨nx4, tk4, pl4, num4, nm4, tok4, sp4, mu4, wd4, sz4, on4, cd4, j4, A4, hT4, n4, hA4, ⟨b5, b6⟩, b7, b8, hc4, hm4⟩
  · exact Or.inl ⟨q, p9, fun th tp b sc ft fp xs L J d G lv hd h g0 g1 g2 g3 => by
      obtain ⟨d, rfl⟩ : ∃ k, d = k + 2 := ⟨d - 2, by omega⟩
      exact s_all_go h c (by omega) N2 (fun G1 h1 => hc _ _ _ _ _ _ _ _ _ _ _ (by omega) h1) (by omega) g0 g1 g2 g3 (fun G1 lv1 h1 a0 a1 a2 a3 => hc4 _ _ _ _ _ _ _ _ _ _ _ _ hd h1 a0 a1 a2 a3), fun th am mb sb qf xs L J d G lv h g0 g1 => step _ _ _ _ _ _ _ _ _ _ _ _ h g0 g1 (fun G1 h1 => hm _ _ _ _ _ _ _ _ _ _ _ _ h1 g0 g1 (fun G2 h2 => hm4 _ _ _ _ _ _ _ _ _ _ _ h2 g0 g1))⟩
  · exact Or.inr ⟨nx4, tk4, pl4, num4, nm4, tok4, sp4, mu4, wd4, sz4, on4, cd4, j4, A4, hT4, n4, hA4, ⟨by omega, b6⟩, by omega, b8, fun th tp b sc ft fp xs L J d G lv hd h g0 g1 g2 g3 => by
      obtain ⟨d, rfl⟩ : ∃ k, d = k + 2 := ⟨d - 2, by omega⟩
      exact s_all_go h c (by omega) N2 (fun G1 h1 => hc _ _ _ _ _ _ _ _ _ _ _ (by omega) h1) (by omega) g0 g1 g2 g3 (fun G1 lv1 h1 a0 a1 a2 a3 => hc4 _ _ _ _ _ _ _ _ _ _ _ _ hd h1 a0 a1 a2 a3), fun th am mb sb qf xs L J d G lv K h g0 g1 hk => step _ _ _ _ _ _ _ _ _ _ _ _ h g0 g1 (fun G1 h1 => hm _ _ _ _ _ _ _ _ _ _ _ _ h1 g0 g1 (fun G2 h2 => hm4 _ _ _ _ _ _ _ _ _ _ _ _ h2 g0 g1 hk))⟩
/-- the loop of ALL -/
theorem s_allL (hn : n.toInt ≤ 940) (hfb : ∀ i, i < 940 → -128 ≤ (f i).toInt ∧ (f i).toInt ≤ 127) {N : Nat} (h1 : ∀ on, on ≤ 20 → 20 - on ≤ N → s_P1 f n lim on) : ∀ M on, M ≤ N → on ≤ 20 → 20 - on ≤ M → s_PAL f n lim on := by
  intro M
  induction M with
  | zero =>
    intro on hM hon hN nx tk pl num nm tok sp mu wd sz cd j k A0 rest dp hT hlt hr0 hr1 hA hw hk hsz hY
    exact s_allL1 hn hfb (h1 on hon (by omega)) hon (fun on2 z1 z2 => absurd z1 (by omega)) nx tk pl num nm tok sp mu wd sz cd j k A0 rest dp hT hlt hr0 hr1 hA hw hk hsz hY
  | succ M ih =>
    intro on hM hon hN nx tk pl num nm tok sp mu wd sz cd j k A0 rest dp hT hlt hr0 hr1 hA hw hk hsz hY
    exact s_allL1 hn hfb (h1 on hon (by omega)) hon (fun on2 z1 z2 => ih on2 (by omega) z2 (by omega)) nx tk pl num nm tok sp mu wd sz cd j k A0 rest dp hT hlt hr0 hr1 hA hw hk hsz hY
theorem s_allA {on : Nat} (h1 : s_P1 f n lim on) (h2 : ∀ on2, on < on2 → on2 ≤ 20 → s_PAL f n lim on2) : s_PA f n lim on := by
  intro nx tk pl num nm tok sp mu wd sz cd rest dp hT hlt hr0 hr1 hw hsz hY
  rcases h1 nx tk pl num nm tok sp mu wd sz cd 0 rest dp hT hlt hr0 hw hsz (by omega) with ⟨q, p9, hc, hm⟩ | ⟨nx3, tk3, pl3, num3, nm3, tok3, sp3, mu3, wd3, sz3, on3, cd3, j3, hT3, ⟨b1, b2⟩, b3, b4, hc, hm⟩
  · exact Or.inl ⟨q, p9, fun th tp b sc ft fp xs L J d G hd h => by
      obtain ⟨d, rfl⟩ : ∃ k, d = k + 1 := ⟨d - 1, by omega⟩
      exact s_all_f0 h (hc _ _ _ _ _ _ _ _ _ _ _ (by omega) h), hm⟩
  rcases h2 on3 b1 b2 nx3 tk3 pl3 num3 nm3 tok3 sp3 mu3 wd3 sz3 cd3 j3 0 [] rest dp hT3 hlt hr0 hr1 (Or.inl rfl) hw (by omega) (by omega) (by rw [show ([] : List Nat).length = 0 from rfl]; omega) with ⟨q, p9, hc4, hm4⟩ | ⟨nx4, tk4, pl4, num4, nm4, tok4, sp4, mu4, wd4, sz4, on4, cd4, j4, A4, hT4, n4, hA4, ⟨b5, b6⟩, b7, b8, hc4, hm4⟩
  · exact Or.inl ⟨q, p9, fun th tp b sc ft fp xs L J d G hd h => by
      obtain ⟨d, rfl⟩ : ∃ k, d = k + 1 := ⟨d - 1, by omega⟩
      exact s_all_h h (hc _ _ _ _ _ _ _ _ _ _ _ (by omega) h) (fun G1 lv1 h1 a0 a1 a2 a3 => hc4 _ _ _ _ _ _ _ _ _ _ _ _ hd h1 a0 a1 a2 a3), fun th am mb sb qf xs L J d G lv h g0 g1 => hm _ _ _ _ _ _ _ _ _ _ _ _ h g0 g1 (fun G2 h2 => hm4 _ _ _ _ _ _ _ _ _ _ _ h2 g0 g1)⟩
  · exact Or.inr ⟨nx4, tk4, pl4, num4, nm4, tok4, sp4, mu4, wd4, sz4, on4, cd4, j4, A4, hT4, n4, hA4, ⟨by omega, b6⟩, by omega, b8, fun th tp b sc ft fp xs L J d G hd h => by
      obtain ⟨d, rfl⟩ : ∃ k, d = k + 1 := ⟨d - 1, by omega⟩
      exact s_all_h h (hc _ _ _ _ _ _ _ _ _ _ _ (by omega) h) (fun G1 lv1 h1 a0 a1 a2 a3 => hc4 _ _ _ _ _ _ _ _ _ _ _ _ hd h1 a0 a1 a2 a3), fun th am mb sb qf xs L J d G lv K h g0 g1 hk => hm _ _ _ _ _ _ _ _ _ _ _ _ h g0 g1 (fun G2 h2 => hm4 _ _ _ _ _ _ _ _ _ _ _ _ h2 g0 g1 hk)⟩
/-- once round the loop of COND -/
theorem s_condL1 (hn : n.toInt ≤ 940) (hfb : ∀ i, i < 940 → -128 ≤ (f i).toInt ∧ (f i).toInt ≤ 127) {on : Nat} (h1 : s_PA f n lim on) (hon : on ≤ 20) (ih : ∀ on2, on < on2 → on2 ≤ 20 → s_PCL f n lim on2) : s_PCL f n lim on := by
  intro nx tk pl num nm tok sp mu wd sz cd j k A0 O0 rest dp hT hlt hr0 hr1 hr2 hA hO n26 hw hk hsz hY
  have a1 := s_A1 hA
  have o1 := s_O1 hO
  obtain ⟨hP, tr, hnum⟩ := id hT
  by_cases c : tk = 25
  rotate_left
  · exact Or.inr ⟨nx, tk, pl, num, nm, tok, sp, mu, wd, sz, on, cd, j, A0, O0, hT, n26, c, hA, hO, ⟨Nat.le_refl _, hon⟩, by omega, hY, fun th tp b sc ft fp xs L J d G lv hd h g0 g1 g2 g3 => (s_cond_end h c g0 g1 g2 g3).mono (fun r G' z => ⟨z.1, by rw [z.2]; exact h⟩), fun th am mb sb qf xs L J d G lv K h g0 g1 hk => hk _ h⟩
  have hL : (A0 ++ (O0 ++ rest)).length = A0.length + O0.length + rest.length := s_len2
  have hr : (A0 ++ (O0 ++ rest)).head? ≠ some 20 := s_hd hA hO hr0
  have hl : ∀ v ∈ A0 ++ (O0 ++ rest), v < 100 := s_lt hA hO hlt
  have hpj := s_pj2 hA hO hr1 hr2
  have t0 : tok ≠ Int32.ofInt 0 := fun z => by have := tr.end9.mpr z; omega
  obtain ⟨nx2, tk2, pl2, num2, nm2, tok2, mu2, sp2, wd2, hP2, -, tr2, hnum2, N2, M2⟩ := s_nx (lim := lim) hn hP hfb num nm mu wd
  have step : s_MY f n lim nx tok pl sp mu wd cd on (dp + j) 1 (List.replicate j 20 ++ (A0 ++ (O0 ++ rest))) nx2 tok2 pl2 sp2 mu2 wd2 (cd + j + (A0 ++ (O0 ++ rest)).length - rest.length) on dp 0 (22 :: rest) := fun th am mb sb qf xs L J d G lv K h g0 g1 hk => by
    have z := s_bh_j (xs := xs) (L := L) (J := J) (d := d) h hr hl (by omega) (by omega) (by omega) tr (t := 22) (Or.inr ⟨c, rfl⟩) M2
    rw [hpj] at z
    exact s_lp_bg h rfl t0 z g0 g1 hk
  rcases h1 nx2 tk2 pl2 num2 nm2 tok2 sp2 mu2 wd2 sz (cd + j + (A0 ++ (O0 ++ rest)).length - rest.length) (22 :: rest) dp ⟨hP2, tr2, hnum2⟩ (fun v hv => by
        rcases List.mem_cons.mp hv with rfl | hv
        · decide
        · exact hlt v hv) (by simp) (by simp) (by omega) (by omega) (by rw [List.length_cons]; omega) with ⟨q, p9, hc, hm⟩ | ⟨nx3, tk3, pl3, num3, nm3, tok3, sp3, mu3, wd3, sz3, on3, cd3, j3, A3, hT3, m26, hA3, ⟨b1, b2⟩, b3, b4, hc, hm⟩
  · exact Or.inl ⟨q, p9, fun th tp b sc ft fp xs L J d G lv hd h g0 g1 g2 g3 => by
      obtain ⟨d, rfl⟩ : ∃ k, d = k + 2 := ⟨d - 2, by omega⟩
      exact s_cond_f1 h c (by omega) N2 (fun G1 h1 => hc _ _ _ _ _ _ _ _ _ _ _ (by omega) h1) g0 g1 g2 g3, fun th am mb sb qf xs L J d G lv h g0 g1 => step _ _ _ _ _ _ _ _ _ _ _ _ h g0 g1 (fun G1 h1 => hm _ _ _ _ _ _ _ _ _ _ _ h1 g0 g1)⟩
  rw [List.length_cons] at b4
  have a3 := s_A1 hA3
  rcases ih on3 b1 b2 nx3 tk3 pl3 num3 nm3 tok3 sp3 mu3 wd3 (sz3 + 1) cd3 j3 (k + 1) A3 [22] rest dp hT3 hlt hr0 hr1 hr2 hA3 (Or.inr rfl) m26 hw (by omega) (by omega) (by rw [show ([22] : List Nat).length = 1 from rfl]; omega) with ⟨q, p9, hc4, hm4⟩ | ⟨nx4, tk4, pl4, num4, nm4, tok4, sp4, mu4, wd4, sz4, on4, cd4, j4, A4, O4, hT4, n4, n5, hA4, hO4, ⟨b5, b6⟩, b7, b8, hc4, hm4⟩
  · exact Or.inl ⟨q, p9, fun th tp b sc ft fp xs L J d G lv hd h g0 g1 g2 g3 => by
      obtain ⟨d, rfl⟩ : ∃ k, d = k + 2 := ⟨d - 2, by omega⟩
      exact s_cond_go h c (by omega) N2 (fun G1 h1 => hc _ _ _ _ _ _ _ _ _ _ _ (by omega) h1) (by omega) g0 g1 g2 g3 (fun G1 lv1 h1 a0 a1 a2 a3 => hc4 _ _ _ _ _ _ _ _ _ _ _ _ hd h1 a0 a1 a2 a3), fun th am mb sb qf xs L J d G lv h g0 g1 => step _ _ _ _ _ _ _ _ _ _ _ _ h g0 g1 (fun G1 h1 => hm _ _ _ _ _ _ _ _ _ _ _ _ h1 g0 g1 (fun G2 h2 => hm4 _ _ _ _ _ _ _ _ _ _ _ h2 g0 g1))⟩
  · exact Or.inr ⟨nx4, tk4, pl4, num4, nm4, tok4, sp4, mu4, wd4, sz4, on4, cd4, j4, A4, O4, hT4, n4, n5, hA4, hO4, ⟨by omega, b6⟩, by omega, b8, fun th tp b sc ft fp xs L J d G lv hd h g0 g1 g2 g3 => by
      obtain ⟨d, rfl⟩ : ∃ k, d = k + 2 := ⟨d - 2, by omega⟩
      exact s_cond_go h c (by omega) N2 (fun G1 h1 => hc _ _ _ _ _ _ _ _ _ _ _ (by omega) h1) (by omega) g0 g1 g2 g3 (fun G1 lv1 h1 a0 a1 a2 a3 => hc4 _ _ _ _ _ _ _ _ _ _ _ _ hd h1 a0 a1 a2 a3), fun th am mb sb qf xs L J d G lv K h g0 g1 hk => step _ _ _ _ _ _ _ _ _ _ _ _ h g0 g1 (fun G1 h1 => hm _ _ _ _ _ _ _ _ _ _ _ _ h1 g0 g1 (fun G2 h2 => hm4 _ _ _ _ _ _ _ _ _ _ _ _ h2 g0 g1 hk))⟩
theorem s_condL (hn : n.toInt ≤ 940) (hfb : ∀ i, i < 940 → -128 ≤ (f i).toInt ∧ (f i).toInt ≤ 127) {N : Nat} (h1 : ∀ on, on ≤ 20 → 20 - on ≤ N → s_PA f n lim on) : ∀ M on, M ≤ N → on ≤ 20 → 20 - on ≤ M → s_PCL f n lim on := by
  intro M
  induction M with
  | zero =>
    intro on hM hon hN nx tk pl num nm tok sp mu wd sz cd j k A0 O0 rest dp hT hlt hr0 hr1 hr2 hA hO n26 hw hk hsz hY
    exact s_condL1 hn hfb (h1 on hon (by omega)) hon (fun on2 z1 z2 => absurd z1 (by omega)) nx tk pl num nm tok sp mu wd sz cd j k A0 O0 rest dp hT hlt hr0 hr1 hr2 hA hO n26 hw hk hsz hY
  | succ M ih =>
    intro on hM hon hN nx tk pl num nm tok sp mu wd sz cd j k A0 O0 rest dp hT hlt hr0 hr1 hr2 hA hO n26 hw hk hsz hY
    exact s_condL1 hn hfb (h1 on hon (by omega)) hon (fun on2 z1 z2 => ih on2 (by omega) z2 (by omega)) nx tk pl num nm tok sp mu wd sz cd j k A0 O0 rest dp hT hlt hr0 hr1 hr2 hA hO n26 hw hk hsz hY
theorem s_condA {on : Nat} (h1 : s_PA f n lim on) (h2 : ∀ on2, on < on2 → on2 ≤ 20 → s_PCL f n lim on2) : s_PC f n lim on := by
  intro nx tk pl num nm tok sp mu wd sz cd rest dp hT hlt hr0 hr1 hr2 hw hsz hY
  rcases h1 nx tk pl num nm tok sp mu wd sz cd rest dp hT hlt hr0 hr1 hw hsz hY with ⟨q, p9, hc, hm⟩ | ⟨nx3, tk3, pl3, num3, nm3, tok3, sp3, mu3, wd3, sz3, on3, cd3, j3, A3, hT3, m26, hA3, ⟨b1, b2⟩, b3, b4, hc, hm⟩
  · exact Or.inl ⟨q, p9, fun th tp b sc ft fp xs L J d G hd h => by
      obtain ⟨d, rfl⟩ : ∃ k, d = k + 1 := ⟨d - 1, by omega⟩
      exact s_cond_f0 h (hc _ _ _ _ _ _ _ _ _ _ _ (by omega) h), hm⟩
  rcases h2 on3 b1 b2 nx3 tk3 pl3 num3 nm3 tok3 sp3 mu3 wd3 sz3 cd3 j3 0 A3 [] rest dp hT3 hlt hr0 hr1 hr2 hA3 (Or.inl rfl) m26 hw (by omega) (by omega) (by rw [show ([] : List Nat).length = 0 from rfl]; omega) with ⟨q, p9, hc4, hm4⟩ | ⟨nx4, tk4, pl4, num4, nm4, tok4, sp4, mu4, wd4, sz4, on4, cd4, j4, A4, O4, hT4, n4, n5, hA4, hO4, ⟨b5, b6⟩, b7, b8, hc4, hm4⟩
  · exact Or.inl ⟨q, p9, fun th tp b sc ft fp xs L J d G hd h => by
      obtain ⟨d, rfl⟩ : ∃ k, d = k + 1 := ⟨d - 1, by omega⟩
      exact s_cond_h h (hc _ _ _ _ _ _ _ _ _ _ _ (by omega) h) (fun G1 lv1 h1 a0 a1 a2 a3 => hc4 _ _ _ _ _ _ _ _ _ _ _ _ hd h1 a0 a1 a2 a3), fun th am mb sb qf xs L J d G lv h g0 g1 => hm _ _ _ _ _ _ _ _ _ _ _ _ h g0 g1 (fun G2 h2 => hm4 _ _ _ _ _ _ _ _ _ _ _ h2 g0 g1)⟩
  · exact Or.inr ⟨nx4, tk4, pl4, num4, nm4, tok4, sp4, mu4, wd4, sz4, on4, cd4, j4, A4, O4, hT4, n4, n5, hA4, hO4, ⟨by omega, b6⟩, by omega, b8, fun th tp b sc ft fp xs L J d G hd h => by
      obtain ⟨d, rfl⟩ : ∃ k, d = k + 1 := ⟨d - 1, by omega⟩
      exact s_cond_h h (hc _ _ _ _ _ _ _ _ _ _ _ (by omega) h) (fun G1 lv1 h1 a0 a1 a2 a3 => hc4 _ _ _ _ _ _ _ _ _ _ _ _ hd h1 a0 a1 a2 a3), fun th am mb sb qf xs L J d G lv K h g0 g1 hk => hm _ _ _ _ _ _ _ _ _ _ _ _ h g0 g1 (fun G2 h2 => hm4 _ _ _ _ _ _ _ _ _ _ _ _ h2 g0 g1 hk)⟩
/-- ONES, ALLS and CONDS -/
theorem s_both (hn : n.toInt ≤ 940) (hfb : ∀ i, i < 940 → -128 ≤ (f i).toInt ∧ (f i).toInt ≤ 127) : ∀ N on, on ≤ 20 → 20 - on ≤ N → s_P1 f n lim on ∧ s_PC f n lim on := by
  have up : ∀ N, (∀ on, on ≤ 20 → 20 - on ≤ N → s_P1 f n lim on) → ∀ on, on ≤ 20 → 20 - on ≤ N → s_PC f n lim on := fun N h1 => by
    have hA : ∀ on, on ≤ 20 → 20 - on ≤ N → s_PA f n lim on := fun on z1 z2 => s_allA (h1 on z1 z2) (fun on2 y1 y2 => s_allL hn hfb h1 N on2 (Nat.le_refl _) y2 (by omega))
    exact fun on z1 z2 => s_condA (hA on z1 z2) (fun on2 y1 y2 => s_condL hn hfb hA N on2 (Nat.le_refl _) y2 (by omega))
  intro N
  induction N with
  | zero =>
    have h1 : ∀ on, on ≤ 20 → 20 - on ≤ 0 → s_P1 f n lim on := fun on z1 z2 => s_one_all hn hfb z1 (fun z => absurd z (by omega))
    exact fun on z1 z2 => ⟨h1 on z1 z2, up 0 h1 on z1 z2⟩
  | succ N ih =>
    have h1 : ∀ on, on ≤ 20 → 20 - on ≤ N + 1 → s_P1 f n lim on := fun on z1 z2 => s_one_all hn hfb z1 (fun z => ih (on + 1) (by omega) (by omega))
    exact fun on z1 z2 => ⟨h1 on z1 z2, up (N + 1) h1 on z1 z2⟩
end S8
