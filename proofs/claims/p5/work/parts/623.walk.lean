theorem x_Gd.mono {xs : Nat → Int32} {L J d : Nat} {M : pM} {K K2 : Option Value → List pE → Prop} {pc : Nat} {lv : pL} {ws : List Value} {G : List pE} (h : x_Gd xs L J d M K pc lv ws G) (hk : ∀ r G', K r G' → K2 r G') : x_Gd xs L J d M K2 pc lv ws G := by
  obtain ⟨r, G', h1, h2⟩ := h
  exact ⟨r, G', h1, hk r G' h2⟩
theorem y_gpi {lv : pL} {i j : Nat} {x : Int32} {w : Value} (h : pm_get lv j = some (.int x)) (hj : j ≠ i) : pm_get (pm_put1 lv i w) j = some (.int x) := x_get_put h hj (fun z => absurd z.2 (show ¬ (1 : Nat) = 2 by decide))
theorem y_gpr {lv : pL} {i j : Nat} {x : Nat} {w : Value} (h : pm_get lv j = some (.ref x)) (hj : j ≠ i) : pm_get (pm_put1 lv i w) j = some (.ref x) := x_get_put h hj (fun z => absurd z.2 (show ¬ (1 : Nat) = 2 by decide))
theorem y_add {x y : Int32} (h1 : -2147483648 ≤ x.toInt + y.toInt) (h2 : x.toInt + y.toInt ≤ 2147483647) : (x + y).toInt = x.toInt + y.toInt := by
  rw [Int32.toInt_add, Jvm.Kit.bmod32 (by omega) (by omega)]
/-- the model's s, as the heap has it -/
def y_V (th : List Nat) (G : List pE) (a b : Nat) (f : Nat → Int32) : Prop := xI x_tb th G ∧ th[a]? = some 10 ∧ x_sl G a 6 = some (.ref b) ∧ th[b]? = some 36 ∧ ∀ i, i < 324 → x_sl G b i = some (.int (f i))
theorem x_at_int : ∀ (r : List (Nat × xF)) (i : Nat), r.all (fun q => q.2.1 == 0) = true → ∀ f, x_at r i = some f → f.1 = 0
  | [], _, _, _, h => by cases h
  | q :: r, i, ha, f, h => by
    rw [List.all_cons, Bool.and_eq_true] at ha
    unfold x_at at h
    split at h
    · cases h
      simpa using ha.1
    · exact x_at_int r _ ha.2 f h
theorem y_view {th : List Nat} {G : List pE} {a : Nat} (hI : xI x_tb th G) (ta : th[a]? = some 10) : ∃ b f, y_V th G a b f := by
  obtain ⟨w, w1, w2⟩ := (hI.2.2 a 10 ta).2 6 (46, 0, 0) rfl
  obtain ⟨b, rfl, tb⟩ := w2
  refine ⟨b, fun i => match x_sl G b i with | some (.int x) => x | _ => 0, hI, ta, w1, tb, fun i hi => ?_⟩
  obtain ⟨g, hg⟩ := x_tb_wf 36 i hi
  obtain ⟨w, k1, k2⟩ := (hI.2.2 b 36 tb).2 i g hg
  have h0 := x_at_int _ i (by decide) g hg
  unfold xf_ok at k2
  rw [h0] at k2
  obtain ⟨x, rfl, -⟩ := k2
  dsimp only
  rw [k1]
theorem y_V.rng {th : List Nat} {G : List pE} {a b : Nat} {f : Nat → Int32} (h : y_V th G a b f) {i : Nat} {lo hi : Int} (hx : i < 324 ∧ x_at (x_tb 36).2.2.2 i = some (0, lo, hi)) : lo ≤ (f i).toInt ∧ (f i).toInt ≤ hi := by
  obtain ⟨w, k1, x, rfl, k2, k3⟩ := (h.1.2.2 b 36 h.2.2.2.1).2 i _ hx.2
  rw [h.2.2.2.2 i hx.1] at k1
  cases k1
  exact ⟨k2, k3⟩
theorem y_V.per {th : List Nat} {G : List pE} {a b : Nat} {f : Nat → Int32} (h : y_V th G a b f) : f_period f ≠ 0 ∧ f 11 ≠ 0 := by
  have h6 := h.rng (i := 6) ⟨by decide, rfl⟩
  have h7 := h.rng (i := 7) ⟨by decide, rfl⟩
  have h8 := h.rng (i := 8) ⟨by decide, rfl⟩
  have h9 := h.rng (i := 9) ⟨by decide, rfl⟩
  have h11 := h.rng (i := 11) ⟨by decide, rfl⟩
  constructor
  · intro hz
    have e1 : (f 6 + f 7).toInt = (f 6).toInt + (f 7).toInt := y_add (by omega) (by omega)
    have e2 : (f 6 + f 7 + f 8).toInt = (f 6 + f 7).toInt + (f 8).toInt := y_add (by omega) (by omega)
    have e3 : (f 6 + f 7 + f 8 + f 9).toInt = (f 6 + f 7 + f 8).toInt + (f 9).toInt := y_add (by omega) (by omega)
    have e4 : (f 6 + f 7 + f 8 + f 9).toInt = 0 := by
      rw [show f 6 + f 7 + f 8 + f 9 = 0 from hz]; rfl
    omega
  · intro hz
    rw [hz] at h11
    exact absurd h11.1 (by decide)
/-- there in n hours -/
def w_r (f : Nat → Int32) (v to : Int32) : Nat → Int32 → Int32 → Prop
  | 0, x, _ => x = to
  | n + 1, x, h => x ≠ to ∧ h.toInt < 1000 ∧ w_r f v to n (f_strides f v x to h) (h + 1)
theorem f_period_c {f g : Nat → Int32} (h : ∀ i, 6 ≤ i → i ≤ 12 → g i = f i) : f_period g = f_period f := by
  unfold f_period
  rw [h 6 (by decide) (by decide), h 7 (by decide) (by decide), h 8 (by decide) (by decide), h 9 (by decide) (by decide)]
theorem f_airOf_c {f g : Nat → Int32} (h : ∀ i, 6 ≤ i → i ≤ 12 → g i = f i) (v t : Int32) : f_airOf g v t = f_airOf f v t := by
  unfold f_airOf
  rw [f_period_c h, h 6 (by decide) (by decide), h 7 (by decide) (by decide), h 8 (by decide) (by decide), h 12 (by decide) (by decide)]
theorem f_forceAt_c {f g : Nat → Int32} (h : ∀ i, 6 ≤ i → i ≤ 12 → g i = f i) (c : Int32) : f_forceAt g c = f_forceAt f c := by
  unfold f_forceAt
  rw [h 10 (by decide) (by decide), h 11 (by decide) (by decide)]
theorem f_strides_c {f g : Nat → Int32} (h : ∀ i, 6 ≤ i → i ≤ 12 → g i = f i) (v x to t : Int32) : f_strides g v x to t = f_strides f v x to t := by
  unfold f_strides
  simp only [f_airOf_c h, f_forceAt_c h]
theorem w_r_c {f g : Nat → Int32} (h : ∀ i, 6 ≤ i → i ≤ 12 → g i = f i) (v to : Int32) : ∀ (n : Nat) (x t : Int32), w_r f v to n x t → w_r g v to n x t
  | 0, _, _, hw => hw
  | n + 1, x, t, hw => ⟨hw.1, hw.2.1, by rw [f_strides_c h]; exact w_r_c h v to n _ _ hw.2.2⟩
theorem y_hI {x y : Int32} : (pm_holds .eq x y = true → x = y) ∧ (pm_holds .eq x y = false → x ≠ y) ∧ (pm_holds .ne x y = true → x ≠ y) ∧ (pm_holds .ne x y = false → x = y) ∧ (pm_holds .ge x y = true → y.toInt ≤ x.toInt) ∧ (pm_holds .ge x y = false → x.toInt < y.toInt) ∧ (pm_holds .le x y = true → x.toInt ≤ y.toInt) ∧ (pm_holds .le x y = false → y.toInt < x.toInt) ∧ (pm_holds .lt x y = true → x.toInt < y.toInt) ∧ (pm_holds .lt x y = false → y.toInt ≤ x.toInt) ∧ (pm_holds .gt x y = true → y.toInt < x.toInt) ∧ (pm_holds .gt x y = false → x.toInt ≤ y.toInt) := by
  simp only [pm_holds, decide_eq_true_eq, decide_eq_false_iff_not, Int32.lt_iff_toInt_lt, Int32.le_iff_toInt_le, Int.not_le, Int.not_lt, ne_eq, Decidable.not_not]
  simp
def m_204 : pM := (⟨"BreathingHillModel", "hoursTo", "(II)I"⟩, 1646, 5, some (FieldType.int), 17, 2, false, 10, 103, 1645, 62)
theorem m_204_ok : pm_tab[204]? = some m_204 := rfl
theorem e_204 : ∀ q ∈ d_204, decode m_204.code q.1 = .ok (q.2.1, q.2.2) := y_dec d_204_ok m_204_ok
theorem y_i73 : (Int8.ofInt 73).toInt32.toInt = 73 := by decide
theorem y_i81 : (Int8.ofInt 81).toInt32.toInt = 81 := by decide
theorem y_i135 : (Int16.ofInt 135).toInt32.toInt = 135 := by decide
theorem y_i139 : (Int16.ofInt 139).toInt32.toInt = 139 := by decide
theorem y_i1000 : (Int16.ofInt 1000).toInt32.toInt = 1000 := by decide
theorem y_V.at {th : List Nat} {G : List pE} {a b : Nat} {f : Nat → Int32} (h : y_V th G a b f) {j m : Int32} {c : Nat} (hj : j.toInt = c) (hm : 0 ≤ m.toInt ∧ m.toInt ≤ 7) (hc : c ≤ 310) : (j + m).toInt = (c + m.toInt.toNat : Nat) ∧ 0 ≤ (j + m).toInt ∧ x_sl G b (j + m).toInt.toNat = some (.int (f (c + m.toInt.toNat))) := by
  have e : (j + m).toInt = j.toInt + m.toInt := y_add (by omega) (by omega)
  refine ⟨by omega, by omega, ?_⟩
  rw [show (j + m).toInt.toNat = c + m.toInt.toNat by omega]
  exact h.2.2.2.2 _ (by omega)
set_option maxHeartbeats 1000000 in
set_option maxRecDepth 100000 in
theorem g_hoursTo0 {th : List Nat} {xs : Nat → Int32} {L J d a b : Nat} {f : Nat → Int32} {G : List pE} (hV : y_V th G a b f) {m to : Int32} (hm : 0 ≤ m.toInt ∧ m.toInt ≤ 7) : ∀ (k : Nat) (x i : Int32) (lv : pL), 0 ≤ i.toInt → (f 81).toInt + i.toInt + k = 1000 → pm_get lv 0 = some (.ref a) → pm_get lv 1 = some (.int m) → pm_get lv 2 = some (.int to) → pm_get lv 3 = some (.int x) → pm_get lv 4 = some (.int i) → x_Gd xs L J (d + 3) m_204 (fun r G' => G' = G ∧ ∃ z, r = some (.int z) ∧ (0 ≤ z.toInt → ∃ n, w_r f (f (73 + m.toInt.toNat)) to n x (f 81 + i))) 14 lv [] G := by
  obtain ⟨hI, ta, s6, tb, hs⟩ := id hV
  obtain ⟨hp, hq⟩ := hV.per
  have h81 := hV.rng (i := 81) ⟨by decide, rfl⟩
  intro k
  induction k with
  | zero =>
    intro x i lv hi hk g0 g1 g2 g3 g4
    refine y_iln (e_204 (14, .iload_n 3, 1) (List.mem_of_getElem? (i := 9) rfl)) g3 ?_
    refine y_iln (e_204 (15, .iload_n 2, 1) (List.mem_of_getElem? (i := 10) rfl)) g2 ?_
    refine y_icm (e_204 (16, .if_icmp .eq 51, 3) (List.mem_of_getElem? (i := 11) rfl)) rfl (fun b0 => ?_) (fun b0 => ?_)
    · refine y_iln (e_204 (67, .iload_n 3, 1) (List.mem_of_getElem? (i := 39) rfl)) g3 ?_
      refine y_iln (e_204 (68, .iload_n 2, 1) (List.mem_of_getElem? (i := 40) rfl)) g2 ?_
      refine y_icm (e_204 (69, .if_icmp .ne 8, 3) (List.mem_of_getElem? (i := 41) rfl)) rfl (fun b1 => ?_) (fun b1 => ?_)
      · exact absurd (y_hI.1 b0) (y_hI.2.2.1 b1)
      · refine y_il (e_204 (72, .iload 4, 2) (List.mem_of_getElem? (i := 42) rfl)) g4 ?_
        refine y_st (e_204 (74, .goto 4, 3) (List.mem_of_getElem? (i := 43) rfl)) ⟨rfl, rfl, rfl, rfl⟩ ?_
        refine y_ret (e_204 (78, .ireturn, 1) (List.mem_of_getElem? (i := 45) rfl)) ⟨rfl, y_ri⟩ ⟨rfl, _, rfl, fun _ => ⟨0, y_hI.1 b0⟩⟩
    · refine y_aln (e_204 (19, .aload_n 0, 1) (List.mem_of_getElem? (i := 12) rfl)) g0 ?_
      refine y_getf hI ta (e_204 (20, .getfield 33, 3) (List.mem_of_getElem? (i := 13) rfl)) u_17_33 ⟨rfl, rfl⟩ s6 ?_
      refine y_st (e_204 (23, .bipush 81, 2) (List.mem_of_getElem? (i := 14) rfl)) ⟨rfl, rfl, rfl, rfl⟩ ?_
      refine y_iald hI tb (e_204 (25, .iaload, 1) (List.mem_of_getElem? (i := 15) rfl)) ⟨rfl, rfl⟩ (by decide) (hs 81 (by decide)) ?_
      refine y_il (e_204 (26, .iload 4, 2) (List.mem_of_getElem? (i := 16) rfl)) g4 ?_
      refine y_st (e_204 (28, .iadd, 1) (List.mem_of_getElem? (i := 17) rfl)) ⟨rfl, rfl, rfl, rfl⟩ ?_
      refine y_st (e_204 (29, .sipush 1000, 3) (List.mem_of_getElem? (i := 18) rfl)) ⟨rfl, rfl, rfl, rfl⟩ ?_
      have ea : (f 81 + i).toInt = (f 81).toInt + i.toInt := y_add (by omega) (by omega)
      refine y_icm (e_204 (32, .if_icmp .ge 35, 3) (List.mem_of_getElem? (i := 19) rfl)) rfl (fun b2 => ?_) (fun b2 => ?_)
      · refine y_iln (e_204 (67, .iload_n 3, 1) (List.mem_of_getElem? (i := 39) rfl)) g3 ?_
        refine y_iln (e_204 (68, .iload_n 2, 1) (List.mem_of_getElem? (i := 40) rfl)) g2 ?_
        refine y_icm (e_204 (69, .if_icmp .ne 8, 3) (List.mem_of_getElem? (i := 41) rfl)) rfl (fun b1 => ?_) (fun b1 => ?_)
        · refine y_st (e_204 (77, .iconst (-1), 1) (List.mem_of_getElem? (i := 44) rfl)) ⟨rfl, rfl, rfl, rfl⟩ ?_
          refine y_ret (e_204 (78, .ireturn, 1) (List.mem_of_getElem? (i := 45) rfl)) ⟨rfl, y_ri⟩ ⟨rfl, _, rfl, fun z => absurd z (by decide)⟩
        · exact absurd (y_hI.2.2.2.1 b1) (y_hI.2.1 b0)
      · have b3 := (y_hI (x := f 81 + i) (y := (Int16.ofInt 1000).toInt32)).2.2.2.2.2.1 b2
        rw [y_i1000] at b3
        omega
  | succ k ih =>
    intro x i lv hi hk g0 g1 g2 g3 g4
    refine y_iln (e_204 (14, .iload_n 3, 1) (List.mem_of_getElem? (i := 9) rfl)) g3 ?_
    refine y_iln (e_204 (15, .iload_n 2, 1) (List.mem_of_getElem? (i := 10) rfl)) g2 ?_
    refine y_icm (e_204 (16, .if_icmp .eq 51, 3) (List.mem_of_getElem? (i := 11) rfl)) rfl (fun b0 => ?_) (fun b0 => ?_)
    · refine y_iln (e_204 (67, .iload_n 3, 1) (List.mem_of_getElem? (i := 39) rfl)) g3 ?_
      refine y_iln (e_204 (68, .iload_n 2, 1) (List.mem_of_getElem? (i := 40) rfl)) g2 ?_
      refine y_icm (e_204 (69, .if_icmp .ne 8, 3) (List.mem_of_getElem? (i := 41) rfl)) rfl (fun b1 => ?_) (fun b1 => ?_)
      · exact absurd (y_hI.1 b0) (y_hI.2.2.1 b1)
      · refine y_il (e_204 (72, .iload 4, 2) (List.mem_of_getElem? (i := 42) rfl)) g4 ?_
        refine y_st (e_204 (74, .goto 4, 3) (List.mem_of_getElem? (i := 43) rfl)) ⟨rfl, rfl, rfl, rfl⟩ ?_
        refine y_ret (e_204 (78, .ireturn, 1) (List.mem_of_getElem? (i := 45) rfl)) ⟨rfl, y_ri⟩ ⟨rfl, _, rfl, fun _ => ⟨0, y_hI.1 b0⟩⟩
    · refine y_aln (e_204 (19, .aload_n 0, 1) (List.mem_of_getElem? (i := 12) rfl)) g0 ?_
      refine y_getf hI ta (e_204 (20, .getfield 33, 3) (List.mem_of_getElem? (i := 13) rfl)) u_17_33 ⟨rfl, rfl⟩ s6 ?_
      refine y_st (e_204 (23, .bipush 81, 2) (List.mem_of_getElem? (i := 14) rfl)) ⟨rfl, rfl, rfl, rfl⟩ ?_
      refine y_iald hI tb (e_204 (25, .iaload, 1) (List.mem_of_getElem? (i := 15) rfl)) ⟨rfl, rfl⟩ (by decide) (hs 81 (by decide)) ?_
      refine y_il (e_204 (26, .iload 4, 2) (List.mem_of_getElem? (i := 16) rfl)) g4 ?_
      refine y_st (e_204 (28, .iadd, 1) (List.mem_of_getElem? (i := 17) rfl)) ⟨rfl, rfl, rfl, rfl⟩ ?_
      refine y_st (e_204 (29, .sipush 1000, 3) (List.mem_of_getElem? (i := 18) rfl)) ⟨rfl, rfl, rfl, rfl⟩ ?_
      have ea : (f 81 + i).toInt = (f 81).toInt + i.toInt := y_add (by omega) (by omega)
      refine y_icm (e_204 (32, .if_icmp .ge 35, 3) (List.mem_of_getElem? (i := 19) rfl)) rfl (fun b2 => ?_) (fun b2 => ?_)
      · refine y_iln (e_204 (67, .iload_n 3, 1) (List.mem_of_getElem? (i := 39) rfl)) g3 ?_
        refine y_iln (e_204 (68, .iload_n 2, 1) (List.mem_of_getElem? (i := 40) rfl)) g2 ?_
        refine y_icm (e_204 (69, .if_icmp .ne 8, 3) (List.mem_of_getElem? (i := 41) rfl)) rfl (fun b1 => ?_) (fun b1 => ?_)
        · refine y_st (e_204 (77, .iconst (-1), 1) (List.mem_of_getElem? (i := 44) rfl)) ⟨rfl, rfl, rfl, rfl⟩ ?_
          refine y_ret (e_204 (78, .ireturn, 1) (List.mem_of_getElem? (i := 45) rfl)) ⟨rfl, y_ri⟩ ⟨rfl, _, rfl, fun z => absurd z (by decide)⟩
        · exact absurd (y_hI.2.2.2.1 b1) (y_hI.2.1 b0)
      · have b3 := (y_hI (x := f 81 + i) (y := (Int16.ofInt 1000).toInt32)).2.2.2.2.2.1 b2
        rw [y_i1000] at b3
        obtain ⟨j1, j2, j3⟩ := hV.at (c := 73) y_i73 hm (by decide)
        refine y_aln (e_204 (35, .aload_n 0, 1) (List.mem_of_getElem? (i := 20) rfl)) g0 ?_
        refine y_aln (e_204 (36, .aload_n 0, 1) (List.mem_of_getElem? (i := 21) rfl)) g0 ?_
        refine y_getf hI ta (e_204 (37, .getfield 33, 3) (List.mem_of_getElem? (i := 22) rfl)) u_17_33 ⟨rfl, rfl⟩ s6 ?_
        refine y_st (e_204 (40, .bipush 73, 2) (List.mem_of_getElem? (i := 23) rfl)) ⟨rfl, rfl, rfl, rfl⟩ ?_
        refine y_iln (e_204 (42, .iload_n 1, 1) (List.mem_of_getElem? (i := 24) rfl)) g1 ?_
        refine y_st (e_204 (43, .iadd, 1) (List.mem_of_getElem? (i := 25) rfl)) ⟨rfl, rfl, rfl, rfl⟩ ?_
        refine y_iald hI tb (e_204 (44, .iaload, 1) (List.mem_of_getElem? (i := 26) rfl)) ⟨rfl, rfl⟩ j2 j3 ?_
        refine y_iln (e_204 (45, .iload_n 3, 1) (List.mem_of_getElem? (i := 27) rfl)) g3 ?_
        refine y_iln (e_204 (46, .iload_n 2, 1) (List.mem_of_getElem? (i := 28) rfl)) g2 ?_
        refine y_aln (e_204 (47, .aload_n 0, 1) (List.mem_of_getElem? (i := 29) rfl)) g0 ?_
        refine y_getf hI ta (e_204 (48, .getfield 33, 3) (List.mem_of_getElem? (i := 30) rfl)) u_17_33 ⟨rfl, rfl⟩ s6 ?_
        refine y_st (e_204 (51, .bipush 81, 2) (List.mem_of_getElem? (i := 31) rfl)) ⟨rfl, rfl, rfl, rfl⟩ ?_
        refine y_iald hI tb (e_204 (53, .iaload, 1) (List.mem_of_getElem? (i := 32) rfl)) ⟨rfl, rfl⟩ (by decide) (hs 81 (by decide)) ?_
        refine y_il (e_204 (54, .iload 4, 2) (List.mem_of_getElem? (i := 33) rfl)) g4 ?_
        refine y_st (e_204 (56, .iadd, 1) (List.mem_of_getElem? (i := 34) rfl)) ⟨rfl, rfl, rfl, rfl⟩ ?_
        refine y_c5 (K' := fun r G' => r = some (.int (f_strides f (f (73 + m.toInt.toNat)) x to (f 81 + i))) ∧ G' = G) (e_204 (57, .invokevirtual 293, 3) (List.mem_of_getElem? (i := 35) rfl)) ⟨rfl, rfl, rfl⟩ t_17_293 ⟨by decide, by decide, by decide, by decide⟩ m_205_ok rfl (by decide) (y_recv hI ta ⟨rfl, rfl⟩) (Nat.le_of_ble_eq_true rfl) (Nat.le_of_ble_eq_true rfl) (g_strides hI ta s6 tb hs hp hq _ _ _ _) (fun r1 G1 h1 => ?_)
        obtain ⟨rfl, rfl⟩ := h1
        simp only [Option.toList_some, Option.toList_none, List.cons_append, List.nil_append]
        refine y_isn (e_204 (60, .istore_n 3, 1) (List.mem_of_getElem? (i := 36) rfl)) (by decide) ?_
        refine y_iinc (e_204 (61, .iinc 4 1, 3) (List.mem_of_getElem? (i := 37) rfl)) (y_gpi g4 (by decide)) (by decide) ?_
        refine y_st (e_204 (64, .goto (-50), 3) (List.mem_of_getElem? (i := 38) rfl)) ⟨rfl, rfl, rfl, rfl⟩ ?_
        have e1 : (i + 1).toInt = i.toInt + 1 := y_add (by rw [show (1 : Int32).toInt = 1 from rfl]; omega) (by rw [show (1 : Int32).toInt = 1 from rfl]; omega)
        refine (ih (f_strides f (f (73 + m.toInt.toNat)) x to (f 81 + i)) (i + 1) _ (by omega) (by omega) (y_gpr (y_gpr g0 (by decide)) (by decide)) (y_gpi (y_gpi g1 (by decide)) (by decide)) (y_gpi (y_gpi g2 (by decide)) (by decide)) (y_gpi x_get_self (by decide)) x_get_self).mono (fun r G' h => ⟨h.1, ?_⟩)
        obtain ⟨z, z1, z2⟩ := h.2
        refine ⟨z, z1, fun z0 => ?_⟩
        obtain ⟨n, hn⟩ := z2 z0
        exact ⟨n + 1, y_hI.2.1 b0, by omega, by rw [Int32.add_assoc]; exact hn⟩
set_option maxRecDepth 100000 in
theorem g_hoursTo {th : List Nat} {xs : Nat → Int32} {L J d a b : Nat} {f : Nat → Int32} {G : List pE} (hV : y_V th G a b f) {m to : Int32} (hm : 0 ≤ m.toInt ∧ m.toInt ≤ 7) : x_Gd xs L J (d + 3) m_204 (fun r G' => G' = G ∧ ∃ z, r = some (.int z) ∧ (0 ≤ z.toInt → ∃ n, w_r f (f (73 + m.toInt.toNat)) to n (f (135 + m.toInt.toNat)) (f 81))) 0 (lv_args 0 [.ref a, .int m, .int to]) [] G := by
  obtain ⟨hI, ta, s6, tb, hs⟩ := id hV
  have h81 := hV.rng (i := 81) ⟨by decide, rfl⟩
  obtain ⟨j1, j2, j3⟩ := hV.at (c := 135) y_i135 hm (by decide)
  refine y_aln (e_204 (0, .aload_n 0, 1) (List.mem_of_getElem? (i := 0) rfl)) rfl ?_
  refine y_getf hI ta (e_204 (1, .getfield 33, 3) (List.mem_of_getElem? (i := 1) rfl)) u_17_33 ⟨rfl, rfl⟩ s6 ?_
  refine y_st (e_204 (4, .sipush 135, 3) (List.mem_of_getElem? (i := 2) rfl)) ⟨rfl, rfl, rfl, rfl⟩ ?_
  refine y_iln (e_204 (7, .iload_n 1, 1) (List.mem_of_getElem? (i := 3) rfl)) rfl ?_
  refine y_st (e_204 (8, .iadd, 1) (List.mem_of_getElem? (i := 4) rfl)) ⟨rfl, rfl, rfl, rfl⟩ ?_
  refine y_iald hI tb (e_204 (9, .iaload, 1) (List.mem_of_getElem? (i := 5) rfl)) ⟨rfl, rfl⟩ j2 j3 ?_
  refine y_isn (e_204 (10, .istore_n 3, 1) (List.mem_of_getElem? (i := 6) rfl)) (by decide) ?_
  refine y_st (e_204 (11, .iconst 0, 1) (List.mem_of_getElem? (i := 7) rfl)) ⟨rfl, rfl, rfl, rfl⟩ ?_
  refine y_is (e_204 (12, .istore 4, 2) (List.mem_of_getElem? (i := 8) rfl)) (by decide) ?_
  refine (g_hoursTo0 hV hm (1000 - (f 81).toInt).toNat (f (135 + m.toInt.toNat)) 0 _ (by decide) (by rw [show (0 : Int32).toInt = 0 from rfl]; omega) rfl rfl rfl rfl rfl).mono (fun r G' h => ?_)
  rw [show f 81 + 0 = f 81 from Int32.add_zero _] at h
  exact h
def m_203 : pM := (⟨"BreathingHillModel", "whyWalk", "(II)I"⟩, 1642, 3, some (FieldType.int), 17, 2, false, 10, 103, 1641, 61)
theorem m_203_ok : pm_tab[203]? = some m_203 := rfl
theorem e_203 : ∀ q ∈ d_203, decode m_203.code q.1 = .ok (q.2.1, q.2.2) := y_dec d_203_ok m_203_ok
set_option maxRecDepth 100000 in
theorem g_whyWalk {th : List Nat} {xs : Nat → Int32} {L J d a b : Nat} {f : Nat → Int32} {G : List pE} (hV : y_V th G a b f) {m to : Int32} (hm : 0 ≤ m.toInt ∧ m.toInt ≤ 7) : x_Gd xs L J (d + 4) m_203 (fun r G' => G' = G ∧ ∃ z, r = some (.int z) ∧ (z.toInt ≤ 0 → ∃ n, w_r f (f (73 + m.toInt.toNat)) to n (f (135 + m.toInt.toNat)) (f 81))) 0 (lv_args 0 [.ref a, .int m, .int to]) [] G := by
  obtain ⟨hI, ta, s6, tb, hs⟩ := id hV
  obtain ⟨j1, j2, j3⟩ := hV.at (c := 135) y_i135 hm (by decide)
  refine y_aln (e_203 (0, .aload_n 0, 1) (List.mem_of_getElem? (i := 0) rfl)) rfl ?_
  refine y_getf hI ta (e_203 (1, .getfield 33, 3) (List.mem_of_getElem? (i := 1) rfl)) u_17_33 ⟨rfl, rfl⟩ s6 ?_
  refine y_st (e_203 (4, .sipush 135, 3) (List.mem_of_getElem? (i := 2) rfl)) ⟨rfl, rfl, rfl, rfl⟩ ?_
  refine y_iln (e_203 (7, .iload_n 1, 1) (List.mem_of_getElem? (i := 3) rfl)) rfl ?_
  refine y_st (e_203 (8, .iadd, 1) (List.mem_of_getElem? (i := 4) rfl)) ⟨rfl, rfl, rfl, rfl⟩ ?_
  refine y_iald hI tb (e_203 (9, .iaload, 1) (List.mem_of_getElem? (i := 5) rfl)) ⟨rfl, rfl⟩ j2 j3 ?_
  refine y_iln (e_203 (10, .iload_n 2, 1) (List.mem_of_getElem? (i := 6) rfl)) rfl ?_
  refine y_icm (e_203 (11, .if_icmp .ne 7, 3) (List.mem_of_getElem? (i := 7) rfl)) rfl (fun hb => ?_) (fun hb => ?_)
  · refine y_aln (e_203 (18, .aload_n 0, 1) (List.mem_of_getElem? (i := 10) rfl)) rfl ?_
    refine y_iln (e_203 (19, .iload_n 1, 1) (List.mem_of_getElem? (i := 11) rfl)) rfl ?_
    refine y_iln (e_203 (20, .iload_n 2, 1) (List.mem_of_getElem? (i := 12) rfl)) rfl ?_
    refine y_c3 (K' := fun r G' => G' = G ∧ ∃ z, r = some (.int z) ∧ (0 ≤ z.toInt → ∃ n, w_r f (f (73 + m.toInt.toNat)) to n (f (135 + m.toInt.toNat)) (f 81))) (e_203 (21, .invokevirtual 297, 3) (List.mem_of_getElem? (i := 13) rfl)) ⟨rfl, rfl, rfl⟩ t_17_297 ⟨by decide, by decide, by decide, by decide⟩ m_204_ok rfl (by decide) (y_recv hI ta ⟨rfl, rfl⟩) (Nat.le_of_ble_eq_true rfl) (Nat.le_of_ble_eq_true rfl) (g_hoursTo hV hm) (fun r1 G1 h1 => ?_)
    obtain ⟨rfl, z, rfl, hz⟩ := h1
    simp only [Option.toList_some, Option.toList_none, List.cons_append, List.nil_append]
    refine y_ifc (e_203 (24, .ifCond .ge 7, 3) (List.mem_of_getElem? (i := 14) rfl)) rfl (fun b1 => ?_) (fun b1 => ?_)
    · refine y_st (e_203 (31, .iconst 0, 1) (List.mem_of_getElem? (i := 17) rfl)) ⟨rfl, rfl, rfl, rfl⟩ ?_
      refine y_ret (e_203 (32, .ireturn, 1) (List.mem_of_getElem? (i := 18) rfl)) ⟨rfl, y_ri⟩ ⟨rfl, _, rfl, fun _ => hz (y_hI.2.2.2.2.1 b1)⟩
    · refine y_st (e_203 (27, .iconst 2, 1) (List.mem_of_getElem? (i := 15) rfl)) ⟨rfl, rfl, rfl, rfl⟩ ?_
      refine y_st (e_203 (28, .goto 4, 3) (List.mem_of_getElem? (i := 16) rfl)) ⟨rfl, rfl, rfl, rfl⟩ ?_
      refine y_ret (e_203 (32, .ireturn, 1) (List.mem_of_getElem? (i := 18) rfl)) ⟨rfl, y_ri⟩ ⟨rfl, _, rfl, fun h => absurd h (by decide)⟩
  · refine y_st (e_203 (14, .iconst 1, 1) (List.mem_of_getElem? (i := 8) rfl)) ⟨rfl, rfl, rfl, rfl⟩ ?_
    refine y_st (e_203 (15, .goto 17, 3) (List.mem_of_getElem? (i := 9) rfl)) ⟨rfl, rfl, rfl, rfl⟩ ?_
    refine y_ret (e_203 (32, .ireturn, 1) (List.mem_of_getElem? (i := 18) rfl)) ⟨rfl, y_ri⟩ ⟨rfl, _, rfl, fun h => absurd h (by decide)⟩
