def m_47 : pM := (⟨"BreathingHill$Hill", "copyFrom", "(LBreathingHill$Hill;)V"⟩, 695, 3, none, 4, 1, false, 0, 96, 693, 694)
set_option maxRecDepth 100000 in
theorem m_47_ok : pm_tab[47]? = some m_47 := rfl
theorem e_47 : ∀ q ∈ d_47, decode m_47.code q.1 = .ok (q.2.1, q.2.2) := y_dec d_47_ok m_47_ok
def m_48 : pM := (⟨"BreathingHill$Land", "copyFrom", "(LBreathingHill$Land;)V"⟩, 699, 3, none, 5, 1, false, 1, 97, 697, 698)
set_option maxRecDepth 100000 in
theorem m_48_ok : pm_tab[48]? = some m_48 := rfl
theorem e_48 : ∀ q ∈ d_48, decode m_48.code q.1 = .ok (q.2.1, q.2.2) := y_dec d_48_ok m_48_ok
theorem t_4_55 : pm_ctab.find? (fun r => r.1 == 4 && r.2.1 == 55) = some (4, 55, 1, 48, 696) := by decide +kernel
/-- what a hill's block holds of its LAND: by cell of the block and slot -/
def h_rel (c i : Nat) : Bool := (c == 0 && decide (4 ≤ i) && decide (i ≤ 6)) || (c == 1 && decide (2 ≤ i) && decide (i ≤ 5)) || (c == 2 && decide (i < 2)) || (decide (3 ≤ c) && decide (c ≤ 6) && decide (i < 4))
def h_mod (c i : Nat) : Bool := h_rel c i || (c == 0 && i == 7)
def HT (h : Nat) : Prop := th0[h]? = some 0 ∧ th0[h + 1]? = some 1 ∧ th0[h + 2]? = some 14 ∧ th0[h + 3]? = some 15 ∧ th0[h + 4]? = some 16 ∧ th0[h + 5]? = some 17 ∧ th0[h + 6]? = some 18
def HPt (h : Nat) (G : List pE) : Prop := x_sl G h 0 = some (.ref (h + 1)) ∧ x_sl G (h + 1) 0 = some (.ref (h + 2)) ∧ x_sl G (h + 1) 1 = some (.ref (h + 3)) ∧ x_sl G (h + 1) 6 = some (.ref (h + 4)) ∧ x_sl G (h + 1) 7 = some (.ref (h + 5)) ∧ x_sl G (h + 1) 8 = some (.ref (h + 6))
def CH (h h' : Nat) (G0 : List pE) : Prop := HT h ∧ HT h' ∧ HPt h G0 ∧ HPt h' G0 ∧ (h + 25 < h' ∨ h' + 25 < h)
def CI (h h' : Nat) (G0 : List pE) (D : Nat → Nat → Bool) (G : List pE) : Prop := xI x_tb th0 G ∧ (∀ c i, c < h ∨ h + 6 < c → x_sl G c i = x_sl G0 c i) ∧ (∀ c i, h_mod c i = false → x_sl G (h + c) i = x_sl G0 (h + c) i) ∧ (∀ c i, D c i = true → x_sl G (h + c) i = x_sl G0 (h' + c) i)
def m_49 : pM := (⟨"BreathingHill$Thing", "copyFrom", "(LBreathingHill$Thing;)V"⟩, 703, 2, none, 6, 1, false, 8, 98, 701, 702)
set_option maxRecDepth 100000 in
theorem m_49_ok : pm_tab[49]? = some m_49 := rfl
theorem e_49 : ∀ q ∈ d_49, decode m_49.code q.1 = .ok (q.2.1, q.2.2) := y_dec d_49_ok m_49_ok
def m_50 : pM := (⟨"BreathingHill$Mill", "copyFrom", "(LBreathingHill$Mill;)V"⟩, 707, 2, none, 7, 1, false, 5, 99, 705, 706)
set_option maxRecDepth 100000 in
theorem m_50_ok : pm_tab[50]? = some m_50 := rfl
theorem e_50 : ∀ q ∈ d_50, decode m_50.code q.1 = .ok (q.2.1, q.2.2) := y_dec d_50_ok m_50_ok
def m_51 : pM := (⟨"BreathingHill$Man", "copyFrom", "(LBreathingHill$Man;)V"⟩, 711, 2, none, 8, 1, false, 4, 100, 709, 710)
set_option maxRecDepth 100000 in
theorem m_51_ok : pm_tab[51]? = some m_51 := rfl
theorem e_51 : ∀ q ∈ d_51, decode m_51.code q.1 = .ok (q.2.1, q.2.2) := y_dec d_51_ok m_51_ok
theorem t_4_59 : pm_ctab.find? (fun r => r.1 == 4 && r.2.1 == 59) = some (4, 59, 1, 49, 700) := by decide +kernel
theorem t_4_62 : pm_ctab.find? (fun r => r.1 == 4 && r.2.1 == 62) = some (4, 62, 1, 50, 704) := by decide +kernel
theorem t_4_65 : pm_ctab.find? (fun r => r.1 == 4 && r.2.1 == 65) = some (4, 65, 1, 51, 708) := by decide +kernel
/-- the things, mills and men of a hill -/
def HN (h : Nat) : Prop := th0[h + 7]? = some 11 ∧ th0[h + 8]? = some 12 ∧ th0[h + 9]? = some 13 ∧ (∀ i, i < 8 → th0[h + 10 + i]? = some 8) ∧ (∀ i, i < 4 → th0[h + 18 + i]? = some 5) ∧ ∀ i, i < 4 → th0[h + 22 + i]? = some 4
def HPn (h : Nat) (G : List pE) : Prop := x_sl G h 1 = some (.ref (h + 7)) ∧ x_sl G h 2 = some (.ref (h + 8)) ∧ x_sl G h 3 = some (.ref (h + 9)) ∧ (∀ i, i < 8 → x_sl G (h + 7) i = some (.ref (h + 10 + i))) ∧ (∀ i, i < 4 → x_sl G (h + 8) i = some (.ref (h + 18 + i))) ∧ ∀ i, i < 4 → x_sl G (h + 9) i = some (.ref (h + 22 + i))
def KS (lo n : Nat) (G0 : List pE) (h h' j : Nat) (G : List pE) : Prop := xI x_tb th0 G ∧ (∀ c i, c < h + lo ∨ h + lo + n ≤ c → x_sl G c i = x_sl G0 c i) ∧ ∀ i, i < j → x_sl G (h + lo + i) 0 = x_sl G0 (h' + lo + i) 0
section KN
variable {xs : Nat → Int32} {L J d : Nat} {K : Option Value → List pE → Prop} {lv : pL} {G G0 G1 : List pE} {h h' : Nat}
set_option maxHeartbeats 2000000 in
set_option maxRecDepth 100000 in
theorem k_el8 {a b : Nat} (hab : a ≠ b) (ta : th0[a]? = some 8) (tb : th0[b]? = some 8) (hI : xI x_tb th0 G) : x_Gd xs L J d m_49 (fun r G' => r = none ∧ xI x_tb th0 G' ∧ (∀ c i, c ≠ a → x_sl G' c i = x_sl G c i) ∧ x_sl G' a 0 = x_sl G b 0) 0 (lv_args 0 [.ref a, .ref b]) [] G := by
  have g0 : pm_get (lv_args 0 [.ref a, .ref b]) 0 = some (.ref a) := rfl
  have g1 : pm_get (lv_args 0 [.ref a, .ref b]) 1 = some (.ref b) := rfl
  generalize lv_args 0 [.ref a, .ref b] = lv at g0 g1 ⊢
  have O0 : ∀ c i, c ≠ a → x_sl G c i = x_sl G c i := fun _ _ _ => rfl
  obtain ⟨v0, e0, o0⟩ := (hI.2.2 b 8 tb).2 0 _ rfl
  refine y_aln (e_49 (0, .aload_n 0, 1) (List.mem_of_getElem? (i := 0) rfl)) g0 ?_
  refine y_aln (e_49 (1, .aload_n 1, 1) (List.mem_of_getElem? (i := 1) rfl)) g1 ?_
  refine y_getf hI tb (e_49 (2, .getfield 9, 3) (List.mem_of_getElem? (i := 2) rfl)) u_6_9 ⟨rfl, rfl⟩ ((O0 b 0 hab.symm).trans e0) ?_
  refine y_putf (f := (1, 0, 0)) hI ta (e_49 (5, .putfield 9, 3) (List.mem_of_getElem? (i := 3) rfl)) u_6_9 ⟨rfl, rfl, by decide, rfl, rfl⟩ o0 (fun G1 u1 => ?_)
  have hI1 : xI x_tb th0 G1 := hI.upd u1 ta (fun f hf => by cases hf; exact o0)
  have O1 : ∀ c i, c ≠ a → x_sl G1 c i = x_sl G c i := fun c i hc => by rw [u1.2.1, if_neg (fun z => hc z.1)]
  have z1 : x_sl G1 a 0 = x_sl G b 0 := by rw [u1.2.1, if_pos ⟨rfl, rfl⟩]; exact e0.symm
  obtain ⟨v1, e1, o1⟩ := (hI.2.2 b 8 tb).2 1 _ rfl
  refine y_aln (e_49 (8, .aload_n 0, 1) (List.mem_of_getElem? (i := 4) rfl)) g0 ?_
  refine y_aln (e_49 (9, .aload_n 1, 1) (List.mem_of_getElem? (i := 5) rfl)) g1 ?_
  refine y_getf hI1 tb (e_49 (10, .getfield 15, 3) (List.mem_of_getElem? (i := 6) rfl)) u_6_15 ⟨rfl, rfl⟩ ((O1 b 1 hab.symm).trans e1) ?_
  refine y_putf (f := (0, -2147483648, 2147483647)) hI1 ta (e_49 (13, .putfield 15, 3) (List.mem_of_getElem? (i := 7) rfl)) u_6_15 ⟨rfl, rfl, by decide, rfl, rfl⟩ o1 (fun G2 u2 => ?_)
  have hI2 : xI x_tb th0 G2 := hI1.upd u2 ta (fun f hf => by cases hf; exact o1)
  have O2 : ∀ c i, c ≠ a → x_sl G2 c i = x_sl G c i := fun c i hc => by rw [u2.2.1, if_neg (fun z => hc z.1)]; exact O1 c i hc
  have z2 : x_sl G2 a 0 = x_sl G b 0 := by rw [u2.2.1, if_neg (fun z => absurd z.2 (by decide))]; exact z1
  obtain ⟨v2, e2, o2⟩ := (hI.2.2 b 8 tb).2 2 _ rfl
  refine y_aln (e_49 (16, .aload_n 0, 1) (List.mem_of_getElem? (i := 8) rfl)) g0 ?_
  refine y_aln (e_49 (17, .aload_n 1, 1) (List.mem_of_getElem? (i := 9) rfl)) g1 ?_
  refine y_getf hI2 tb (e_49 (18, .getfield 19, 3) (List.mem_of_getElem? (i := 10) rfl)) u_6_19 ⟨rfl, rfl⟩ ((O2 b 2 hab.symm).trans e2) ?_
  refine y_putf (f := (0, -2147483648, 2147483647)) hI2 ta (e_49 (21, .putfield 19, 3) (List.mem_of_getElem? (i := 11) rfl)) u_6_19 ⟨rfl, rfl, by decide, rfl, rfl⟩ o2 (fun G3 u3 => ?_)
  have hI3 : xI x_tb th0 G3 := hI2.upd u3 ta (fun f hf => by cases hf; exact o2)
  have O3 : ∀ c i, c ≠ a → x_sl G3 c i = x_sl G c i := fun c i hc => by rw [u3.2.1, if_neg (fun z => hc z.1)]; exact O2 c i hc
  have z3 : x_sl G3 a 0 = x_sl G b 0 := by rw [u3.2.1, if_neg (fun z => absurd z.2 (by decide))]; exact z2
  obtain ⟨v3, e3, o3⟩ := (hI.2.2 b 8 tb).2 3 _ rfl
  refine y_aln (e_49 (24, .aload_n 0, 1) (List.mem_of_getElem? (i := 12) rfl)) g0 ?_
  refine y_aln (e_49 (25, .aload_n 1, 1) (List.mem_of_getElem? (i := 13) rfl)) g1 ?_
  refine y_getf hI3 tb (e_49 (26, .getfield 22, 3) (List.mem_of_getElem? (i := 14) rfl)) u_6_22 ⟨rfl, rfl⟩ ((O3 b 3 hab.symm).trans e3) ?_
  refine y_putf (f := (0, -2147483648, 2147483647)) hI3 ta (e_49 (29, .putfield 22, 3) (List.mem_of_getElem? (i := 15) rfl)) u_6_22 ⟨rfl, rfl, by decide, rfl, rfl⟩ o3 (fun G4 u4 => ?_)
  have hI4 : xI x_tb th0 G4 := hI3.upd u4 ta (fun f hf => by cases hf; exact o3)
  have O4 : ∀ c i, c ≠ a → x_sl G4 c i = x_sl G c i := fun c i hc => by rw [u4.2.1, if_neg (fun z => hc z.1)]; exact O3 c i hc
  have z4 : x_sl G4 a 0 = x_sl G b 0 := by rw [u4.2.1, if_neg (fun z => absurd z.2 (by decide))]; exact z3
  obtain ⟨v4, e4, o4⟩ := (hI.2.2 b 8 tb).2 4 _ rfl
  refine y_aln (e_49 (32, .aload_n 0, 1) (List.mem_of_getElem? (i := 16) rfl)) g0 ?_
  refine y_aln (e_49 (33, .aload_n 1, 1) (List.mem_of_getElem? (i := 17) rfl)) g1 ?_
  refine y_getf hI4 tb (e_49 (34, .getfield 25, 3) (List.mem_of_getElem? (i := 18) rfl)) u_6_25 ⟨rfl, rfl⟩ ((O4 b 4 hab.symm).trans e4) ?_
  refine y_putf (f := (0, -2147483648, 2147483647)) hI4 ta (e_49 (37, .putfield 25, 3) (List.mem_of_getElem? (i := 19) rfl)) u_6_25 ⟨rfl, rfl, by decide, rfl, rfl⟩ o4 (fun G5 u5 => ?_)
  have hI5 : xI x_tb th0 G5 := hI4.upd u5 ta (fun f hf => by cases hf; exact o4)
  have O5 : ∀ c i, c ≠ a → x_sl G5 c i = x_sl G c i := fun c i hc => by rw [u5.2.1, if_neg (fun z => hc z.1)]; exact O4 c i hc
  have z5 : x_sl G5 a 0 = x_sl G b 0 := by rw [u5.2.1, if_neg (fun z => absurd z.2 (by decide))]; exact z4
  obtain ⟨v5, e5, o5⟩ := (hI.2.2 b 8 tb).2 5 _ rfl
  refine y_aln (e_49 (40, .aload_n 0, 1) (List.mem_of_getElem? (i := 20) rfl)) g0 ?_
  refine y_aln (e_49 (41, .aload_n 1, 1) (List.mem_of_getElem? (i := 21) rfl)) g1 ?_
  refine y_getf hI5 tb (e_49 (42, .getfield 28, 3) (List.mem_of_getElem? (i := 22) rfl)) u_6_28 ⟨rfl, rfl⟩ ((O5 b 5 hab.symm).trans e5) ?_
  refine y_putf (f := (0, -2147483648, 2147483647)) hI5 ta (e_49 (45, .putfield 28, 3) (List.mem_of_getElem? (i := 23) rfl)) u_6_28 ⟨rfl, rfl, by decide, rfl, rfl⟩ o5 (fun G6 u6 => ?_)
  have hI6 : xI x_tb th0 G6 := hI5.upd u6 ta (fun f hf => by cases hf; exact o5)
  have O6 : ∀ c i, c ≠ a → x_sl G6 c i = x_sl G c i := fun c i hc => by rw [u6.2.1, if_neg (fun z => hc z.1)]; exact O5 c i hc
  have z6 : x_sl G6 a 0 = x_sl G b 0 := by rw [u6.2.1, if_neg (fun z => absurd z.2 (by decide))]; exact z5
  obtain ⟨v6, e6, o6⟩ := (hI.2.2 b 8 tb).2 6 _ rfl
  refine y_aln (e_49 (48, .aload_n 0, 1) (List.mem_of_getElem? (i := 24) rfl)) g0 ?_
  refine y_aln (e_49 (49, .aload_n 1, 1) (List.mem_of_getElem? (i := 25) rfl)) g1 ?_
  refine y_getf hI6 tb (e_49 (50, .getfield 31, 3) (List.mem_of_getElem? (i := 26) rfl)) u_6_31 ⟨rfl, rfl⟩ ((O6 b 6 hab.symm).trans e6) ?_
  refine y_putf (f := (0, -2147483648, 2147483647)) hI6 ta (e_49 (53, .putfield 31, 3) (List.mem_of_getElem? (i := 27) rfl)) u_6_31 ⟨rfl, rfl, by decide, rfl, rfl⟩ o6 (fun G7 u7 => ?_)
  have hI7 : xI x_tb th0 G7 := hI6.upd u7 ta (fun f hf => by cases hf; exact o6)
  have O7 : ∀ c i, c ≠ a → x_sl G7 c i = x_sl G c i := fun c i hc => by rw [u7.2.1, if_neg (fun z => hc z.1)]; exact O6 c i hc
  have z7 : x_sl G7 a 0 = x_sl G b 0 := by rw [u7.2.1, if_neg (fun z => absurd z.2 (by decide))]; exact z6
  obtain ⟨v7, e7, o7⟩ := (hI.2.2 b 8 tb).2 7 _ rfl
  refine y_aln (e_49 (56, .aload_n 0, 1) (List.mem_of_getElem? (i := 28) rfl)) g0 ?_
  refine y_aln (e_49 (57, .aload_n 1, 1) (List.mem_of_getElem? (i := 29) rfl)) g1 ?_
  refine y_getf hI7 tb (e_49 (58, .getfield 34, 3) (List.mem_of_getElem? (i := 30) rfl)) u_6_34 ⟨rfl, rfl⟩ ((O7 b 7 hab.symm).trans e7) ?_
  refine y_putf (f := (0, -2147483648, 2147483647)) hI7 ta (e_49 (61, .putfield 34, 3) (List.mem_of_getElem? (i := 31) rfl)) u_6_34 ⟨rfl, rfl, by decide, rfl, rfl⟩ o7 (fun G8 u8 => ?_)
  have hI8 : xI x_tb th0 G8 := hI7.upd u8 ta (fun f hf => by cases hf; exact o7)
  have O8 : ∀ c i, c ≠ a → x_sl G8 c i = x_sl G c i := fun c i hc => by rw [u8.2.1, if_neg (fun z => hc z.1)]; exact O7 c i hc
  have z8 : x_sl G8 a 0 = x_sl G b 0 := by rw [u8.2.1, if_neg (fun z => absurd z.2 (by decide))]; exact z7
  obtain ⟨v8, e8, o8⟩ := (hI.2.2 b 8 tb).2 8 _ rfl
  refine y_aln (e_49 (64, .aload_n 0, 1) (List.mem_of_getElem? (i := 32) rfl)) g0 ?_
  refine y_aln (e_49 (65, .aload_n 1, 1) (List.mem_of_getElem? (i := 33) rfl)) g1 ?_
  refine y_getf hI8 tb (e_49 (66, .getfield 37, 3) (List.mem_of_getElem? (i := 34) rfl)) u_6_37 ⟨rfl, rfl⟩ ((O8 b 8 hab.symm).trans e8) ?_
  refine y_putf (f := (0, 0, 1)) hI8 ta (e_49 (69, .putfield 37, 3) (List.mem_of_getElem? (i := 35) rfl)) u_6_37 ⟨rfl, rfl, by decide, rfl, rfl⟩ o8 (fun G9 u9 => ?_)
  have hI9 : xI x_tb th0 G9 := hI8.upd u9 ta (fun f hf => by cases hf; exact o8)
  have O9 : ∀ c i, c ≠ a → x_sl G9 c i = x_sl G c i := fun c i hc => by rw [u9.2.1, if_neg (fun z => hc z.1)]; exact O8 c i hc
  have z9 : x_sl G9 a 0 = x_sl G b 0 := by rw [u9.2.1, if_neg (fun z => absurd z.2 (by decide))]; exact z8
  obtain ⟨v9, e9, o9⟩ := (hI.2.2 b 8 tb).2 9 _ rfl
  refine y_aln (e_49 (72, .aload_n 0, 1) (List.mem_of_getElem? (i := 36) rfl)) g0 ?_
  refine y_aln (e_49 (73, .aload_n 1, 1) (List.mem_of_getElem? (i := 37) rfl)) g1 ?_
  refine y_getf hI9 tb (e_49 (74, .getfield 41, 3) (List.mem_of_getElem? (i := 38) rfl)) u_6_41 ⟨rfl, rfl⟩ ((O9 b 9 hab.symm).trans e9) ?_
  refine y_putf (f := (0, -2147483648, 2147483647)) hI9 ta (e_49 (77, .putfield 41, 3) (List.mem_of_getElem? (i := 39) rfl)) u_6_41 ⟨rfl, rfl, by decide, rfl, rfl⟩ o9 (fun G10 u10 => ?_)
  have hI10 : xI x_tb th0 G10 := hI9.upd u10 ta (fun f hf => by cases hf; exact o9)
  have O10 : ∀ c i, c ≠ a → x_sl G10 c i = x_sl G c i := fun c i hc => by rw [u10.2.1, if_neg (fun z => hc z.1)]; exact O9 c i hc
  have z10 : x_sl G10 a 0 = x_sl G b 0 := by rw [u10.2.1, if_neg (fun z => absurd z.2 (by decide))]; exact z9
  exact y_ret (e_49 (80, .return_, 1) (List.mem_of_getElem? (i := 40) rfl)) ⟨rfl, rfl⟩ ⟨rfl, hI10, O10, z10⟩
set_option maxHeartbeats 2000000 in
set_option maxRecDepth 100000 in
theorem k_el5 {a b : Nat} (hab : a ≠ b) (ta : th0[a]? = some 5) (tb : th0[b]? = some 5) (hI : xI x_tb th0 G) : x_Gd xs L J d m_50 (fun r G' => r = none ∧ xI x_tb th0 G' ∧ (∀ c i, c ≠ a → x_sl G' c i = x_sl G c i) ∧ x_sl G' a 0 = x_sl G b 0) 0 (lv_args 0 [.ref a, .ref b]) [] G := by
  have g0 : pm_get (lv_args 0 [.ref a, .ref b]) 0 = some (.ref a) := rfl
  have g1 : pm_get (lv_args 0 [.ref a, .ref b]) 1 = some (.ref b) := rfl
  generalize lv_args 0 [.ref a, .ref b] = lv at g0 g1 ⊢
  have O0 : ∀ c i, c ≠ a → x_sl G c i = x_sl G c i := fun _ _ _ => rfl
  obtain ⟨v0, e0, o0⟩ := (hI.2.2 b 5 tb).2 0 _ rfl
  refine y_aln (e_50 (0, .aload_n 0, 1) (List.mem_of_getElem? (i := 0) rfl)) g0 ?_
  refine y_aln (e_50 (1, .aload_n 1, 1) (List.mem_of_getElem? (i := 1) rfl)) g1 ?_
  refine y_getf hI tb (e_50 (2, .getfield 9, 3) (List.mem_of_getElem? (i := 2) rfl)) u_7_9 ⟨rfl, rfl⟩ ((O0 b 0 hab.symm).trans e0) ?_
  refine y_putf (f := (1, 0, 0)) hI ta (e_50 (5, .putfield 9, 3) (List.mem_of_getElem? (i := 3) rfl)) u_7_9 ⟨rfl, rfl, by decide, rfl, rfl⟩ o0 (fun G1 u1 => ?_)
  have hI1 : xI x_tb th0 G1 := hI.upd u1 ta (fun f hf => by cases hf; exact o0)
  have O1 : ∀ c i, c ≠ a → x_sl G1 c i = x_sl G c i := fun c i hc => by rw [u1.2.1, if_neg (fun z => hc z.1)]
  have z1 : x_sl G1 a 0 = x_sl G b 0 := by rw [u1.2.1, if_pos ⟨rfl, rfl⟩]; exact e0.symm
  obtain ⟨v1, e1, o1⟩ := (hI.2.2 b 5 tb).2 1 _ rfl
  refine y_aln (e_50 (8, .aload_n 0, 1) (List.mem_of_getElem? (i := 4) rfl)) g0 ?_
  refine y_aln (e_50 (9, .aload_n 1, 1) (List.mem_of_getElem? (i := 5) rfl)) g1 ?_
  refine y_getf hI1 tb (e_50 (10, .getfield 15, 3) (List.mem_of_getElem? (i := 6) rfl)) u_7_15 ⟨rfl, rfl⟩ ((O1 b 1 hab.symm).trans e1) ?_
  refine y_putf (f := (0, -2147483648, 2147483647)) hI1 ta (e_50 (13, .putfield 15, 3) (List.mem_of_getElem? (i := 7) rfl)) u_7_15 ⟨rfl, rfl, by decide, rfl, rfl⟩ o1 (fun G2 u2 => ?_)
  have hI2 : xI x_tb th0 G2 := hI1.upd u2 ta (fun f hf => by cases hf; exact o1)
  have O2 : ∀ c i, c ≠ a → x_sl G2 c i = x_sl G c i := fun c i hc => by rw [u2.2.1, if_neg (fun z => hc z.1)]; exact O1 c i hc
  have z2 : x_sl G2 a 0 = x_sl G b 0 := by rw [u2.2.1, if_neg (fun z => absurd z.2 (by decide))]; exact z1
  obtain ⟨v2, e2, o2⟩ := (hI.2.2 b 5 tb).2 2 _ rfl
  refine y_aln (e_50 (16, .aload_n 0, 1) (List.mem_of_getElem? (i := 8) rfl)) g0 ?_
  refine y_aln (e_50 (17, .aload_n 1, 1) (List.mem_of_getElem? (i := 9) rfl)) g1 ?_
  refine y_getf hI2 tb (e_50 (18, .getfield 19, 3) (List.mem_of_getElem? (i := 10) rfl)) u_7_19 ⟨rfl, rfl⟩ ((O2 b 2 hab.symm).trans e2) ?_
  refine y_putf (f := (0, -2147483648, 2147483647)) hI2 ta (e_50 (21, .putfield 19, 3) (List.mem_of_getElem? (i := 11) rfl)) u_7_19 ⟨rfl, rfl, by decide, rfl, rfl⟩ o2 (fun G3 u3 => ?_)
  have hI3 : xI x_tb th0 G3 := hI2.upd u3 ta (fun f hf => by cases hf; exact o2)
  have O3 : ∀ c i, c ≠ a → x_sl G3 c i = x_sl G c i := fun c i hc => by rw [u3.2.1, if_neg (fun z => hc z.1)]; exact O2 c i hc
  have z3 : x_sl G3 a 0 = x_sl G b 0 := by rw [u3.2.1, if_neg (fun z => absurd z.2 (by decide))]; exact z2
  obtain ⟨v3, e3, o3⟩ := (hI.2.2 b 5 tb).2 3 _ rfl
  refine y_aln (e_50 (24, .aload_n 0, 1) (List.mem_of_getElem? (i := 12) rfl)) g0 ?_
  refine y_aln (e_50 (25, .aload_n 1, 1) (List.mem_of_getElem? (i := 13) rfl)) g1 ?_
  refine y_getf hI3 tb (e_50 (26, .getfield 22, 3) (List.mem_of_getElem? (i := 14) rfl)) u_7_22 ⟨rfl, rfl⟩ ((O3 b 3 hab.symm).trans e3) ?_
  refine y_putf (f := (0, -2147483648, 2147483647)) hI3 ta (e_50 (29, .putfield 22, 3) (List.mem_of_getElem? (i := 15) rfl)) u_7_22 ⟨rfl, rfl, by decide, rfl, rfl⟩ o3 (fun G4 u4 => ?_)
  have hI4 : xI x_tb th0 G4 := hI3.upd u4 ta (fun f hf => by cases hf; exact o3)
  have O4 : ∀ c i, c ≠ a → x_sl G4 c i = x_sl G c i := fun c i hc => by rw [u4.2.1, if_neg (fun z => hc z.1)]; exact O3 c i hc
  have z4 : x_sl G4 a 0 = x_sl G b 0 := by rw [u4.2.1, if_neg (fun z => absurd z.2 (by decide))]; exact z3
  exact y_ret (e_50 (32, .return_, 1) (List.mem_of_getElem? (i := 16) rfl)) ⟨rfl, rfl⟩ ⟨rfl, hI4, O4, z4⟩
set_option maxHeartbeats 2000000 in
set_option maxRecDepth 100000 in
theorem k_el4 {a b : Nat} (hab : a ≠ b) (ta : th0[a]? = some 4) (tb : th0[b]? = some 4) (hI : xI x_tb th0 G) : x_Gd xs L J d m_51 (fun r G' => r = none ∧ xI x_tb th0 G' ∧ (∀ c i, c ≠ a → x_sl G' c i = x_sl G c i) ∧ x_sl G' a 0 = x_sl G b 0) 0 (lv_args 0 [.ref a, .ref b]) [] G := by
  have g0 : pm_get (lv_args 0 [.ref a, .ref b]) 0 = some (.ref a) := rfl
  have g1 : pm_get (lv_args 0 [.ref a, .ref b]) 1 = some (.ref b) := rfl
  generalize lv_args 0 [.ref a, .ref b] = lv at g0 g1 ⊢
  have O0 : ∀ c i, c ≠ a → x_sl G c i = x_sl G c i := fun _ _ _ => rfl
  obtain ⟨v0, e0, o0⟩ := (hI.2.2 b 4 tb).2 0 _ rfl
  refine y_aln (e_51 (0, .aload_n 0, 1) (List.mem_of_getElem? (i := 0) rfl)) g0 ?_
  refine y_aln (e_51 (1, .aload_n 1, 1) (List.mem_of_getElem? (i := 1) rfl)) g1 ?_
  refine y_getf hI tb (e_51 (2, .getfield 9, 3) (List.mem_of_getElem? (i := 2) rfl)) u_8_9 ⟨rfl, rfl⟩ ((O0 b 0 hab.symm).trans e0) ?_
  refine y_putf (f := (1, 0, 0)) hI ta (e_51 (5, .putfield 9, 3) (List.mem_of_getElem? (i := 3) rfl)) u_8_9 ⟨rfl, rfl, by decide, rfl, rfl⟩ o0 (fun G1 u1 => ?_)
  have hI1 : xI x_tb th0 G1 := hI.upd u1 ta (fun f hf => by cases hf; exact o0)
  have O1 : ∀ c i, c ≠ a → x_sl G1 c i = x_sl G c i := fun c i hc => by rw [u1.2.1, if_neg (fun z => hc z.1)]
  have z1 : x_sl G1 a 0 = x_sl G b 0 := by rw [u1.2.1, if_pos ⟨rfl, rfl⟩]; exact e0.symm
  obtain ⟨v1, e1, o1⟩ := (hI.2.2 b 4 tb).2 1 _ rfl
  refine y_aln (e_51 (8, .aload_n 0, 1) (List.mem_of_getElem? (i := 4) rfl)) g0 ?_
  refine y_aln (e_51 (9, .aload_n 1, 1) (List.mem_of_getElem? (i := 5) rfl)) g1 ?_
  refine y_getf hI1 tb (e_51 (10, .getfield 15, 3) (List.mem_of_getElem? (i := 6) rfl)) u_8_15 ⟨rfl, rfl⟩ ((O1 b 1 hab.symm).trans e1) ?_
  refine y_putf (f := (0, -2147483648, 2147483647)) hI1 ta (e_51 (13, .putfield 15, 3) (List.mem_of_getElem? (i := 7) rfl)) u_8_15 ⟨rfl, rfl, by decide, rfl, rfl⟩ o1 (fun G2 u2 => ?_)
  have hI2 : xI x_tb th0 G2 := hI1.upd u2 ta (fun f hf => by cases hf; exact o1)
  have O2 : ∀ c i, c ≠ a → x_sl G2 c i = x_sl G c i := fun c i hc => by rw [u2.2.1, if_neg (fun z => hc z.1)]; exact O1 c i hc
  have z2 : x_sl G2 a 0 = x_sl G b 0 := by rw [u2.2.1, if_neg (fun z => absurd z.2 (by decide))]; exact z1
  obtain ⟨v2, e2, o2⟩ := (hI.2.2 b 4 tb).2 2 _ rfl
  refine y_aln (e_51 (16, .aload_n 0, 1) (List.mem_of_getElem? (i := 8) rfl)) g0 ?_
  refine y_aln (e_51 (17, .aload_n 1, 1) (List.mem_of_getElem? (i := 9) rfl)) g1 ?_
  refine y_getf hI2 tb (e_51 (18, .getfield 19, 3) (List.mem_of_getElem? (i := 10) rfl)) u_8_19 ⟨rfl, rfl⟩ ((O2 b 2 hab.symm).trans e2) ?_
  refine y_putf (f := (0, -2147483648, 2147483647)) hI2 ta (e_51 (21, .putfield 19, 3) (List.mem_of_getElem? (i := 11) rfl)) u_8_19 ⟨rfl, rfl, by decide, rfl, rfl⟩ o2 (fun G3 u3 => ?_)
  have hI3 : xI x_tb th0 G3 := hI2.upd u3 ta (fun f hf => by cases hf; exact o2)
  have O3 : ∀ c i, c ≠ a → x_sl G3 c i = x_sl G c i := fun c i hc => by rw [u3.2.1, if_neg (fun z => hc z.1)]; exact O2 c i hc
  have z3 : x_sl G3 a 0 = x_sl G b 0 := by rw [u3.2.1, if_neg (fun z => absurd z.2 (by decide))]; exact z2
  obtain ⟨v3, e3, o3⟩ := (hI.2.2 b 4 tb).2 3 _ rfl
  refine y_aln (e_51 (24, .aload_n 0, 1) (List.mem_of_getElem? (i := 12) rfl)) g0 ?_
  refine y_aln (e_51 (25, .aload_n 1, 1) (List.mem_of_getElem? (i := 13) rfl)) g1 ?_
  refine y_getf hI3 tb (e_51 (26, .getfield 22, 3) (List.mem_of_getElem? (i := 14) rfl)) u_8_22 ⟨rfl, rfl⟩ ((O3 b 3 hab.symm).trans e3) ?_
  refine y_putf (f := (0, -2147483648, 2147483647)) hI3 ta (e_51 (29, .putfield 22, 3) (List.mem_of_getElem? (i := 15) rfl)) u_8_22 ⟨rfl, rfl, by decide, rfl, rfl⟩ o3 (fun G4 u4 => ?_)
  have hI4 : xI x_tb th0 G4 := hI3.upd u4 ta (fun f hf => by cases hf; exact o3)
  have O4 : ∀ c i, c ≠ a → x_sl G4 c i = x_sl G c i := fun c i hc => by rw [u4.2.1, if_neg (fun z => hc z.1)]; exact O3 c i hc
  have z4 : x_sl G4 a 0 = x_sl G b 0 := by rw [u4.2.1, if_neg (fun z => absurd z.2 (by decide))]; exact z3
  exact y_ret (e_51 (32, .return_, 1) (List.mem_of_getElem? (i := 16) rfl)) ⟨rfl, rfl⟩ ⟨rfl, hI4, O4, z4⟩
set_option maxHeartbeats 2000000 in
set_option maxRecDepth 100000 in
theorem kc_t {x : Int32} (T : HT h ∧ HT h' ∧ HN h ∧ HN h' ∧ HPn h G0 ∧ HPn h' G0 ∧ (h + 25 < h' ∨ h' + 25 < h)) (hx : x_sl G0 h 4 = some (.int x)) (xr : 0 ≤ x.toInt ∧ x.toInt ≤ 8) (hK : ∀ (G1 : List pE) (lv1 : pL), KS 10 8 G0 h h' x.toInt.toNat G1 → pm_get lv1 0 = some (.ref h) → pm_get lv1 1 = some (.ref h') → x_Gd xs L J (d + 1) m_47 K 74 lv1 [] G1) : ∀ (m : Nat) (G : List pE) (lv : pL) (j : Int32), KS 10 8 G0 h h' j.toInt.toNat G → 0 ≤ j.toInt → j.toInt ≤ x.toInt → (x.toInt - j.toInt).toNat = m → pm_get lv 0 = some (.ref h) → pm_get lv 1 = some (.ref h') → pm_get lv 2 = some (.int j) → x_Gd xs L J (d + 1) m_47 K 45 lv [] G := by
  obtain ⟨T1, T2, ⟨na7, na8, na9, nT, nL, nM⟩, ⟨nb7, nb8, nb9, mT, mL, mM⟩, ⟨p1, p2, p3, pT, pL', pM'⟩, ⟨q1, q2, q3, qT, qL, qM⟩, dis⟩ := T
  intro m
  induction m with
  | zero =>
    intro G lv j R j0 j8 hm g0 g1 g2
    have ej : j.toInt.toNat = x.toInt.toNat := by omega
    refine y_iln (e_47 (45, .iload_n 2, 1) (List.mem_of_getElem? (i := 23) rfl)) g2 ?_
    refine y_aln (e_47 (46, .aload_n 0, 1) (List.mem_of_getElem? (i := 24) rfl)) g0 ?_
    refine y_getf R.1 T1.1 (e_47 (47, .getfield 36, 3) (List.mem_of_getElem? (i := 25) rfl)) u_4_36 ⟨rfl, rfl⟩ ((R.2.1 h 4 (by omega)).trans hx) ?_
    refine y_icm (e_47 (50, .if_icmp .ge 24, 3) (List.mem_of_getElem? (i := 26) rfl)) rfl (fun _ => hK G lv (ej ▸ R) g0 g1) (fun hc => ?_)
    have := y_hI.2.2.2.2.2.1 hc
    omega
  | succ m ih =>
    intro G lv j R j0 j8 hm g0 g1 g2
    refine y_iln (e_47 (45, .iload_n 2, 1) (List.mem_of_getElem? (i := 23) rfl)) g2 ?_
    refine y_aln (e_47 (46, .aload_n 0, 1) (List.mem_of_getElem? (i := 24) rfl)) g0 ?_
    refine y_getf R.1 T1.1 (e_47 (47, .getfield 36, 3) (List.mem_of_getElem? (i := 25) rfl)) u_4_36 ⟨rfl, rfl⟩ ((R.2.1 h 4 (by omega)).trans hx) ?_
    refine y_icm (e_47 (50, .if_icmp .ge 24, 3) (List.mem_of_getElem? (i := 26) rfl)) rfl (fun hc => ?_) (fun _ => ?_)
    · have := y_hI.2.2.2.2.1 hc
      omega
    have jn : j.toInt.toNat < 8 := by omega
    have e1 := y_add1 (t := j) (by omega)
    refine y_aln (e_47 (53, .aload_n 0, 1) (List.mem_of_getElem? (i := 27) rfl)) g0 ?_
    refine y_getf R.1 T1.1 (e_47 (54, .getfield 20, 3) (List.mem_of_getElem? (i := 28) rfl)) u_4_20 ⟨rfl, rfl⟩ ((R.2.1 h 1 (by omega)).trans p1) ?_
    refine y_iln (e_47 (57, .iload_n 2, 1) (List.mem_of_getElem? (i := 29) rfl)) g2 ?_
    refine y_aald R.1 na7 (e_47 (58, .aaload, 1) (List.mem_of_getElem? (i := 30) rfl)) ⟨rfl, by decide⟩ ⟨j0, by show j.toInt < 8; omega⟩ ((R.2.1 _ _ (by omega)).trans (pT _ jn)) ?_
    refine y_aln (e_47 (59, .aload_n 1, 1) (List.mem_of_getElem? (i := 31) rfl)) g1 ?_
    refine y_getf R.1 T2.1 (e_47 (60, .getfield 20, 3) (List.mem_of_getElem? (i := 32) rfl)) u_4_20 ⟨rfl, rfl⟩ ((R.2.1 h' 1 (by omega)).trans q1) ?_
    refine y_iln (e_47 (63, .iload_n 2, 1) (List.mem_of_getElem? (i := 33) rfl)) g2 ?_
    refine y_aald R.1 nb7 (e_47 (64, .aaload, 1) (List.mem_of_getElem? (i := 34) rfl)) ⟨rfl, by decide⟩ ⟨j0, by show j.toInt < 8; omega⟩ ((R.2.1 _ _ (by omega)).trans (qT _ jn)) ?_
    refine y_c2 (K' := _) (e_47 (65, .invokevirtual 59, 3) (List.mem_of_getElem? (i := 35) rfl)) ⟨rfl, rfl, rfl⟩ t_4_59 ⟨by decide, by decide, by decide, by decide⟩ m_49_ok rfl (by decide) (y_recv R.1 (nT _ jn) ⟨rfl, rfl⟩) (Nat.le_of_ble_eq_true rfl) (Nat.le_of_ble_eq_true rfl) (k_el8 (by omega) (nT _ jn) (mT _ jn) R.1) (fun r1 G1 hc1 => ?_)
    obtain ⟨rfl, hI1, O1, z1⟩ := hc1
    simp only [Option.toList_some, Option.toList_none, List.cons_append, List.nil_append]
    refine y_iinc (e_47 (68, .iinc 2 1, 3) (List.mem_of_getElem? (i := 36) rfl)) g2 (by decide) ?_
    refine y_st (e_47 (71, .goto (-26), 3) (List.mem_of_getElem? (i := 37) rfl)) ⟨rfl, rfl, rfl, rfl⟩ ?_
    refine ih G1 _ _ ⟨hI1, fun c i hc => (O1 c i (by omega)).trans (R.2.1 c i hc), fun i hi => ?_⟩ (by omega) (by omega) (by omega) (y_gpr g0 (by decide)) (y_gpr g1 (by decide)) x_get_self
    by_cases e : i = j.toInt.toNat
    · rw [e, z1]
      exact R.2.1 _ _ (by omega)
    · rw [O1 _ _ (by omega)]
      exact R.2.2 i (by omega)
set_option maxHeartbeats 2000000 in
set_option maxRecDepth 100000 in
theorem kc_l {x : Int32} (T : HT h ∧ HT h' ∧ HN h ∧ HN h' ∧ HPn h G0 ∧ HPn h' G0 ∧ (h + 25 < h' ∨ h' + 25 < h)) (hx : x_sl G0 h 5 = some (.int x)) (xr : 0 ≤ x.toInt ∧ x.toInt ≤ 4) (hK : ∀ (G1 : List pE) (lv1 : pL), KS 18 4 G0 h h' x.toInt.toNat G1 → pm_get lv1 0 = some (.ref h) → pm_get lv1 1 = some (.ref h') → x_Gd xs L J (d + 1) m_47 K 105 lv1 [] G1) : ∀ (m : Nat) (G : List pE) (lv : pL) (j : Int32), KS 18 4 G0 h h' j.toInt.toNat G → 0 ≤ j.toInt → j.toInt ≤ x.toInt → (x.toInt - j.toInt).toNat = m → pm_get lv 0 = some (.ref h) → pm_get lv 1 = some (.ref h') → pm_get lv 2 = some (.int j) → x_Gd xs L J (d + 1) m_47 K 76 lv [] G := by
  obtain ⟨T1, T2, ⟨na7, na8, na9, nT, nL, nM⟩, ⟨nb7, nb8, nb9, mT, mL, mM⟩, ⟨p1, p2, p3, pT, pL', pM'⟩, ⟨q1, q2, q3, qT, qL, qM⟩, dis⟩ := T
  intro m
  induction m with
  | zero =>
    intro G lv j R j0 j8 hm g0 g1 g2
    have ej : j.toInt.toNat = x.toInt.toNat := by omega
    refine y_iln (e_47 (76, .iload_n 2, 1) (List.mem_of_getElem? (i := 40) rfl)) g2 ?_
    refine y_aln (e_47 (77, .aload_n 0, 1) (List.mem_of_getElem? (i := 41) rfl)) g0 ?_
    refine y_getf R.1 T1.1 (e_47 (78, .getfield 40, 3) (List.mem_of_getElem? (i := 42) rfl)) u_4_40 ⟨rfl, rfl⟩ ((R.2.1 h 5 (by omega)).trans hx) ?_
    refine y_icm (e_47 (81, .if_icmp .ge 24, 3) (List.mem_of_getElem? (i := 43) rfl)) rfl (fun _ => hK G lv (ej ▸ R) g0 g1) (fun hc => ?_)
    have := y_hI.2.2.2.2.2.1 hc
    omega
  | succ m ih =>
    intro G lv j R j0 j8 hm g0 g1 g2
    refine y_iln (e_47 (76, .iload_n 2, 1) (List.mem_of_getElem? (i := 40) rfl)) g2 ?_
    refine y_aln (e_47 (77, .aload_n 0, 1) (List.mem_of_getElem? (i := 41) rfl)) g0 ?_
    refine y_getf R.1 T1.1 (e_47 (78, .getfield 40, 3) (List.mem_of_getElem? (i := 42) rfl)) u_4_40 ⟨rfl, rfl⟩ ((R.2.1 h 5 (by omega)).trans hx) ?_
    refine y_icm (e_47 (81, .if_icmp .ge 24, 3) (List.mem_of_getElem? (i := 43) rfl)) rfl (fun hc => ?_) (fun _ => ?_)
    · have := y_hI.2.2.2.2.1 hc
      omega
    have jn : j.toInt.toNat < 4 := by omega
    have e1 := y_add1 (t := j) (by omega)
    refine y_aln (e_47 (84, .aload_n 0, 1) (List.mem_of_getElem? (i := 44) rfl)) g0 ?_
    refine y_getf R.1 T1.1 (e_47 (85, .getfield 26, 3) (List.mem_of_getElem? (i := 45) rfl)) u_4_26 ⟨rfl, rfl⟩ ((R.2.1 h 2 (by omega)).trans p2) ?_
    refine y_iln (e_47 (88, .iload_n 2, 1) (List.mem_of_getElem? (i := 46) rfl)) g2 ?_
    refine y_aald R.1 na8 (e_47 (89, .aaload, 1) (List.mem_of_getElem? (i := 47) rfl)) ⟨rfl, by decide⟩ ⟨j0, by show j.toInt < 4; omega⟩ ((R.2.1 _ _ (by omega)).trans (pL' _ jn)) ?_
    refine y_aln (e_47 (90, .aload_n 1, 1) (List.mem_of_getElem? (i := 48) rfl)) g1 ?_
    refine y_getf R.1 T2.1 (e_47 (91, .getfield 26, 3) (List.mem_of_getElem? (i := 49) rfl)) u_4_26 ⟨rfl, rfl⟩ ((R.2.1 h' 2 (by omega)).trans q2) ?_
    refine y_iln (e_47 (94, .iload_n 2, 1) (List.mem_of_getElem? (i := 50) rfl)) g2 ?_
    refine y_aald R.1 nb8 (e_47 (95, .aaload, 1) (List.mem_of_getElem? (i := 51) rfl)) ⟨rfl, by decide⟩ ⟨j0, by show j.toInt < 4; omega⟩ ((R.2.1 _ _ (by omega)).trans (qL _ jn)) ?_
    refine y_c2 (K' := _) (e_47 (96, .invokevirtual 62, 3) (List.mem_of_getElem? (i := 52) rfl)) ⟨rfl, rfl, rfl⟩ t_4_62 ⟨by decide, by decide, by decide, by decide⟩ m_50_ok rfl (by decide) (y_recv R.1 (nL _ jn) ⟨rfl, rfl⟩) (Nat.le_of_ble_eq_true rfl) (Nat.le_of_ble_eq_true rfl) (k_el5 (by omega) (nL _ jn) (mL _ jn) R.1) (fun r1 G1 hc1 => ?_)
    obtain ⟨rfl, hI1, O1, z1⟩ := hc1
    simp only [Option.toList_some, Option.toList_none, List.cons_append, List.nil_append]
    refine y_iinc (e_47 (99, .iinc 2 1, 3) (List.mem_of_getElem? (i := 53) rfl)) g2 (by decide) ?_
    refine y_st (e_47 (102, .goto (-26), 3) (List.mem_of_getElem? (i := 54) rfl)) ⟨rfl, rfl, rfl, rfl⟩ ?_
    refine ih G1 _ _ ⟨hI1, fun c i hc => (O1 c i (by omega)).trans (R.2.1 c i hc), fun i hi => ?_⟩ (by omega) (by omega) (by omega) (y_gpr g0 (by decide)) (y_gpr g1 (by decide)) x_get_self
    by_cases e : i = j.toInt.toNat
    · rw [e, z1]
      exact R.2.1 _ _ (by omega)
    · rw [O1 _ _ (by omega)]
      exact R.2.2 i (by omega)
set_option maxHeartbeats 2000000 in
set_option maxRecDepth 100000 in
theorem kc_m {x : Int32} (T : HT h ∧ HT h' ∧ HN h ∧ HN h' ∧ HPn h G0 ∧ HPn h' G0 ∧ (h + 25 < h' ∨ h' + 25 < h)) (hx : x_sl G0 h 6 = some (.int x)) (xr : 0 ≤ x.toInt ∧ x.toInt ≤ 4) (hK : ∀ (G1 : List pE) (lv1 : pL), KS 22 4 G0 h h' x.toInt.toNat G1 → pm_get lv1 0 = some (.ref h) → pm_get lv1 1 = some (.ref h') → x_Gd xs L J (d + 1) m_47 K 136 lv1 [] G1) : ∀ (m : Nat) (G : List pE) (lv : pL) (j : Int32), KS 22 4 G0 h h' j.toInt.toNat G → 0 ≤ j.toInt → j.toInt ≤ x.toInt → (x.toInt - j.toInt).toNat = m → pm_get lv 0 = some (.ref h) → pm_get lv 1 = some (.ref h') → pm_get lv 2 = some (.int j) → x_Gd xs L J (d + 1) m_47 K 107 lv [] G := by
  obtain ⟨T1, T2, ⟨na7, na8, na9, nT, nL, nM⟩, ⟨nb7, nb8, nb9, mT, mL, mM⟩, ⟨p1, p2, p3, pT, pL', pM'⟩, ⟨q1, q2, q3, qT, qL, qM⟩, dis⟩ := T
  intro m
  induction m with
  | zero =>
    intro G lv j R j0 j8 hm g0 g1 g2
    have ej : j.toInt.toNat = x.toInt.toNat := by omega
    refine y_iln (e_47 (107, .iload_n 2, 1) (List.mem_of_getElem? (i := 57) rfl)) g2 ?_
    refine y_aln (e_47 (108, .aload_n 0, 1) (List.mem_of_getElem? (i := 58) rfl)) g0 ?_
    refine y_getf R.1 T1.1 (e_47 (109, .getfield 43, 3) (List.mem_of_getElem? (i := 59) rfl)) u_4_43 ⟨rfl, rfl⟩ ((R.2.1 h 6 (by omega)).trans hx) ?_
    refine y_icm (e_47 (112, .if_icmp .ge 24, 3) (List.mem_of_getElem? (i := 60) rfl)) rfl (fun _ => hK G lv (ej ▸ R) g0 g1) (fun hc => ?_)
    have := y_hI.2.2.2.2.2.1 hc
    omega
  | succ m ih =>
    intro G lv j R j0 j8 hm g0 g1 g2
    refine y_iln (e_47 (107, .iload_n 2, 1) (List.mem_of_getElem? (i := 57) rfl)) g2 ?_
    refine y_aln (e_47 (108, .aload_n 0, 1) (List.mem_of_getElem? (i := 58) rfl)) g0 ?_
    refine y_getf R.1 T1.1 (e_47 (109, .getfield 43, 3) (List.mem_of_getElem? (i := 59) rfl)) u_4_43 ⟨rfl, rfl⟩ ((R.2.1 h 6 (by omega)).trans hx) ?_
    refine y_icm (e_47 (112, .if_icmp .ge 24, 3) (List.mem_of_getElem? (i := 60) rfl)) rfl (fun hc => ?_) (fun _ => ?_)
    · have := y_hI.2.2.2.2.1 hc
      omega
    have jn : j.toInt.toNat < 4 := by omega
    have e1 := y_add1 (t := j) (by omega)
    refine y_aln (e_47 (115, .aload_n 0, 1) (List.mem_of_getElem? (i := 61) rfl)) g0 ?_
    refine y_getf R.1 T1.1 (e_47 (116, .getfield 32, 3) (List.mem_of_getElem? (i := 62) rfl)) u_4_32 ⟨rfl, rfl⟩ ((R.2.1 h 3 (by omega)).trans p3) ?_
    refine y_iln (e_47 (119, .iload_n 2, 1) (List.mem_of_getElem? (i := 63) rfl)) g2 ?_
    refine y_aald R.1 na9 (e_47 (120, .aaload, 1) (List.mem_of_getElem? (i := 64) rfl)) ⟨rfl, by decide⟩ ⟨j0, by show j.toInt < 4; omega⟩ ((R.2.1 _ _ (by omega)).trans (pM' _ jn)) ?_
    refine y_aln (e_47 (121, .aload_n 1, 1) (List.mem_of_getElem? (i := 65) rfl)) g1 ?_
    refine y_getf R.1 T2.1 (e_47 (122, .getfield 32, 3) (List.mem_of_getElem? (i := 66) rfl)) u_4_32 ⟨rfl, rfl⟩ ((R.2.1 h' 3 (by omega)).trans q3) ?_
    refine y_iln (e_47 (125, .iload_n 2, 1) (List.mem_of_getElem? (i := 67) rfl)) g2 ?_
    refine y_aald R.1 nb9 (e_47 (126, .aaload, 1) (List.mem_of_getElem? (i := 68) rfl)) ⟨rfl, by decide⟩ ⟨j0, by show j.toInt < 4; omega⟩ ((R.2.1 _ _ (by omega)).trans (qM _ jn)) ?_
    refine y_c2 (K' := _) (e_47 (127, .invokevirtual 65, 3) (List.mem_of_getElem? (i := 69) rfl)) ⟨rfl, rfl, rfl⟩ t_4_65 ⟨by decide, by decide, by decide, by decide⟩ m_51_ok rfl (by decide) (y_recv R.1 (nM _ jn) ⟨rfl, rfl⟩) (Nat.le_of_ble_eq_true rfl) (Nat.le_of_ble_eq_true rfl) (k_el4 (by omega) (nM _ jn) (mM _ jn) R.1) (fun r1 G1 hc1 => ?_)
    obtain ⟨rfl, hI1, O1, z1⟩ := hc1
    simp only [Option.toList_some, Option.toList_none, List.cons_append, List.nil_append]
    refine y_iinc (e_47 (130, .iinc 2 1, 3) (List.mem_of_getElem? (i := 70) rfl)) g2 (by decide) ?_
    refine y_st (e_47 (133, .goto (-26), 3) (List.mem_of_getElem? (i := 71) rfl)) ⟨rfl, rfl, rfl, rfl⟩ ?_
    refine ih G1 _ _ ⟨hI1, fun c i hc => (O1 c i (by omega)).trans (R.2.1 c i hc), fun i hi => ?_⟩ (by omega) (by omega) (by omega) (y_gpr g0 (by decide)) (y_gpr g1 (by decide)) x_get_self
    by_cases e : i = j.toInt.toNat
    · rw [e, z1]
      exact R.2.1 _ _ (by omega)
    · rw [O1 _ _ (by omega)]
      exact R.2.2 i (by omega)
end KN
section CP
variable {xs : Nat → Int32} {L J d : Nat} {K : Option Value → List pE → Prop} {lv : pL} {G G0 G1 : List pE} {h h' : Nat} {D : Nat → Nat → Bool}
theorem x_src {th : List Nat} {c t i : Nat} {v : Value} (hI : xI x_tb th G) (tc : th[c]? = some t) (hv : x_sl G c i = some v) : ∀ f', x_at (x_tb t).2.2.2 i = some f' → xf_ok th f' v := fun f' hf => by
  obtain ⟨w, k1, k2⟩ := (hI.2.2 c t tc).2 i f' hf
  rw [hv] at k1
  cases k1
  exact k2
theorem CI.rd (X : CH h h' G0) (H : CI h h' G0 D G) {c i : Nat} (hc : c ≤ 6) : x_sl G (h' + c) i = x_sl G0 (h' + c) i := H.2.1 _ _ (by have := X.2.2.2.2; omega)
theorem CI.pt (X : CH h h' G0) (H : CI h h' G0 D G) : HPt h G := by
  obtain ⟨-, -, ⟨a0, a1, a2, a3, a4, a5⟩, -, -⟩ := X
  exact ⟨(H.2.2.1 0 0 rfl).trans a0, (H.2.2.1 1 0 rfl).trans a1, (H.2.2.1 1 1 rfl).trans a2, (H.2.2.1 1 6 rfl).trans a3, (H.2.2.1 1 7 rfl).trans a4, (H.2.2.1 1 8 rfl).trans a5⟩
theorem CI.pt' (X : CH h h' G0) (H : CI h h' G0 D G) : HPt h' G := by
  have r : ∀ c i : Nat, c ≤ 6 → x_sl G (h' + c) i = x_sl G0 (h' + c) i := fun c i hc => H.rd X hc
  obtain ⟨-, -, -, ⟨a0, a1, a2, a3, a4, a5⟩, -⟩ := X
  exact ⟨(r 0 0 (by omega)).trans a0, (r 1 0 (by omega)).trans a1, (r 1 1 (by omega)).trans a2, (r 1 6 (by omega)).trans a3, (r 1 7 (by omega)).trans a4, (r 1 8 (by omega)).trans a5⟩
theorem CI.up (X : CH h h' G0) (H : CI h h' G0 D G) {c t i : Nat} {v : Value} (hc : c ≤ 6) (hm : h_mod c i = true) (tc : th0[h + c]? = some t) (tc' : th0[h' + c]? = some t) (hv : x_sl G (h' + c) i = some v) (u : x_upd G G1 (h + c) i v) : CI h h' G0 (fun c' i' => D c' i' || (c' == c && i' == i)) G1 := by
  refine ⟨H.1.upd u tc (x_src H.1 tc' hv), fun c2 i2 h2 => ?_, fun c2 i2 h2 => ?_, fun c2 i2 h2 => ?_⟩
  · rw [u.2.1, if_neg (by omega)]
    exact H.2.1 c2 i2 h2
  · rw [u.2.1, if_neg (fun z => by
      obtain rfl : c2 = c := by omega
      rw [z.2, hm] at h2
      cases h2)]
    exact H.2.2.1 c2 i2 h2
  · rw [u.2.1]
    by_cases e : h + c2 = h + c ∧ i2 = i
    · obtain rfl : c2 = c := by omega
      rw [if_pos e, e.2, ← H.rd X hc, hv]
    · rw [if_neg e]
      refine H.2.2.2 c2 i2 ?_
      rcases Bool.or_eq_true_iff.mp h2 with z | z
      · exact z
      · rw [Bool.and_eq_true_iff, beq_iff_eq, beq_iff_eq] at z
        exact absurd ⟨by omega, z.2⟩ e
theorem CI.mono {D' : Nat → Nat → Bool} (H : CI h h' G0 D G) (hD : ∀ c, c < 7 → ∀ i, i < 8 → D' c i = true → D c i = true) (hb : ∀ c i, D' c i = true → c < 7 ∧ i < 8) : CI h h' G0 D' G := ⟨H.1, H.2.1, H.2.2.1, fun c i hc => H.2.2.2 c i (hD c (hb c i hc).1 i (hb c i hc).2 hc)⟩
theorem CI.ini (hI : xI x_tb th0 G) : CI h h' G (fun _ _ => false) G := ⟨hI, fun _ _ _ => rfl, fun _ _ _ => rfl, fun _ _ h => by cases h⟩
theorem h_modA {c i : Nat} (h1 : 3 ≤ c) (h2 : c ≤ 6) (hi : i < 4) : h_mod c i = true := by
  unfold h_mod h_rel
  simp
  omega
theorem y_fiT4 {th : List Nat} {G : List pE} {a i t : Nat} {lo hi : Int} (hI : xI x_tb th G) (ta : th[a]? = some t) (e : x_at (x_tb t).2.2.2 i = some (0, lo, hi)) : ∃ x : Int32, x_sl G a i = some (.int x) := by
  obtain ⟨w, k1, x, rfl, -⟩ := (hI.2.2 a t ta).2 i _ e
  exact ⟨x, k1⟩
set_option maxHeartbeats 2000000 in
set_option maxRecDepth 100000 in
theorem kl_b (X : CH h h' G0) (H : CI h h' G0 D G) {k : Int32} (hk : 0 ≤ k.toInt ∧ k.toInt < 4) (g0 : pm_get lv 0 = some (.ref (h + 1))) (g1 : pm_get lv 1 = some (.ref (h' + 1))) (g2 : pm_get lv 2 = some (.int k)) (hK : ∀ (G1 : List pE) (lv1 : pL), CI h h' G0 (fun c' i' => D c' i' || (c' == 3 && i' == k.toInt.toNat)) G1 → pm_get lv1 0 = some (.ref (h + 1)) → pm_get lv1 1 = some (.ref (h' + 1)) → pm_get lv1 2 = some (.int (k + Int32.ofInt 1)) → x_Gd xs L J d m_48 K 26 lv1 [] G1) : x_Gd xs L J d m_48 K 26 lv [] G := by
  refine y_iln (e_48 (26, .iload_n 2, 1) (List.mem_of_getElem? (i := 18) rfl)) g2 ?_
  refine y_aln (e_48 (27, .aload_n 0, 1) (List.mem_of_getElem? (i := 19) rfl)) g0 ?_
  refine y_getf H.1 X.1.2.1 (e_48 (28, .getfield 15, 3) (List.mem_of_getElem? (i := 20) rfl)) u_5_15 ⟨rfl, rfl⟩ (H.pt X).2.2.1 ?_
  refine y_arl H.1 X.1.2.2.2.1 (e_48 (31, .arraylength, 1) (List.mem_of_getElem? (i := 21) rfl)) ⟨rfl, rfl⟩ ?_
  refine y_icm (e_48 (32, .if_icmp .ge 21, 3) (List.mem_of_getElem? (i := 22) rfl)) rfl (fun hc => ?_) (fun _ => ?_)
  · have := y_hI.2.2.2.2.1 hc
    rw [show (Int32.ofNat (x_tb 15).2.2.1).toInt = 4 from rfl] at this
    omega
  obtain ⟨v1, hv1⟩ := y_fiT4 (a := h' + 3) (i := k.toInt.toNat) H.1 X.2.1.2.2.2.1 (by rw [show (x_tb 15).2.2.2 = [(4, ((0 : Nat), (-2147483648 : Int), (2147483647 : Int)))] from rfl]; exact y_one (by omega))
  refine y_aln (e_48 (35, .aload_n 0, 1) (List.mem_of_getElem? (i := 23) rfl)) g0 ?_
  refine y_getf H.1 X.1.2.1 (e_48 (36, .getfield 15, 3) (List.mem_of_getElem? (i := 24) rfl)) u_5_15 ⟨rfl, rfl⟩ (H.pt X).2.2.1 ?_
  refine y_iln (e_48 (39, .iload_n 2, 1) (List.mem_of_getElem? (i := 25) rfl)) g2 ?_
  refine y_aln (e_48 (40, .aload_n 1, 1) (List.mem_of_getElem? (i := 26) rfl)) g1 ?_
  refine y_getf H.1 X.2.1.2.1 (e_48 (41, .getfield 15, 3) (List.mem_of_getElem? (i := 27) rfl)) u_5_15 ⟨rfl, rfl⟩ (H.pt' X).2.2.1 ?_
  refine y_iln (e_48 (44, .iload_n 2, 1) (List.mem_of_getElem? (i := 28) rfl)) g2 ?_
  refine y_iald H.1 X.2.1.2.2.2.1 (e_48 (45, .iaload, 1) (List.mem_of_getElem? (i := 29) rfl)) ⟨rfl, rfl⟩ hk.1 hv1 ?_
  refine y_iast H.1 X.1.2.2.2.1 (e_48 (46, .iastore, 1) (List.mem_of_getElem? (i := 30) rfl)) ⟨rfl, rfl⟩ ⟨hk.1, by show k.toInt < 4; omega⟩ (fun G1 u1 => ?_)
  have w1 := H.up X (by decide) (h_modA (by decide) (by decide) (by omega)) X.1.2.2.2.1 X.2.1.2.2.2.1 hv1 u1
  refine y_iinc (e_48 (47, .iinc 2 1, 3) (List.mem_of_getElem? (i := 31) rfl)) g2 (by decide) ?_
  refine y_st (e_48 (50, .goto (-24), 3) (List.mem_of_getElem? (i := 32) rfl)) ⟨rfl, rfl, rfl, rfl⟩ ?_
  exact hK _ _ w1 (y_gpr g0 (by decide)) (y_gpr g1 (by decide)) x_get_self
set_option maxHeartbeats 2000000 in
set_option maxRecDepth 100000 in
theorem kl_p (X : CH h h' G0) (H : CI h h' G0 D G) {k : Int32} (hk : 0 ≤ k.toInt ∧ k.toInt < 4) (g0 : pm_get lv 0 = some (.ref (h + 1))) (g1 : pm_get lv 1 = some (.ref (h' + 1))) (g2 : pm_get lv 2 = some (.int k)) (hK : ∀ (G1 : List pE) (lv1 : pL), CI h h' G0 (fun c' i' => ((D c' i' || (c' == 4 && i' == k.toInt.toNat)) || (c' == 5 && i' == k.toInt.toNat)) || (c' == 6 && i' == k.toInt.toNat)) G1 → pm_get lv1 0 = some (.ref (h + 1)) → pm_get lv1 1 = some (.ref (h' + 1)) → pm_get lv1 2 = some (.int (k + Int32.ofInt 1)) → x_Gd xs L J d m_48 K 87 lv1 [] G1) : x_Gd xs L J d m_48 K 87 lv [] G := by
  refine y_iln (e_48 (87, .iload_n 2, 1) (List.mem_of_getElem? (i := 51) rfl)) g2 ?_
  refine y_st (e_48 (88, .iconst 4, 1) (List.mem_of_getElem? (i := 52) rfl)) ⟨rfl, rfl, rfl, rfl⟩ ?_
  refine y_icm (e_48 (89, .if_icmp .ge 45, 3) (List.mem_of_getElem? (i := 53) rfl)) rfl (fun hc => ?_) (fun _ => ?_)
  · have := y_hI.2.2.2.2.1 hc
    rw [show (Int32.ofInt 4).toInt = 4 from rfl] at this
    omega
  obtain ⟨v1, hv1⟩ := y_fiT4 (a := h' + 4) (i := k.toInt.toNat) H.1 X.2.1.2.2.2.2.1 (by rw [show (x_tb 16).2.2.2 = [(4, ((0 : Nat), (-2147483648 : Int), (2147483647 : Int)))] from rfl]; exact y_one (by omega))
  refine y_aln (e_48 (92, .aload_n 0, 1) (List.mem_of_getElem? (i := 54) rfl)) g0 ?_
  refine y_getf H.1 X.1.2.1 (e_48 (93, .getfield 31, 3) (List.mem_of_getElem? (i := 55) rfl)) u_5_31 ⟨rfl, rfl⟩ (H.pt X).2.2.2.1 ?_
  refine y_iln (e_48 (96, .iload_n 2, 1) (List.mem_of_getElem? (i := 56) rfl)) g2 ?_
  refine y_aln (e_48 (97, .aload_n 1, 1) (List.mem_of_getElem? (i := 57) rfl)) g1 ?_
  refine y_getf H.1 X.2.1.2.1 (e_48 (98, .getfield 31, 3) (List.mem_of_getElem? (i := 58) rfl)) u_5_31 ⟨rfl, rfl⟩ (H.pt' X).2.2.2.1 ?_
  refine y_iln (e_48 (101, .iload_n 2, 1) (List.mem_of_getElem? (i := 59) rfl)) g2 ?_
  refine y_iald H.1 X.2.1.2.2.2.2.1 (e_48 (102, .iaload, 1) (List.mem_of_getElem? (i := 60) rfl)) ⟨rfl, rfl⟩ hk.1 hv1 ?_
  refine y_iast H.1 X.1.2.2.2.2.1 (e_48 (103, .iastore, 1) (List.mem_of_getElem? (i := 61) rfl)) ⟨rfl, rfl⟩ ⟨hk.1, by show k.toInt < 4; omega⟩ (fun G1 u1 => ?_)
  have w1 := H.up X (by decide) (h_modA (by decide) (by decide) (by omega)) X.1.2.2.2.2.1 X.2.1.2.2.2.2.1 hv1 u1
  obtain ⟨v2, hv2⟩ := y_fiT4 (a := h' + 5) (i := k.toInt.toNat) w1.1 X.2.1.2.2.2.2.2.1 (by rw [show (x_tb 17).2.2.2 = [(4, ((0 : Nat), (-2147483648 : Int), (2147483647 : Int)))] from rfl]; exact y_one (by omega))
  refine y_aln (e_48 (104, .aload_n 0, 1) (List.mem_of_getElem? (i := 62) rfl)) g0 ?_
  refine y_getf w1.1 X.1.2.1 (e_48 (105, .getfield 34, 3) (List.mem_of_getElem? (i := 63) rfl)) u_5_34 ⟨rfl, rfl⟩ (w1.pt X).2.2.2.2.1 ?_
  refine y_iln (e_48 (108, .iload_n 2, 1) (List.mem_of_getElem? (i := 64) rfl)) g2 ?_
  refine y_aln (e_48 (109, .aload_n 1, 1) (List.mem_of_getElem? (i := 65) rfl)) g1 ?_
  refine y_getf w1.1 X.2.1.2.1 (e_48 (110, .getfield 34, 3) (List.mem_of_getElem? (i := 66) rfl)) u_5_34 ⟨rfl, rfl⟩ (w1.pt' X).2.2.2.2.1 ?_
  refine y_iln (e_48 (113, .iload_n 2, 1) (List.mem_of_getElem? (i := 67) rfl)) g2 ?_
  refine y_iald w1.1 X.2.1.2.2.2.2.2.1 (e_48 (114, .iaload, 1) (List.mem_of_getElem? (i := 68) rfl)) ⟨rfl, rfl⟩ hk.1 hv2 ?_
  refine y_iast w1.1 X.1.2.2.2.2.2.1 (e_48 (115, .iastore, 1) (List.mem_of_getElem? (i := 69) rfl)) ⟨rfl, rfl⟩ ⟨hk.1, by show k.toInt < 4; omega⟩ (fun G2 u2 => ?_)
  have w2 := w1.up X (by decide) (h_modA (by decide) (by decide) (by omega)) X.1.2.2.2.2.2.1 X.2.1.2.2.2.2.2.1 hv2 u2
  obtain ⟨v3, hv3⟩ := y_fiT4 (a := h' + 6) (i := k.toInt.toNat) w2.1 X.2.1.2.2.2.2.2.2 (by rw [show (x_tb 18).2.2.2 = [(4, ((0 : Nat), (-2147483648 : Int), (2147483647 : Int)))] from rfl]; exact y_one (by omega))
  refine y_aln (e_48 (116, .aload_n 0, 1) (List.mem_of_getElem? (i := 70) rfl)) g0 ?_
  refine y_getf w2.1 X.1.2.1 (e_48 (117, .getfield 37, 3) (List.mem_of_getElem? (i := 71) rfl)) u_5_37 ⟨rfl, rfl⟩ (w2.pt X).2.2.2.2.2 ?_
  refine y_iln (e_48 (120, .iload_n 2, 1) (List.mem_of_getElem? (i := 72) rfl)) g2 ?_
  refine y_aln (e_48 (121, .aload_n 1, 1) (List.mem_of_getElem? (i := 73) rfl)) g1 ?_
  refine y_getf w2.1 X.2.1.2.1 (e_48 (122, .getfield 37, 3) (List.mem_of_getElem? (i := 74) rfl)) u_5_37 ⟨rfl, rfl⟩ (w2.pt' X).2.2.2.2.2 ?_
  refine y_iln (e_48 (125, .iload_n 2, 1) (List.mem_of_getElem? (i := 75) rfl)) g2 ?_
  refine y_iald w2.1 X.2.1.2.2.2.2.2.2 (e_48 (126, .iaload, 1) (List.mem_of_getElem? (i := 76) rfl)) ⟨rfl, rfl⟩ hk.1 hv3 ?_
  refine y_iast w2.1 X.1.2.2.2.2.2.2 (e_48 (127, .iastore, 1) (List.mem_of_getElem? (i := 77) rfl)) ⟨rfl, rfl⟩ ⟨hk.1, by show k.toInt < 4; omega⟩ (fun G3 u3 => ?_)
  have w3 := w2.up X (by decide) (h_modA (by decide) (by decide) (by omega)) X.1.2.2.2.2.2.2 X.2.1.2.2.2.2.2.2 hv3 u3
  refine y_iinc (e_48 (128, .iinc 2 1, 3) (List.mem_of_getElem? (i := 78) rfl)) g2 (by decide) ?_
  refine y_st (e_48 (131, .goto (-44), 3) (List.mem_of_getElem? (i := 79) rfl)) ⟨rfl, rfl, rfl, rfl⟩ ?_
  exact hK _ _ w3 (y_gpr g0 (by decide)) (y_gpr g1 (by decide)) x_get_self
def h_relL (c i : Nat) : Bool := decide (1 ≤ c) && h_rel c i
set_option maxHeartbeats 2000000 in
set_option maxRecDepth 100000 in
theorem kl_land (X : CH h h' G0) (H : CI h h' G0 (fun _ _ => false) G) : x_Gd xs L J d m_48 (fun r G' => r = none ∧ CI h h' G0 h_relL G') 0 (lv_args 0 [.ref (h + 1), .ref (h' + 1)]) [] G := by
  have g0 : pm_get (lv_args 0 [.ref (h + 1), .ref (h' + 1)]) 0 = some (.ref (h + 1)) := rfl
  have g1 : pm_get (lv_args 0 [.ref (h + 1), .ref (h' + 1)]) 1 = some (.ref (h' + 1)) := rfl
  generalize lv_args 0 [.ref (h + 1), .ref (h' + 1)] = lv at g0 g1 ⊢
  obtain ⟨v1, hv1⟩ := y_fiT4 (a := h' + 2) (i := 0) H.1 X.2.1.2.2.1 (by rw [show (x_tb 14).2.2.2 = [(2, ((0 : Nat), (-2147483648 : Int), (2147483647 : Int)))] from rfl]; exact y_one (by decide))
  refine y_aln (e_48 (0, .aload_n 0, 1) (List.mem_of_getElem? (i := 0) rfl)) g0 ?_
  refine y_getf H.1 X.1.2.1 (e_48 (1, .getfield 9, 3) (List.mem_of_getElem? (i := 1) rfl)) u_5_9 ⟨rfl, rfl⟩ (H.pt X).2.1 ?_
  refine y_st (e_48 (4, .iconst 0, 1) (List.mem_of_getElem? (i := 2) rfl)) ⟨rfl, rfl, rfl, rfl⟩ ?_
  refine y_aln (e_48 (5, .aload_n 1, 1) (List.mem_of_getElem? (i := 3) rfl)) g1 ?_
  refine y_getf H.1 X.2.1.2.1 (e_48 (6, .getfield 9, 3) (List.mem_of_getElem? (i := 4) rfl)) u_5_9 ⟨rfl, rfl⟩ (H.pt' X).2.1 ?_
  refine y_st (e_48 (9, .iconst 0, 1) (List.mem_of_getElem? (i := 5) rfl)) ⟨rfl, rfl, rfl, rfl⟩ ?_
  refine y_iald H.1 X.2.1.2.2.1 (e_48 (10, .iaload, 1) (List.mem_of_getElem? (i := 6) rfl)) ⟨rfl, rfl⟩ (by decide) hv1 ?_
  refine y_iast H.1 X.1.2.2.1 (e_48 (11, .iastore, 1) (List.mem_of_getElem? (i := 7) rfl)) ⟨rfl, rfl⟩ ⟨(by decide), by decide⟩ (fun G1 u1 => ?_)
  have w1 := H.up X (by decide) rfl X.1.2.2.1 X.2.1.2.2.1 hv1 u1
  obtain ⟨v2, hv2⟩ := y_fiT4 (a := h' + 2) (i := 1) w1.1 X.2.1.2.2.1 (by rw [show (x_tb 14).2.2.2 = [(2, ((0 : Nat), (-2147483648 : Int), (2147483647 : Int)))] from rfl]; exact y_one (by decide))
  refine y_aln (e_48 (12, .aload_n 0, 1) (List.mem_of_getElem? (i := 8) rfl)) g0 ?_
  refine y_getf w1.1 X.1.2.1 (e_48 (13, .getfield 9, 3) (List.mem_of_getElem? (i := 9) rfl)) u_5_9 ⟨rfl, rfl⟩ (w1.pt X).2.1 ?_
  refine y_st (e_48 (16, .iconst 1, 1) (List.mem_of_getElem? (i := 10) rfl)) ⟨rfl, rfl, rfl, rfl⟩ ?_
  refine y_aln (e_48 (17, .aload_n 1, 1) (List.mem_of_getElem? (i := 11) rfl)) g1 ?_
  refine y_getf w1.1 X.2.1.2.1 (e_48 (18, .getfield 9, 3) (List.mem_of_getElem? (i := 12) rfl)) u_5_9 ⟨rfl, rfl⟩ (w1.pt' X).2.1 ?_
  refine y_st (e_48 (21, .iconst 1, 1) (List.mem_of_getElem? (i := 13) rfl)) ⟨rfl, rfl, rfl, rfl⟩ ?_
  refine y_iald w1.1 X.2.1.2.2.1 (e_48 (22, .iaload, 1) (List.mem_of_getElem? (i := 14) rfl)) ⟨rfl, rfl⟩ (by decide) hv2 ?_
  refine y_iast w1.1 X.1.2.2.1 (e_48 (23, .iastore, 1) (List.mem_of_getElem? (i := 15) rfl)) ⟨rfl, rfl⟩ ⟨(by decide), by decide⟩ (fun G2 u2 => ?_)
  have w2 := w1.up X (by decide) rfl X.1.2.2.1 X.2.1.2.2.1 hv2 u2
  refine y_st (e_48 (24, .iconst 0, 1) (List.mem_of_getElem? (i := 16) rfl)) ⟨rfl, rfl, rfl, rfl⟩ ?_
  refine y_isn (e_48 (25, .istore_n 2, 1) (List.mem_of_getElem? (i := 17) rfl)) (by decide) ?_
  refine kl_b X w2 (k := Int32.ofInt 0) (by decide) (y_gpr g0 (by decide)) (y_gpr g1 (by decide)) x_get_self (fun G3 l3 w3 a3 b3 c3 => ?_)
  refine kl_b X w3 (k := Int32.ofInt 0 + Int32.ofInt 1) (by decide) a3 b3 c3 (fun G4 l4 w4 a4 b4 c4 => ?_)
  refine kl_b X w4 (k := Int32.ofInt 0 + Int32.ofInt 1 + Int32.ofInt 1) (by decide) a4 b4 c4 (fun G5 l5 w5 a5 b5 c5 => ?_)
  refine kl_b X w5 (k := Int32.ofInt 0 + Int32.ofInt 1 + Int32.ofInt 1 + Int32.ofInt 1) (by decide) a5 b5 c5 (fun G6 l6 w6 a6 b6 c6 => ?_)
  refine y_iln (e_48 (26, .iload_n 2, 1) (List.mem_of_getElem? (i := 18) rfl)) c6 ?_
  refine y_aln (e_48 (27, .aload_n 0, 1) (List.mem_of_getElem? (i := 19) rfl)) a6 ?_
  refine y_getf w6.1 X.1.2.1 (e_48 (28, .getfield 15, 3) (List.mem_of_getElem? (i := 20) rfl)) u_5_15 ⟨rfl, rfl⟩ (w6.pt X).2.2.1 ?_
  refine y_arl w6.1 X.1.2.2.2.1 (e_48 (31, .arraylength, 1) (List.mem_of_getElem? (i := 21) rfl)) ⟨rfl, rfl⟩ ?_
  refine y_icm (e_48 (32, .if_icmp .ge 21, 3) (List.mem_of_getElem? (i := 22) rfl)) rfl (fun _ => ?_) (fun hc => absurd hc (by decide))
  obtain ⟨v7, hv7⟩ := y_fiT4 (a := h' + 1) (i := 2) w6.1 X.2.1.2.1 rfl
  refine y_aln (e_48 (53, .aload_n 0, 1) (List.mem_of_getElem? (i := 33) rfl)) a6 ?_
  refine y_aln (e_48 (54, .aload_n 1, 1) (List.mem_of_getElem? (i := 34) rfl)) b6 ?_
  refine y_getf w6.1 X.2.1.2.1 (e_48 (55, .getfield 18, 3) (List.mem_of_getElem? (i := 35) rfl)) u_5_18 ⟨rfl, rfl⟩ hv7 ?_
  refine y_putf (f := (0, -2147483648, 2147483647)) w6.1 X.1.2.1 (e_48 (58, .putfield 18, 3) (List.mem_of_getElem? (i := 36) rfl)) u_5_18 ⟨rfl, rfl, by decide, rfl, rfl⟩ (x_src w6.1 X.2.1.2.1 hv7 _ rfl) (fun G7 u7 => ?_)
  have w7 := w6.up X (by decide) rfl X.1.2.1 X.2.1.2.1 hv7 u7
  obtain ⟨v8, hv8⟩ := y_fiT4 (a := h' + 1) (i := 3) w7.1 X.2.1.2.1 rfl
  refine y_aln (e_48 (61, .aload_n 0, 1) (List.mem_of_getElem? (i := 37) rfl)) a6 ?_
  refine y_aln (e_48 (62, .aload_n 1, 1) (List.mem_of_getElem? (i := 38) rfl)) b6 ?_
  refine y_getf w7.1 X.2.1.2.1 (e_48 (63, .getfield 22, 3) (List.mem_of_getElem? (i := 39) rfl)) u_5_22 ⟨rfl, rfl⟩ hv8 ?_
  refine y_putf (f := (0, -2147483648, 2147483647)) w7.1 X.1.2.1 (e_48 (66, .putfield 22, 3) (List.mem_of_getElem? (i := 40) rfl)) u_5_22 ⟨rfl, rfl, by decide, rfl, rfl⟩ (x_src w7.1 X.2.1.2.1 hv8 _ rfl) (fun G8 u8 => ?_)
  have w8 := w7.up X (by decide) rfl X.1.2.1 X.2.1.2.1 hv8 u8
  obtain ⟨v9, hv9⟩ := y_fiT4 (a := h' + 1) (i := 4) w8.1 X.2.1.2.1 rfl
  refine y_aln (e_48 (69, .aload_n 0, 1) (List.mem_of_getElem? (i := 41) rfl)) a6 ?_
  refine y_aln (e_48 (70, .aload_n 1, 1) (List.mem_of_getElem? (i := 42) rfl)) b6 ?_
  refine y_getf w8.1 X.2.1.2.1 (e_48 (71, .getfield 25, 3) (List.mem_of_getElem? (i := 43) rfl)) u_5_25 ⟨rfl, rfl⟩ hv9 ?_
  refine y_putf (f := (0, -2147483648, 2147483647)) w8.1 X.1.2.1 (e_48 (74, .putfield 25, 3) (List.mem_of_getElem? (i := 44) rfl)) u_5_25 ⟨rfl, rfl, by decide, rfl, rfl⟩ (x_src w8.1 X.2.1.2.1 hv9 _ rfl) (fun G9 u9 => ?_)
  have w9 := w8.up X (by decide) rfl X.1.2.1 X.2.1.2.1 hv9 u9
  obtain ⟨v10, hv10⟩ := y_fiT4 (a := h' + 1) (i := 5) w9.1 X.2.1.2.1 rfl
  refine y_aln (e_48 (77, .aload_n 0, 1) (List.mem_of_getElem? (i := 45) rfl)) a6 ?_
  refine y_aln (e_48 (78, .aload_n 1, 1) (List.mem_of_getElem? (i := 46) rfl)) b6 ?_
  refine y_getf w9.1 X.2.1.2.1 (e_48 (79, .getfield 28, 3) (List.mem_of_getElem? (i := 47) rfl)) u_5_28 ⟨rfl, rfl⟩ hv10 ?_
  refine y_putf (f := (0, 0, 4)) w9.1 X.1.2.1 (e_48 (82, .putfield 28, 3) (List.mem_of_getElem? (i := 48) rfl)) u_5_28 ⟨rfl, rfl, by decide, rfl, rfl⟩ (x_src w9.1 X.2.1.2.1 hv10 _ rfl) (fun G10 u10 => ?_)
  have w10 := w9.up X (by decide) rfl X.1.2.1 X.2.1.2.1 hv10 u10
  refine y_st (e_48 (85, .iconst 0, 1) (List.mem_of_getElem? (i := 49) rfl)) ⟨rfl, rfl, rfl, rfl⟩ ?_
  refine y_isn (e_48 (86, .istore_n 2, 1) (List.mem_of_getElem? (i := 50) rfl)) (by decide) ?_
  refine kl_p X w10 (k := Int32.ofInt 0) (by decide) (y_gpr a6 (by decide)) (y_gpr b6 (by decide)) x_get_self (fun G11 l11 w11 a11 b11 c11 => ?_)
  refine kl_p X w11 (k := Int32.ofInt 0 + Int32.ofInt 1) (by decide) a11 b11 c11 (fun G12 l12 w12 a12 b12 c12 => ?_)
  refine kl_p X w12 (k := Int32.ofInt 0 + Int32.ofInt 1 + Int32.ofInt 1) (by decide) a12 b12 c12 (fun G13 l13 w13 a13 b13 c13 => ?_)
  refine kl_p X w13 (k := Int32.ofInt 0 + Int32.ofInt 1 + Int32.ofInt 1 + Int32.ofInt 1) (by decide) a13 b13 c13 (fun G14 l14 w14 a14 b14 c14 => ?_)
  refine y_iln (e_48 (87, .iload_n 2, 1) (List.mem_of_getElem? (i := 51) rfl)) c14 ?_
  refine y_st (e_48 (88, .iconst 4, 1) (List.mem_of_getElem? (i := 52) rfl)) ⟨rfl, rfl, rfl, rfl⟩ ?_
  refine y_icm (e_48 (89, .if_icmp .ge 45, 3) (List.mem_of_getElem? (i := 53) rfl)) rfl (fun _ => ?_) (fun hc => absurd hc (by decide))
  exact y_ret (e_48 (134, .return_, 1) (List.mem_of_getElem? (i := 80) rfl)) ⟨rfl, rfl⟩ ⟨rfl, w14.mono (by decide +kernel) (fun c i hd => by unfold h_relL h_rel at hd; simp at hd; omega)⟩
theorem y_pN4 {th : List Nat} {v : Nat → Int} {r : Option Value} (h : x_ans th v none r) : r = none := by
  cases r with
  | none => rfl
  | some w => exact absurd h (by simp [x_ans])
def h_lt (t : Nat) : Prop := t = 0 ∨ t = 1 ∨ t = 14 ∨ t = 15 ∨ t = 16 ∨ t = 17 ∨ t = 18
theorem HT.ty (X : HT h) (c : Nat) (hc : c < 7) : ∃ t, th0[h + c]? = some t ∧ h_lt t := by
  obtain ⟨a0, a1, a2, a3, a4, a5, a6⟩ := X
  unfold h_lt
  rcases (show c = 0 ∨ c = 1 ∨ c = 2 ∨ c = 3 ∨ c = 4 ∨ c = 5 ∨ c = 6 by omega) with rfl | rfl | rfl | rfl | rfl | rfl | rfl
  · exact ⟨_, a0, by decide⟩
  · exact ⟨_, a1, by decide⟩
  · exact ⟨_, a2, by decide⟩
  · exact ⟨_, a3, by decide⟩
  · exact ⟨_, a4, by decide⟩
  · exact ⟨_, a5, by decide⟩
  · exact ⟨_, a6, by decide⟩
/-- effects that touch no LAND -/
def okLT (E : List (Nat × Nat × Nat)) : Bool := E.all (fun q => !(q.1 == 0) && !(q.1 == 1) && !(q.1 == 14) && !(q.1 == 15) && !(q.1 == 16) && !(q.1 == 17) && !(q.1 == 18))
theorem y_landT {E : List (Nat × Nat × Nat)} {t : Nat} (ht : h_lt t) (h : okLT E = true) (i : Nat) : y_out E t i = true := by
  unfold y_out
  unfold okLT at h
  rw [List.all_eq_true] at h ⊢
  intro q hq
  have := h q hq
  simp only [Bool.and_eq_true, Bool.not_eq_true', beq_eq_false_iff_ne] at this
  unfold h_lt at ht
  simp only [Bool.not_eq_true', Bool.and_eq_false_iff, beq_eq_false_iff_ne]
  exact Or.inl (Or.inl (by omega))
/-- a hill is copied: its LAND and its names are the other's, and nothing outside its block is changed -/
def KC (h h' : Nat) (G G' : List pE) : Prop := xI x_tb th0 G' ∧ ((∀ c i, h_rel c i = true → x_sl G' (h + c) i = x_sl G (h' + c) i) ∧ (∀ x : Int32, x_sl G h' 4 = some (.int x) → ∀ i : Nat, (i : Int) < x.toInt → x_sl G' (h + 10 + i) 0 = x_sl G (h' + 10 + i) 0) ∧ ∀ x : Int32, x_sl G h' 6 = some (.int x) → ∀ i : Nat, (i : Int) < x.toInt → x_sl G' (h + 22 + i) 0 = x_sl G (h' + 22 + i) 0) ∧ ∀ c i, c < h ∨ h + 25 < c → x_sl G' c i = x_sl G c i
set_option maxHeartbeats 2000000 in
set_option maxRecDepth 100000 in
theorem k_copy (hd : 40 ≤ d) (X : CH h h' G) (Y : HN h ∧ HN h' ∧ HPn h G ∧ HPn h' G) (hI : xI x_tb th0 G) : x_Gd xs L J (d + 1) m_47 (fun r G' => r = none ∧ KC h h' G G') 0 (lv_args 0 [.ref h, .ref h']) [] G := by
  have g0 : pm_get (lv_args 0 [.ref h, .ref h']) 0 = some (.ref h) := rfl
  have g1 : pm_get (lv_args 0 [.ref h, .ref h']) 1 = some (.ref h') := rfl
  generalize lv_args 0 [.ref h, .ref h'] = lv at g0 g1 ⊢
  have H0 : CI h h' G (fun _ _ => false) G := CI.ini hI
  refine y_aln (e_47 (0, .aload_n 0, 1) (List.mem_of_getElem? (i := 0) rfl)) g0 ?_
  refine y_getf hI X.1.1 (e_47 (1, .getfield 12, 3) (List.mem_of_getElem? (i := 1) rfl)) u_4_12 ⟨rfl, rfl⟩ X.2.2.1.1 ?_
  refine y_aln (e_47 (4, .aload_n 1, 1) (List.mem_of_getElem? (i := 2) rfl)) g1 ?_
  refine y_getf hI X.2.1.1 (e_47 (5, .getfield 12, 3) (List.mem_of_getElem? (i := 3) rfl)) u_4_12 ⟨rfl, rfl⟩ X.2.2.2.1.1 ?_
  refine y_c2 (K' := _) (e_47 (8, .invokevirtual 55, 3) (List.mem_of_getElem? (i := 4) rfl)) ⟨rfl, rfl, rfl⟩ t_4_55 ⟨by decide, by decide, by decide, by decide⟩ m_48_ok rfl (by decide) (y_recv hI X.1.2.1 ⟨rfl, rfl⟩) (Nat.le_of_ble_eq_true rfl) (Nat.le_of_ble_eq_true rfl) (kl_land X H0) (fun r1 G1 h1 => ?_)
  obtain ⟨rfl, w1⟩ := h1
  simp only [Option.toList_some, Option.toList_none, List.cons_append, List.nil_append]
  obtain ⟨v2, hv2⟩ := y_fiT4 (a := h') (i := 4) w1.1 X.2.1.1 rfl
  refine y_aln (e_47 (11, .aload_n 0, 1) (List.mem_of_getElem? (i := 5) rfl)) g0 ?_
  refine y_aln (e_47 (12, .aload_n 1, 1) (List.mem_of_getElem? (i := 6) rfl)) g1 ?_
  refine y_getf w1.1 X.2.1.1 (e_47 (13, .getfield 36, 3) (List.mem_of_getElem? (i := 7) rfl)) u_4_36 ⟨rfl, rfl⟩ hv2 ?_
  refine y_putf (f := (0, 0, 8)) w1.1 X.1.1 (e_47 (16, .putfield 36, 3) (List.mem_of_getElem? (i := 8) rfl)) u_4_36 ⟨rfl, rfl, by decide, rfl, rfl⟩ (x_src w1.1 X.2.1.1 hv2 _ rfl) (fun G2 u2 => ?_)
  have w2 := w1.up X (c := 0) (by decide) rfl X.1.1 X.2.1.1 hv2 u2
  obtain ⟨v3, hv3⟩ := y_fiT4 (a := h') (i := 5) w2.1 X.2.1.1 rfl
  refine y_aln (e_47 (19, .aload_n 0, 1) (List.mem_of_getElem? (i := 9) rfl)) g0 ?_
  refine y_aln (e_47 (20, .aload_n 1, 1) (List.mem_of_getElem? (i := 10) rfl)) g1 ?_
  refine y_getf w2.1 X.2.1.1 (e_47 (21, .getfield 40, 3) (List.mem_of_getElem? (i := 11) rfl)) u_4_40 ⟨rfl, rfl⟩ hv3 ?_
  refine y_putf (f := (0, 0, 4)) w2.1 X.1.1 (e_47 (24, .putfield 40, 3) (List.mem_of_getElem? (i := 12) rfl)) u_4_40 ⟨rfl, rfl, by decide, rfl, rfl⟩ (x_src w2.1 X.2.1.1 hv3 _ rfl) (fun G3 u3 => ?_)
  have w3 := w2.up X (c := 0) (by decide) rfl X.1.1 X.2.1.1 hv3 u3
  obtain ⟨v4, hv4⟩ := y_fiT4 (a := h') (i := 6) w3.1 X.2.1.1 rfl
  refine y_aln (e_47 (27, .aload_n 0, 1) (List.mem_of_getElem? (i := 13) rfl)) g0 ?_
  refine y_aln (e_47 (28, .aload_n 1, 1) (List.mem_of_getElem? (i := 14) rfl)) g1 ?_
  refine y_getf w3.1 X.2.1.1 (e_47 (29, .getfield 43, 3) (List.mem_of_getElem? (i := 15) rfl)) u_4_43 ⟨rfl, rfl⟩ hv4 ?_
  refine y_putf (f := (0, 0, 4)) w3.1 X.1.1 (e_47 (32, .putfield 43, 3) (List.mem_of_getElem? (i := 16) rfl)) u_4_43 ⟨rfl, rfl, by decide, rfl, rfl⟩ (x_src w3.1 X.2.1.1 hv4 _ rfl) (fun G4 u4 => ?_)
  have w4 := w3.up X (c := 0) (by decide) rfl X.1.1 X.2.1.1 hv4 u4
  obtain ⟨v5, hv5⟩ := y_fiT4 (a := h') (i := 7) w4.1 X.2.1.1 rfl
  refine y_aln (e_47 (35, .aload_n 0, 1) (List.mem_of_getElem? (i := 17) rfl)) g0 ?_
  refine y_aln (e_47 (36, .aload_n 1, 1) (List.mem_of_getElem? (i := 18) rfl)) g1 ?_
  refine y_getf w4.1 X.2.1.1 (e_47 (37, .getfield 46, 3) (List.mem_of_getElem? (i := 19) rfl)) u_4_46 ⟨rfl, rfl⟩ hv5 ?_
  refine y_putf (f := (0, -2147483648, 2147483647)) w4.1 X.1.1 (e_47 (40, .putfield 46, 3) (List.mem_of_getElem? (i := 20) rfl)) u_4_46 ⟨rfl, rfl, by decide, rfl, rfl⟩ (x_src w4.1 X.2.1.1 hv5 _ rfl) (fun G5 u5 => ?_)
  have w5 := w4.up X (c := 0) (by decide) rfl X.1.1 X.2.1.1 hv5 u5
  have w6 : CI h h' G h_rel G5 := w5.mono (by decide +kernel) (fun c i hd => by unfold h_rel at hd; simp at hd; omega)
  have dis := X.2.2.2.2
  obtain ⟨Y1, Y2, ⟨p1, p2, p3, pT, pL', pM'⟩, ⟨q1, q2, q3, qT, qL, qM⟩⟩ := Y
  have k3 : ∀ c, (c = 1 ∨ c = 2 ∨ c = 3) → x_sl G5 h c = x_sl G h c := fun c hc => w6.2.2.1 0 c (by rcases hc with rfl | rfl | rfl <;> rfl)
  have ko : ∀ c i, c < h ∨ h + 6 < c → x_sl G5 c i = x_sl G c i := w6.2.1
  have T : HT h ∧ HT h' ∧ HN h ∧ HN h' ∧ HPn h G5 ∧ HPn h' G5 ∧ (h + 25 < h' ∨ h' + 25 < h) := ⟨X.1, X.2.1, Y1, Y2, ⟨(k3 1 (by decide)).trans p1, (k3 2 (by decide)).trans p2, (k3 3 (by decide)).trans p3, fun i hi => (ko _ _ (by omega)).trans (pT i hi), fun i hi => (ko _ _ (by omega)).trans (pL' i hi), fun i hi => (ko _ _ (by omega)).trans (pM' i hi)⟩, ⟨(ko _ _ (by omega)).trans q1, (ko _ _ (by omega)).trans q2, (ko _ _ (by omega)).trans q3, fun i hi => (ko _ _ (by omega)).trans (qT i hi), fun i hi => (ko _ _ (by omega)).trans (qL i hi), fun i hi => (ko _ _ (by omega)).trans (qM i hi)⟩, dis⟩
  obtain ⟨x4, hx4, xr4⟩ := y_fi (i := 4) (t := 0) (lo := 0) (hi := 8) w5.1 X.1.1 rfl
  obtain ⟨x5, hx5, xr5⟩ := y_fi (i := 5) (t := 0) (lo := 0) (hi := 4) w5.1 X.1.1 rfl
  obtain ⟨x6, hx6, xr6⟩ := y_fi (i := 6) (t := 0) (lo := 0) (hi := 4) w5.1 X.1.1 rfl
  refine y_st (e_47 (43, .iconst 0, 1) (List.mem_of_getElem? (i := 21) rfl)) ⟨rfl, rfl, rfl, rfl⟩ ?_
  refine y_isn (e_47 (44, .istore_n 2, 1) (List.mem_of_getElem? (i := 22) rfl)) (by decide) ?_
  refine kc_t T hx4 xr4 (fun G6 lv6 R6 a0 a1 => ?_) _ G5 _ (Int32.ofInt 0) ⟨w5.1, fun _ _ _ => rfl, fun i hi => absurd hi (by show ¬ i < 0; omega)⟩ (by decide) xr4.1 rfl (y_gpr g0 (by decide)) (y_gpr g1 (by decide)) x_get_self
  have T6 : HT h ∧ HT h' ∧ HN h ∧ HN h' ∧ HPn h G6 ∧ HPn h' G6 ∧ (h + 25 < h' ∨ h' + 25 < h) := by
    obtain ⟨-, -, -, -, ⟨b1, b2, b3, bT, bL, bM⟩, ⟨c1, c2, c3, cT, cL, cM⟩, -⟩ := T
    have ko := R6.2.1
    exact ⟨X.1, X.2.1, Y1, Y2, ⟨(ko _ _ (by omega)).trans b1, (ko _ _ (by omega)).trans b2, (ko _ _ (by omega)).trans b3, fun i hi => (ko _ _ (by omega)).trans (bT i hi), fun i hi => (ko _ _ (by omega)).trans (bL i hi), fun i hi => (ko _ _ (by omega)).trans (bM i hi)⟩, ⟨(ko _ _ (by omega)).trans c1, (ko _ _ (by omega)).trans c2, (ko _ _ (by omega)).trans c3, fun i hi => (ko _ _ (by omega)).trans (cT i hi), fun i hi => (ko _ _ (by omega)).trans (cL i hi), fun i hi => (ko _ _ (by omega)).trans (cM i hi)⟩, dis⟩
  refine y_st (e_47 (74, .iconst 0, 1) (List.mem_of_getElem? (i := 38) rfl)) ⟨rfl, rfl, rfl, rfl⟩ ?_
  refine y_isn (e_47 (75, .istore_n 2, 1) (List.mem_of_getElem? (i := 39) rfl)) (by decide) ?_
  refine kc_l T6 ((R6.2.1 _ _ (by omega)).trans hx5) xr5 (fun G7 lv7 R7 b0 b1 => ?_) _ G6 _ (Int32.ofInt 0) ⟨R6.1, fun _ _ _ => rfl, fun i hi => absurd hi (by show ¬ i < 0; omega)⟩ (by decide) xr5.1 rfl (y_gpr a0 (by decide)) (y_gpr a1 (by decide)) x_get_self
  have T7 : HT h ∧ HT h' ∧ HN h ∧ HN h' ∧ HPn h G7 ∧ HPn h' G7 ∧ (h + 25 < h' ∨ h' + 25 < h) := by
    obtain ⟨-, -, -, -, ⟨b1, b2, b3, bT, bL, bM⟩, ⟨c1, c2, c3, cT, cL, cM⟩, -⟩ := T6
    have ko := R7.2.1
    exact ⟨X.1, X.2.1, Y1, Y2, ⟨(ko _ _ (by omega)).trans b1, (ko _ _ (by omega)).trans b2, (ko _ _ (by omega)).trans b3, fun i hi => (ko _ _ (by omega)).trans (bT i hi), fun i hi => (ko _ _ (by omega)).trans (bL i hi), fun i hi => (ko _ _ (by omega)).trans (bM i hi)⟩, ⟨(ko _ _ (by omega)).trans c1, (ko _ _ (by omega)).trans c2, (ko _ _ (by omega)).trans c3, fun i hi => (ko _ _ (by omega)).trans (cT i hi), fun i hi => (ko _ _ (by omega)).trans (cL i hi), fun i hi => (ko _ _ (by omega)).trans (cM i hi)⟩, dis⟩
  refine y_st (e_47 (105, .iconst 0, 1) (List.mem_of_getElem? (i := 55) rfl)) ⟨rfl, rfl, rfl, rfl⟩ ?_
  refine y_isn (e_47 (106, .istore_n 2, 1) (List.mem_of_getElem? (i := 56) rfl)) (by decide) ?_
  refine kc_m T7 ((R7.2.1 _ _ (by omega)).trans ((R6.2.1 _ _ (by omega)).trans hx6)) xr6 (fun G8 lv8 R8 c0 c1 => ?_) _ G7 _ (Int32.ofInt 0) ⟨R7.1, fun _ _ _ => rfl, fun i hi => absurd hi (by show ¬ i < 0; omega)⟩ (by decide) xr6.1 rfl (y_gpr b0 (by decide)) (y_gpr b1 (by decide)) x_get_self
  refine y_ret (e_47 (136, .return_, 1) (List.mem_of_getElem? (i := 72) rfl)) ⟨rfl, rfl⟩ ⟨rfl, R8.1, ⟨fun c i hd => ?_, fun x hx i hi => ?_, fun x hx i hi => ?_⟩, fun c i hc => ?_⟩
  · have hcb : c < 7 := by
      unfold h_rel at hd
      simp at hd
      omega
    rw [R8.2.1 _ _ (by omega), R7.2.1 _ _ (by omega), R6.2.1 _ _ (by omega)]
    exact w6.2.2.2 c i hd
  · have e : x_sl G5 h 4 = x_sl G h' 4 := w6.2.2.2 0 4 rfl
    rw [hx, hx4] at e
    cases e
    rw [R8.2.1 _ _ (by omega), R7.2.1 _ _ (by omega), R6.2.2 i (by omega)]
    exact ko _ _ (by omega)
  · have e : x_sl G5 h 6 = x_sl G h' 6 := w6.2.2.2 0 6 rfl
    rw [hx, hx6] at e
    cases e
    rw [R8.2.2 i (by omega), R7.2.1 _ _ (by omega), R6.2.1 _ _ (by omega)]
    exact ko _ _ (by omega)
  · rw [R8.2.1 _ _ (by omega), R7.2.1 _ _ (by omega), R6.2.1 _ _ (by omega)]
    exact ko _ _ (by omega)
end CP
