theorem u_6_72 : pm_ftab.find? (fun r => r.1 == 6 && r.2.1 == 72) = some (6, 72, 1, 6, 1, 214) := by decide +kernel
theorem u_6_76 : pm_ftab.find? (fun r => r.1 == 6 && r.2.1 == 76) = some (6, 76, 1, 8, 1, 221) := by decide +kernel
theorem t_6_52 : pm_ctab.find? (fun r => r.1 == 6 && r.2.1 == 52) = some (6, 52, 1, 64, 864) := by decide +kernel
theorem t_6_58 : pm_ctab.find? (fun r => r.1 == 6 && r.2.1 == 58) = some (6, 58, 1, 87, 865) := by decide +kernel
theorem t_6_62 : pm_ctab.find? (fun r => r.1 == 6 && r.2.1 == 62) = some (6, 62, 1, 88, 870) := by decide +kernel
theorem t_6_66 : pm_ctab.find? (fun r => r.1 == 6 && r.2.1 == 66) = some (6, 66, 1, 89, 876) := by decide +kernel
theorem t_6_69 : pm_ctab.find? (fun r => r.1 == 6 && r.2.1 == 69) = some (6, 69, 1, 59, 869) := by decide +kernel
theorem t_6_79 : pm_ctab.find? (fun r => r.1 == 6 && r.2.1 == 79) = some (6, 79, 1, 71, 874) := by decide +kernel
theorem t_6_83 : pm_ctab.find? (fun r => r.1 == 6 && r.2.1 == 83) = some (6, 83, 1, 34, 875) := by decide +kernel
theorem t_6_91 : pm_ctab.find? (fun r => r.1 == 6 && r.2.1 == 91) = some (6, 91, 1, 90, 883) := by decide +kernel
theorem t_6_94 : pm_ctab.find? (fun r => r.1 == 6 && r.2.1 == 94) = some (6, 94, 1, 91, 887) := by decide +kernel
def m_59 : pM := (⟨"BreathingHill$Land", "hasPassage", "(I)Z"⟩, 743, 2, some (FieldType.boolean), 5, 1, false, 1, 97, 741, 742)
set_option maxRecDepth 100000 in
theorem m_59_ok : pm_tab[59]? = some m_59 := rfl
theorem e_59 : ∀ q ∈ d_59, decode m_59.code q.1 = .ok (q.2.1, q.2.2) := y_dec d_59_ok m_59_ok
def m_86 : pM := (⟨"BreathingHill$Thing", "passHour", "(LBreathingHill$Land;I)V"⟩, 863, 4, none, 6, 2, false, 8, 98, 861, 862)
set_option maxRecDepth 100000 in
theorem m_86_ok : pm_tab[86]? = some m_86 := rfl
theorem e_86 : ∀ q ∈ d_86, decode m_86.code q.1 = .ok (q.2.1, q.2.2) := y_dec d_86_ok m_86_ok
def m_87 : pM := (⟨"BreathingHill$Thing", "goInside", "(LBreathingHill$Land;I)V"⟩, 868, 3, none, 6, 2, false, 8, 98, 867, 17)
set_option maxRecDepth 100000 in
theorem m_87_ok : pm_tab[87]? = some m_87 := rfl
theorem e_87 : ∀ q ∈ d_87, decode m_87.code q.1 = .ok (q.2.1, q.2.2) := y_dec d_87_ok m_87_ok
def m_88 : pM := (⟨"BreathingHill$Thing", "beCarriedOut", "(LBreathingHill$Land;)V"⟩, 873, 2, none, 6, 1, false, 8, 98, 872, 18)
set_option maxRecDepth 100000 in
theorem m_88_ok : pm_tab[88]? = some m_88 := rfl
theorem e_88 : ∀ q ∈ d_88, decode m_88.code q.1 = .ok (q.2.1, q.2.2) := y_dec d_88_ok m_88_ok
def m_89 : pM := (⟨"BreathingHill$Thing", "beCarriedIn", "(LBreathingHill$Land;)V"⟩, 879, 4, none, 6, 1, false, 8, 98, 878, 19)
set_option maxRecDepth 100000 in
theorem m_89_ok : pm_tab[89]? = some m_89 := rfl
theorem e_89 : ∀ q ∈ d_89, decode m_89.code q.1 = .ok (q.2.1, q.2.2) := y_dec d_89_ok m_89_ok
def m_90 : pM := (⟨"BreathingHill$Land", "passageFor", "(I)I"⟩, 886, 3, some (FieldType.int), 5, 1, false, 1, 97, 884, 885)
set_option maxRecDepth 100000 in
theorem m_90_ok : pm_tab[90]? = some m_90 := rfl
theorem e_90 : ∀ q ∈ d_90, decode m_90.code q.1 = .ok (q.2.1, q.2.2) := y_dec d_90_ok m_90_ok
def m_91 : pM := (⟨"BreathingHill$Thing", "goInto", "(I)V"⟩, 890, 2, none, 6, 1, false, 8, 98, 888, 889)
set_option maxRecDepth 100000 in
theorem m_91_ok : pm_tab[91]? = some m_91 := rfl
theorem e_91 : ∀ q ∈ d_91, decode m_91.code q.1 = .ok (q.2.1, q.2.2) := y_dec d_91_ok m_91_ok
-- ===== a letter's hour =====
def l_air (S : Nat → Int32) (v h : Int32) : Int32 := z_ar (S 6) (S 7) (S 8) (S 9) (S 12) v h
def l_fc (S : Nat → Int32) (c : Int32) : Int32 := if 0 < (S 10 - c / S 11).toInt then S 10 - c / S 11 else Int32.ofInt 0
/-- the first passage wide enough, from p on, of k -/
def l_pf (S : Nat → Int32) (w : Int32) : Nat → Nat → Nat
  | 0, p => p
  | k + 1, p => if w.toInt ≤ (S (17 + p)).toInt then p else l_pf S w k (p + 1)
/-- an hour: where, cell, passage, from; whether it came out beyond -/
def l_st (S : Nat → Int32) (w h W C P F : Int32) : Int32 × Int32 × Int32 × Int32 × Bool :=
  if W = Int32.ofInt 3 then (W, C, P, F, false) else
  if W = Int32.ofInt 2 then
    (if l_air S F h = 0 then (W, C, P, F, false) else
     if (C + (if l_air S F h = Int32.ofInt 1 then Int32.ofInt 1 else Int32.ofInt (-1))).toInt ≤ 0 then (F, Int32.ofInt 0, P, F, false) else
     if (S (13 + P.toInt.toNat)).toInt ≤ (C + (if l_air S F h = Int32.ofInt 1 then Int32.ofInt 1 else Int32.ofInt (-1))).toInt then (Int32.ofInt 1 - F, Int32.ofInt 0, P, F, true) else
     (W, C + (if l_air S F h = Int32.ofInt 1 then Int32.ofInt 1 else Int32.ofInt (-1)), P, F, false)) else
  if l_air S W h = 0 then (W, C, P, F, false) else
  if l_air S W h = Int32.ofInt 2 then
    (if (S W.toInt.toNat).toInt ≤ (C + l_fc S C / w).toInt then (Int32.ofInt 3, Int32.ofInt 0, P, F, false) else (W, C + l_fc S C / w, P, F, false)) else
  if 0 < C.toInt then (W, (if C.toInt < (l_fc S C / w).toInt then Int32.ofInt 0 else C - l_fc S C / w), P, F, false) else
  if 0 < (l_fc S C / w).toInt ∧ l_pf S w (S 2).toInt.toNat 0 < (S 2).toInt.toNat then (Int32.ofInt 2, Int32.ofInt 1, Int32.ofNat (l_pf S w (S 2).toInt.toNat 0), W, false) else (W, C, P, F, false)
/-- what is known of the LAND's numbers -/
def l_R (S : Nat → Int32) : Prop := z_br (S 6) (S 7) (S 8) (S 9) ∧ 1 ≤ (S 11).toInt ∧ (0 ≤ (S 2).toInt ∧ (S 2).toInt ≤ 4) ∧ ∀ p : Nat, (p : Int) < (S 2).toInt → 2 ≤ (S (13 + p)).toInt
/-- the class's LAND -/
def l_C (S : Nat → Int32) (G : List pE) : Prop := xI x_tb th0 G ∧ HPt 6 G ∧ (∀ i, i < 2 → x_sl G 8 i = some (.int (S i))) ∧ x_sl G 7 5 = some (.int (S 2)) ∧ x_sl G 7 2 = some (.int (S 10)) ∧ x_sl G 7 3 = some (.int (S 11)) ∧ x_sl G 7 4 = some (.int (S 12)) ∧ (∀ i, i < 4 → x_sl G 9 i = some (.int (S (6 + i)))) ∧ (∀ p : Nat, p < 4 → (p : Int) < (S 2).toInt → x_sl G 10 p = some (.int (S (13 + p))) ∧ x_sl G 11 p = some (.int (S (17 + p))))
def l_B (S : Nat → Int32) (g : Nat → Option Value) (G : List pE) : Prop := l_C S G ∧ ∀ i, 1 ≤ i → x_sl G 77 i = g i
def l_u (g : Nat → Option Value) (i : Nat) (v : Int32) (j : Nat) : Option Value := if j = i then some (.int v) else g j
def l_T (w tb W C P F : Int32) (g : Nat → Option Value) : Prop := g 2 = some (.int w) ∧ g 3 = some (.int W) ∧ (W ≠ Int32.ofInt 3 → g 4 = some (.int C)) ∧ (W = Int32.ofInt 2 → g 5 = some (.int P) ∧ g 6 = some (.int F)) ∧ g 8 = some (.int (Int32.ofInt 0)) ∧ g 9 = some (.int tb)
theorem th0_77 : th0[77]? = some 8 ∧ th0[7]? = some 1 ∧ th0[8]? = some 14 ∧ th0[9]? = some 15 ∧ th0[10]? = some 16 ∧ th0[11]? = some 17 ∧ th0[12]? = some 18 ∧ th0[6]? = some 0 := by decide +kernel
section LT
variable {xs : Nat → Int32} {L J d : Nat} {G G1 : List pE} {S : Nat → Int32} {g : Nat → Option Value}
theorem l_B.p {i : Nat} {v : Int32} (H : l_B S g G) (u : x_upd G G1 77 i (.int v)) (hok : ∀ f', x_at (x_tb 8).2.2.2 i = some f' → xf_ok th0 f' (.int v)) : l_B S (l_u g i v) G1 := by
  obtain ⟨⟨hI, ⟨p0, p1, p2, p3, p4, p5⟩, a, b, c, d, e, f, k⟩, hg⟩ := H
  have n : ∀ c j, c ≠ 77 → x_sl G1 c j = x_sl G c j := fun c j hc => by rw [u.2.1, if_neg (fun z => hc z.1)]
  refine ⟨⟨hI.upd u th0_77.1 hok, ⟨(n _ _ (by decide)).trans p0, (n _ _ (by decide)).trans p1, (n _ _ (by decide)).trans p2, (n _ _ (by decide)).trans p3, (n _ _ (by decide)).trans p4, (n _ _ (by decide)).trans p5⟩, fun i hi => (n _ _ (by decide)).trans (a i hi), (n _ _ (by decide)).trans b, (n _ _ (by decide)).trans c, (n _ _ (by decide)).trans d, (n _ _ (by decide)).trans e, fun i hi => (n _ _ (by decide)).trans (f i hi), fun p h4 hp => ⟨(n _ _ (by decide)).trans (k p h4 hp).1, (n _ _ (by decide)).trans (k p h4 hp).2⟩⟩, fun j hj => ?_⟩
  rw [u.2.1]
  unfold l_u
  by_cases z : j = i
  · rw [if_pos ⟨rfl, z⟩, if_pos z]
  · rw [if_neg (fun y => z y.2), if_neg z]
    exact hg j hj
theorem l_B.I (H : l_B S g G) : xI x_tb th0 G := H.1.1
set_option maxHeartbeats 2000000 in
set_option maxRecDepth 100000 in
theorem l_come {v : Int32} (H : l_B S g G) : x_Gd xs L J (d) m_36 (fun r G' => r = none ∧ l_B S (l_u (l_u (l_u (l_u g 3 v) 4 (Int32.ofInt 0)) 5 (Int32.ofInt (-1))) 6 (Int32.ofInt (-1))) G') 0 (lv_args 0 [.ref 77, .int v]) [] G := by
  have g0 : pm_get (lv_args 0 [.ref 77, .int v]) 0 = some (.ref 77) := rfl
  have g1 : pm_get (lv_args 0 [.ref 77, .int v]) 1 = some (.int v) := rfl
  generalize lv_args 0 [.ref 77, .int v] = lv at g0 g1 ⊢
  refine y_aln (e_36 (0, .aload_n 0, 1) (List.mem_of_getElem? (i := 0) rfl)) g0 ?_
  refine y_iln (e_36 (1, .iload_n 1, 1) (List.mem_of_getElem? (i := 1) rfl)) g1 ?_
  refine y_putf (f := (0, -2147483648, 2147483647)) H.I th0_77.1 (e_36 (2, .putfield 22, 3) (List.mem_of_getElem? (i := 2) rfl)) u_6_22 ⟨rfl, rfl, by decide, rfl, rfl⟩ ⟨_, rfl, (x_i32 _).1, (x_i32 _).2⟩ (fun G41 u41 => ?_)
  have w41 := H.p u41 (y_okA rfl)
  refine y_aln (e_36 (5, .aload_n 0, 1) (List.mem_of_getElem? (i := 3) rfl)) g0 ?_
  refine y_st (e_36 (6, .iconst 0, 1) (List.mem_of_getElem? (i := 4) rfl)) ⟨rfl, rfl, rfl, rfl⟩ ?_
  refine y_putf (f := (0, -2147483648, 2147483647)) w41.I th0_77.1 (e_36 (7, .putfield 25, 3) (List.mem_of_getElem? (i := 5) rfl)) u_6_25 ⟨rfl, rfl, by decide, rfl, rfl⟩ ⟨_, rfl, (x_i32 _).1, (x_i32 _).2⟩ (fun G42 u42 => ?_)
  have w42 := w41.p u42 (y_okA rfl)
  refine y_aln (e_36 (10, .aload_n 0, 1) (List.mem_of_getElem? (i := 6) rfl)) g0 ?_
  refine y_st (e_36 (11, .iconst (-1), 1) (List.mem_of_getElem? (i := 7) rfl)) ⟨rfl, rfl, rfl, rfl⟩ ?_
  refine y_putf (f := (0, -2147483648, 2147483647)) w42.I th0_77.1 (e_36 (12, .putfield 28, 3) (List.mem_of_getElem? (i := 8) rfl)) u_6_28 ⟨rfl, rfl, by decide, rfl, rfl⟩ ⟨_, rfl, (x_i32 _).1, (x_i32 _).2⟩ (fun G43 u43 => ?_)
  have w43 := w42.p u43 (y_okA rfl)
  refine y_aln (e_36 (15, .aload_n 0, 1) (List.mem_of_getElem? (i := 9) rfl)) g0 ?_
  refine y_st (e_36 (16, .iconst (-1), 1) (List.mem_of_getElem? (i := 10) rfl)) ⟨rfl, rfl, rfl, rfl⟩ ?_
  refine y_putf (f := (0, -2147483648, 2147483647)) w43.I th0_77.1 (e_36 (17, .putfield 31, 3) (List.mem_of_getElem? (i := 11) rfl)) u_6_31 ⟨rfl, rfl, by decide, rfl, rfl⟩ ⟨_, rfl, (x_i32 _).1, (x_i32 _).2⟩ (fun G44 u44 => ?_)
  have w44 := w43.p u44 (y_okA rfl)
  exact y_ret (e_36 (20, .return_, 1) (List.mem_of_getElem? (i := 12) rfl)) ⟨rfl, rfl⟩ ⟨rfl, w44⟩
set_option maxHeartbeats 2000000 in
set_option maxRecDepth 100000 in
theorem l_into {p W : Int32} (H : l_B S g G) (e3 : g 3 = some (.int W)) : x_Gd xs L J (d) m_91 (fun r G' => r = none ∧ l_B S (l_u (l_u (l_u (l_u g 6 W) 3 (Int32.ofInt 2)) 5 p) 4 (Int32.ofInt 1)) G') 0 (lv_args 0 [.ref 77, .int p]) [] G := by
  have g0 : pm_get (lv_args 0 [.ref 77, .int p]) 0 = some (.ref 77) := rfl
  have g1 : pm_get (lv_args 0 [.ref 77, .int p]) 1 = some (.int p) := rfl
  generalize lv_args 0 [.ref 77, .int p] = lv at g0 g1 ⊢
  refine y_aln (e_91 (0, .aload_n 0, 1) (List.mem_of_getElem? (i := 0) rfl)) g0 ?_
  refine y_aln (e_91 (1, .aload_n 0, 1) (List.mem_of_getElem? (i := 1) rfl)) g0 ?_
  refine y_getf H.I th0_77.1 (e_91 (2, .getfield 22, 3) (List.mem_of_getElem? (i := 2) rfl)) u_6_22 ⟨rfl, rfl⟩ ((H.2 3 (by decide)).trans (e3)) ?_
  refine y_putf (f := (0, -2147483648, 2147483647)) H.I th0_77.1 (e_91 (5, .putfield 31, 3) (List.mem_of_getElem? (i := 3) rfl)) u_6_31 ⟨rfl, rfl, by decide, rfl, rfl⟩ ⟨_, rfl, (x_i32 _).1, (x_i32 _).2⟩ (fun G41 u41 => ?_)
  have w41 := H.p u41 (y_okA rfl)
  refine y_aln (e_91 (8, .aload_n 0, 1) (List.mem_of_getElem? (i := 4) rfl)) g0 ?_
  refine y_st (e_91 (9, .iconst 2, 1) (List.mem_of_getElem? (i := 5) rfl)) ⟨rfl, rfl, rfl, rfl⟩ ?_
  refine y_putf (f := (0, -2147483648, 2147483647)) w41.I th0_77.1 (e_91 (10, .putfield 22, 3) (List.mem_of_getElem? (i := 6) rfl)) u_6_22 ⟨rfl, rfl, by decide, rfl, rfl⟩ ⟨_, rfl, (x_i32 _).1, (x_i32 _).2⟩ (fun G42 u42 => ?_)
  have w42 := w41.p u42 (y_okA rfl)
  refine y_aln (e_91 (13, .aload_n 0, 1) (List.mem_of_getElem? (i := 7) rfl)) g0 ?_
  refine y_iln (e_91 (14, .iload_n 1, 1) (List.mem_of_getElem? (i := 8) rfl)) g1 ?_
  refine y_putf (f := (0, -2147483648, 2147483647)) w42.I th0_77.1 (e_91 (15, .putfield 28, 3) (List.mem_of_getElem? (i := 9) rfl)) u_6_28 ⟨rfl, rfl, by decide, rfl, rfl⟩ ⟨_, rfl, (x_i32 _).1, (x_i32 _).2⟩ (fun G43 u43 => ?_)
  have w43 := w42.p u43 (y_okA rfl)
  refine y_aln (e_91 (18, .aload_n 0, 1) (List.mem_of_getElem? (i := 10) rfl)) g0 ?_
  refine y_st (e_91 (19, .iconst 1, 1) (List.mem_of_getElem? (i := 11) rfl)) ⟨rfl, rfl, rfl, rfl⟩ ?_
  refine y_putf (f := (0, -2147483648, 2147483647)) w43.I th0_77.1 (e_91 (20, .putfield 25, 3) (List.mem_of_getElem? (i := 12) rfl)) u_6_25 ⟨rfl, rfl, by decide, rfl, rfl⟩ ⟨_, rfl, (x_i32 _).1, (x_i32 _).2⟩ (fun G44 u44 => ?_)
  have w44 := w43.p u44 (y_okA rfl)
  exact y_ret (e_91 (23, .return_, 1) (List.mem_of_getElem? (i := 13) rfl)) ⟨rfl, rfl⟩ ⟨rfl, w44⟩
set_option maxHeartbeats 2000000 in
set_option maxRecDepth 100000 in
theorem l_put {v c w : Int32} (H : l_B S g G) (hv2 : v ≠ Int32.ofInt 2) : x_Gd xs L J (d + 1) m_35 (fun r G' => r = none ∧ ∃ g', l_B S g' G' ∧ l_T w (Int32.ofInt 0) v c (Int32.ofInt 0) (Int32.ofInt 0) g') 0 (lv_args 0 [.ref 77, .int v, .int c, .int w]) [] G := by
  have g0 : pm_get (lv_args 0 [.ref 77, .int v, .int c, .int w]) 0 = some (.ref 77) := rfl
  have g1 : pm_get (lv_args 0 [.ref 77, .int v, .int c, .int w]) 1 = some (.int v) := rfl
  have g2 : pm_get (lv_args 0 [.ref 77, .int v, .int c, .int w]) 2 = some (.int c) := rfl
  have g3 : pm_get (lv_args 0 [.ref 77, .int v, .int c, .int w]) 3 = some (.int w) := rfl
  generalize lv_args 0 [.ref 77, .int v, .int c, .int w] = lv at g0 g1 g2 g3 ⊢
  refine y_aln (e_35 (0, .aload_n 0, 1) (List.mem_of_getElem? (i := 0) rfl)) g0 ?_
  refine y_iln (e_35 (1, .iload_n 1, 1) (List.mem_of_getElem? (i := 1) rfl)) g1 ?_
  refine y_putf (f := (0, -2147483648, 2147483647)) H.I th0_77.1 (e_35 (2, .putfield 15, 3) (List.mem_of_getElem? (i := 2) rfl)) u_6_15 ⟨rfl, rfl, by decide, rfl, rfl⟩ ⟨_, rfl, (x_i32 _).1, (x_i32 _).2⟩ (fun G41 u41 => ?_)
  have w41 := H.p u41 (y_okA rfl)
  refine y_aln (e_35 (5, .aload_n 0, 1) (List.mem_of_getElem? (i := 3) rfl)) g0 ?_
  refine y_iln (e_35 (6, .iload_n 3, 1) (List.mem_of_getElem? (i := 4) rfl)) g3 ?_
  refine y_putf (f := (0, -2147483648, 2147483647)) w41.I th0_77.1 (e_35 (7, .putfield 19, 3) (List.mem_of_getElem? (i := 5) rfl)) u_6_19 ⟨rfl, rfl, by decide, rfl, rfl⟩ ⟨_, rfl, (x_i32 _).1, (x_i32 _).2⟩ (fun G42 u42 => ?_)
  have w42 := w41.p u42 (y_okA rfl)
  refine y_aln (e_35 (10, .aload_n 0, 1) (List.mem_of_getElem? (i := 6) rfl)) g0 ?_
  refine y_st (e_35 (11, .iconst 0, 1) (List.mem_of_getElem? (i := 7) rfl)) ⟨rfl, rfl, rfl, rfl⟩ ?_
  refine y_putf (f := (0, -2147483648, 2147483647)) w42.I th0_77.1 (e_35 (12, .putfield 34, 3) (List.mem_of_getElem? (i := 8) rfl)) u_6_34 ⟨rfl, rfl, by decide, rfl, rfl⟩ ⟨_, rfl, (x_i32 _).1, (x_i32 _).2⟩ (fun G43 u43 => ?_)
  have w43 := w42.p u43 (y_okA rfl)
  refine y_aln (e_35 (15, .aload_n 0, 1) (List.mem_of_getElem? (i := 9) rfl)) g0 ?_
  refine y_st (e_35 (16, .iconst 0, 1) (List.mem_of_getElem? (i := 10) rfl)) ⟨rfl, rfl, rfl, rfl⟩ ?_
  refine y_putf (f := (0, 0, 1)) w43.I th0_77.1 (e_35 (17, .putfield 37, 3) (List.mem_of_getElem? (i := 11) rfl)) u_6_37 ⟨rfl, rfl, by decide, rfl, rfl⟩ ⟨_, rfl, by decide, by decide⟩ (fun G44 u44 => ?_)
  have w44 := w43.p u44 (y_okI (lo := 0) (hi := 1) rfl (by decide) (by decide))
  refine y_aln (e_35 (20, .aload_n 0, 1) (List.mem_of_getElem? (i := 12) rfl)) g0 ?_
  refine y_st (e_35 (21, .iconst 0, 1) (List.mem_of_getElem? (i := 13) rfl)) ⟨rfl, rfl, rfl, rfl⟩ ?_
  refine y_putf (f := (0, -2147483648, 2147483647)) w44.I th0_77.1 (e_35 (22, .putfield 41, 3) (List.mem_of_getElem? (i := 14) rfl)) u_6_41 ⟨rfl, rfl, by decide, rfl, rfl⟩ ⟨_, rfl, (x_i32 _).1, (x_i32 _).2⟩ (fun G45 u45 => ?_)
  have w45 := w44.p u45 (y_okA rfl)
  refine y_aln (e_35 (25, .aload_n 0, 1) (List.mem_of_getElem? (i := 15) rfl)) g0 ?_
  refine y_iln (e_35 (26, .iload_n 1, 1) (List.mem_of_getElem? (i := 16) rfl)) g1 ?_
  refine y_c2 (K' := _) (e_35 (27, .invokevirtual 44, 3) (List.mem_of_getElem? (i := 17) rfl)) ⟨rfl, rfl, rfl⟩ t_6_44 ⟨by decide, by decide, by decide, by decide⟩ m_36_ok rfl (by decide) (y_recv w45.I th0_77.1 ⟨rfl, rfl⟩) (Nat.le_of_ble_eq_true rfl) (Nat.le_of_ble_eq_true rfl) (l_come w45) (fun r1 G50 h50 => ?_)
  obtain ⟨rfl, w50⟩ := h50
  simp only [Option.toList_some, Option.toList_none, List.cons_append, List.nil_append]
  refine y_aln (e_35 (30, .aload_n 0, 1) (List.mem_of_getElem? (i := 18) rfl)) g0 ?_
  refine y_iln (e_35 (31, .iload_n 2, 1) (List.mem_of_getElem? (i := 19) rfl)) g2 ?_
  refine y_putf (f := (0, -2147483648, 2147483647)) w50.I th0_77.1 (e_35 (32, .putfield 25, 3) (List.mem_of_getElem? (i := 20) rfl)) u_6_25 ⟨rfl, rfl, by decide, rfl, rfl⟩ ⟨_, rfl, (x_i32 _).1, (x_i32 _).2⟩ (fun G46 u46 => ?_)
  have w46 := w50.p u46 (y_okA rfl)
  exact y_ret (e_35 (35, .return_, 1) (List.mem_of_getElem? (i := 21) rfl)) ⟨rfl, rfl⟩ ⟨rfl, _, w46, rfl, rfl, fun _ => rfl, fun z => absurd z hv2, rfl, rfl⟩
set_option maxHeartbeats 2000000 in
set_option maxRecDepth 100000 in
theorem l_hasP {p : Int32} (H : l_C S G) (h0 : 0 ≤ p.toInt) (h1 : p.toInt < (S 2).toInt) : x_Gd xs L J (d) m_59 (fun r G' => G' = G ∧ r = some (.int (Int32.ofInt 1))) 0 (lv_args 0 [.ref 7, .int p]) [] G := by
  have g0 : pm_get (lv_args 0 [.ref 7, .int p]) 0 = some (.ref 7) := rfl
  have g1 : pm_get (lv_args 0 [.ref 7, .int p]) 1 = some (.int p) := rfl
  generalize lv_args 0 [.ref 7, .int p] = lv at g0 g1 ⊢
  refine y_iln (e_59 (0, .iload_n 1, 1) (List.mem_of_getElem? (i := 0) rfl)) g1 ?_
  refine y_ifc (e_59 (1, .ifCond .lt 15, 3) (List.mem_of_getElem? (i := 1) rfl)) rfl (fun hc => ?_) (fun hc => ?_)
  · have z := y_hI.2.2.2.2.2.2.2.2.1 hc
    rw [show (0 : Int32).toInt = 0 from rfl] at z
    omega
  refine y_iln (e_59 (4, .iload_n 1, 1) (List.mem_of_getElem? (i := 2) rfl)) g1 ?_
  refine y_aln (e_59 (5, .aload_n 0, 1) (List.mem_of_getElem? (i := 3) rfl)) g0 ?_
  refine y_getf H.1 th0_77.2.1 (e_59 (6, .getfield 28, 3) (List.mem_of_getElem? (i := 4) rfl)) u_5_28 ⟨rfl, rfl⟩ H.2.2.2.1 ?_
  refine y_icm (e_59 (9, .if_icmp .ge 7, 3) (List.mem_of_getElem? (i := 5) rfl)) rfl (fun hc => ?_) (fun hc => ?_)
  · have z := y_hI.2.2.2.2.1 hc
    omega
  refine y_st (e_59 (12, .iconst 1, 1) (List.mem_of_getElem? (i := 6) rfl)) ⟨rfl, rfl, rfl, rfl⟩ ?_
  refine y_st (e_59 (13, .goto 4, 3) (List.mem_of_getElem? (i := 7) rfl)) ⟨rfl, rfl, rfl, rfl⟩ ?_
  exact y_ret (e_59 (17, .ireturn, 1) (List.mem_of_getElem? (i := 9) rfl)) ⟨rfl, y_rb (Or.inr rfl)⟩ ⟨rfl, rfl⟩
theorem l_ofN {p : Int32} (hp : 0 ≤ p.toInt) : p = Int32.ofNat p.toInt.toNat := by
  apply Int32.toInt_inj.mp
  have h1 := p.toInt_lt
  rw [Int32.toInt_ofNat_of_lt (by omega)]
  omega
set_option maxHeartbeats 2000000 in
set_option maxRecDepth 100000 in
theorem l_pfl {w : Int32} (H : l_C S G) (hR : l_R S) : ∀ (m : Nat) (lv : pL) (p : Int32), (S 2).toInt.toNat = p.toInt.toNat + m → 0 ≤ p.toInt → pm_get lv 0 = some (.ref 7) → pm_get lv 1 = some (.int w) → pm_get lv 2 = some (.int p) → x_Gd xs L J d m_90 (fun r G' => G' = G ∧ r = some (.int (if l_pf S w m p.toInt.toNat < (S 2).toInt.toNat then Int32.ofNat (l_pf S w m p.toInt.toNat) else Int32.ofInt (-1)))) 2 lv [] G := by
  obtain ⟨hb, hK, hnp, hl⟩ := hR
  intro m
  induction m with
  | zero =>
    intro lv p hm hp g0 g1 g2
    refine y_iln (e_90 (2, .iload_n 2, 1) (List.mem_of_getElem? (i := 2) rfl)) g2 ?_
    refine y_aln (e_90 (3, .aload_n 0, 1) (List.mem_of_getElem? (i := 3) rfl)) g0 ?_
    refine y_getf H.1 th0_77.2.1 (e_90 (4, .getfield 28, 3) (List.mem_of_getElem? (i := 4) rfl)) u_5_28 ⟨rfl, rfl⟩ H.2.2.2.1 ?_
    refine y_icm (e_90 (7, .if_icmp .ge 21, 3) (List.mem_of_getElem? (i := 5) rfl)) rfl (fun _ => ?_) (fun hc => ?_)
    · refine y_st (e_90 (28, .iconst (-1), 1) (List.mem_of_getElem? (i := 16) rfl)) ⟨rfl, rfl, rfl, rfl⟩ ?_
      refine y_ret (e_90 (29, .ireturn, 1) (List.mem_of_getElem? (i := 17) rfl)) ⟨rfl, y_ri⟩ ⟨rfl, ?_⟩
      unfold l_pf
      rw [if_neg (by omega)]
    · have := y_hI.2.2.2.2.2.1 hc
      omega
  | succ m ih =>
    intro lv p hm hp g0 g1 g2
    obtain ⟨-, hw⟩ := H.2.2.2.2.2.2.2.2 p.toInt.toNat (by omega) (by omega)
    refine y_iln (e_90 (2, .iload_n 2, 1) (List.mem_of_getElem? (i := 2) rfl)) g2 ?_
    refine y_aln (e_90 (3, .aload_n 0, 1) (List.mem_of_getElem? (i := 3) rfl)) g0 ?_
    refine y_getf H.1 th0_77.2.1 (e_90 (4, .getfield 28, 3) (List.mem_of_getElem? (i := 4) rfl)) u_5_28 ⟨rfl, rfl⟩ H.2.2.2.1 ?_
    refine y_icm (e_90 (7, .if_icmp .ge 21, 3) (List.mem_of_getElem? (i := 5) rfl)) rfl (fun hc => ?_) (fun _ => ?_)
    · have := y_hI.2.2.2.2.1 hc
      omega
    refine y_aln (e_90 (10, .aload_n 0, 1) (List.mem_of_getElem? (i := 6) rfl)) g0 ?_
    refine y_getf H.1 th0_77.2.1 (e_90 (11, .getfield 34, 3) (List.mem_of_getElem? (i := 7) rfl)) u_5_34 ⟨rfl, rfl⟩ H.2.1.2.2.2.2.1 ?_
    refine y_iln (e_90 (14, .iload_n 2, 1) (List.mem_of_getElem? (i := 8) rfl)) g2 ?_
    refine y_iald H.1 th0_77.2.2.2.2.2.1 (e_90 (15, .iaload, 1) (List.mem_of_getElem? (i := 9) rfl)) ⟨rfl, rfl⟩ hp hw ?_
    refine y_iln (e_90 (16, .iload_n 1, 1) (List.mem_of_getElem? (i := 10) rfl)) g1 ?_
    refine y_icm (e_90 (17, .if_icmp .lt 5, 3) (List.mem_of_getElem? (i := 11) rfl)) rfl (fun hc => ?_) (fun hc => ?_)
    · have z := y_hI.2.2.2.2.2.2.2.2.1 hc
      have ea := y_add1 (t := p) (by omega)
      refine y_iinc (e_90 (22, .iinc 2 1, 3) (List.mem_of_getElem? (i := 14) rfl)) g2 (by decide) ?_
      refine y_st (e_90 (25, .goto (-23), 3) (List.mem_of_getElem? (i := 15) rfl)) ⟨rfl, rfl, rfl, rfl⟩ ?_
      have := ih (pm_put1 lv 2 (.int (p + Int32.ofInt 1))) (p + Int32.ofInt 1) (by omega) (by omega) (y_gpr g0 (by decide)) (y_gpi g1 (by decide)) x_get_self
      rw [show (p + Int32.ofInt 1).toInt.toNat = p.toInt.toNat + 1 by omega] at this
      have e : l_pf S w (m + 1) p.toInt.toNat = l_pf S w m (p.toInt.toNat + 1) := by
        conv => lhs; unfold l_pf
        rw [if_neg (by omega)]
      rw [e]
      exact this
    · have z := y_hI.2.2.2.2.2.2.2.2.2.1 hc
      refine y_iln (e_90 (20, .iload_n 2, 1) (List.mem_of_getElem? (i := 12) rfl)) g2 ?_
      refine y_ret (e_90 (21, .ireturn, 1) (List.mem_of_getElem? (i := 13) rfl)) ⟨rfl, y_ri⟩ ⟨rfl, ?_⟩
      have e : l_pf S w (m + 1) p.toInt.toNat = p.toInt.toNat := by
        unfold l_pf
        rw [if_pos (by omega)]
      rw [e, if_pos (by omega)]
      exact congrArg (fun x => some (Value.int x)) (l_ofN hp)
set_option maxHeartbeats 2000000 in
set_option maxRecDepth 100000 in
theorem l_pfor {w : Int32} (H : l_C S G) (hR : l_R S) : x_Gd xs L J (d) m_90 (fun r G' => G' = G ∧ r = some (.int (if l_pf S w (S 2).toInt.toNat 0 < (S 2).toInt.toNat then Int32.ofNat (l_pf S w (S 2).toInt.toNat 0) else Int32.ofInt (-1)))) 0 (lv_args 0 [.ref 7, .int w]) [] G := by
  have g0 : pm_get (lv_args 0 [.ref 7, .int w]) 0 = some (.ref 7) := rfl
  have g1 : pm_get (lv_args 0 [.ref 7, .int w]) 1 = some (.int w) := rfl
  generalize lv_args 0 [.ref 7, .int w] = lv at g0 g1 ⊢
  refine y_st (e_90 (0, .iconst 0, 1) (List.mem_of_getElem? (i := 0) rfl)) ⟨rfl, rfl, rfl, rfl⟩ ?_
  refine y_isn (e_90 (1, .istore_n 2, 1) (List.mem_of_getElem? (i := 1) rfl)) (by decide) ?_
  exact l_pfl H hR (S 2).toInt.toNat _ (Int32.ofInt 0) (by show _ = 0 + _; omega) (by decide) (y_gpr g0 (by decide)) (y_gpi g1 (by decide)) x_get_self
set_option maxHeartbeats 2000000 in
set_option maxRecDepth 100000 in
theorem l_in15 {D : Int32} {lv : pL} {w C P F : Int32} (H : l_B S g G) (hR : l_R S) (e2 : g 2 = some (.int w)) (e3 : g 3 = some (.int (Int32.ofInt 2))) (e4 : g 4 = some (.int C)) (e5 : g 5 = some (.int P)) (e6 : g 6 = some (.int F)) (e8 : g 8 = some (.int (Int32.ofInt 0))) (e9 : g 9 = some (.int (Int32.ofInt 0))) (p0 : 0 ≤ P.toInt) (p1 : P.toInt < (S 2).toInt) (hF : F ≠ Int32.ofInt 2) (hF1 : Int32.ofInt 1 - F ≠ Int32.ofInt 2) (g0 : pm_get lv 0 = some (.ref 77)) (g1 : pm_get lv 1 = some (.ref 7)) : x_Gd xs L J (d + 1) m_87 (fun r G' => r = none ∧ ∃ g', l_B S g' G' ∧ ((C + D).toInt ≤ 0 → l_T w (Int32.ofInt 0) F (Int32.ofInt 0) P F g') ∧ (0 < (C + D).toInt → (S (13 + P.toInt.toNat)).toInt ≤ (C + D).toInt → l_T w (Int32.ofInt 0 + Int32.ofInt 1) (Int32.ofInt 1 - F) (Int32.ofInt 0) P F g') ∧ (0 < (C + D).toInt → (C + D).toInt < (S (13 + P.toInt.toNat)).toInt → l_T w (Int32.ofInt 0) (Int32.ofInt 2) (C + D) P F g')) 15 lv [.int D, .int C, .ref 77] G := by
  have hnp := hR.2.2.1
  refine y_st (e_87 (15, .iadd, 1) (List.mem_of_getElem? (i := 9) rfl)) ⟨rfl, rfl, rfl, rfl⟩ ?_
  refine y_putf (f := (0, -2147483648, 2147483647)) H.I th0_77.1 (e_87 (16, .putfield 25, 3) (List.mem_of_getElem? (i := 10) rfl)) u_6_25 ⟨rfl, rfl, by decide, rfl, rfl⟩ ⟨_, rfl, (x_i32 _).1, (x_i32 _).2⟩ (fun G41 u41 => ?_)
  have w41 := H.p u41 (y_okA rfl)
  refine y_aln (e_87 (19, .aload_n 0, 1) (List.mem_of_getElem? (i := 11) rfl)) g0 ?_
  refine y_getf w41.I th0_77.1 (e_87 (20, .getfield 25, 3) (List.mem_of_getElem? (i := 12) rfl)) u_6_25 ⟨rfl, rfl⟩ (w41.2 4 (by decide)) ?_
  refine y_ifc (e_87 (23, .ifCond .gt 14, 3) (List.mem_of_getElem? (i := 13) rfl)) rfl (fun hc => ?_) (fun hc => ?_)
  rotate_left
  · have z := y_hI.2.2.2.2.2.2.2.2.2.2.2 hc
    rw [show (0 : Int32).toInt = 0 from rfl] at z
    refine y_aln (e_87 (26, .aload_n 0, 1) (List.mem_of_getElem? (i := 14) rfl)) g0 ?_
    refine y_aln (e_87 (27, .aload_n 0, 1) (List.mem_of_getElem? (i := 15) rfl)) g0 ?_
    refine y_getf w41.I th0_77.1 (e_87 (28, .getfield 31, 3) (List.mem_of_getElem? (i := 16) rfl)) u_6_31 ⟨rfl, rfl⟩ ((w41.2 6 (by decide)).trans e6) ?_
    refine y_c2 (K' := _) (e_87 (31, .invokevirtual 44, 3) (List.mem_of_getElem? (i := 17) rfl)) ⟨rfl, rfl, rfl⟩ t_6_44 ⟨by decide, by decide, by decide, by decide⟩ m_36_ok rfl (by decide) (y_recv w41.I th0_77.1 ⟨rfl, rfl⟩) (Nat.le_of_ble_eq_true rfl) (Nat.le_of_ble_eq_true rfl) (l_come w41) (fun r1 G2 h1 => ?_)
    obtain ⟨rfl, w2⟩ := h1
    simp only [Option.toList_some, Option.toList_none, List.cons_append, List.nil_append]
    refine y_st (e_87 (34, .goto 71, 3) (List.mem_of_getElem? (i := 18) rfl)) ⟨rfl, rfl, rfl, rfl⟩ ?_
    exact y_ret (e_87 (105, .return_, 1) (List.mem_of_getElem? (i := 56) rfl)) ⟨rfl, rfl⟩ ⟨rfl, _, w2, fun _ => ⟨e2, rfl, fun _ => rfl, fun y => absurd y hF, e8, e9⟩, fun y => by omega, fun y => by omega⟩
  have z := y_hI.2.2.2.2.2.2.2.2.2.2.1 hc
  rw [show (0 : Int32).toInt = 0 from rfl] at z
  refine y_aln (e_87 (37, .aload_n 1, 1) (List.mem_of_getElem? (i := 19) rfl)) g1 ?_
  refine y_aln (e_87 (38, .aload_n 0, 1) (List.mem_of_getElem? (i := 20) rfl)) g0 ?_
  refine y_getf w41.I th0_77.1 (e_87 (39, .getfield 28, 3) (List.mem_of_getElem? (i := 21) rfl)) u_6_28 ⟨rfl, rfl⟩ ((w41.2 5 (by decide)).trans e5) ?_
  refine y_c2 (K' := _) (e_87 (42, .invokevirtual 69, 3) (List.mem_of_getElem? (i := 22) rfl)) ⟨rfl, rfl, rfl⟩ t_6_69 ⟨by decide, by decide, by decide, by decide⟩ m_59_ok rfl (by decide) (y_recv w41.I th0_77.2.1 ⟨rfl, rfl⟩) (Nat.le_of_ble_eq_true rfl) (Nat.le_of_ble_eq_true rfl) (l_hasP w41.1 p0 p1) (fun r1 G2 h1 => ?_)
  obtain ⟨rfl, rfl⟩ := h1
  simp only [Option.toList_some, Option.toList_none, List.cons_append, List.nil_append]
  refine y_ifc (e_87 (45, .ifCond .eq 60, 3) (List.mem_of_getElem? (i := 23) rfl)) rfl (fun y => absurd y (by decide)) (fun _ => ?_)
  obtain ⟨hl, -⟩ := w41.1.2.2.2.2.2.2.2.2 P.toInt.toNat (by omega) (by omega)
  refine y_aln (e_87 (48, .aload_n 0, 1) (List.mem_of_getElem? (i := 24) rfl)) g0 ?_
  refine y_getf w41.I th0_77.1 (e_87 (49, .getfield 25, 3) (List.mem_of_getElem? (i := 25) rfl)) u_6_25 ⟨rfl, rfl⟩ (w41.2 4 (by decide)) ?_
  refine y_aln (e_87 (52, .aload_n 1, 1) (List.mem_of_getElem? (i := 26) rfl)) g1 ?_
  refine y_getf w41.I th0_77.2.1 (e_87 (53, .getfield 72, 3) (List.mem_of_getElem? (i := 27) rfl)) u_6_72 ⟨rfl, rfl⟩ w41.1.2.1.2.2.2.1 ?_
  refine y_aln (e_87 (56, .aload_n 0, 1) (List.mem_of_getElem? (i := 28) rfl)) g0 ?_
  refine y_getf w41.I th0_77.1 (e_87 (57, .getfield 28, 3) (List.mem_of_getElem? (i := 29) rfl)) u_6_28 ⟨rfl, rfl⟩ ((w41.2 5 (by decide)).trans e5) ?_
  refine y_iald w41.I th0_77.2.2.2.2.1 (e_87 (60, .iaload, 1) (List.mem_of_getElem? (i := 30) rfl)) ⟨rfl, rfl⟩ p0 hl ?_
  refine y_icm (e_87 (61, .if_icmp .lt 44, 3) (List.mem_of_getElem? (i := 31) rfl)) rfl (fun hc => ?_) (fun hc => ?_)
  · have z2 := y_hI.2.2.2.2.2.2.2.2.1 hc
    exact y_ret (e_87 (105, .return_, 1) (List.mem_of_getElem? (i := 56) rfl)) ⟨rfl, rfl⟩ ⟨rfl, _, w41, fun y => by omega, fun _ y => by omega, fun _ _ => ⟨e2, e3, fun _ => rfl, fun _ => ⟨e5, e6⟩, e8, e9⟩⟩
  have z2 := y_hI.2.2.2.2.2.2.2.2.2.1 hc
  obtain ⟨col, hcol⟩ := y_fiT4 (a := 77) (i := 7) w41.I th0_77.1 rfl
  obtain ⟨fa, hfa⟩ := y_iarr (t := 18) (n := 4) w41.I th0_77.2.2.2.2.2.2.1 rfl rfl
  refine y_aln (e_87 (64, .aload_n 0, 1) (List.mem_of_getElem? (i := 32) rfl)) g0 ?_
  refine y_aln (e_87 (65, .aload_n 0, 1) (List.mem_of_getElem? (i := 33) rfl)) g0 ?_
  refine y_getf w41.I th0_77.1 (e_87 (66, .getfield 34, 3) (List.mem_of_getElem? (i := 34) rfl)) u_6_34 ⟨rfl, rfl⟩ hcol ?_
  refine y_aln (e_87 (69, .aload_n 1, 1) (List.mem_of_getElem? (i := 35) rfl)) g1 ?_
  refine y_getf w41.I th0_77.2.1 (e_87 (70, .getfield 76, 3) (List.mem_of_getElem? (i := 36) rfl)) u_6_76 ⟨rfl, rfl⟩ w41.1.2.1.2.2.2.2.2 ?_
  refine y_aln (e_87 (73, .aload_n 0, 1) (List.mem_of_getElem? (i := 37) rfl)) g0 ?_
  refine y_getf w41.I th0_77.1 (e_87 (74, .getfield 28, 3) (List.mem_of_getElem? (i := 38) rfl)) u_6_28 ⟨rfl, rfl⟩ ((w41.2 5 (by decide)).trans e5) ?_
  refine y_iald w41.I th0_77.2.2.2.2.2.2.1 (e_87 (77, .iaload, 1) (List.mem_of_getElem? (i := 39) rfl)) ⟨rfl, rfl⟩ p0 (hfa P.toInt.toNat (by omega)) ?_
  refine y_st (e_87 (78, .iadd, 1) (List.mem_of_getElem? (i := 40) rfl)) ⟨rfl, rfl, rfl, rfl⟩ ?_
  refine y_st (e_87 (79, .bipush 8, 2) (List.mem_of_getElem? (i := 41) rfl)) ⟨rfl, rfl, rfl, rfl⟩ ?_
  refine y_irm (e_87 (81, .irem, 1) (List.mem_of_getElem? (i := 42) rfl)) (by decide) ?_
  refine y_putf (f := (0, -2147483648, 2147483647)) w41.I th0_77.1 (e_87 (82, .putfield 34, 3) (List.mem_of_getElem? (i := 43) rfl)) u_6_34 ⟨rfl, rfl, by decide, rfl, rfl⟩ ⟨_, rfl, (x_i32 _).1, (x_i32 _).2⟩ (fun G42 u42 => ?_)
  have w42 := w41.p u42 (y_okA rfl)
  refine y_aln (e_87 (85, .aload_n 0, 1) (List.mem_of_getElem? (i := 44) rfl)) g0 ?_
  refine y_st (e_87 (86, .dup, 1) (List.mem_of_getElem? (i := 45) rfl)) ⟨rfl, rfl, rfl, rfl⟩ ?_
  refine y_getf w42.I th0_77.1 (e_87 (87, .getfield 41, 3) (List.mem_of_getElem? (i := 46) rfl)) u_6_41 ⟨rfl, rfl⟩ ((w42.2 9 (by decide)).trans (e9)) ?_
  refine y_st (e_87 (90, .iconst 1, 1) (List.mem_of_getElem? (i := 47) rfl)) ⟨rfl, rfl, rfl, rfl⟩ ?_
  refine y_st (e_87 (91, .iadd, 1) (List.mem_of_getElem? (i := 48) rfl)) ⟨rfl, rfl, rfl, rfl⟩ ?_
  refine y_putf (f := (0, -2147483648, 2147483647)) w42.I th0_77.1 (e_87 (92, .putfield 41, 3) (List.mem_of_getElem? (i := 49) rfl)) u_6_41 ⟨rfl, rfl, by decide, rfl, rfl⟩ ⟨_, rfl, (x_i32 _).1, (x_i32 _).2⟩ (fun G43 u43 => ?_)
  have w43 := w42.p u43 (y_okA rfl)
  refine y_aln (e_87 (95, .aload_n 0, 1) (List.mem_of_getElem? (i := 50) rfl)) g0 ?_
  refine y_st (e_87 (96, .iconst 1, 1) (List.mem_of_getElem? (i := 51) rfl)) ⟨rfl, rfl, rfl, rfl⟩ ?_
  refine y_aln (e_87 (97, .aload_n 0, 1) (List.mem_of_getElem? (i := 52) rfl)) g0 ?_
  refine y_getf w43.I th0_77.1 (e_87 (98, .getfield 31, 3) (List.mem_of_getElem? (i := 53) rfl)) u_6_31 ⟨rfl, rfl⟩ ((w43.2 6 (by decide)).trans (e6)) ?_
  refine y_st (e_87 (101, .isub, 1) (List.mem_of_getElem? (i := 54) rfl)) ⟨rfl, rfl, rfl, rfl⟩ ?_
  refine y_c2 (K' := _) (e_87 (102, .invokevirtual 44, 3) (List.mem_of_getElem? (i := 55) rfl)) ⟨rfl, rfl, rfl⟩ t_6_44 ⟨by decide, by decide, by decide, by decide⟩ m_36_ok rfl (by decide) (y_recv w43.I th0_77.1 ⟨rfl, rfl⟩) (Nat.le_of_ble_eq_true rfl) (Nat.le_of_ble_eq_true rfl) (l_come w43) (fun r1 G3 h1 => ?_)
  obtain ⟨rfl, w3⟩ := h1
  simp only [Option.toList_some, Option.toList_none, List.cons_append, List.nil_append]
  exact y_ret (e_87 (105, .return_, 1) (List.mem_of_getElem? (i := 56) rfl)) ⟨rfl, rfl⟩ ⟨rfl, _, w3, fun y => by omega, fun _ _ => ⟨e2, rfl, fun _ => rfl, fun y => absurd y hF1, e8, rfl⟩, fun _ y => by omega⟩
set_option maxHeartbeats 2000000 in
set_option maxRecDepth 100000 in
theorem l_inside {air : Int32} {w C P F : Int32} (H : l_B S g G) (hR : l_R S) (e2 : g 2 = some (.int w)) (e3 : g 3 = some (.int (Int32.ofInt 2))) (e4 : g 4 = some (.int C)) (e5 : g 5 = some (.int P)) (e6 : g 6 = some (.int F)) (e8 : g 8 = some (.int (Int32.ofInt 0))) (e9 : g 9 = some (.int (Int32.ofInt 0))) (p0 : 0 ≤ P.toInt) (p1 : P.toInt < (S 2).toInt) (hF : F ≠ Int32.ofInt 2) (hF1 : Int32.ofInt 1 - F ≠ Int32.ofInt 2) : x_Gd xs L J (d + 1) m_87 (fun r G' => r = none ∧ ∃ g', l_B S g' G' ∧ ((C + (if air = Int32.ofInt 1 then Int32.ofInt 1 else Int32.ofInt (-1))).toInt ≤ 0 → l_T w (Int32.ofInt 0) F (Int32.ofInt 0) P F g') ∧ (0 < (C + (if air = Int32.ofInt 1 then Int32.ofInt 1 else Int32.ofInt (-1))).toInt → (S (13 + P.toInt.toNat)).toInt ≤ (C + (if air = Int32.ofInt 1 then Int32.ofInt 1 else Int32.ofInt (-1))).toInt → l_T w (Int32.ofInt 0 + Int32.ofInt 1) (Int32.ofInt 1 - F) (Int32.ofInt 0) P F g') ∧ (0 < (C + (if air = Int32.ofInt 1 then Int32.ofInt 1 else Int32.ofInt (-1))).toInt → (C + (if air = Int32.ofInt 1 then Int32.ofInt 1 else Int32.ofInt (-1))).toInt < (S (13 + P.toInt.toNat)).toInt → l_T w (Int32.ofInt 0) (Int32.ofInt 2) (C + (if air = Int32.ofInt 1 then Int32.ofInt 1 else Int32.ofInt (-1))) P F g')) 0 (lv_args 0 [.ref 77, .ref 7, .int air]) [] G := by
  have g0 : pm_get (lv_args 0 [.ref 77, .ref 7, .int air]) 0 = some (.ref 77) := rfl
  have g1 : pm_get (lv_args 0 [.ref 77, .ref 7, .int air]) 1 = some (.ref 7) := rfl
  have g2 : pm_get (lv_args 0 [.ref 77, .ref 7, .int air]) 2 = some (.int air) := rfl
  generalize lv_args 0 [.ref 77, .ref 7, .int air] = lv at g0 g1 g2 ⊢
  refine y_aln (e_87 (0, .aload_n 0, 1) (List.mem_of_getElem? (i := 0) rfl)) g0 ?_
  refine y_st (e_87 (1, .dup, 1) (List.mem_of_getElem? (i := 1) rfl)) ⟨rfl, rfl, rfl, rfl⟩ ?_
  refine y_getf H.I th0_77.1 (e_87 (2, .getfield 25, 3) (List.mem_of_getElem? (i := 2) rfl)) u_6_25 ⟨rfl, rfl⟩ ((H.2 4 (by decide)).trans e4) ?_
  refine y_iln (e_87 (5, .iload_n 2, 1) (List.mem_of_getElem? (i := 3) rfl)) g2 ?_
  refine y_st (e_87 (6, .iconst 1, 1) (List.mem_of_getElem? (i := 4) rfl)) ⟨rfl, rfl, rfl, rfl⟩ ?_
  refine y_icm (e_87 (7, .if_icmp .ne 7, 3) (List.mem_of_getElem? (i := 5) rfl)) rfl (fun hc => ?_) (fun hc => ?_)
  · have z := y_hI.2.2.1 hc
    refine y_st (e_87 (14, .iconst (-1), 1) (List.mem_of_getElem? (i := 8) rfl)) ⟨rfl, rfl, rfl, rfl⟩ ?_
    rw [if_neg z]
    exact l_in15 H hR e2 e3 e4 e5 e6 e8 e9 p0 p1 hF hF1 g0 g1
  · have z := y_hI.2.2.2.1 hc
    refine y_st (e_87 (10, .iconst 1, 1) (List.mem_of_getElem? (i := 6) rfl)) ⟨rfl, rfl, rfl, rfl⟩ ?_
    refine y_st (e_87 (11, .goto 4, 3) (List.mem_of_getElem? (i := 7) rfl)) ⟨rfl, rfl, rfl, rfl⟩ ?_
    rw [if_pos z]
    exact l_in15 H hR e2 e3 e4 e5 e6 e8 e9 p0 p1 hF hF1 g0 g1
set_option maxHeartbeats 2000000 in
set_option maxRecDepth 100000 in
theorem l_out {w C W P F : Int32} (H : l_B S g G) (hR : l_R S) (hw : 1 ≤ w.toInt) (hW : W = 0 ∨ W = 1) (e2 : g 2 = some (.int w)) (e3 : g 3 = some (.int W)) (e4 : g 4 = some (.int C)) (e8 : g 8 = some (.int (Int32.ofInt 0))) (e9 : g 9 = some (.int (Int32.ofInt 0))) : x_Gd xs L J (d + 1) m_88 (fun r G' => r = none ∧ ∃ g', l_B S g' G' ∧ ((S W.toInt.toNat).toInt ≤ (C + l_fc S C / w).toInt → l_T w (Int32.ofInt 0) (Int32.ofInt 3) (Int32.ofInt 0) P F g') ∧ ((C + l_fc S C / w).toInt < (S W.toInt.toNat).toInt → l_T w (Int32.ofInt 0) W (C + l_fc S C / w) P F g')) 0 (lv_args 0 [.ref 77, .ref 7]) [] G := by
  have g0 : pm_get (lv_args 0 [.ref 77, .ref 7]) 0 = some (.ref 77) := rfl
  have g1 : pm_get (lv_args 0 [.ref 77, .ref 7]) 1 = some (.ref 7) := rfl
  generalize lv_args 0 [.ref 77, .ref 7] = lv at g0 g1 ⊢
  have hw0 : w ≠ 0 := fun z => by rw [z] at hw; exact absurd hw (by decide)
  have hW2 : W ≠ Int32.ofInt 2 := by rcases hW with rfl | rfl <;> decide
  have hW3 : W ≠ Int32.ofInt 3 := by rcases hW with rfl | rfl <;> decide
  refine y_aln (e_88 (0, .aload_n 0, 1) (List.mem_of_getElem? (i := 0) rfl)) g0 ?_
  refine y_st (e_88 (1, .dup, 1) (List.mem_of_getElem? (i := 1) rfl)) ⟨rfl, rfl, rfl, rfl⟩ ?_
  refine y_getf H.I th0_77.1 (e_88 (2, .getfield 25, 3) (List.mem_of_getElem? (i := 2) rfl)) u_6_25 ⟨rfl, rfl⟩ ((H.2 4 (by decide)).trans (e4)) ?_
  refine y_aln (e_88 (5, .aload_n 0, 1) (List.mem_of_getElem? (i := 3) rfl)) g0 ?_
  refine y_getf H.I th0_77.1 (e_88 (6, .getfield 19, 3) (List.mem_of_getElem? (i := 4) rfl)) u_6_19 ⟨rfl, rfl⟩ ((H.2 2 (by decide)).trans (e2)) ?_
  refine y_st (e_88 (9, .iconst 1, 1) (List.mem_of_getElem? (i := 5) rfl)) ⟨rfl, rfl, rfl, rfl⟩ ?_
  refine y_icm (e_88 (10, .if_icmp .ge 7, 3) (List.mem_of_getElem? (i := 6) rfl)) rfl (fun _ => ?_) (fun hc => ?_)
  rotate_left
  · have z := y_hI.2.2.2.2.2.1 hc
    rw [show (Int32.ofInt 1).toInt = 1 from rfl] at z
    omega
  refine y_aln (e_88 (17, .aload_n 1, 1) (List.mem_of_getElem? (i := 9) rfl)) g1 ?_
  refine y_aln (e_88 (18, .aload_n 0, 1) (List.mem_of_getElem? (i := 10) rfl)) g0 ?_
  refine y_getf H.I th0_77.1 (e_88 (19, .getfield 25, 3) (List.mem_of_getElem? (i := 11) rfl)) u_6_25 ⟨rfl, rfl⟩ ((H.2 4 (by decide)).trans (e4)) ?_
  refine y_c2 (K' := _) (e_88 (22, .invokevirtual 79, 3) (List.mem_of_getElem? (i := 12) rfl)) ⟨rfl, rfl, rfl⟩ t_6_79 ⟨by decide, by decide, by decide, by decide⟩ m_71_ok rfl (by decide) (y_recv H.I th0_77.2.1 ⟨rfl, rfl⟩) (Nat.le_of_ble_eq_true rfl) (Nat.le_of_ble_eq_true rfl) (z_fin H.I th0_77.2.1 hR.2.1 H.1.2.2.2.2.1 H.1.2.2.2.2.2.1) (fun r1 G2 h1 => ?_)
  obtain ⟨rfl, rfl⟩ := h1
  simp only [Option.toList_some, Option.toList_none, List.cons_append, List.nil_append]
  refine y_aln (e_88 (25, .aload_n 0, 1) (List.mem_of_getElem? (i := 13) rfl)) g0 ?_
  refine y_getf H.I th0_77.1 (e_88 (26, .getfield 19, 3) (List.mem_of_getElem? (i := 14) rfl)) u_6_19 ⟨rfl, rfl⟩ ((H.2 2 (by decide)).trans (e2)) ?_
  refine y_idv (e_88 (29, .idiv, 1) (List.mem_of_getElem? (i := 15) rfl)) hw0 ?_
  refine y_st (e_88 (30, .iadd, 1) (List.mem_of_getElem? (i := 16) rfl)) ⟨rfl, rfl, rfl, rfl⟩ ?_
  refine y_putf (f := (0, -2147483648, 2147483647)) H.I th0_77.1 (e_88 (31, .putfield 25, 3) (List.mem_of_getElem? (i := 17) rfl)) u_6_25 ⟨rfl, rfl, by decide, rfl, rfl⟩ ⟨_, rfl, (x_i32 _).1, (x_i32 _).2⟩ (fun G41 u41 => ?_)
  have w41 := H.p u41 (y_okA rfl)
  refine y_aln (e_88 (34, .aload_n 0, 1) (List.mem_of_getElem? (i := 18) rfl)) g0 ?_
  refine y_getf w41.I th0_77.1 (e_88 (35, .getfield 25, 3) (List.mem_of_getElem? (i := 19) rfl)) u_6_25 ⟨rfl, rfl⟩ ((w41.2 4 (by decide)).trans (rfl)) ?_
  refine y_aln (e_88 (38, .aload_n 1, 1) (List.mem_of_getElem? (i := 20) rfl)) g1 ?_
  refine y_aln (e_88 (39, .aload_n 0, 1) (List.mem_of_getElem? (i := 21) rfl)) g0 ?_
  refine y_getf w41.I th0_77.1 (e_88 (40, .getfield 22, 3) (List.mem_of_getElem? (i := 22) rfl)) u_6_22 ⟨rfl, rfl⟩ ((w41.2 3 (by decide)).trans (e3)) ?_
  refine y_c2 (K' := _) (e_88 (43, .invokevirtual 83, 3) (List.mem_of_getElem? (i := 23) rfl)) ⟨rfl, rfl, rfl⟩ t_6_83 ⟨by decide, by decide, by decide, by decide⟩ m_34_ok rfl (by decide) (y_recv w41.I th0_77.2.1 ⟨rfl, rfl⟩) (Nat.le_of_ble_eq_true rfl) (Nat.le_of_ble_eq_true rfl) (z_clo w41.I th0_77.2.1 th0_77.2.2.1 w41.1.2.1.2.1 (w41.1.2.2.1 0 (by decide)) (w41.1.2.2.1 1 (by decide))) (fun r1 G3 h1 => ?_)
  obtain ⟨rfl, rfl⟩ := h1
  simp only [Option.toList_some, Option.toList_none, List.cons_append, List.nil_append]
  have hSW : (if W = 0 then S 0 else if W = Int32.ofInt 1 then S 1 else Int32.ofInt 0) = S W.toInt.toNat := by
    rcases hW with rfl | rfl
    · rfl
    · rfl
  rw [hSW]
  refine y_icm (e_88 (46, .if_icmp .lt 13, 3) (List.mem_of_getElem? (i := 24) rfl)) rfl (fun hc => ?_) (fun hc => ?_)
  · have z := y_hI.2.2.2.2.2.2.2.2.1 hc
    exact y_ret (e_88 (59, .return_, 1) (List.mem_of_getElem? (i := 31) rfl)) ⟨rfl, rfl⟩ ⟨rfl, _, w41, fun y => absurd (Int.lt_of_lt_of_le z y) (Int.lt_irrefl _), fun _ => ⟨e2, e3, fun _ => rfl, fun y => absurd y hW2, e8, e9⟩⟩
  have z := y_hI.2.2.2.2.2.2.2.2.2.1 hc
  refine y_aln (e_88 (49, .aload_n 0, 1) (List.mem_of_getElem? (i := 25) rfl)) g0 ?_
  refine y_st (e_88 (50, .iconst 3, 1) (List.mem_of_getElem? (i := 26) rfl)) ⟨rfl, rfl, rfl, rfl⟩ ?_
  refine y_putf (f := (0, -2147483648, 2147483647)) w41.I th0_77.1 (e_88 (51, .putfield 22, 3) (List.mem_of_getElem? (i := 27) rfl)) u_6_22 ⟨rfl, rfl, by decide, rfl, rfl⟩ ⟨_, rfl, (x_i32 _).1, (x_i32 _).2⟩ (fun G42 u42 => ?_)
  have w42 := w41.p u42 (y_okA rfl)
  refine y_aln (e_88 (54, .aload_n 0, 1) (List.mem_of_getElem? (i := 28) rfl)) g0 ?_
  refine y_st (e_88 (55, .iconst (-1), 1) (List.mem_of_getElem? (i := 29) rfl)) ⟨rfl, rfl, rfl, rfl⟩ ?_
  refine y_putf (f := (0, -2147483648, 2147483647)) w42.I th0_77.1 (e_88 (56, .putfield 25, 3) (List.mem_of_getElem? (i := 30) rfl)) u_6_25 ⟨rfl, rfl, by decide, rfl, rfl⟩ ⟨_, rfl, (x_i32 _).1, (x_i32 _).2⟩ (fun G43 u43 => ?_)
  have w43 := w42.p u43 (y_okA rfl)
  exact y_ret (e_88 (59, .return_, 1) (List.mem_of_getElem? (i := 31) rfl)) ⟨rfl, rfl⟩ ⟨rfl, _, w43, fun _ => ⟨e2, rfl, fun y => absurd rfl y, fun y => absurd y (by decide), e8, e9⟩, fun y => absurd (Int.lt_of_lt_of_le y z) (Int.lt_irrefl _)⟩
theorem y_cmax {M : pM} {K : Option Value → List pE → Prop} {pc k : Nat} {lv : pL} {q : Nat × Nat × Nat × Nat × Nat} {x y : Int32} {r : List Value} (hd : decode M.code pc = .ok (Instr.invokestatic k, 3)) (hf : pm_ctab.find? (fun r => r.1 == M.own && r.2.1 == k) = some q) (h7 : q.2.2.1 = 7) (hc : (r.map fun v => v.category).sum ≤ 8) (hk : x_Gd xs L J (d + 1) M K (pc + 3) lv (.int (if x < y then y else x) :: r) G) : x_Gd xs L J (d + 1) M K pc lv (.int y :: .int x :: r) G := by
  obtain ⟨rr, G', hr, hK⟩ := hk
  exact ⟨rr, G', x_runs_max hd rfl rfl rfl hf h7 hc hr, hK⟩
theorem t_6_86 : pm_ctab.find? (fun r => r.1 == 6 && r.2.1 == 86) = some (6, 86, 7, 0, 880) := by decide +kernel
theorem l_fc0 {S : Nat → Int32} {C : Int32} : 0 ≤ (l_fc S C).toInt := by
  unfold l_fc
  split
  · omega
  · decide
theorem l_dv0 {x w : Int32} (hx : 0 ≤ x.toInt) (hw : 1 ≤ w.toInt) : 0 ≤ (x / w).toInt := by
  have h1 := x.toInt_lt
  have q0 : 0 ≤ x.toInt / w.toInt := Int.ediv_nonneg hx (by omega)
  have q1 : x.toInt / w.toInt ≤ x.toInt := Int.ediv_le_self _ hx
  rw [Int32.toInt_div, Int.tdiv_eq_ediv_of_nonneg hx, Jvm.Kit.bmod32 (by omega) (by omega)]
  exact q0
theorem l_mx {C f : Int32} (hC : 0 < C.toInt) (hf : 0 ≤ f.toInt) : (if (Int32.ofInt 0) < (C - f) then (C - f) else Int32.ofInt 0) = (if C.toInt < f.toInt then Int32.ofInt 0 else C - f) := by
  have h1 := C.toInt_lt
  have h2 := f.toInt_lt
  have e : (C - f).toInt = C.toInt - f.toInt := by rw [Int32.toInt_sub, Jvm.Kit.bmod32 (by omega) (by omega)]
  have e0 : (Int32.ofInt 0).toInt = 0 := rfl
  by_cases c : C.toInt < f.toInt
  · rw [if_pos c, if_neg (by rw [Int32.lt_iff_toInt_lt, e, e0]; omega)]
  · rw [if_neg c]
    by_cases c2 : C.toInt = f.toInt
    · rw [if_neg (by rw [Int32.lt_iff_toInt_lt, e, e0]; omega)]
      exact Int32.toInt_inj.mp (by rw [e, e0]; omega)
    · rw [if_pos (by rw [Int32.lt_iff_toInt_lt, e, e0]; omega)]
set_option maxHeartbeats 2000000 in
set_option maxRecDepth 100000 in
theorem l_inw {w C W P F : Int32} (H : l_B S g G) (hR : l_R S) (hw : 1 ≤ w.toInt) (hW : W = 0 ∨ W = 1) (e2 : g 2 = some (.int w)) (e3 : g 3 = some (.int W)) (e4 : g 4 = some (.int C)) (e8 : g 8 = some (.int (Int32.ofInt 0))) (e9 : g 9 = some (.int (Int32.ofInt 0))) : x_Gd xs L J (d + 1) m_89 (fun r G' => r = none ∧ ∃ g', l_B S g' G' ∧ (0 < C.toInt → l_T w (Int32.ofInt 0) W (if C.toInt < (l_fc S C / w).toInt then Int32.ofInt 0 else C - l_fc S C / w) P F g') ∧ (C.toInt ≤ 0 → (0 < (l_fc S C / w).toInt ∧ l_pf S w (S 2).toInt.toNat 0 < (S 2).toInt.toNat) → l_T w (Int32.ofInt 0) (Int32.ofInt 2) (Int32.ofInt 1) (Int32.ofNat (l_pf S w (S 2).toInt.toNat 0)) W g') ∧ (C.toInt ≤ 0 → ¬ (0 < (l_fc S C / w).toInt ∧ l_pf S w (S 2).toInt.toNat 0 < (S 2).toInt.toNat) → l_T w (Int32.ofInt 0) W C P F g')) 0 (lv_args 0 [.ref 77, .ref 7]) [] G := by
  have g0 : pm_get (lv_args 0 [.ref 77, .ref 7]) 0 = some (.ref 77) := rfl
  have g1 : pm_get (lv_args 0 [.ref 77, .ref 7]) 1 = some (.ref 7) := rfl
  generalize lv_args 0 [.ref 77, .ref 7] = lv at g0 g1 ⊢
  have hw0 : w ≠ 0 := fun z => by rw [z] at hw; exact absurd hw (by decide)
  have hW2 : W ≠ Int32.ofInt 2 := by rcases hW with rfl | rfl <;> decide
  have hW3 : W ≠ Int32.ofInt 3 := by rcases hW with rfl | rfl <;> decide
  have hf0 : 0 ≤ (l_fc S C / w).toInt := l_dv0 l_fc0 hw
  refine y_aln (e_89 (0, .aload_n 0, 1) (List.mem_of_getElem? (i := 0) rfl)) g0 ?_
  refine y_getf H.I th0_77.1 (e_89 (1, .getfield 19, 3) (List.mem_of_getElem? (i := 1) rfl)) u_6_19 ⟨rfl, rfl⟩ ((H.2 2 (by decide)).trans (e2)) ?_
  refine y_st (e_89 (4, .iconst 1, 1) (List.mem_of_getElem? (i := 2) rfl)) ⟨rfl, rfl, rfl, rfl⟩ ?_
  refine y_icm (e_89 (5, .if_icmp .ge 7, 3) (List.mem_of_getElem? (i := 3) rfl)) rfl (fun _ => ?_) (fun hc => ?_)
  rotate_left
  · have z := y_hI.2.2.2.2.2.1 hc
    rw [show (Int32.ofInt 1).toInt = 1 from rfl] at z
    omega
  refine y_aln (e_89 (12, .aload_n 1, 1) (List.mem_of_getElem? (i := 6) rfl)) g1 ?_
  refine y_aln (e_89 (13, .aload_n 0, 1) (List.mem_of_getElem? (i := 7) rfl)) g0 ?_
  refine y_getf H.I th0_77.1 (e_89 (14, .getfield 25, 3) (List.mem_of_getElem? (i := 8) rfl)) u_6_25 ⟨rfl, rfl⟩ ((H.2 4 (by decide)).trans (e4)) ?_
  refine y_c2 (K' := _) (e_89 (17, .invokevirtual 79, 3) (List.mem_of_getElem? (i := 9) rfl)) ⟨rfl, rfl, rfl⟩ t_6_79 ⟨by decide, by decide, by decide, by decide⟩ m_71_ok rfl (by decide) (y_recv H.I th0_77.2.1 ⟨rfl, rfl⟩) (Nat.le_of_ble_eq_true rfl) (Nat.le_of_ble_eq_true rfl) (z_fin H.I th0_77.2.1 hR.2.1 H.1.2.2.2.2.1 H.1.2.2.2.2.2.1) (fun r1 G2 h1 => ?_)
  obtain ⟨rfl, rfl⟩ := h1
  simp only [Option.toList_some, Option.toList_none, List.cons_append, List.nil_append]
  refine y_aln (e_89 (20, .aload_n 0, 1) (List.mem_of_getElem? (i := 10) rfl)) g0 ?_
  refine y_getf H.I th0_77.1 (e_89 (21, .getfield 19, 3) (List.mem_of_getElem? (i := 11) rfl)) u_6_19 ⟨rfl, rfl⟩ ((H.2 2 (by decide)).trans (e2)) ?_
  refine y_idv (e_89 (24, .idiv, 1) (List.mem_of_getElem? (i := 12) rfl)) hw0 ?_
  refine y_isn (e_89 (25, .istore_n 2, 1) (List.mem_of_getElem? (i := 13) rfl)) (by decide) ?_
  have g2 : pm_get (pm_put1 lv 2 (.int (l_fc S C / w))) 2 = some (.int (l_fc S C / w)) := x_get_self
  replace g0 := y_gpr (i := 2) (w := .int (l_fc S C / w)) g0 (by decide)
  replace g1 := y_gpr (i := 2) (w := .int (l_fc S C / w)) g1 (by decide)
  show x_Gd xs L J _ m_89 _ 26 (pm_put1 lv 2 (.int (l_fc S C / w))) [] G2
  generalize pm_put1 lv 2 (.int (l_fc S C / w)) = lv2 at g0 g1 g2 ⊢
  refine y_aln (e_89 (26, .aload_n 0, 1) (List.mem_of_getElem? (i := 14) rfl)) g0 ?_
  refine y_getf H.I th0_77.1 (e_89 (27, .getfield 25, 3) (List.mem_of_getElem? (i := 15) rfl)) u_6_25 ⟨rfl, rfl⟩ ((H.2 4 (by decide)).trans (e4)) ?_
  refine y_ifc (e_89 (30, .ifCond .le 18, 3) (List.mem_of_getElem? (i := 16) rfl)) rfl (fun hc => ?_) (fun hc => ?_)
  rotate_left
  · have z := y_hI.2.2.2.2.2.2.2.1 hc
    rw [show (0 : Int32).toInt = 0 from rfl] at z
    refine y_aln (e_89 (33, .aload_n 0, 1) (List.mem_of_getElem? (i := 17) rfl)) g0 ?_
    refine y_st (e_89 (34, .iconst 0, 1) (List.mem_of_getElem? (i := 18) rfl)) ⟨rfl, rfl, rfl, rfl⟩ ?_
    refine y_aln (e_89 (35, .aload_n 0, 1) (List.mem_of_getElem? (i := 19) rfl)) g0 ?_
    refine y_getf H.I th0_77.1 (e_89 (36, .getfield 25, 3) (List.mem_of_getElem? (i := 20) rfl)) u_6_25 ⟨rfl, rfl⟩ ((H.2 4 (by decide)).trans (e4)) ?_
    refine y_iln (e_89 (39, .iload_n 2, 1) (List.mem_of_getElem? (i := 21) rfl)) g2 ?_
    refine y_st (e_89 (40, .isub, 1) (List.mem_of_getElem? (i := 22) rfl)) ⟨rfl, rfl, rfl, rfl⟩ ?_
    refine y_cmax (e_89 (41, .invokestatic 86, 3) (List.mem_of_getElem? (i := 23) rfl)) t_6_86 rfl (by decide) ?_
    refine y_putf (f := (0, -2147483648, 2147483647)) H.I th0_77.1 (e_89 (44, .putfield 25, 3) (List.mem_of_getElem? (i := 24) rfl)) u_6_25 ⟨rfl, rfl, by decide, rfl, rfl⟩ ⟨_, rfl, (x_i32 _).1, (x_i32 _).2⟩ (fun G41 u41 => ?_)
    have w41 := H.p u41 (y_okA rfl)
    have em : (if (Int32.ofInt 0) < (C - (l_fc S C / w)) then (C - (l_fc S C / w)) else Int32.ofInt 0) = (if C.toInt < (l_fc S C / w).toInt then Int32.ofInt 0 else C - (l_fc S C / w)) := l_mx (by omega) hf0
    rw [em] at w41
    exact y_ret (e_89 (47, .return_, 1) (List.mem_of_getElem? (i := 25) rfl)) ⟨rfl, rfl⟩ ⟨rfl, _, w41, fun _ => ⟨e2, e3, fun _ => rfl, fun y => absurd y hW2, e8, e9⟩, fun y => by omega, fun y => by omega⟩
  have z := y_hI.2.2.2.2.2.2.1 hc
  rw [show (0 : Int32).toInt = 0 from rfl] at z
  refine y_aln (e_89 (48, .aload_n 1, 1) (List.mem_of_getElem? (i := 26) rfl)) g1 ?_
  refine y_aln (e_89 (49, .aload_n 0, 1) (List.mem_of_getElem? (i := 27) rfl)) g0 ?_
  refine y_getf H.I th0_77.1 (e_89 (50, .getfield 19, 3) (List.mem_of_getElem? (i := 28) rfl)) u_6_19 ⟨rfl, rfl⟩ ((H.2 2 (by decide)).trans (e2)) ?_
  refine y_c2 (K' := _) (e_89 (53, .invokevirtual 91, 3) (List.mem_of_getElem? (i := 29) rfl)) ⟨rfl, rfl, rfl⟩ t_6_91 ⟨by decide, by decide, by decide, by decide⟩ m_90_ok rfl (by decide) (y_recv H.I th0_77.2.1 ⟨rfl, rfl⟩) (Nat.le_of_ble_eq_true rfl) (Nat.le_of_ble_eq_true rfl) (l_pfor H.1 hR) (fun r1 G3 h1 => ?_)
  obtain ⟨rfl, rfl⟩ := h1
  simp only [Option.toList_some, Option.toList_none, List.cons_append, List.nil_append]
  refine y_isn (e_89 (56, .istore_n 3, 1) (List.mem_of_getElem? (i := 30) rfl)) (by decide) ?_
  have g3 : pm_get (pm_put1 lv2 3 (.int (if l_pf S w (S 2).toInt.toNat 0 < (S 2).toInt.toNat then Int32.ofNat (l_pf S w (S 2).toInt.toNat 0) else Int32.ofInt (-1)))) 3 = some (.int (if l_pf S w (S 2).toInt.toNat 0 < (S 2).toInt.toNat then Int32.ofNat (l_pf S w (S 2).toInt.toNat 0) else Int32.ofInt (-1))) := x_get_self
  replace g0 := y_gpr (i := 3) (w := .int (if l_pf S w (S 2).toInt.toNat 0 < (S 2).toInt.toNat then Int32.ofNat (l_pf S w (S 2).toInt.toNat 0) else Int32.ofInt (-1))) g0 (by decide)
  replace g2 := y_gpi (i := 3) (w := .int (if l_pf S w (S 2).toInt.toNat 0 < (S 2).toInt.toNat then Int32.ofNat (l_pf S w (S 2).toInt.toNat 0) else Int32.ofInt (-1))) g2 (by decide)
  show x_Gd xs L J _ m_89 _ 57 (pm_put1 lv2 3 (.int (if l_pf S w (S 2).toInt.toNat 0 < (S 2).toInt.toNat then Int32.ofNat (l_pf S w (S 2).toInt.toNat 0) else Int32.ofInt (-1)))) [] G3
  generalize pm_put1 lv2 3 (.int (if l_pf S w (S 2).toInt.toNat 0 < (S 2).toInt.toNat then Int32.ofNat (l_pf S w (S 2).toInt.toNat 0) else Int32.ofInt (-1))) = lv3 at g0 g2 g3 ⊢
  refine y_iln (e_89 (57, .iload_n 2, 1) (List.mem_of_getElem? (i := 31) rfl)) g2 ?_
  refine y_st (e_89 (58, .iconst 1, 1) (List.mem_of_getElem? (i := 32) rfl)) ⟨rfl, rfl, rfl, rfl⟩ ?_
  refine y_icm (e_89 (59, .if_icmp .lt 13, 3) (List.mem_of_getElem? (i := 33) rfl)) rfl (fun hc => ?_) (fun hc => ?_)
  · have z2 := y_hI.2.2.2.2.2.2.2.2.1 hc
    rw [show (Int32.ofInt 1).toInt = 1 from rfl] at z2
    exact y_ret (e_89 (72, .return_, 1) (List.mem_of_getElem? (i := 40) rfl)) ⟨rfl, rfl⟩ ⟨rfl, _, H, fun y => by omega, fun _ y => by omega, fun _ _ => ⟨e2, e3, fun _ => e4, fun y => absurd y hW2, e8, e9⟩⟩
  have z2 := y_hI.2.2.2.2.2.2.2.2.2.1 hc
  rw [show (Int32.ofInt 1).toInt = 1 from rfl] at z2
  refine y_iln (e_89 (62, .iload_n 3, 1) (List.mem_of_getElem? (i := 34) rfl)) g3 ?_
  refine y_st (e_89 (63, .iconst (-1), 1) (List.mem_of_getElem? (i := 35) rfl)) ⟨rfl, rfl, rfl, rfl⟩ ?_
  by_cases hpf : l_pf S w (S 2).toInt.toNat 0 < (S 2).toInt.toNat
  rotate_left
  · rw [if_neg hpf]
    refine y_icm (e_89 (64, .if_icmp .eq 8, 3) (List.mem_of_getElem? (i := 36) rfl)) rfl (fun _ => ?_) (fun hc => absurd hc (by decide))
    exact y_ret (e_89 (72, .return_, 1) (List.mem_of_getElem? (i := 40) rfl)) ⟨rfl, rfl⟩ ⟨rfl, _, H, fun y => by omega, fun _ y => absurd y.2 hpf, fun _ _ => ⟨e2, e3, fun _ => e4, fun y => absurd y hW2, e8, e9⟩⟩
  rw [if_pos hpf] at g3 ⊢
  have hne : Int32.ofNat (l_pf S w (S 2).toInt.toNat 0) ≠ Int32.ofInt (-1) := fun y => by
    have := congrArg Int32.toInt y
    rw [Int32.toInt_ofNat_of_lt (by have := hR.2.2.1; omega), show (Int32.ofInt (-1)).toInt = -1 from rfl] at this
    omega
  refine y_icm (e_89 (64, .if_icmp .eq 8, 3) (List.mem_of_getElem? (i := 36) rfl)) rfl (fun hc => absurd (y_hI.1 hc) hne) (fun _ => ?_)
  refine y_aln (e_89 (67, .aload_n 0, 1) (List.mem_of_getElem? (i := 37) rfl)) g0 ?_
  refine y_iln (e_89 (68, .iload_n 3, 1) (List.mem_of_getElem? (i := 38) rfl)) g3 ?_
  refine y_c2 (K' := _) (e_89 (69, .invokevirtual 94, 3) (List.mem_of_getElem? (i := 39) rfl)) ⟨rfl, rfl, rfl⟩ t_6_94 ⟨by decide, by decide, by decide, by decide⟩ m_91_ok rfl (by decide) (y_recv H.I th0_77.1 ⟨rfl, rfl⟩) (Nat.le_of_ble_eq_true rfl) (Nat.le_of_ble_eq_true rfl) (l_into H e3) (fun r1 G4 h1 => ?_)
  obtain ⟨rfl, w4⟩ := h1
  simp only [Option.toList_some, Option.toList_none, List.cons_append, List.nil_append]
  exact y_ret (e_89 (72, .return_, 1) (List.mem_of_getElem? (i := 40) rfl)) ⟨rfl, rfl⟩ ⟨rfl, _, w4, fun y => by omega, fun _ _ => ⟨e2, rfl, fun _ => rfl, fun _ => ⟨rfl, rfl⟩, e8, e9⟩, fun _ y => absurd ⟨by omega, hpf⟩ y⟩
/-- where a letter may be -/
def l_I (S : Nat → Int32) (W C P F : Int32) : Prop := W = 0 ∨ W = 1 ∨ W = Int32.ofInt 3 ∨ (W = Int32.ofInt 2 ∧ (F = 0 ∨ F = 1) ∧ 0 ≤ P.toInt ∧ P.toInt < (S 2).toInt ∧ 1 ≤ C.toInt ∧ C.toInt < (S (13 + P.toInt.toNat)).toInt)
def l_O (w : Int32) (s : Int32 × Int32 × Int32 × Int32 × Bool) (g : Nat → Option Value) : Prop := l_T w (if s.2.2.2.2 = true then Int32.ofInt 0 + Int32.ofInt 1 else Int32.ofInt 0) s.1 s.2.1 s.2.2.1 s.2.2.2.1 g
theorem z_ar3 {b0 b1 b2 b3 H v h : Int32} : z_ar b0 b1 b2 b3 H v h = Int32.ofInt 0 ∨ z_ar b0 b1 b2 b3 H v h = Int32.ofInt 1 ∨ z_ar b0 b1 b2 b3 H v h = Int32.ofInt 2 := by
  unfold z_ar
  repeat' split
  all_goals first | exact Or.inl rfl | exact Or.inr (Or.inl rfl) | exact Or.inr (Or.inr rfl)
set_option maxHeartbeats 2000000 in
set_option maxRecDepth 100000 in
theorem l_hour {w W C P F h : Int32} (H : l_B S g G) (hR : l_R S) (hT : l_T w (Int32.ofInt 0) W C P F g) (hw : 1 ≤ w.toInt) (hI : l_I S W C P F) (h0 : 0 ≤ h.toInt) (h9 : h.toInt ≤ 999) : x_Gd xs L J (d + 2) m_86 (fun r G' => r = none ∧ ∃ g', l_B S g' G' ∧ l_O w (l_st S w h W C P F) g') 0 (lv_args 0 [.ref 77, .ref 7, .int h]) [] G := by
  have g0 : pm_get (lv_args 0 [.ref 77, .ref 7, .int h]) 0 = some (.ref 77) := rfl
  have g1 : pm_get (lv_args 0 [.ref 77, .ref 7, .int h]) 1 = some (.ref 7) := rfl
  have g2 : pm_get (lv_args 0 [.ref 77, .ref 7, .int h]) 2 = some (.int h) := rfl
  generalize lv_args 0 [.ref 77, .ref 7, .int h] = lv at g0 g1 g2 ⊢
  obtain ⟨e2, e3, e4, e56, e8, e9⟩ := hT
  have hnp := hR.2.2.1
  by_cases c3 : W = Int32.ofInt 3
  · refine y_aln (e_86 (0, .aload_n 0, 1) (List.mem_of_getElem? (i := 0) rfl)) g0 ?_
    refine y_getf H.I th0_77.1 (e_86 (1, .getfield 22, 3) (List.mem_of_getElem? (i := 1) rfl)) u_6_22 ⟨rfl, rfl⟩ ((H.2 3 (by decide)).trans e3) ?_
    refine y_st (e_86 (4, .iconst 3, 1) (List.mem_of_getElem? (i := 2) rfl)) ⟨rfl, rfl, rfl, rfl⟩ ?_
    rw [c3]
    refine y_icm (e_86 (5, .if_icmp .eq 10, 3) (List.mem_of_getElem? (i := 3) rfl)) rfl (fun _ => ?_) (fun hc => absurd hc (by decide))
    refine y_ret (e_86 (15, .return_, 1) (List.mem_of_getElem? (i := 7) rfl)) ⟨rfl, rfl⟩ ⟨rfl, _, H, ?_⟩
    unfold l_st
    rw [if_pos rfl]
    exact ⟨e2, by rw [← c3]; exact e3, fun y => absurd rfl y, fun y => absurd (show Int32.ofInt 3 = Int32.ofInt 2 from y) (by decide), e8, e9⟩
  refine y_aln (e_86 (0, .aload_n 0, 1) (List.mem_of_getElem? (i := 0) rfl)) g0 ?_
  refine y_getf H.I th0_77.1 (e_86 (1, .getfield 22, 3) (List.mem_of_getElem? (i := 1) rfl)) u_6_22 ⟨rfl, rfl⟩ ((H.2 3 (by decide)).trans e3) ?_
  refine y_st (e_86 (4, .iconst 3, 1) (List.mem_of_getElem? (i := 2) rfl)) ⟨rfl, rfl, rfl, rfl⟩ ?_
  refine y_icm (e_86 (5, .if_icmp .eq 10, 3) (List.mem_of_getElem? (i := 3) rfl)) rfl (fun hc => absurd (y_hI.1 hc) c3) (fun _ => ?_)
  refine y_aln (e_86 (8, .aload_n 0, 1) (List.mem_of_getElem? (i := 4) rfl)) g0 ?_
  refine y_getf H.I th0_77.1 (e_86 (9, .getfield 37, 3) (List.mem_of_getElem? (i := 5) rfl)) u_6_37 ⟨rfl, rfl⟩ ((H.2 8 (by decide)).trans e8) ?_
  refine y_ifc (e_86 (12, .ifCond .eq 4, 3) (List.mem_of_getElem? (i := 6) rfl)) rfl (fun _ => ?_) (fun hc => absurd hc (by decide))
  refine y_aln (e_86 (16, .aload_n 1, 1) (List.mem_of_getElem? (i := 8) rfl)) g1 ?_
  refine y_aln (e_86 (17, .aload_n 0, 1) (List.mem_of_getElem? (i := 9) rfl)) g0 ?_
  refine y_getf H.I th0_77.1 (e_86 (18, .getfield 22, 3) (List.mem_of_getElem? (i := 10) rfl)) u_6_22 ⟨rfl, rfl⟩ ((H.2 3 (by decide)).trans e3) ?_
  refine y_st (e_86 (21, .iconst 2, 1) (List.mem_of_getElem? (i := 11) rfl)) ⟨rfl, rfl, rfl, rfl⟩ ?_
  by_cases c2 : W = Int32.ofInt 2
  · obtain ⟨e5, e6⟩ := e56 c2
    obtain ⟨-, hF, p0, p1, hc1, hcl⟩ := ((hI.resolve_left (fun y => by rw [c2] at y; exact absurd y (by decide))).resolve_left (fun y => by rw [c2] at y; exact absurd y (by decide))).resolve_left c3
    have hF2 : F ≠ Int32.ofInt 2 := by rcases hF with rfl | rfl <;> decide
    have hF1 : Int32.ofInt 1 - F ≠ Int32.ofInt 2 := by rcases hF with rfl | rfl <;> decide
    rw [c2]
    refine y_icm (e_86 (22, .if_icmp .ne 10, 3) (List.mem_of_getElem? (i := 12) rfl)) rfl (fun hc => absurd hc (by decide)) (fun _ => ?_)
    refine y_aln (e_86 (25, .aload_n 0, 1) (List.mem_of_getElem? (i := 13) rfl)) g0 ?_
    refine y_getf H.I th0_77.1 (e_86 (26, .getfield 31, 3) (List.mem_of_getElem? (i := 14) rfl)) u_6_31 ⟨rfl, rfl⟩ ((H.2 6 (by decide)).trans e6) ?_
    refine y_st (e_86 (29, .goto 7, 3) (List.mem_of_getElem? (i := 15) rfl)) ⟨rfl, rfl, rfl, rfl⟩ ?_
    refine y_iln (e_86 (36, .iload_n 2, 1) (List.mem_of_getElem? (i := 18) rfl)) g2 ?_
    refine y_c3 (K' := _) (e_86 (37, .invokevirtual 52, 3) (List.mem_of_getElem? (i := 19) rfl)) ⟨rfl, rfl, rfl⟩ t_6_52 ⟨by decide, by decide, by decide, by decide⟩ m_64_ok rfl (by decide) (y_recv H.I th0_77.2.1 ⟨rfl, rfl⟩) (Nat.le_of_ble_eq_true rfl) (Nat.le_of_ble_eq_true rfl) (z_arn (d := d) H.I th0_77.2.1 th0_77.2.2.2.1 H.1.2.1.2.2.1 (H.1.2.2.2.2.2.2.2.1 0 (by decide)) (H.1.2.2.2.2.2.2.2.1 1 (by decide)) (H.1.2.2.2.2.2.2.2.1 2 (by decide)) (H.1.2.2.2.2.2.2.2.1 3 (by decide)) H.1.2.2.2.2.2.2.1 hR.1 h0 h9) (fun r1 G1 h1 => ?_)
    obtain ⟨rfl, rfl⟩ := h1
    simp only [Option.toList_some, Option.toList_none, List.cons_append, List.nil_append]
    refine y_isn (e_86 (40, .istore_n 3, 1) (List.mem_of_getElem? (i := 20) rfl)) (by decide) ?_
    have g3 : pm_get (pm_put1 lv 3 (.int (l_air S F h))) 3 = some (.int (l_air S F h)) := x_get_self
    replace g0 := y_gpr (i := 3) (w := .int (l_air S F h)) g0 (by decide)
    replace g1 := y_gpr (i := 3) (w := .int (l_air S F h)) g1 (by decide)
    have a3 : (l_air S F h) = Int32.ofInt 0 ∨ (l_air S F h) = Int32.ofInt 1 ∨ (l_air S F h) = Int32.ofInt 2 := z_ar3
    show x_Gd xs L J _ m_86 _ 41 (pm_put1 lv 3 (.int (l_air S F h))) [] G1
    generalize pm_put1 lv 3 (.int (l_air S F h)) = lv3 at g0 g1 g3 ⊢
    refine y_iln (e_86 (41, .iload_n 3, 1) (List.mem_of_getElem? (i := 21) rfl)) g3 ?_
    refine y_ifc (e_86 (42, .ifCond .ne 4, 3) (List.mem_of_getElem? (i := 22) rfl)) rfl (fun hc => ?_) (fun hc => ?_)
    rotate_left
    · have z : l_air S F h = 0 := y_hI.2.2.2.1 hc
      refine y_ret (e_86 (45, .return_, 1) (List.mem_of_getElem? (i := 23) rfl)) ⟨rfl, rfl⟩ ⟨rfl, _, H, ?_⟩
      unfold l_st
      rw [if_neg (by decide), if_pos rfl, if_pos z]
      exact ⟨e2, by rw [← c2]; exact e3, fun _ => e4 c3, fun _ => ⟨e5, e6⟩, e8, e9⟩
    have z : l_air S F h ≠ 0 := y_hI.2.2.1 hc
    refine y_aln (e_86 (46, .aload_n 0, 1) (List.mem_of_getElem? (i := 24) rfl)) g0 ?_
    refine y_getf H.I th0_77.1 (e_86 (47, .getfield 22, 3) (List.mem_of_getElem? (i := 25) rfl)) u_6_22 ⟨rfl, rfl⟩ ((H.2 3 (by decide)).trans e3) ?_
    refine y_st (e_86 (50, .iconst 2, 1) (List.mem_of_getElem? (i := 26) rfl)) ⟨rfl, rfl, rfl, rfl⟩ ?_
    rw [c2]
    refine y_icm (e_86 (51, .if_icmp .ne 12, 3) (List.mem_of_getElem? (i := 27) rfl)) rfl (fun hc => absurd hc (by decide)) (fun _ => ?_)
    refine y_aln (e_86 (54, .aload_n 0, 1) (List.mem_of_getElem? (i := 28) rfl)) g0 ?_
    refine y_aln (e_86 (55, .aload_n 1, 1) (List.mem_of_getElem? (i := 29) rfl)) g1 ?_
    refine y_iln (e_86 (56, .iload_n 3, 1) (List.mem_of_getElem? (i := 30) rfl)) g3 ?_
    refine y_c3 (K' := _) (e_86 (57, .invokevirtual 58, 3) (List.mem_of_getElem? (i := 31) rfl)) ⟨rfl, rfl, rfl⟩ t_6_58 ⟨by decide, by decide, by decide, by decide⟩ m_87_ok rfl (by decide) (y_recv H.I th0_77.1 ⟨rfl, rfl⟩) (Nat.le_of_ble_eq_true rfl) (Nat.le_of_ble_eq_true rfl) (l_inside (d := d) H hR e2 (by rw [← c2]; exact e3) (e4 c3) e5 e6 e8 e9 p0 p1 hF2 hF1) (fun r1 G2 h2 => ?_)
    obtain ⟨rfl, g', w2, k1, k2, k3⟩ := h2
    simp only [Option.toList_some, Option.toList_none, List.cons_append, List.nil_append]
    refine y_st (e_86 (60, .goto 21, 3) (List.mem_of_getElem? (i := 32) rfl)) ⟨rfl, rfl, rfl, rfl⟩ ?_
    refine y_ret (e_86 (81, .return_, 1) (List.mem_of_getElem? (i := 43) rfl)) ⟨rfl, rfl⟩ ⟨rfl, g', w2, ?_⟩
    unfold l_st
    rw [if_neg (by decide), if_pos rfl, if_neg z]
    by_cases y1 : (C + (if l_air S F h = Int32.ofInt 1 then Int32.ofInt 1 else Int32.ofInt (-1))).toInt ≤ 0
    · rw [if_pos y1]
      exact k1 y1
    · rw [if_neg y1]
      by_cases y2 : (S (13 + P.toInt.toNat)).toInt ≤ (C + (if l_air S F h = Int32.ofInt 1 then Int32.ofInt 1 else Int32.ofInt (-1))).toInt
      · rw [if_pos y2]
        exact k2 (by omega) y2
      · rw [if_neg y2]
        exact k3 (by omega) (by omega)
  have hW : W = 0 ∨ W = 1 := by
    rcases hI with y | y | y | y
    · exact Or.inl y
    · exact Or.inr y
    · exact absurd y c3
    · exact absurd y.1 c2
  have hWn : W ≠ Int32.ofInt 2 := c2
  refine y_icm (e_86 (22, .if_icmp .ne 10, 3) (List.mem_of_getElem? (i := 12) rfl)) rfl (fun _ => ?_) (fun hc => absurd (y_hI.2.2.2.1 hc) c2)
  refine y_aln (e_86 (32, .aload_n 0, 1) (List.mem_of_getElem? (i := 16) rfl)) g0 ?_
  refine y_getf H.I th0_77.1 (e_86 (33, .getfield 22, 3) (List.mem_of_getElem? (i := 17) rfl)) u_6_22 ⟨rfl, rfl⟩ ((H.2 3 (by decide)).trans e3) ?_
  refine y_iln (e_86 (36, .iload_n 2, 1) (List.mem_of_getElem? (i := 18) rfl)) g2 ?_
  refine y_c3 (K' := _) (e_86 (37, .invokevirtual 52, 3) (List.mem_of_getElem? (i := 19) rfl)) ⟨rfl, rfl, rfl⟩ t_6_52 ⟨by decide, by decide, by decide, by decide⟩ m_64_ok rfl (by decide) (y_recv H.I th0_77.2.1 ⟨rfl, rfl⟩) (Nat.le_of_ble_eq_true rfl) (Nat.le_of_ble_eq_true rfl) (z_arn (d := d) H.I th0_77.2.1 th0_77.2.2.2.1 H.1.2.1.2.2.1 (H.1.2.2.2.2.2.2.2.1 0 (by decide)) (H.1.2.2.2.2.2.2.2.1 1 (by decide)) (H.1.2.2.2.2.2.2.2.1 2 (by decide)) (H.1.2.2.2.2.2.2.2.1 3 (by decide)) H.1.2.2.2.2.2.2.1 hR.1 h0 h9) (fun r1 G1 h1 => ?_)
  obtain ⟨rfl, rfl⟩ := h1
  simp only [Option.toList_some, Option.toList_none, List.cons_append, List.nil_append]
  refine y_isn (e_86 (40, .istore_n 3, 1) (List.mem_of_getElem? (i := 20) rfl)) (by decide) ?_
  have g3 : pm_get (pm_put1 lv 3 (.int (l_air S W h))) 3 = some (.int (l_air S W h)) := x_get_self
  replace g0 := y_gpr (i := 3) (w := .int (l_air S W h)) g0 (by decide)
  replace g1 := y_gpr (i := 3) (w := .int (l_air S W h)) g1 (by decide)
  have a3 : (l_air S W h) = Int32.ofInt 0 ∨ (l_air S W h) = Int32.ofInt 1 ∨ (l_air S W h) = Int32.ofInt 2 := z_ar3
  show x_Gd xs L J _ m_86 _ 41 (pm_put1 lv 3 (.int (l_air S W h))) [] G1
  generalize pm_put1 lv 3 (.int (l_air S W h)) = lv3 at g0 g1 g3 ⊢
  refine y_iln (e_86 (41, .iload_n 3, 1) (List.mem_of_getElem? (i := 21) rfl)) g3 ?_
  refine y_ifc (e_86 (42, .ifCond .ne 4, 3) (List.mem_of_getElem? (i := 22) rfl)) rfl (fun hc => ?_) (fun hc => ?_)
  rotate_left
  · have z : l_air S W h = 0 := y_hI.2.2.2.1 hc
    refine y_ret (e_86 (45, .return_, 1) (List.mem_of_getElem? (i := 23) rfl)) ⟨rfl, rfl⟩ ⟨rfl, _, H, ?_⟩
    unfold l_st
    rw [if_neg c3, if_neg c2, if_pos z]
    exact ⟨e2, e3, e4, fun y => absurd y c2, e8, e9⟩
  have z : l_air S W h ≠ 0 := y_hI.2.2.1 hc
  refine y_aln (e_86 (46, .aload_n 0, 1) (List.mem_of_getElem? (i := 24) rfl)) g0 ?_
  refine y_getf H.I th0_77.1 (e_86 (47, .getfield 22, 3) (List.mem_of_getElem? (i := 25) rfl)) u_6_22 ⟨rfl, rfl⟩ ((H.2 3 (by decide)).trans e3) ?_
  refine y_st (e_86 (50, .iconst 2, 1) (List.mem_of_getElem? (i := 26) rfl)) ⟨rfl, rfl, rfl, rfl⟩ ?_
  refine y_icm (e_86 (51, .if_icmp .ne 12, 3) (List.mem_of_getElem? (i := 27) rfl)) rfl (fun _ => ?_) (fun hc => absurd (y_hI.2.2.2.1 hc) c2)
  refine y_iln (e_86 (63, .iload_n 3, 1) (List.mem_of_getElem? (i := 33) rfl)) g3 ?_
  refine y_st (e_86 (64, .iconst 2, 1) (List.mem_of_getElem? (i := 34) rfl)) ⟨rfl, rfl, rfl, rfl⟩ ?_
  refine y_icm (e_86 (65, .if_icmp .ne 11, 3) (List.mem_of_getElem? (i := 35) rfl)) rfl (fun hc => ?_) (fun hc => ?_)
  · have z2 : l_air S W h ≠ Int32.ofInt 2 := y_hI.2.2.1 hc
    refine y_aln (e_86 (76, .aload_n 0, 1) (List.mem_of_getElem? (i := 40) rfl)) g0 ?_
    refine y_aln (e_86 (77, .aload_n 1, 1) (List.mem_of_getElem? (i := 41) rfl)) g1 ?_
    refine y_c2 (K' := _) (e_86 (78, .invokevirtual 66, 3) (List.mem_of_getElem? (i := 42) rfl)) ⟨rfl, rfl, rfl⟩ t_6_66 ⟨by decide, by decide, by decide, by decide⟩ m_89_ok rfl (by decide) (y_recv H.I th0_77.1 ⟨rfl, rfl⟩) (Nat.le_of_ble_eq_true rfl) (Nat.le_of_ble_eq_true rfl) (l_inw (d := d) (P := P) (F := F) H hR hw hW e2 e3 (e4 c3) e8 e9) (fun r1 G2 h2 => ?_)
    obtain ⟨rfl, g', w2, k1, k2, k3⟩ := h2
    simp only [Option.toList_some, Option.toList_none, List.cons_append, List.nil_append]
    refine y_ret (e_86 (81, .return_, 1) (List.mem_of_getElem? (i := 43) rfl)) ⟨rfl, rfl⟩ ⟨rfl, g', w2, ?_⟩
    unfold l_st
    rw [if_neg c3, if_neg c2, if_neg z, if_neg z2]
    by_cases y1 : 0 < C.toInt
    · rw [if_pos y1]
      exact k1 y1
    · rw [if_neg y1]
      by_cases y2 : 0 < (l_fc S C / w).toInt ∧ l_pf S w (S 2).toInt.toNat 0 < (S 2).toInt.toNat
      · rw [if_pos y2]
        exact k2 (by omega) y2
      · rw [if_neg y2]
        exact k3 (by omega) y2
  · have z2 : l_air S W h = Int32.ofInt 2 := y_hI.2.2.2.1 hc
    refine y_aln (e_86 (68, .aload_n 0, 1) (List.mem_of_getElem? (i := 36) rfl)) g0 ?_
    refine y_aln (e_86 (69, .aload_n 1, 1) (List.mem_of_getElem? (i := 37) rfl)) g1 ?_
    refine y_c2 (K' := _) (e_86 (70, .invokevirtual 62, 3) (List.mem_of_getElem? (i := 38) rfl)) ⟨rfl, rfl, rfl⟩ t_6_62 ⟨by decide, by decide, by decide, by decide⟩ m_88_ok rfl (by decide) (y_recv H.I th0_77.1 ⟨rfl, rfl⟩) (Nat.le_of_ble_eq_true rfl) (Nat.le_of_ble_eq_true rfl) (l_out (d := d) (P := P) (F := F) H hR hw hW e2 e3 (e4 c3) e8 e9) (fun r1 G2 h2 => ?_)
    obtain ⟨rfl, g', w2, k1, k2⟩ := h2
    simp only [Option.toList_some, Option.toList_none, List.cons_append, List.nil_append]
    refine y_st (e_86 (73, .goto 8, 3) (List.mem_of_getElem? (i := 39) rfl)) ⟨rfl, rfl, rfl, rfl⟩ ?_
    refine y_ret (e_86 (81, .return_, 1) (List.mem_of_getElem? (i := 43) rfl)) ⟨rfl, rfl⟩ ⟨rfl, g', w2, ?_⟩
    unfold l_st
    rw [if_neg c3, if_neg c2, if_neg z, if_pos z2]
    by_cases y1 : (S W.toInt.toNat).toInt ≤ (C + l_fc S C / w).toInt
    · rw [if_pos y1]
      exact k1 y1
    · rw [if_neg y1]
      exact k2 (by omega)
end LT
