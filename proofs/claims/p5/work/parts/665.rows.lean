def m_244 : pM := (⟨"BreathingHillModel", "logLine", "()Z"⟩, 1805, 4, some (FieldType.boolean), 17, 0, false, 10, 103, 1804, 80)
set_option maxRecDepth 100000 in
theorem m_244_ok : pm_tab[244]? = some m_244 := rfl
theorem e_244 : ∀ q ∈ d_244, decode m_244.code q.1 = .ok (q.2.1, q.2.2) := y_dec d_244_ok m_244_ok
def E_tk : List (Nat × Nat × Nat) := [(10, 4, 4), (10, 11, 18)]
def sg_ll0_ns : List xN := []
def sg_ll0_os : List xN := [(42, [(0, (20, ([(0, 1)], 0))), (1, (0, ([(1, 3)], 0)))], [], [([(1, 1)], 0), ([(1, -1)], 39)], 2, [([], 0), ([], 0), ([], 0), ([], 0), ([], 0)]), (118, [(0, (20, ([(0, 1)], 0))), (1, (0, ([(1, 3)], 0)))], [], [], 2, [([], 0), ([], 0), ([], 0), ([], 0), ([], 0)])]
def sg_ll0_g : xG := ([([(1, 1)], 0), ([(1, -1)], 40)], [(0, (20, ([(0, 1)], 0)))], [], [(10, ([(0, 1)], 0), 32, (0, ([(1, 1)], 0)))], 2)
def sg_ll0_ps : List xP := [(some (0, ([], 0)), [], [])]
set_option maxRecDepth 100000 in
set_option maxHeartbeats 4000000 in
theorem sg_ll0_ok : x_seg x_tb [c_189, c_190, c_193] m_244 d_244 E_bad 2 sg_ll0_ps sg_ll0_ns sg_ll0_os 30 false 0 sg_ll0_g = true := by decide +kernel
set_option maxRecDepth 100000 in
theorem sg_ll0_go {th : List Nat} {xs : Nat → Int32} {L J d : Nat} {K : Option Value → List pE → Prop} (hd : 194 ≤ d) {v : Nat → Int} {lv : pL} {ws : List Value} {G0 G : List pE} (hS : x_S x_tb th v sg_ll0_g lv ws G) (hE : x_eff th E_bad G0 G) (hK : ∀ r G', x_Post x_tb th E_bad sg_ll0_ps 2 v G0 r G' → K r G') (hO : ∀ n ∈ sg_ll0_os, ∀ (vn : Nat → Int) (lv : pL) (G1 : List pE), x_ag 2 v vn → x_S x_tb th vn (n.2.2.2.1, n.2.1, [], n.2.2.1, n.2.2.2.2.1) lv [] G1 → x_eff th E_bad G0 G1 → x_Gd xs L J (d + 1) m_244 K n.1 lv [] G1) : x_Gd xs L J (d + 1) m_244 K 0 lv ws G :=
  x_seg_ok (dm := 194) x_tb_wf ⟨rfl, rfl, rfl⟩ e_244 (List.forall_mem_cons.mpr ⟨(h_189 th xs L J).mono (by omega), List.forall_mem_cons.mpr ⟨(h_190 th xs L J).mono (by omega), List.forall_mem_cons.mpr ⟨(h_193 th xs L J).mono (by omega), fun _ h => absurd h List.not_mem_nil⟩⟩⟩) hd sg_ll0_ok hS hE (fun z => by cases z) hK hO
def sg_ll79_ns : List xN := []
def sg_ll79_os : List xN := [(91, [(0, (20, ([(0, 1)], 0))), (1, (0, ([(1, 3)], 0)))], [], [], 2, [([], 0), ([], 0), ([], 0), ([], 0), ([], 0)])]
def sg_ll79_g : xG := ([], [(0, (20, ([(0, 1)], 0))), (1, (0, ([(1, 3)], 0)))], [], [], 2)
def sg_ll79_ps : List xP := [(some (0, ([], 0)), [], [])]
set_option maxRecDepth 100000 in
set_option maxHeartbeats 4000000 in
theorem sg_ll79_ok : x_seg x_tb [c_194] m_244 d_244 E_tk 2 sg_ll79_ps sg_ll79_ns sg_ll79_os 16 false 79 sg_ll79_g = true := by decide +kernel
set_option maxRecDepth 100000 in
theorem sg_ll79_go {th : List Nat} {xs : Nat → Int32} {L J d : Nat} {K : Option Value → List pE → Prop} (hd : 195 ≤ d) {v : Nat → Int} {lv : pL} {ws : List Value} {G0 G : List pE} (hS : x_S x_tb th v sg_ll79_g lv ws G) (hE : x_eff th E_tk G0 G) (hK : ∀ r G', x_Post x_tb th E_tk sg_ll79_ps 2 v G0 r G' → K r G') (hO : ∀ n ∈ sg_ll79_os, ∀ (vn : Nat → Int) (lv : pL) (G1 : List pE), x_ag 2 v vn → x_S x_tb th vn (n.2.2.2.1, n.2.1, [], n.2.2.1, n.2.2.2.2.1) lv [] G1 → x_eff th E_tk G0 G1 → x_Gd xs L J (d + 1) m_244 K n.1 lv [] G1) : x_Gd xs L J (d + 1) m_244 K 79 lv ws G :=
  x_seg_ok (dm := 195) x_tb_wf ⟨rfl, rfl, rfl⟩ e_244 (List.forall_mem_cons.mpr ⟨(h_194 th xs L J).mono (by omega), fun _ h => absurd h List.not_mem_nil⟩) hd sg_ll79_ok hS hE (fun z => by cases z) hK hO
def sg_ll143_ns : List xN := []
def sg_ll143_os : List xN := [(172, [(0, (20, ([(0, 1)], 0))), (1, (0, ([(1, 3)], 0))), (2, (0, ([(2, 1)], 0))), (3, (0, ([(3, 1)], 0)))], [], [([(2, 1)], 0), ([(1, -1)], 39)], 4, [([], 0), ([], 0), ([], 0), ([], 0), ([], 0)]), (172, [(0, (20, ([(0, 1)], 0))), (1, (0, ([(1, 3)], 0))), (2, (0, ([(2, 1)], 0))), (3, (0, ([(3, 1)], 0)))], [], [([(3, 1)], 0), ([(1, -1)], 39)], 4, [([], 0), ([], 0), ([], 0), ([], 0), ([], 0)])]
def sg_ll143_g : xG := ([([(1, 1)], 0), ([(1, -1)], 40)], [(0, (20, ([(0, 1)], 0))), (1, (0, ([(1, 3)], 0))), (2, (0, ([(2, 1)], 0))), (3, (0, ([(3, 1)], 0)))], [], [(10, ([(0, 1)], 0), 32, (0, ([(1, 1)], 0)))], 4)
def sg_ll143_ps : List xP := [(some (0, ([], 0)), [], [])]
set_option maxRecDepth 100000 in
set_option maxHeartbeats 4000000 in
theorem sg_ll143_ok : x_seg x_tb [c_189] m_244 d_244 E_bad 4 sg_ll143_ps sg_ll143_ns sg_ll143_os 21 false 143 sg_ll143_g = true := by decide +kernel
set_option maxRecDepth 100000 in
theorem sg_ll143_go {th : List Nat} {xs : Nat → Int32} {L J d : Nat} {K : Option Value → List pE → Prop} (hd : 190 ≤ d) {v : Nat → Int} {lv : pL} {ws : List Value} {G0 G : List pE} (hS : x_S x_tb th v sg_ll143_g lv ws G) (hE : x_eff th E_bad G0 G) (hK : ∀ r G', x_Post x_tb th E_bad sg_ll143_ps 4 v G0 r G' → K r G') (hO : ∀ n ∈ sg_ll143_os, ∀ (vn : Nat → Int) (lv : pL) (G1 : List pE), x_ag 4 v vn → x_S x_tb th vn (n.2.2.2.1, n.2.1, [], n.2.2.1, n.2.2.2.2.1) lv [] G1 → x_eff th E_bad G0 G1 → x_Gd xs L J (d + 1) m_244 K n.1 lv [] G1) : x_Gd xs L J (d + 1) m_244 K 143 lv ws G :=
  x_seg_ok (dm := 190) x_tb_wf ⟨rfl, rfl, rfl⟩ e_244 (List.forall_mem_cons.mpr ⟨(h_189 th xs L J).mono (by omega), fun _ h => absurd h List.not_mem_nil⟩) hd sg_ll143_ok hS hE (fun z => by cases z) hK hO
def sg_ll197_ns : List xN := []
def sg_ll197_os : List xN := [(213, [(0, (20, ([(0, 1)], 0))), (1, (0, ([(1, 3)], 0)))], [], [], 2, [([], 0), ([], 0), ([], 0), ([], 0), ([], 0)])]
def sg_ll197_g : xG := ([], [(0, (20, ([(0, 1)], 0))), (1, (0, ([(1, 3)], 0)))], [], [], 2)
def sg_ll197_ps : List xP := [(some (0, ([], 0)), [], [])]
set_option maxRecDepth 100000 in
set_option maxHeartbeats 4000000 in
theorem sg_ll197_ok : x_seg x_tb [c_189, c_190] m_244 d_244 E_bad 2 sg_ll197_ps sg_ll197_ns sg_ll197_os 17 false 197 sg_ll197_g = true := by decide +kernel
set_option maxRecDepth 100000 in
theorem sg_ll197_go {th : List Nat} {xs : Nat → Int32} {L J d : Nat} {K : Option Value → List pE → Prop} (hd : 191 ≤ d) {v : Nat → Int} {lv : pL} {ws : List Value} {G0 G : List pE} (hS : x_S x_tb th v sg_ll197_g lv ws G) (hE : x_eff th E_bad G0 G) (hK : ∀ r G', x_Post x_tb th E_bad sg_ll197_ps 2 v G0 r G' → K r G') (hO : ∀ n ∈ sg_ll197_os, ∀ (vn : Nat → Int) (lv : pL) (G1 : List pE), x_ag 2 v vn → x_S x_tb th vn (n.2.2.2.1, n.2.1, [], n.2.2.1, n.2.2.2.2.1) lv [] G1 → x_eff th E_bad G0 G1 → x_Gd xs L J (d + 1) m_244 K n.1 lv [] G1) : x_Gd xs L J (d + 1) m_244 K 197 lv ws G :=
  x_seg_ok (dm := 191) x_tb_wf ⟨rfl, rfl, rfl⟩ e_244 (List.forall_mem_cons.mpr ⟨(h_189 th xs L J).mono (by omega), List.forall_mem_cons.mpr ⟨(h_190 th xs L J).mono (by omega), fun _ h => absurd h List.not_mem_nil⟩⟩) hd sg_ll197_ok hS hE (fun z => by cases z) hK hO
def sg_ll220_ns : List xN := []
def sg_ll220_os : List xN := [(236, [(0, (20, ([(0, 1)], 0))), (1, (0, ([(1, 3)], 0)))], [], [], 2, [([], 0), ([], 0), ([], 0), ([], 0), ([], 0)])]
def sg_ll220_g : xG := ([], [(0, (20, ([(0, 1)], 0))), (1, (0, ([(1, 3)], 0)))], [], [], 2)
def sg_ll220_ps : List xP := [(some (0, ([], 0)), [], [])]
set_option maxRecDepth 100000 in
set_option maxHeartbeats 4000000 in
theorem sg_ll220_ok : x_seg x_tb [c_188, c_194] m_244 d_244 E_tk 2 sg_ll220_ps sg_ll220_ns sg_ll220_os 18 false 220 sg_ll220_g = true := by decide +kernel
set_option maxRecDepth 100000 in
theorem sg_ll220_go {th : List Nat} {xs : Nat → Int32} {L J d : Nat} {K : Option Value → List pE → Prop} (hd : 195 ≤ d) {v : Nat → Int} {lv : pL} {ws : List Value} {G0 G : List pE} (hS : x_S x_tb th v sg_ll220_g lv ws G) (hE : x_eff th E_tk G0 G) (hK : ∀ r G', x_Post x_tb th E_tk sg_ll220_ps 2 v G0 r G' → K r G') (hO : ∀ n ∈ sg_ll220_os, ∀ (vn : Nat → Int) (lv : pL) (G1 : List pE), x_ag 2 v vn → x_S x_tb th vn (n.2.2.2.1, n.2.1, [], n.2.2.1, n.2.2.2.2.1) lv [] G1 → x_eff th E_tk G0 G1 → x_Gd xs L J (d + 1) m_244 K n.1 lv [] G1) : x_Gd xs L J (d + 1) m_244 K 220 lv ws G :=
  x_seg_ok (dm := 195) x_tb_wf ⟨rfl, rfl, rfl⟩ e_244 (List.forall_mem_cons.mpr ⟨(h_188 th xs L J).mono (by omega), List.forall_mem_cons.mpr ⟨(h_194 th xs L J).mono (by omega), fun _ h => absurd h List.not_mem_nil⟩⟩) hd sg_ll220_ok hS hE (fun z => by cases z) hK hO
def sg_ll250_ns : List xN := []
def sg_ll250_os : List xN := [(276, [(0, (20, ([(0, 1)], 0))), (1, (0, ([(1, 3)], 0)))], [], [], 2, [([], 0), ([], 0), ([], 0), ([], 0), ([], 0)])]
def sg_ll250_g : xG := ([], [(0, (20, ([(0, 1)], 0))), (1, (0, ([(1, 3)], 0)))], [], [], 2)
def sg_ll250_ps : List xP := [(some (0, ([], 0)), [], [])]
set_option maxRecDepth 100000 in
set_option maxHeartbeats 4000000 in
theorem sg_ll250_ok : x_seg x_tb [c_189, c_190] m_244 d_244 E_bad 2 sg_ll250_ps sg_ll250_ns sg_ll250_os 21 false 250 sg_ll250_g = true := by decide +kernel
set_option maxRecDepth 100000 in
theorem sg_ll250_go {th : List Nat} {xs : Nat → Int32} {L J d : Nat} {K : Option Value → List pE → Prop} (hd : 191 ≤ d) {v : Nat → Int} {lv : pL} {ws : List Value} {G0 G : List pE} (hS : x_S x_tb th v sg_ll250_g lv ws G) (hE : x_eff th E_bad G0 G) (hK : ∀ r G', x_Post x_tb th E_bad sg_ll250_ps 2 v G0 r G' → K r G') (hO : ∀ n ∈ sg_ll250_os, ∀ (vn : Nat → Int) (lv : pL) (G1 : List pE), x_ag 2 v vn → x_S x_tb th vn (n.2.2.2.1, n.2.1, [], n.2.2.1, n.2.2.2.2.1) lv [] G1 → x_eff th E_bad G0 G1 → x_Gd xs L J (d + 1) m_244 K n.1 lv [] G1) : x_Gd xs L J (d + 1) m_244 K 250 lv ws G :=
  x_seg_ok (dm := 191) x_tb_wf ⟨rfl, rfl, rfl⟩ e_244 (List.forall_mem_cons.mpr ⟨(h_189 th xs L J).mono (by omega), List.forall_mem_cons.mpr ⟨(h_190 th xs L J).mono (by omega), fun _ h => absurd h List.not_mem_nil⟩⟩) hd sg_ll250_ok hS hE (fun z => by cases z) hK hO
theorem E_tk_r : ∀ i, i < 135 → y_out E_tk 38 i = true := by decide
/-- a LINE of a LOG, as read -/
def z_row (rd : Nat → Int32) (i : Nat) : Prop := (((rd (3 * i)).toInt = 0 ∨ (rd (3 * i)).toInt = 1) ∧ 0 ≤ (rd (3 * i + 1)).toInt ∧ (rd (3 * i + 1)).toInt ≤ 7) ∨ ((rd (3 * i)).toInt = 2 ∧ 0 ≤ (rd (3 * i + 1)).toInt ∧ (rd (3 * i + 1)).toInt ≤ 3) ∨ 3 ≤ (rd (3 * i)).toInt
def z_rows (rd : Nat → Int32) (n : Int) : Prop := ∀ i : Nat, (i : Int) < n → z_row rd i
/-- what is read, and how many LINES -/
def z_RV (th : List Nat) (G : List pE) (a rb : Nat) (rd : Nat → Int32) (tv : Int32) : Prop := xI x_tb th G ∧ th[a]? = some 10 ∧ x_sl G a 8 = some (.ref rb) ∧ th[rb]? = some 38 ∧ (∀ i, i < 135 → x_sl G rb i = some (.int (rd i))) ∧ x_sl G a 32 = some (.int tv)
theorem z_RVview {th : List Nat} {G : List pE} {a : Nat} (hI : xI x_tb th G) (ta : th[a]? = some 10) : ∃ rb rd tv, z_RV th G a rb rd tv := by
  obtain ⟨rb, h1, h2⟩ := y_fref (i := 8) (u := 38) hI ta rfl
  obtain ⟨rd, h5⟩ := y_arr (t := 38) (n := 135) hI h2 rfl
  obtain ⟨tv, h6, -⟩ := y_fint (i := 32) hI ta rfl
  exact ⟨rb, rd, tv, hI, ta, h1, h2, h5, h6⟩
section ZRV
variable {th : List Nat} {xs : Nat → Int32} {L J d a rb : Nat} {rd : Nat → Int32} {tv : Int32} {G G' : List pE}
theorem z_RV.rt (h : z_RV th G a rb rd tv) : 0 ≤ tv.toInt ∧ tv.toInt ≤ 40 := y_fie (i := 32) (t := 10) h.1 h.2.1 rfl h.2.2.2.2.2
theorem z_RV.eff {E : List (Nat × Nat × Nat)} (h : z_RV th G a rb rd tv) (hI : xI x_tb th G') (he : x_eff th E G G') (h1 : (y_out E 10 8 && y_out E 10 32) = true) (h2 : ∀ i, i < 135 → y_out E 38 i = true) : z_RV th G' a rb rd tv := by
  rw [Bool.and_eq_true] at h1
  obtain ⟨-, ta, k1, k2, k3, k4⟩ := h
  exact ⟨hI, ta, by rw [he.at ta h1.1]; exact k1, k2, fun i hi => by rw [he.at k2 (h2 i hi)]; exact k3 i hi, by rw [he.at ta h1.2]; exact k4⟩
theorem z_RV.put {i : Nat} {x : Int32} (h : z_RV th G a rb rd tv) (u : x_upd G G' rb i (.int x)) (hi : i < 135) : z_RV th G' a rb (fun j => if j = i then x else rd j) tv := by
  obtain ⟨hI, ta, k1, k2, k3, k4⟩ := h
  have ne : a ≠ rb := fun z => by rw [z, k2] at ta; cases ta
  exact ⟨hI.upd u k2 (y_okA (y_one hi)), ta, by rw [u.2.1, if_neg (fun z => ne z.1)]; exact k1, k2, y_updI k3 u, by rw [u.2.1, if_neg (fun z => ne z.1)]; exact k4⟩
/-- what logLine() leaves of the LINES -/
def z_LL (th : List Nat) (a rb : Nat) (tv : Int32) (r : Option Value) (G' : List pE) : Prop := r = some (.int 0) ∨ (r = some (.int 1) ∧ tv.toInt ≤ 39 ∧ ∃ rd', z_RV th G' a rb rd' tv ∧ z_rows rd' (tv.toInt + 1))
theorem z_rows.new {rd' : Nat → Int32} {n : Int} (h : z_rows rd n) (h1 : ∀ i : Nat, (i : Int) < 3 * n → rd' i = rd i) (h2 : ∀ i : Nat, (i : Int) = n → z_row rd' i) : z_rows rd' (n + 1) := by
  intro i hi
  by_cases hin : (i : Int) < n
  · have := h i hin
    unfold z_row at this ⊢
    rw [h1 (3 * i) (by omega), h1 (3 * i + 1) (by omega)]
    exact this
  · exact h2 i (by omega)
theorem z_rows.keep {rd' : Nat → Int32} {n : Int} (h : z_rows rd n) (h1 : ∀ i : Nat, (i : Int) < 3 * n → rd' i = rd i) : z_rows rd' n := by
  intro i hi
  have := h i hi
  unfold z_row at this ⊢
  rw [h1 (3 * i) (by omega), h1 (3 * i + 1) (by omega)]
  exact this
theorem z_fail {E : List (Nat × Nat × Nat)} {m0 : Nat} {v : Nat → Int} {G0 : List pE} {r : Option Value} (h : x_Post x_tb th E [(some (0, ([], 0)), [], [])] m0 v G0 r G') : z_LL th a rb tv r G' := by
  obtain ⟨v', -, -, -, -, p, hp, -, -, pa⟩ := h
  obtain rfl : p = _ := List.mem_singleton.mp hp
  obtain ⟨y, rfl, hy⟩ := y_p1 pa
  obtain rfl : y = 0 := y_i0 hy
  exact Or.inl rfl
theorem y_m3 {x : Int32} (h0 : 0 ≤ x.toInt) (h1 : x.toInt ≤ 40) : ∀ y : Int32, y.toInt = 3 * x.toInt → (y + Int32.ofInt 1).toInt = 3 * x.toInt + 1 ∧ (y + Int32.ofInt 2).toInt = 3 * x.toInt + 2 := by
  intro y hy
  have one : (Int32.ofInt 1).toInt = 1 := rfl
  have two : (Int32.ofInt 2).toInt = 2 := rfl
  constructor
  · rw [y_add (by omega) (by omega)]; omega
  · rw [y_add (by omega) (by omega)]; omega
set_option maxHeartbeats 2000000 in
set_option maxRecDepth 100000 in
theorem g_ll91 (hd : 195 ≤ d) {lv : pL} {t3 : Int32} (hV : z_RV th G a rb rd tv) (hR : z_rows rd tv.toInt) (e3 : t3.toInt = 3 * tv.toInt) (l39 : tv.toInt ≤ 39) (g0 : pm_get lv 0 = some (.ref a)) (g1 : pm_get lv 1 = some (.int t3)) (hw : (rd (3 * tv.toInt.toNat)).toInt = 4) : x_Gd xs L J (d + 1) m_244 (z_LL th a rb tv) 91 lv [] G := by
  obtain ⟨hI, ta, k8, tr, hrd, k32⟩ := id hV
  have rt := hV.rt
  obtain ⟨a1, a2⟩ := y_m3 rt.1 rt.2 t3 e3
  obtain ⟨gt, hgt, -⟩ := y_fint (i := 18) hI ta rfl
  refine y_aln (e_244 (91, .aload_n 0, 1) (List.mem_of_getElem? (i := 49) rfl)) g0 ?_
  refine y_getf hI ta (e_244 (92, .getfield 40, 3) (List.mem_of_getElem? (i := 50) rfl)) u_17_40 ⟨rfl, rfl⟩ k8 ?_
  refine y_iln (e_244 (95, .iload_n 1, 1) (List.mem_of_getElem? (i := 51) rfl)) g1 ?_
  refine y_st (e_244 (96, .iconst 1, 1) (List.mem_of_getElem? (i := 52) rfl)) ⟨rfl, rfl, rfl, rfl⟩ ?_
  refine y_st (e_244 (97, .iadd, 1) (List.mem_of_getElem? (i := 53) rfl)) ⟨rfl, rfl, rfl, rfl⟩ ?_
  refine y_aln (e_244 (98, .aload_n 0, 1) (List.mem_of_getElem? (i := 54) rfl)) g0 ?_
  refine y_getf hI ta (e_244 (99, .getfield 177, 3) (List.mem_of_getElem? (i := 55) rfl)) u_17_177 ⟨rfl, rfl⟩ hgt ?_
  refine y_iast hI tr (e_244 (102, .iastore, 1) (List.mem_of_getElem? (i := 56) rfl)) ⟨rfl, rfl⟩ ⟨by omega, by show _ < (135 : Int); omega⟩ (fun G1 u1 => ?_)
  rw [show (t3 + Int32.ofInt 1).toInt.toNat = 3 * tv.toInt.toNat + 1 by omega] at u1
  have hV1 := hV.put u1 (by omega)
  refine y_st (e_244 (103, .iconst 1, 1) (List.mem_of_getElem? (i := 57) rfl)) ⟨rfl, rfl, rfl, rfl⟩ ?_
  refine y_ret (e_244 (104, .ireturn, 1) (List.mem_of_getElem? (i := 58) rfl)) ⟨rfl, y_rb (by decide)⟩ (Or.inr ⟨rfl, l39, _, hV1, hR.new (fun i hi => if_neg (by omega)) (fun i hi => ?_)⟩)
  obtain rfl : i = tv.toInt.toNat := by omega
  refine Or.inr (Or.inr ?_)
  dsimp only
  rw [if_neg (by omega), hw]
  decide
set_option maxHeartbeats 2000000 in
set_option maxRecDepth 100000 in
theorem g_ll42 (hd : 195 ≤ d) {lv : pL} {t3 : Int32} (hV : z_RV th G a rb rd tv) (hR : z_rows rd tv.toInt) (e3 : t3.toInt = 3 * tv.toInt) (l39 : tv.toInt ≤ 39) (g0 : pm_get lv 0 = some (.ref a)) (g1 : pm_get lv 1 = some (.int t3))  : x_Gd xs L J (d + 1) m_244 (z_LL th a rb tv) 42 lv [] G := by
  obtain ⟨hI, ta, k8, tr, hrd, k32⟩ := id hV
  have rt := hV.rt
  obtain ⟨a1, a2⟩ := y_m3 rt.1 rt.2 t3 e3
  have tail : ∀ x : Int32, x.toInt = 3 ∨ x.toInt = 4 → ∀ G2, xI x_tb th G2 → x_eff th [] G G2 → x_Gd xs L J (d + 1) m_244 (z_LL th a rb tv) 62 lv [.int x, .int t3, .ref rb] G2 := by
    intro x hx G2 hI2 ef2
    have hV2 := hV.eff hI2 ef2 rfl (fun _ _ => rfl)
    refine y_iast hI2 tr (e_244 (62, .iastore, 1) (List.mem_of_getElem? (i := 31) rfl)) ⟨rfl, rfl⟩ ⟨by omega, by show _ < (135 : Int); omega⟩ (fun G3 u3 => ?_)
    rw [show t3.toInt.toNat = 3 * tv.toInt.toNat by omega] at u3
    have hV3 := hV2.put u3 (by omega)
    refine y_aln (e_244 (63, .aload_n 0, 1) (List.mem_of_getElem? (i := 32) rfl)) g0 ?_
    refine y_c1 (K' := _) (e_244 (64, .invokevirtual 170, 3) (List.mem_of_getElem? (i := 33) rfl)) ⟨rfl, rfl, rfl⟩ t_17_170 ⟨by decide, by decide, by decide, by decide⟩ m_163_ok rfl (by decide) (y_recv hV3.1 ta ⟨rfl, rfl⟩) (Nat.le_of_ble_eq_true rfl) (Nat.le_of_ble_eq_true rfl) (g_next (d := d) hV3.1 ta (by omega)) (fun r1 G4 h1 => ?_)
    obtain ⟨rfl, hI4, ef4⟩ := h1
    simp only [Option.toList_some, Option.toList_none, List.cons_append, List.nil_append]
    have hV4 := hV3.eff hI4 ef4 rfl E_next_r
    have hR4 : z_rows (fun j => if j = 3 * tv.toInt.toNat then x else rd j) tv.toInt := hR.keep (fun i hi => if_neg (by omega))
    refine y_aln (e_244 (67, .aload_n 0, 1) (List.mem_of_getElem? (i := 34) rfl)) g0 ?_
    refine y_getf hI4 ta (e_244 (68, .getfield 40, 3) (List.mem_of_getElem? (i := 35) rfl)) u_17_40 ⟨rfl, rfl⟩ hV4.2.2.1 ?_
    refine y_iln (e_244 (71, .iload_n 1, 1) (List.mem_of_getElem? (i := 36) rfl)) g1 ?_
    refine y_iald hI4 tr (e_244 (72, .iaload, 1) (List.mem_of_getElem? (i := 37) rfl)) ⟨rfl, rfl⟩ (by omega) (hV4.2.2.2.2.1 t3.toInt.toNat (by omega)) ?_
    refine y_st (e_244 (73, .iconst 3, 1) (List.mem_of_getElem? (i := 38) rfl)) ⟨rfl, rfl, rfl, rfl⟩ ?_
    refine y_icm (e_244 (74, .if_icmp .ne 5, 3) (List.mem_of_getElem? (i := 39) rfl)) rfl (fun hb => ?_) (fun hb => ?_)
    · refine sg_ll79_go (d := d) (by omega) (v := (y_v [(a : Int), tv.toInt])) (G0 := G4) ⟨y_v_Bd (List.forall_mem_cons.mpr ⟨(y_cellB hI4 ta), (List.forall_mem_cons.mpr ⟨(x_i32 tv), (fun _ h => absurd h List.not_mem_nil)⟩)⟩), (fun _ h => absurd h List.not_mem_nil), (List.forall_mem_cons.mpr ⟨⟨_, g0, a, rfl, (by simp only [xl_ev, xt_ev, y_v, List.getD_cons_succ, List.getD_cons_zero]; omega), ta⟩, (List.forall_mem_cons.mpr ⟨⟨_, g1, _, rfl, (by rw [e3]; simp only [xl_ev, xt_ev, y_v, List.getD_cons_succ, List.getD_cons_zero]; omega)⟩, (fun _ h => absurd h List.not_mem_nil)⟩)⟩), trivial, (fun _ h => absurd h List.not_mem_nil), hI4⟩ x_eff.rf (fun r G' h => z_fail h) (fun n hn vn lv9 G5 hag hS9 hE9 => ?_)
      obtain rfl : n = _ := List.mem_singleton.mp hn
      have z0 : vn 0 = (a : Int) := hag 0 (by decide)
      have z1 : vn 1 = tv.toInt := hag 1 (by decide)
      have g0 := hS9.loCe (i := 0) (t := 10) (l := ([(0, 1)], 0)) (a := a) (List.mem_of_getElem? (i := 0) rfl) (by simp only [xl_ev, xt_ev]; omega)
      have g1 := hS9.lo0e (i := 1) (l := ([(1, 3)], 0)) (x := t3) (List.mem_of_getElem? (i := 1) rfl) (by simp only [xl_ev, xt_ev]; omega)
      have hV5 := hV4.eff hS9.2.2.2.2.2 hE9 rfl E_tk_r
      refine g_ll91 hd hV5 hR4 e3 l39 g0 g1 ?_
      have xne := y_hI.2.2.1 hb
      rw [show t3.toInt.toNat = 3 * tv.toInt.toNat by omega] at xne
      dsimp only at xne ⊢
      rw [if_pos rfl] at xne ⊢
      rcases hx with z | z
      · exact absurd (Int32.toInt_inj.mp (z.trans (by decide))) xne
      · exact z
    · refine y_st (e_244 (77, .iconst 1, 1) (List.mem_of_getElem? (i := 40) rfl)) ⟨rfl, rfl, rfl, rfl⟩ ?_
      refine y_ret (e_244 (78, .ireturn, 1) (List.mem_of_getElem? (i := 41) rfl)) ⟨rfl, y_rb (by decide)⟩ (Or.inr ⟨rfl, l39, _, hV4, hR.new (fun i hi => if_neg (by omega)) (fun i hi => ?_)⟩)
      obtain rfl : i = tv.toInt.toNat := by omega
      refine Or.inr (Or.inr ?_)
      dsimp only
      rw [if_pos rfl]
      omega
  refine y_aln (e_244 (42, .aload_n 0, 1) (List.mem_of_getElem? (i := 21) rfl)) g0 ?_
  refine y_getf hI ta (e_244 (43, .getfield 40, 3) (List.mem_of_getElem? (i := 22) rfl)) u_17_40 ⟨rfl, rfl⟩ k8 ?_
  refine y_iln (e_244 (46, .iload_n 1, 1) (List.mem_of_getElem? (i := 23) rfl)) g1 ?_
  refine y_aln (e_244 (47, .aload_n 0, 1) (List.mem_of_getElem? (i := 24) rfl)) g0 ?_
  refine y_st (e_244 (48, .ldc2_w 104, 3) (List.mem_of_getElem? (i := 25) rfl)) ⟨rfl, rfl, rfl, rfl⟩ ?_
  refine y_c2 (K' := _) (e_244 (51, .invokevirtual 198, 3) (List.mem_of_getElem? (i := 26) rfl)) ⟨rfl, rfl, rfl⟩ t_17_198 ⟨by decide, by decide, by decide, by decide⟩ m_168_ok rfl (by decide) (y_recv hI ta ⟨rfl, rfl⟩) (Nat.le_of_ble_eq_true rfl) (Nat.le_of_ble_eq_true rfl) (g_isWord (d := d) hI ta (by omega) _) (fun r1 G2 h1 => ?_)
  obtain ⟨y, rfl, hy, hI2, ef2⟩ := h1
  simp only [Option.toList_some, Option.toList_none, List.cons_append, List.nil_append]
  refine y_ifc (e_244 (54, .ifCond .eq 7, 3) (List.mem_of_getElem? (i := 27) rfl)) rfl (fun hb => ?_) (fun hb => ?_)
  · refine y_st (e_244 (61, .iconst 3, 1) (List.mem_of_getElem? (i := 30) rfl)) ⟨rfl, rfl, rfl, rfl⟩ ?_
    exact tail _ (Or.inl (by decide)) _ hI2 ef2
  · refine y_st (e_244 (57, .iconst 4, 1) (List.mem_of_getElem? (i := 28) rfl)) ⟨rfl, rfl, rfl, rfl⟩ ?_
    refine y_st (e_244 (58, .goto 4, 3) (List.mem_of_getElem? (i := 29) rfl)) ⟨rfl, rfl, rfl, rfl⟩ ?_
    exact tail _ (Or.inr (by decide)) _ hI2 ef2
set_option maxHeartbeats 2000000 in
set_option maxRecDepth 100000 in
theorem g_ll236 (hd : 195 ≤ d) {lv : pL} {t3 : Int32} (hV : z_RV th G a rb rd tv) (hR : z_rows rd tv.toInt) (e3 : t3.toInt = 3 * tv.toInt) (l39 : tv.toInt ≤ 39) (g0 : pm_get lv 0 = some (.ref a)) (g1 : pm_get lv 1 = some (.int t3)) (hw : (rd (3 * tv.toInt.toNat)).toInt = 2) (hk : 0 ≤ (rd (3 * tv.toInt.toNat + 1)).toInt ∧ (rd (3 * tv.toInt.toNat + 1)).toInt ≤ 3) : x_Gd xs L J (d + 1) m_244 (z_LL th a rb tv) 236 lv [] G := by
  obtain ⟨hI, ta, k8, tr, hrd, k32⟩ := id hV
  have rt := hV.rt
  obtain ⟨a1, a2⟩ := y_m3 rt.1 rt.2 t3 e3
  obtain ⟨gt, hgt, -⟩ := y_fint (i := 18) hI ta rfl
  refine y_aln (e_244 (236, .aload_n 0, 1) (List.mem_of_getElem? (i := 135) rfl)) g0 ?_
  refine y_getf hI ta (e_244 (237, .getfield 40, 3) (List.mem_of_getElem? (i := 136) rfl)) u_17_40 ⟨rfl, rfl⟩ k8 ?_
  refine y_iln (e_244 (240, .iload_n 1, 1) (List.mem_of_getElem? (i := 137) rfl)) g1 ?_
  refine y_st (e_244 (241, .iconst 2, 1) (List.mem_of_getElem? (i := 138) rfl)) ⟨rfl, rfl, rfl, rfl⟩ ?_
  refine y_st (e_244 (242, .iadd, 1) (List.mem_of_getElem? (i := 139) rfl)) ⟨rfl, rfl, rfl, rfl⟩ ?_
  refine y_aln (e_244 (243, .aload_n 0, 1) (List.mem_of_getElem? (i := 140) rfl)) g0 ?_
  refine y_getf hI ta (e_244 (244, .getfield 177, 3) (List.mem_of_getElem? (i := 141) rfl)) u_17_177 ⟨rfl, rfl⟩ hgt ?_
  refine y_iast hI tr (e_244 (247, .iastore, 1) (List.mem_of_getElem? (i := 142) rfl)) ⟨rfl, rfl⟩ ⟨by omega, by show _ < (135 : Int); omega⟩ (fun G1 u1 => ?_)
  rw [show (t3 + Int32.ofInt 2).toInt.toNat = 3 * tv.toInt.toNat + 2 by omega] at u1
  have hV1 := hV.put u1 (by omega)
  refine y_st (e_244 (248, .iconst 1, 1) (List.mem_of_getElem? (i := 143) rfl)) ⟨rfl, rfl, rfl, rfl⟩ ?_
  refine y_ret (e_244 (249, .ireturn, 1) (List.mem_of_getElem? (i := 144) rfl)) ⟨rfl, y_rb (by decide)⟩ (Or.inr ⟨rfl, l39, _, hV1, hR.new (fun i hi => if_neg (by omega)) (fun i hi => ?_)⟩)
  obtain rfl : i = tv.toInt.toNat := by omega
  refine Or.inr (Or.inl ?_)
  dsimp only
  rw [if_neg (by omega), if_neg (by omega)]
  exact ⟨hw, hk⟩
set_option maxHeartbeats 2000000 in
set_option maxRecDepth 100000 in
theorem g_ll197 (hd : 195 ≤ d) {lv : pL} {t3 : Int32} (hV : z_RV th G a rb rd tv) (hR : z_rows rd tv.toInt) (e3 : t3.toInt = 3 * tv.toInt) (l39 : tv.toInt ≤ 39) (g0 : pm_get lv 0 = some (.ref a)) (g1 : pm_get lv 1 = some (.int t3)) (hk : 0 ≤ (rd (3 * tv.toInt.toNat + 1)).toInt ∧ (rd (3 * tv.toInt.toNat + 1)).toInt ≤ 3) : x_Gd xs L J (d + 1) m_244 (z_LL th a rb tv) 197 lv [] G := by
  obtain ⟨hI, ta, k8, tr, hrd, k32⟩ := id hV
  have rt := hV.rt
  obtain ⟨a1, a2⟩ := y_m3 rt.1 rt.2 t3 e3
  refine sg_ll197_go (d := d) (by omega) (v := (y_v [(a : Int), tv.toInt])) (G0 := G) ⟨y_v_Bd (List.forall_mem_cons.mpr ⟨(y_cellB hI ta), (List.forall_mem_cons.mpr ⟨(x_i32 tv), (fun _ h => absurd h List.not_mem_nil)⟩)⟩), (fun _ h => absurd h List.not_mem_nil), (List.forall_mem_cons.mpr ⟨⟨_, g0, a, rfl, (by simp only [xl_ev, xt_ev, y_v, List.getD_cons_succ, List.getD_cons_zero]; omega), ta⟩, (List.forall_mem_cons.mpr ⟨⟨_, g1, _, rfl, (by rw [e3]; simp only [xl_ev, xt_ev, y_v, List.getD_cons_succ, List.getD_cons_zero]; omega)⟩, (fun _ h => absurd h List.not_mem_nil)⟩)⟩), trivial, (fun _ h => absurd h List.not_mem_nil), hI⟩ x_eff.rf (fun r G' h => z_fail h) (fun n hn vn lv9 G1 hag hS9 hE9 => ?_)
  obtain rfl : n = _ := List.mem_singleton.mp hn
  have z0 : vn 0 = (a : Int) := hag 0 (by decide)
  have z1 : vn 1 = tv.toInt := hag 1 (by decide)
  have g0 := hS9.loCe (i := 0) (t := 10) (l := ([(0, 1)], 0)) (a := a) (List.mem_of_getElem? (i := 0) rfl) (by simp only [xl_ev, xt_ev]; omega)
  have g1 := hS9.lo0e (i := 1) (l := ([(1, 3)], 0)) (x := t3) (List.mem_of_getElem? (i := 1) rfl) (by simp only [xl_ev, xt_ev]; omega)
  have hV1 := hV.eff hS9.2.2.2.2.2 hE9 rfl (by decide)
  have hI1 := hV1.1
  refine y_aln (e_244 (213, .aload_n 0, 1) (List.mem_of_getElem? (i := 121) rfl)) g0 ?_
  refine y_getf hI1 ta (e_244 (214, .getfield 40, 3) (List.mem_of_getElem? (i := 122) rfl)) u_17_40 ⟨rfl, rfl⟩ hV1.2.2.1 ?_
  refine y_iln (e_244 (217, .iload_n 1, 1) (List.mem_of_getElem? (i := 123) rfl)) g1 ?_
  refine y_st (e_244 (218, .iconst 2, 1) (List.mem_of_getElem? (i := 124) rfl)) ⟨rfl, rfl, rfl, rfl⟩ ?_
  refine y_iast hI1 tr (e_244 (219, .iastore, 1) (List.mem_of_getElem? (i := 125) rfl)) ⟨rfl, rfl⟩ ⟨by omega, by show _ < (135 : Int); omega⟩ (fun G2 u2 => ?_)
  rw [show t3.toInt.toNat = 3 * tv.toInt.toNat by omega] at u2
  have hV2 := hV1.put u2 (by omega)
  have hI2 := hV2.1
  have hR2 : z_rows (fun j => if j = 3 * tv.toInt.toNat then Int32.ofInt 2 else rd j) tv.toInt := hR.keep (fun i hi => if_neg (by omega))
  refine sg_ll220_go (d := d) (by omega) (v := (y_v [(a : Int), tv.toInt])) (G0 := G2) ⟨y_v_Bd (List.forall_mem_cons.mpr ⟨(y_cellB hI2 ta), (List.forall_mem_cons.mpr ⟨(x_i32 tv), (fun _ h => absurd h List.not_mem_nil)⟩)⟩), (fun _ h => absurd h List.not_mem_nil), (List.forall_mem_cons.mpr ⟨⟨_, g0, a, rfl, (by simp only [xl_ev, xt_ev, y_v, List.getD_cons_succ, List.getD_cons_zero]; omega), ta⟩, (List.forall_mem_cons.mpr ⟨⟨_, g1, _, rfl, (by rw [e3]; simp only [xl_ev, xt_ev, y_v, List.getD_cons_succ, List.getD_cons_zero]; omega)⟩, (fun _ h => absurd h List.not_mem_nil)⟩)⟩), trivial, (fun _ h => absurd h List.not_mem_nil), hI2⟩ x_eff.rf (fun r G' h => z_fail h) (fun n hn vn lv9 G3 hag hS8 hE8 => ?_)
  obtain rfl : n = _ := List.mem_singleton.mp hn
  have z0 : vn 0 = (a : Int) := hag 0 (by decide)
  have z1 : vn 1 = tv.toInt := hag 1 (by decide)
  have g0 := hS8.loCe (i := 0) (t := 10) (l := ([(0, 1)], 0)) (a := a) (List.mem_of_getElem? (i := 0) rfl) (by simp only [xl_ev, xt_ev]; omega)
  have g1 := hS8.lo0e (i := 1) (l := ([(1, 3)], 0)) (x := t3) (List.mem_of_getElem? (i := 1) rfl) (by simp only [xl_ev, xt_ev]; omega)
  have hV3 := hV2.eff hS8.2.2.2.2.2 hE8 rfl E_tk_r
  exact g_ll236 hd hV3 hR2 e3 l39 g0 g1 (by rw [if_pos rfl]; decide) (by rw [if_neg (by omega)]; exact hk)
set_option maxHeartbeats 2000000 in
set_option maxRecDepth 100000 in
theorem g_ll250 (hd : 195 ≤ d) {lv : pL} {t3 : Int32} (hV : z_RV th G a rb rd tv) (hR : z_rows rd tv.toInt) (e3 : t3.toInt = 3 * tv.toInt) (l39 : tv.toInt ≤ 39) (g0 : pm_get lv 0 = some (.ref a)) (g1 : pm_get lv 1 = some (.int t3)) (hk : 0 ≤ (rd (3 * tv.toInt.toNat + 1)).toInt ∧ (rd (3 * tv.toInt.toNat + 1)).toInt ≤ 7) : x_Gd xs L J (d + 1) m_244 (z_LL th a rb tv) 250 lv [] G := by
  obtain ⟨hI, ta, k8, tr, hrd, k32⟩ := id hV
  have rt := hV.rt
  obtain ⟨a1, a2⟩ := y_m3 rt.1 rt.2 t3 e3
  refine sg_ll250_go (d := d) (by omega) (v := (y_v [(a : Int), tv.toInt])) (G0 := G) ⟨y_v_Bd (List.forall_mem_cons.mpr ⟨(y_cellB hI ta), (List.forall_mem_cons.mpr ⟨(x_i32 tv), (fun _ h => absurd h List.not_mem_nil)⟩)⟩), (fun _ h => absurd h List.not_mem_nil), (List.forall_mem_cons.mpr ⟨⟨_, g0, a, rfl, (by simp only [xl_ev, xt_ev, y_v, List.getD_cons_succ, List.getD_cons_zero]; omega), ta⟩, (List.forall_mem_cons.mpr ⟨⟨_, g1, _, rfl, (by rw [e3]; simp only [xl_ev, xt_ev, y_v, List.getD_cons_succ, List.getD_cons_zero]; omega)⟩, (fun _ h => absurd h List.not_mem_nil)⟩)⟩), trivial, (fun _ h => absurd h List.not_mem_nil), hI⟩ x_eff.rf (fun r G' h => z_fail h) (fun n hn vn lv9 G1 hag hS9 hE9 => ?_)
  obtain rfl : n = _ := List.mem_singleton.mp hn
  have z0 : vn 0 = (a : Int) := hag 0 (by decide)
  have z1 : vn 1 = tv.toInt := hag 1 (by decide)
  have g0 := hS9.loCe (i := 0) (t := 10) (l := ([(0, 1)], 0)) (a := a) (List.mem_of_getElem? (i := 0) rfl) (by simp only [xl_ev, xt_ev]; omega)
  have g1 := hS9.lo0e (i := 1) (l := ([(1, 3)], 0)) (x := t3) (List.mem_of_getElem? (i := 1) rfl) (by simp only [xl_ev, xt_ev]; omega)
  have hV1 := hV.eff hS9.2.2.2.2.2 hE9 rfl (by decide)
  have hI1 := hV1.1
  have tail : ∀ x : Int32, x.toInt = 0 ∨ x.toInt = 1 → ∀ G2, xI x_tb th G2 → x_eff th [] G1 G2 → x_Gd xs L J (d + 1) m_244 (z_LL th a rb tv) 296 lv9 [.int x, .int t3, .ref rb] G2 := by
    intro x hx G2 hI2 ef2
    have hV2 := hV1.eff hI2 ef2 rfl (fun _ _ => rfl)
    refine y_iast hI2 tr (e_244 (296, .iastore, 1) (List.mem_of_getElem? (i := 167) rfl)) ⟨rfl, rfl⟩ ⟨by omega, by show _ < (135 : Int); omega⟩ (fun G3 u3 => ?_)
    rw [show t3.toInt.toNat = 3 * tv.toInt.toNat by omega] at u3
    have hV3 := hV2.put u3 (by omega)
    refine y_aln (e_244 (297, .aload_n 0, 1) (List.mem_of_getElem? (i := 168) rfl)) g0 ?_
    refine y_c1 (K' := _) (e_244 (298, .invokevirtual 170, 3) (List.mem_of_getElem? (i := 169) rfl)) ⟨rfl, rfl, rfl⟩ t_17_170 ⟨by decide, by decide, by decide, by decide⟩ m_163_ok rfl (by decide) (y_recv hV3.1 ta ⟨rfl, rfl⟩) (Nat.le_of_ble_eq_true rfl) (Nat.le_of_ble_eq_true rfl) (g_next (d := d) hV3.1 ta (by omega)) (fun r1 G4 h1 => ?_)
    obtain ⟨rfl, hI4, ef4⟩ := h1
    simp only [Option.toList_some, Option.toList_none, List.cons_append, List.nil_append]
    have hV4 := hV3.eff hI4 ef4 rfl E_next_r
    refine y_st (e_244 (301, .iconst 1, 1) (List.mem_of_getElem? (i := 170) rfl)) ⟨rfl, rfl, rfl, rfl⟩ ?_
    refine y_ret (e_244 (302, .ireturn, 1) (List.mem_of_getElem? (i := 171) rfl)) ⟨rfl, y_rb (by decide)⟩ (Or.inr ⟨rfl, l39, _, hV4, hR.new (fun i hi => if_neg (by omega)) (fun i hi => ?_)⟩)
    obtain rfl : i = tv.toInt.toNat := by omega
    refine Or.inl ?_
    dsimp only
    rw [if_pos rfl, if_neg (by omega)]
    exact ⟨hx, hk⟩
  refine y_aln (e_244 (276, .aload_n 0, 1) (List.mem_of_getElem? (i := 157) rfl)) g0 ?_
  refine y_getf hI1 ta (e_244 (277, .getfield 40, 3) (List.mem_of_getElem? (i := 158) rfl)) u_17_40 ⟨rfl, rfl⟩ hV1.2.2.1 ?_
  refine y_iln (e_244 (280, .iload_n 1, 1) (List.mem_of_getElem? (i := 159) rfl)) g1 ?_
  refine y_aln (e_244 (281, .aload_n 0, 1) (List.mem_of_getElem? (i := 160) rfl)) g0 ?_
  refine y_st (e_244 (282, .ldc2_w 98, 3) (List.mem_of_getElem? (i := 161) rfl)) ⟨rfl, rfl, rfl, rfl⟩ ?_
  refine y_c2 (K' := _) (e_244 (285, .invokevirtual 198, 3) (List.mem_of_getElem? (i := 162) rfl)) ⟨rfl, rfl, rfl⟩ t_17_198 ⟨by decide, by decide, by decide, by decide⟩ m_168_ok rfl (by decide) (y_recv hI1 ta ⟨rfl, rfl⟩) (Nat.le_of_ble_eq_true rfl) (Nat.le_of_ble_eq_true rfl) (g_isWord (d := d) hI1 ta (by omega) _) (fun r1 G2 h1 => ?_)
  obtain ⟨y, rfl, hy, hI2, ef2⟩ := h1
  simp only [Option.toList_some, Option.toList_none, List.cons_append, List.nil_append]
  refine y_ifc (e_244 (288, .ifCond .eq 7, 3) (List.mem_of_getElem? (i := 163) rfl)) rfl (fun hb => ?_) (fun hb => ?_)
  · refine y_st (e_244 (295, .iconst 1, 1) (List.mem_of_getElem? (i := 166) rfl)) ⟨rfl, rfl, rfl, rfl⟩ ?_
    exact tail _ (Or.inr (by decide)) _ hI2 ef2
  · refine y_st (e_244 (291, .iconst 0, 1) (List.mem_of_getElem? (i := 164) rfl)) ⟨rfl, rfl, rfl, rfl⟩ ?_
    refine y_st (e_244 (292, .goto 4, 3) (List.mem_of_getElem? (i := 165) rfl)) ⟨rfl, rfl, rfl, rfl⟩ ?_
    exact tail _ (Or.inl (by decide)) _ hI2 ef2
set_option maxHeartbeats 2000000 in
set_option maxRecDepth 100000 in
theorem g_ll172 (hd : 195 ≤ d) {lv : pL} {t3 : Int32} (hV : z_RV th G a rb rd tv) (hR : z_rows rd tv.toInt) (e3 : t3.toInt = 3 * tv.toInt) (l39 : tv.toInt ≤ 39) (g0 : pm_get lv 0 = some (.ref a)) (g1 : pm_get lv 1 = some (.int t3)) {t m : Int32} (g2 : pm_get lv 2 = some (.int t)) (g3 : pm_get lv 3 = some (.int m)) (rt7 : -1 ≤ t.toInt ∧ t.toInt ≤ 7) (rm : -1 ≤ m.toInt ∧ m.toInt ≤ 3) (ex : t.toInt = -1 ∨ m.toInt = -1) (on : 0 ≤ t.toInt ∨ 0 ≤ m.toInt) : x_Gd xs L J (d + 1) m_244 (z_LL th a rb tv) 172 lv [] G := by
  obtain ⟨hI, ta, k8, tr, hrd, k32⟩ := id hV
  have rt := hV.rt
  obtain ⟨a1, a2⟩ := y_m3 rt.1 rt.2 t3 e3
  have zz : (0 : Int32).toInt = 0 := rfl
  have tail : ∀ x : Int32, x.toInt = (if 0 ≤ t.toInt then t.toInt else m.toInt) → x_Gd xs L J (d + 1) m_244 (z_LL th a rb tv) 188 lv [.int x, .int (t3 + Int32.ofInt 1), .ref rb] G := by
    intro x hx
    refine y_iast hI tr (e_244 (188, .iastore, 1) (List.mem_of_getElem? (i := 108) rfl)) ⟨rfl, rfl⟩ ⟨by omega, by show _ < (135 : Int); omega⟩ (fun G3 u3 => ?_)
    rw [show (t3 + Int32.ofInt 1).toInt.toNat = 3 * tv.toInt.toNat + 1 by omega] at u3
    have hV3 := hV.put u3 (by omega)
    refine y_aln (e_244 (189, .aload_n 0, 1) (List.mem_of_getElem? (i := 109) rfl)) g0 ?_
    refine y_c1 (K' := _) (e_244 (190, .invokevirtual 170, 3) (List.mem_of_getElem? (i := 110) rfl)) ⟨rfl, rfl, rfl⟩ t_17_170 ⟨by decide, by decide, by decide, by decide⟩ m_163_ok rfl (by decide) (y_recv hV3.1 ta ⟨rfl, rfl⟩) (Nat.le_of_ble_eq_true rfl) (Nat.le_of_ble_eq_true rfl) (g_next (d := d) hV3.1 ta (by omega)) (fun r1 G4 h1 => ?_)
    obtain ⟨rfl, hI4, ef4⟩ := h1
    simp only [Option.toList_some, Option.toList_none, List.cons_append, List.nil_append]
    have hV4 := hV3.eff hI4 ef4 rfl E_next_r
    have hR4 : z_rows (fun j => if j = 3 * tv.toInt.toNat + 1 then x else rd j) tv.toInt := hR.keep (fun i hi => if_neg (by omega))
    refine y_iln (e_244 (193, .iload_n 3, 1) (List.mem_of_getElem? (i := 111) rfl)) g3 ?_
    refine y_ifc (e_244 (194, .ifCond .lt 56, 3) (List.mem_of_getElem? (i := 112) rfl)) rfl (fun hb => ?_) (fun hb => ?_)
    · have mb := y_hI.2.2.2.2.2.2.2.2.1 hb
      exact g_ll250 hd hV4 hR4 e3 l39 g0 g1 (by rw [if_pos rfl, hx]; split <;> omega)
    · have mb := y_hI.2.2.2.2.2.2.2.2.2.1 hb
      exact g_ll197 hd hV4 hR4 e3 l39 g0 g1 (by rw [if_pos rfl, hx]; split <;> omega)
  refine y_aln (e_244 (172, .aload_n 0, 1) (List.mem_of_getElem? (i := 98) rfl)) g0 ?_
  refine y_getf hI ta (e_244 (173, .getfield 40, 3) (List.mem_of_getElem? (i := 99) rfl)) u_17_40 ⟨rfl, rfl⟩ k8 ?_
  refine y_iln (e_244 (176, .iload_n 1, 1) (List.mem_of_getElem? (i := 100) rfl)) g1 ?_
  refine y_st (e_244 (177, .iconst 1, 1) (List.mem_of_getElem? (i := 101) rfl)) ⟨rfl, rfl, rfl, rfl⟩ ?_
  refine y_st (e_244 (178, .iadd, 1) (List.mem_of_getElem? (i := 102) rfl)) ⟨rfl, rfl, rfl, rfl⟩ ?_
  refine y_iln (e_244 (179, .iload_n 2, 1) (List.mem_of_getElem? (i := 103) rfl)) g2 ?_
  refine y_ifc (e_244 (180, .ifCond .ge 7, 3) (List.mem_of_getElem? (i := 104) rfl)) rfl (fun hb => ?_) (fun hb => ?_)
  · have tb := y_hI.2.2.2.2.1 hb
    refine y_iln (e_244 (187, .iload_n 2, 1) (List.mem_of_getElem? (i := 107) rfl)) g2 ?_
    exact tail _ (by rw [if_pos (by omega)])
  · have tb := y_hI.2.2.2.2.2.1 hb
    refine y_iln (e_244 (183, .iload_n 3, 1) (List.mem_of_getElem? (i := 105) rfl)) g3 ?_
    refine y_st (e_244 (184, .goto 4, 3) (List.mem_of_getElem? (i := 106) rfl)) ⟨rfl, rfl, rfl, rfl⟩ ?_
    exact tail _ (by rw [if_neg (by omega)])
set_option maxHeartbeats 2000000 in
set_option maxRecDepth 100000 in
theorem g_ll118 (hd : 195 ≤ d) {lv : pL} {t3 : Int32} (hV : z_RV th G a rb rd tv) (hR : z_rows rd tv.toInt) (e3 : t3.toInt = 3 * tv.toInt) (hNs : z_Ns th a G) (g0 : pm_get lv 0 = some (.ref a)) (g1 : pm_get lv 1 = some (.int t3))  : x_Gd xs L J (d + 1) m_244 (z_LL th a rb tv) 118 lv [] G := by
  obtain ⟨hI, ta, k8, tr, hrd, k32⟩ := id hV
  have rt := hV.rt
  obtain ⟨a1, a2⟩ := y_m3 rt.1 rt.2 t3 e3
  obtain ⟨nb, sc, k9, tnb, k6, tsc, hDD⟩ := hNs
  obtain ⟨nb', hb, nm, w, h3, h4, h5, hH⟩ := z_Hview hI ta
  obtain rfl : nb' = nb := by
    have e := hH.2.2.1
    rw [k9] at e
    exact (Value.ref.inj (Option.some.inj e)).symm
  obtain ⟨s3, k3, r3⟩ := y_fi (i := 3) hI tsc rfl
  obtain ⟨s5, k5, r5⟩ := y_fi (i := 5) hI tsc rfl
  have f12 : ((Int8.ofInt 12).toInt32).toInt = 12 := by decide
  have f0 : (Int32.ofInt 0).toInt = 0 := by decide
  refine y_aln (e_244 (118, .aload_n 0, 1) (List.mem_of_getElem? (i := 66) rfl)) g0 ?_
  refine y_st (e_244 (119, .iconst 0, 1) (List.mem_of_getElem? (i := 67) rfl)) ⟨rfl, rfl, rfl, rfl⟩ ?_
  refine y_aln (e_244 (120, .aload_n 0, 1) (List.mem_of_getElem? (i := 68) rfl)) g0 ?_
  refine y_getf hI ta (e_244 (121, .getfield 33, 3) (List.mem_of_getElem? (i := 69) rfl)) u_17_33 ⟨rfl, rfl⟩ k6 ?_
  refine y_st (e_244 (124, .iconst 3, 1) (List.mem_of_getElem? (i := 70) rfl)) ⟨rfl, rfl, rfl, rfl⟩ ?_
  refine y_iald hI tsc (e_244 (125, .iaload, 1) (List.mem_of_getElem? (i := 71) rfl)) ⟨rfl, rfl⟩ (by decide) k3 ?_
  refine y_c3 (K' := _) (e_244 (126, .invokevirtual 188, 3) (List.mem_of_getElem? (i := 72) rfl)) ⟨rfl, rfl, rfl⟩ t_17_188 ⟨by decide, by decide, by decide, by decide⟩ m_179_ok rfl (by decide) (y_recv hI ta ⟨rfl, rfl⟩) (Nat.le_of_ble_eq_true rfl) (Nat.le_of_ble_eq_true rfl) (g_find (d := d) hH _ s3 (by decide) (by omega) (by rw [f0]; omega)) (fun r1 G1 h1 => ?_)
  obtain ⟨rfl, t, rfl, ht⟩ := h1
  simp only [Option.toList_some, Option.toList_none, List.cons_append, List.nil_append]
  refine y_isn (e_244 (129, .istore_n 2, 1) (List.mem_of_getElem? (i := 73) rfl)) (by decide) ?_
  refine y_aln (e_244 (130, .aload_n 0, 1) (List.mem_of_getElem? (i := 74) rfl)) (y_gpr g0 (by decide)) ?_
  refine y_st (e_244 (131, .bipush 12, 2) (List.mem_of_getElem? (i := 75) rfl)) ⟨rfl, rfl, rfl, rfl⟩ ?_
  refine y_aln (e_244 (133, .aload_n 0, 1) (List.mem_of_getElem? (i := 76) rfl)) (y_gpr g0 (by decide)) ?_
  refine y_getf hI ta (e_244 (134, .getfield 33, 3) (List.mem_of_getElem? (i := 77) rfl)) u_17_33 ⟨rfl, rfl⟩ k6 ?_
  refine y_st (e_244 (137, .iconst 5, 1) (List.mem_of_getElem? (i := 78) rfl)) ⟨rfl, rfl, rfl, rfl⟩ ?_
  refine y_iald hI tsc (e_244 (138, .iaload, 1) (List.mem_of_getElem? (i := 79) rfl)) ⟨rfl, rfl⟩ (by decide) k5 ?_
  refine y_c3 (K' := _) (e_244 (139, .invokevirtual 188, 3) (List.mem_of_getElem? (i := 80) rfl)) ⟨rfl, rfl, rfl⟩ t_17_188 ⟨by decide, by decide, by decide, by decide⟩ m_179_ok rfl (by decide) (y_recv hI ta ⟨rfl, rfl⟩) (Nat.le_of_ble_eq_true rfl) (Nat.le_of_ble_eq_true rfl) (g_find (d := d) hH _ s5 (by decide) (by omega) (by rw [f12]; omega)) (fun r1 G2 h1 => ?_)
  obtain ⟨rfl, m, rfl, hm⟩ := h1
  simp only [Option.toList_some, Option.toList_none, List.cons_append, List.nil_append]
  refine y_isn (e_244 (142, .istore_n 3, 1) (List.mem_of_getElem? (i := 81) rfl)) (by decide) ?_
  have ex : t.toInt = -1 ∨ m.toInt = -1 := by
    rcases ht with ht | ⟨t0, t1, tw⟩
    · exact Or.inl ht.1
    · rcases hm with hm | ⟨m0, m1, mw⟩
      · exact Or.inr hm.1
      · rw [f0] at tw
        rw [f12] at mw
        exact absurd (tw.trans mw.symm) (hDD s3 s5 t.toInt.toNat m.toInt.toNat _ _ k3 k5 (by omega) (by omega) (by rw [show (0 : Int).toNat + t.toInt.toNat = t.toInt.toNat by omega]; exact hH.2.2.2.2.1 _ (by omega)) (hH.2.2.2.2.1 _ (by omega)))
  have rt7 : -1 ≤ t.toInt ∧ t.toInt ≤ 7 := by rcases ht with ht | ht <;> omega
  have rm : -1 ≤ m.toInt ∧ m.toInt ≤ 3 := by rcases hm with hm | hm <;> omega
  refine sg_ll143_go (d := d) (by omega) (v := (y_v [(a : Int), tv.toInt, t.toInt, m.toInt])) (G0 := G2) ⟨y_v_Bd (List.forall_mem_cons.mpr ⟨(y_cellB hI ta), (List.forall_mem_cons.mpr ⟨(x_i32 tv), (List.forall_mem_cons.mpr ⟨(x_i32 t), (List.forall_mem_cons.mpr ⟨(x_i32 m), (fun _ h => absurd h List.not_mem_nil)⟩)⟩)⟩)⟩), (List.forall_mem_cons.mpr ⟨(by simp only [xl_ev, xt_ev, y_v, List.getD_cons_succ, List.getD_cons_zero]; omega), (List.forall_mem_cons.mpr ⟨(by simp only [xl_ev, xt_ev, y_v, List.getD_cons_succ, List.getD_cons_zero]; omega), (fun _ h => absurd h List.not_mem_nil)⟩)⟩), (List.forall_mem_cons.mpr ⟨⟨_, (y_gpr (y_gpr g0 (by decide)) (by decide)), a, rfl, (by simp only [xl_ev, xt_ev, y_v, List.getD_cons_succ, List.getD_cons_zero]; omega), ta⟩, (List.forall_mem_cons.mpr ⟨⟨_, (y_gpi (y_gpi g1 (by decide)) (by decide)), _, rfl, (by rw [e3]; simp only [xl_ev, xt_ev, y_v, List.getD_cons_succ, List.getD_cons_zero]; omega)⟩, (List.forall_mem_cons.mpr ⟨⟨_, (y_gpi x_get_self (by decide)), t, rfl, (by simp only [xl_ev, xt_ev, y_v, List.getD_cons_succ, List.getD_cons_zero]; omega)⟩, (List.forall_mem_cons.mpr ⟨⟨_, x_get_self, m, rfl, (by simp only [xl_ev, xt_ev, y_v, List.getD_cons_succ, List.getD_cons_zero]; omega)⟩, (fun _ h => absurd h List.not_mem_nil)⟩)⟩)⟩)⟩), trivial, (List.forall_mem_cons.mpr ⟨⟨a, (by simp only [xl_ev, xt_ev, y_v, List.getD_cons_succ, List.getD_cons_zero]; omega), ta, _, k32, tv, rfl, (by simp only [xl_ev, xt_ev, y_v, List.getD_cons_succ, List.getD_cons_zero]; omega)⟩, (fun _ h => absurd h List.not_mem_nil)⟩), hI⟩ x_eff.rf (fun r G' h => z_fail h) (fun n hn vn lv9 G3 hag hS9 hE9 => ?_)
  have z0 : vn 0 = (a : Int) := hag 0 (by decide)
  have z1 : vn 1 = tv.toInt := hag 1 (by decide)
  have z2 : vn 2 = t.toInt := hag 2 (by decide)
  have z3 : vn 3 = m.toInt := hag 3 (by decide)
  have hV3 := hV.eff hS9.2.2.2.2.2 hE9 rfl (by decide)
  rcases List.mem_cons.mp hn with rfl | hn
  · have g0 := hS9.loCe (i := 0) (t := 10) (l := ([(0, 1)], 0)) (a := a) (List.mem_of_getElem? (i := 0) rfl) (by simp only [xl_ev, xt_ev]; omega)
    have g1 := hS9.lo0e (i := 1) (l := ([(1, 3)], 0)) (x := t3) (List.mem_of_getElem? (i := 1) rfl) (by simp only [xl_ev, xt_ev]; omega)
    have g2 := hS9.lo0e (i := 2) (l := ([(2, 1)], 0)) (x := t) (List.mem_of_getElem? (i := 2) rfl) (by simp only [xl_ev, xt_ev]; omega)
    have g3 := hS9.lo0e (i := 3) (l := ([(3, 1)], 0)) (x := m) (List.mem_of_getElem? (i := 3) rfl) (by simp only [xl_ev, xt_ev]; omega)
    have c0 := hS9.2.1 ([(2, 1)], 0) (List.mem_of_getElem? (i := 0) rfl)
    have c1 := hS9.2.1 ([(1, -1)], 39) (List.mem_of_getElem? (i := 1) rfl)
    simp only [xl_ev, xt_ev] at c0 c1
    exact g_ll172 hd hV3 hR e3 (by omega) g0 g1 g2 g3 rt7 rm ex (by omega)
  · obtain rfl : n = _ := List.mem_singleton.mp hn
    have g0 := hS9.loCe (i := 0) (t := 10) (l := ([(0, 1)], 0)) (a := a) (List.mem_of_getElem? (i := 0) rfl) (by simp only [xl_ev, xt_ev]; omega)
    have g1 := hS9.lo0e (i := 1) (l := ([(1, 3)], 0)) (x := t3) (List.mem_of_getElem? (i := 1) rfl) (by simp only [xl_ev, xt_ev]; omega)
    have g2 := hS9.lo0e (i := 2) (l := ([(2, 1)], 0)) (x := t) (List.mem_of_getElem? (i := 2) rfl) (by simp only [xl_ev, xt_ev]; omega)
    have g3 := hS9.lo0e (i := 3) (l := ([(3, 1)], 0)) (x := m) (List.mem_of_getElem? (i := 3) rfl) (by simp only [xl_ev, xt_ev]; omega)
    have c0 := hS9.2.1 ([(3, 1)], 0) (List.mem_of_getElem? (i := 0) rfl)
    have c1 := hS9.2.1 ([(1, -1)], 39) (List.mem_of_getElem? (i := 1) rfl)
    simp only [xl_ev, xt_ev] at c0 c1
    exact g_ll172 hd hV3 hR e3 (by omega) g0 g1 g2 g3 rt7 rm ex (by omega)
set_option maxHeartbeats 2000000 in
set_option maxRecDepth 100000 in
theorem g_logRows (hd : 195 ≤ d) (hV : z_RV th G a rb rd tv) (hR : z_rows rd tv.toInt) (hNs : z_Ns th a G) : x_Gd xs L J (d + 1) m_244 (z_LL th a rb tv) 0 (lv_args 0 [.ref a]) [] G := by
  obtain ⟨hI, ta, k8, tr, hrd, k32⟩ := id hV
  have rt := hV.rt
  refine sg_ll0_go (d := d) (by omega) (v := (y_v [(a : Int), tv.toInt])) (G0 := G) ⟨y_v_Bd (List.forall_mem_cons.mpr ⟨(y_cellB hI ta), (List.forall_mem_cons.mpr ⟨(x_i32 tv), (fun _ h => absurd h List.not_mem_nil)⟩)⟩), (List.forall_mem_cons.mpr ⟨(by simp only [xl_ev, xt_ev, y_v, List.getD_cons_succ, List.getD_cons_zero]; omega), (List.forall_mem_cons.mpr ⟨(by simp only [xl_ev, xt_ev, y_v, List.getD_cons_succ, List.getD_cons_zero]; omega), (fun _ h => absurd h List.not_mem_nil)⟩)⟩), (List.forall_mem_cons.mpr ⟨⟨_, rfl, a, rfl, (by simp only [xl_ev, xt_ev, y_v, List.getD_cons_succ, List.getD_cons_zero]; omega), ta⟩, (fun _ h => absurd h List.not_mem_nil)⟩), trivial, (List.forall_mem_cons.mpr ⟨⟨a, (by simp only [xl_ev, xt_ev, y_v, List.getD_cons_succ, List.getD_cons_zero]; omega), ta, _, k32, tv, rfl, (by simp only [xl_ev, xt_ev, y_v, List.getD_cons_succ, List.getD_cons_zero]; omega)⟩, (fun _ h => absurd h List.not_mem_nil)⟩), hI⟩ x_eff.rf (fun r G' h => z_fail h) (fun n hn vn lv9 G3 hag hS9 hE9 => ?_)
  have z0 : vn 0 = (a : Int) := hag 0 (by decide)
  have z1 : vn 1 = tv.toInt := hag 1 (by decide)
  have hI3 := hS9.2.2.2.2.2
  have hV3 := hV.eff hI3 hE9 rfl (by decide)
  rcases List.mem_cons.mp hn with rfl | hn
  · have g0 := hS9.loCe (i := 0) (t := 10) (l := ([(0, 1)], 0)) (a := a) (List.mem_of_getElem? (i := 0) rfl) (by simp only [xl_ev, xt_ev]; omega)
    obtain ⟨t3, g1, e3⟩ := hS9.lo0 (i := 1) (l := ([(1, 3)], 0)) (List.mem_of_getElem? (i := 1) rfl)
    have c1 := hS9.2.1 ([(1, -1)], 39) (List.mem_of_getElem? (i := 1) rfl)
    simp only [xl_ev, xt_ev] at c1 e3
    exact g_ll42 hd hV3 hR (by omega) (by omega) g0 g1
  · obtain rfl : n = _ := List.mem_singleton.mp hn
    have g0 := hS9.loCe (i := 0) (t := 10) (l := ([(0, 1)], 0)) (a := a) (List.mem_of_getElem? (i := 0) rfl) (by simp only [xl_ev, xt_ev]; omega)
    obtain ⟨t3, g1, e3⟩ := hS9.lo0 (i := 1) (l := ([(1, 3)], 0)) (List.mem_of_getElem? (i := 1) rfl)
    simp only [xl_ev, xt_ev] at e3
    exact g_ll118 hd hV3 hR (by omega) (hNs.eff ta hI hE9 rfl (by decide)) g0 g1
end ZRV
