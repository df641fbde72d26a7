/-- one run: both -/
theorem x_Gd.and {xs : Nat → Int32} {L J d : Nat} {M : pM} {K1 K2 : Option Value → List pE → Prop} {pc : Nat} {lv : pL} {ws : List Value} {G : List pE} (h1 : x_Gd xs L J d M K1 pc lv ws G) (h2 : x_Gd xs L J d M K2 pc lv ws G) : x_Gd xs L J d M (fun r G' => K1 r G' ∧ K2 r G') pc lv ws G := by
  obtain ⟨r, G', ⟨f1, e1⟩, k1⟩ := h1
  obtain ⟨r2, G2, ⟨f2, e2⟩, k2⟩ := h2
  have a1 := e1 (f1 + f2) (by omega)
  have a2 := e2 (f1 + f2) (by omega)
  rw [a1] at a2
  cases a2
  exact ⟨r, G', ⟨f1, e1⟩, k1, k2⟩
theorem y_cmp {x y : Int64} : (pm_holds .ne (lg_cmp x y) 0 = true → x ≠ y) ∧ (pm_holds .ne (lg_cmp x y) 0 = false → x = y) := by
  unfold lg_cmp
  refine ⟨fun h z => ?_, fun h => ?_⟩
  · subst z
    rw [if_neg (by simp), if_pos rfl] at h
    exact absurd h (by decide)
  · by_cases hxy : x = y
    · exact hxy
    · rw [if_neg hxy] at h
      split at h <;> exact absurd h (by decide)
theorem y_okL {th : List Nat} {R : List (Nat × xF)} {i : Nat} {x : Int64} (e : x_at R i = some (1, 0, 0)) : ∀ f', x_at R i = some f' → xf_ok th f' (.long x) := by
  intro f' h
  rw [e] at h
  cases h
  exact ⟨x, rfl⟩
/-- the model's names, its h, the WORD -/
def z_H (th : List Nat) (G : List pE) (a nb hb : Nat) (nm : Nat → Int64) (w : Int64) (h3 h4 h5 : Int32) : Prop := xI x_tb th G ∧ th[a]? = some 10 ∧ x_sl G a 9 = some (.ref nb) ∧ th[nb]? = some 39 ∧ (∀ i, i < 32 → x_sl G nb i = some (.long (nm i))) ∧ x_sl G a 17 = some (.long w) ∧ x_sl G a 7 = some (.ref hb) ∧ th[hb]? = some 37 ∧ x_sl G hb 3 = some (.int h3) ∧ x_sl G hb 4 = some (.int h4) ∧ x_sl G hb 5 = some (.int h5)
def z_D8 (nm : Nat → Int64) (h3 h5 : Int32) : Prop := ∀ i j : Nat, (i : Int) < h3.toInt → (j : Int) < h5.toInt → nm (16 + i) ≠ nm (28 + j)
theorem y_larr {th : List Nat} {G : List pE} {b t n : Nat} (hI : xI x_tb th G) (tb : th[b]? = some t) (e : (x_tb t).2.2.2 = [(n, (1, 0, 0))]) : ∃ f : Nat → Int64, ∀ i, i < n → x_sl G b i = some (.long (f i)) := by
  have h : ∀ i, i < n → ∃ x : Int64, x_sl G b i = some (.long x) := fun i hi => by
    obtain ⟨w, k1, x, rfl⟩ := (hI.2.2 b t tb).2 i (1, 0, 0) (by rw [e]; exact y_one hi)
    exact ⟨x, k1⟩
  refine ⟨fun i => if h' : i < n then Classical.choose (h i h') else 0, fun i hi => ?_⟩
  dsimp only
  rw [dif_pos hi]
  exact Classical.choose_spec (h i hi)
theorem y_flong {th : List Nat} {G : List pE} {a i t : Nat} (hI : xI x_tb th G) (ta : th[a]? = some t) (e : x_at (x_tb t).2.2.2 i = some (1, 0, 0)) : ∃ x : Int64, x_sl G a i = some (.long x) := by
  obtain ⟨w, k1, x, rfl⟩ := (hI.2.2 a t ta).2 i _ e
  exact ⟨x, k1⟩
theorem y_fi {th : List Nat} {G : List pE} {a i t : Nat} {lo hi : Int} (hI : xI x_tb th G) (ta : th[a]? = some t) (e : x_at (x_tb t).2.2.2 i = some (0, lo, hi)) : ∃ x : Int32, x_sl G a i = some (.int x) ∧ lo ≤ x.toInt ∧ x.toInt ≤ hi := by
  obtain ⟨w, k1, x, rfl, k2⟩ := (hI.2.2 a t ta).2 i _ e
  exact ⟨x, k1, k2⟩
theorem y_fie {th : List Nat} {G : List pE} {a i t : Nat} {lo hi : Int} {x : Int32} (hI : xI x_tb th G) (ta : th[a]? = some t) (e : x_at (x_tb t).2.2.2 i = some (0, lo, hi)) (hx : x_sl G a i = some (.int x)) : lo ≤ x.toInt ∧ x.toInt ≤ hi := by
  obtain ⟨y, k1, k2⟩ := y_fi hI ta e
  rw [hx] at k1
  cases k1
  exact k2
theorem z_Hview {th : List Nat} {G : List pE} {a : Nat} (hI : xI x_tb th G) (ta : th[a]? = some 10) : ∃ nb hb nm w h3 h4 h5, z_H th G a nb hb nm w h3 h4 h5 := by
  obtain ⟨nb, n1, n2⟩ := y_fref (i := 9) (u := 39) hI ta rfl
  obtain ⟨hb, n3, n4⟩ := y_fref (i := 7) (u := 37) hI ta rfl
  obtain ⟨nm, n5⟩ := y_larr (t := 39) (n := 32) hI n2 rfl
  obtain ⟨w, n6⟩ := y_flong (i := 17) hI ta rfl
  obtain ⟨h3, n7, -⟩ := y_fi (i := 3) hI n4 rfl
  obtain ⟨h4, n8, -⟩ := y_fi (i := 4) hI n4 rfl
  obtain ⟨h5, n9, -⟩ := y_fi (i := 5) hI n4 rfl
  exact ⟨nb, hb, nm, w, h3, h4, h5, hI, ta, n1, n2, n5, n6, n3, n4, n7, n8, n9⟩
section ZH
variable {th : List Nat} {xs : Nat → Int32} {L J d a nb hb : Nat} {nm : Nat → Int64} {w : Int64} {h3 h4 h5 : Int32} {G : List pE}
theorem z_H.r3 (h : z_H th G a nb hb nm w h3 h4 h5) : 0 ≤ h3.toInt ∧ h3.toInt ≤ 8 := y_fie (i := 3) (t := 37) h.1 h.2.2.2.2.2.2.2.1 rfl h.2.2.2.2.2.2.2.2.1
theorem z_H.r4 (h : z_H th G a nb hb nm w h3 h4 h5) : 0 ≤ h4.toInt ∧ h4.toInt ≤ 4 := y_fie (i := 4) (t := 37) h.1 h.2.2.2.2.2.2.2.1 rfl h.2.2.2.2.2.2.2.2.2.1
theorem z_H.r5 (h : z_H th G a nb hb nm w h3 h4 h5) : 0 ≤ h5.toInt ∧ h5.toInt ≤ 4 := y_fie (i := 5) (t := 37) h.1 h.2.2.2.2.2.2.2.1 rfl h.2.2.2.2.2.2.2.2.2.2
/-- behind effects elsewhere -/
theorem z_H.eff {E : List (Nat × Nat × Nat)} {G' : List pE} (h : z_H th G a nb hb nm w h3 h4 h5) (hI : xI x_tb th G') (he : x_eff th E G G') (h1 : (y_out E 10 9 && y_out E 10 7 && y_out E 37 3 && y_out E 37 4 && y_out E 37 5) = true) : ∃ nm' w', z_H th G' a nb hb nm' w' h3 h4 h5 ∧ (∀ i, i < 32 → y_out E 39 i = true → nm' i = nm i) ∧ (y_out E 10 17 = true → w' = w) := by
  rw [Bool.and_eq_true, Bool.and_eq_true, Bool.and_eq_true, Bool.and_eq_true] at h1
  obtain ⟨⟨⟨⟨o1, o2⟩, o3⟩, o4⟩, o5⟩ := h1
  obtain ⟨-, ta, n1, n2, n3, n4, n5, n6, n7, n8, n9⟩ := h
  obtain ⟨nm', k1⟩ := y_larr (t := 39) (n := 32) hI n2 rfl
  obtain ⟨w', k2⟩ := y_flong (i := 17) hI ta rfl
  refine ⟨nm', w', ⟨hI, ta, by rw [he.at ta o1]; exact n1, n2, k1, k2, by rw [he.at ta o2]; exact n5, n6, by rw [he.at n6 o3]; exact n7, by rw [he.at n6 o4]; exact n8, by rw [he.at n6 o5]; exact n9⟩, fun i hi ho => ?_, fun ho => ?_⟩
  · have := k1 i hi
    rw [he.at n2 ho, n3 i hi] at this
    exact (Value.long.inj (Option.some.inj this)).symm
  · rw [he.at ta ho, n4] at k2
    exact (Value.long.inj (Option.some.inj k2)).symm
def m_179 : pM := (⟨"BreathingHillModel", "find", "(II)I"⟩, 1546, 4, some (FieldType.int), 17, 2, false, 10, 103, 1545, 47)
set_option maxRecDepth 100000 in
theorem m_179_ok : pm_tab[179]? = some m_179 := rfl
theorem e_179 : ∀ q ∈ d_179, decode m_179.code q.1 = .ok (q.2.1, q.2.2) := y_dec d_179_ok m_179_ok
set_option maxHeartbeats 2000000 in
set_option maxRecDepth 100000 in
theorem g_findl (hN : z_H th G a nb hb nm w h3 h4 h5) (fr mn : Int32) (f0 : 0 ≤ fr.toInt) (fm : fr.toInt + mn.toInt ≤ 32) : ∀ (m : Nat) (lv : pL) (j : Int32), pm_get lv 0 = some (.ref a) → pm_get lv 1 = some (.int fr) → pm_get lv 2 = some (.int mn) → pm_get lv 3 = some (.int j) → 0 ≤ j.toInt → j.toInt ≤ mn.toInt → (mn.toInt - j.toInt).toNat = m → (∀ i : Nat, (i : Int) < j.toInt → nm (fr.toInt.toNat + i) ≠ w) → x_Gd xs L J d m_179 (fun r G' => G' = G ∧ ∃ z : Int32, r = some (.int z) ∧ ((z.toInt = -1 ∧ ∀ i : Nat, (i : Int) < mn.toInt → nm (fr.toInt.toNat + i) ≠ w) ∨ (0 ≤ z.toInt ∧ z.toInt < mn.toInt ∧ nm (fr.toInt.toNat + z.toInt.toNat) = w))) 2 lv [] G := by
  obtain ⟨hI, ta, n1, n2, n3, n4, -⟩ := hN
  intro m
  induction m with
  | zero =>
    intro lv j g0 g1 g2 g3 j0 j1 hm hj
    have e : mn.toInt = j.toInt := by omega
    refine y_iln (e_179 (2, .iload_n 3, 1) (List.mem_of_getElem? (i := 2) rfl)) g3 ?_
    refine y_iln (e_179 (3, .iload_n 2, 1) (List.mem_of_getElem? (i := 3) rfl)) g2 ?_
    refine y_icm (e_179 (4, .if_icmp .ge 27, 3) (List.mem_of_getElem? (i := 4) rfl)) rfl (fun hb => ?_) (fun hb => ?_)
    · refine y_st (e_179 (31, .iconst (-1), 1) (List.mem_of_getElem? (i := 19) rfl)) ⟨rfl, rfl, rfl, rfl⟩ ?_
      refine y_ret (e_179 (32, .ireturn, 1) (List.mem_of_getElem? (i := 20) rfl)) ⟨rfl, y_ri⟩ ⟨rfl, _, rfl, Or.inl ⟨by decide, fun i hi => hj i (by omega)⟩⟩
    · have := y_hI.2.2.2.2.2.1 hb
      omega
  | succ m ih =>
    intro lv j g0 g1 g2 g3 j0 j1 hm hj
    have ej : (fr + j).toInt = fr.toInt + j.toInt := y_add (by omega) (by omega)
    have e1 := y_add1 (t := j) (by omega)
    refine y_iln (e_179 (2, .iload_n 3, 1) (List.mem_of_getElem? (i := 2) rfl)) g3 ?_
    refine y_iln (e_179 (3, .iload_n 2, 1) (List.mem_of_getElem? (i := 3) rfl)) g2 ?_
    refine y_icm (e_179 (4, .if_icmp .ge 27, 3) (List.mem_of_getElem? (i := 4) rfl)) rfl (fun hb => ?_) (fun hb => ?_)
    · have := y_hI.2.2.2.2.1 hb
      omega
    · refine y_aln (e_179 (7, .aload_n 0, 1) (List.mem_of_getElem? (i := 5) rfl)) g0 ?_
      refine y_getf hI ta (e_179 (8, .getfield 43, 3) (List.mem_of_getElem? (i := 6) rfl)) u_17_43 ⟨rfl, rfl⟩ n1 ?_
      refine y_iln (e_179 (11, .iload_n 1, 1) (List.mem_of_getElem? (i := 7) rfl)) g1 ?_
      refine y_iln (e_179 (12, .iload_n 3, 1) (List.mem_of_getElem? (i := 8) rfl)) g3 ?_
      refine y_st (e_179 (13, .iadd, 1) (List.mem_of_getElem? (i := 9) rfl)) ⟨rfl, rfl, rfl, rfl⟩ ?_
      refine y_lald hI n2 (e_179 (14, .laload, 1) (List.mem_of_getElem? (i := 10) rfl)) ⟨rfl, rfl⟩ (by omega) (n3 _ (by omega)) ?_
      refine y_aln (e_179 (15, .aload_n 0, 1) (List.mem_of_getElem? (i := 11) rfl)) g0 ?_
      refine y_getf hI ta (e_179 (16, .getfield 154, 3) (List.mem_of_getElem? (i := 12) rfl)) u_17_154 ⟨rfl, rfl⟩ n4 ?_
      refine y_st (e_179 (19, .lcmp, 1) (List.mem_of_getElem? (i := 13) rfl)) ⟨rfl, rfl, rfl, rfl⟩ ?_
      refine y_ifc (e_179 (20, .ifCond .ne 5, 3) (List.mem_of_getElem? (i := 14) rfl)) rfl (fun hc => ?_) (fun hc => ?_)
      · have hne := y_cmp.1 hc
        refine y_iinc (e_179 (25, .iinc 3 1, 3) (List.mem_of_getElem? (i := 17) rfl)) g3 (by decide) ?_
        refine y_st (e_179 (28, .goto (-26), 3) (List.mem_of_getElem? (i := 18) rfl)) ⟨rfl, rfl, rfl, rfl⟩ ?_
        refine ih _ (j + Int32.ofInt 1) (y_gpr g0 (by decide)) (y_gpi g1 (by decide)) (y_gpi g2 (by decide)) x_get_self (by omega) (by omega) (by omega) (fun i hi => ?_)
        by_cases hij : (i : Int) < j.toInt
        · exact hj i hij
        · rw [show fr.toInt.toNat + i = (fr + j).toInt.toNat by omega]
          exact hne
      · have he := y_cmp.2 hc
        refine y_iln (e_179 (23, .iload_n 3, 1) (List.mem_of_getElem? (i := 15) rfl)) g3 ?_
        refine y_ret (e_179 (24, .ireturn, 1) (List.mem_of_getElem? (i := 16) rfl)) ⟨rfl, y_ri⟩ ⟨rfl, _, rfl, Or.inr ⟨j0, by omega, ?_⟩⟩
        rw [show fr.toInt.toNat + j.toInt.toNat = (fr + j).toInt.toNat by omega]
        exact he
set_option maxHeartbeats 2000000 in
set_option maxRecDepth 100000 in
theorem g_find (hN : z_H th G a nb hb nm w h3 h4 h5) (fr mn : Int32) (f0 : 0 ≤ fr.toInt) (m0 : 0 ≤ mn.toInt) (fm : fr.toInt + mn.toInt ≤ 32) : x_Gd xs L J d m_179 (fun r G' => G' = G ∧ ∃ z : Int32, r = some (.int z) ∧ ((z.toInt = -1 ∧ ∀ i : Nat, (i : Int) < mn.toInt → nm (fr.toInt.toNat + i) ≠ w) ∨ (0 ≤ z.toInt ∧ z.toInt < mn.toInt ∧ nm (fr.toInt.toNat + z.toInt.toNat) = w))) 0 (lv_args 0 [.ref a, .int fr, .int mn]) [] G := by
  refine y_st (e_179 (0, .iconst 0, 1) (List.mem_of_getElem? (i := 0) rfl)) ⟨rfl, rfl, rfl, rfl⟩ ?_
  refine y_isn (e_179 (1, .istore_n 3, 1) (List.mem_of_getElem? (i := 1) rfl)) (by decide) ?_
  exact g_findl hN fr mn f0 fm _ _ 0 (y_gpr rfl (by decide)) (y_gpi rfl (by decide)) (y_gpi rfl (by decide)) x_get_self (by decide) m0 rfl (fun i hi => absurd hi (by show ¬ (i : Int) < 0; omega))
def m_177 : pM := (⟨"BreathingHillModel", "fresh", "(I)Z"⟩, 1538, 2, some (FieldType.boolean), 17, 1, false, 10, 103, 1537, 45)
set_option maxRecDepth 100000 in
theorem m_177_ok : pm_tab[177]? = some m_177 := rfl
theorem e_177 : ∀ q ∈ d_177, decode m_177.code q.1 = .ok (q.2.1, q.2.2) := y_dec d_177_ok m_177_ok
def sg_fr0_ns : List xN := []
def sg_fr0_os : List xN := [(13, [(0, (20, ([(0, 1)], 0))), (1, (0, ([(1, 1)], 0)))], [], [], 2, [([], 0), ([], 0), ([], 0), ([], 0), ([], 0)])]
def sg_fr0_g : xG := ([], [(0, (20, ([(0, 1)], 0))), (1, (0, ([(1, 1)], 0)))], [], [], 2)
def sg_fr0_ps : List xP := [(some (0, ([], 0)), [], [])]
set_option maxRecDepth 100000 in
set_option maxHeartbeats 4000000 in
theorem sg_fr0_ok : x_seg x_tb [c_189, c_193] m_177 d_177 E_bad 2 sg_fr0_ps sg_fr0_ns sg_fr0_os 16 false 0 sg_fr0_g = true := by decide +kernel
set_option maxRecDepth 100000 in
theorem sg_fr0_go {th : List Nat} {xs : Nat → Int32} {L J d : Nat} {K : Option Value → List pE → Prop} (hd : 194 ≤ d) {v : Nat → Int} {lv : pL} {ws : List Value} {G0 G : List pE} (hS : x_S x_tb th v sg_fr0_g lv ws G) (hE : x_eff th E_bad G0 G) (hK : ∀ r G', x_Post x_tb th E_bad sg_fr0_ps 2 v G0 r G' → K r G') (hO : ∀ n ∈ sg_fr0_os, ∀ (vn : Nat → Int) (lv : pL) (G1 : List pE), x_ag 2 v vn → x_S x_tb th vn (n.2.2.2.1, n.2.1, [], n.2.2.1, n.2.2.2.2.1) lv [] G1 → x_eff th E_bad G0 G1 → x_Gd xs L J (d + 1) m_177 K n.1 lv [] G1) : x_Gd xs L J (d + 1) m_177 K 0 lv ws G :=
  x_seg_ok (dm := 194) x_tb_wf ⟨rfl, rfl, rfl⟩ e_177 (List.forall_mem_cons.mpr ⟨(h_189 th xs L J).mono (by omega), List.forall_mem_cons.mpr ⟨(h_193 th xs L J).mono (by omega), fun _ h => absurd h List.not_mem_nil⟩⟩) hd sg_fr0_ok hS hE (fun z => by cases z) hK hO
def sg_fr58_ns : List xN := []
def sg_fr58_os : List xN := []
def sg_fr58_g : xG := ([], [(0, (20, ([(0, 1)], 0)))], [], [], 1)
def sg_fr58_ps : List xP := [(some (0, ([], 0)), [], [])]
set_option maxRecDepth 100000 in
set_option maxHeartbeats 4000000 in
theorem sg_fr58_ok : x_seg x_tb [c_189] m_177 d_177 E_bad 1 sg_fr58_ps sg_fr58_ns sg_fr58_os 13 false 58 sg_fr58_g = true := by decide +kernel
set_option maxRecDepth 100000 in
theorem sg_fr58_go {th : List Nat} {xs : Nat → Int32} {L J d : Nat} {K : Option Value → List pE → Prop} (hd : 190 ≤ d) {v : Nat → Int} {lv : pL} {ws : List Value} {G0 G : List pE} (hS : x_S x_tb th v sg_fr58_g lv ws G) (hE : x_eff th E_bad G0 G) (hK : ∀ r G', x_Post x_tb th E_bad sg_fr58_ps 1 v G0 r G' → K r G') (hO : ∀ n ∈ sg_fr58_os, ∀ (vn : Nat → Int) (lv : pL) (G1 : List pE), x_ag 1 v vn → x_S x_tb th vn (n.2.2.2.1, n.2.1, [], n.2.2.1, n.2.2.2.2.1) lv [] G1 → x_eff th E_bad G0 G1 → x_Gd xs L J (d + 1) m_177 K n.1 lv [] G1) : x_Gd xs L J (d + 1) m_177 K 58 lv ws G :=
  x_seg_ok (dm := 190) x_tb_wf ⟨rfl, rfl, rfl⟩ e_177 (List.forall_mem_cons.mpr ⟨(h_189 th xs L J).mono (by omega), fun _ h => absurd h List.not_mem_nil⟩) hd sg_fr58_ok hS hE (fun z => by cases z) hK hO
def E_fr (n : Nat) : List (Nat × Nat × Nat) := [(10, 4, 4), (10, 11, 17), (39, n, n)]
/-- what fresh() leaves -/
def z_F (th : List Nat) (G : List pE) (nb : Nat) (nm : Nat → Int64) (h3 h5 to : Int32) (r : Option Value) (G' : List pE) : Prop := xI x_tb th G' ∧ x_eff th (E_fr to.toInt.toNat) G G' ∧ (r = some (.int 0) ∨ (r = some (.int 1) ∧ ∃ w, x_sl G' nb to.toInt.toNat = some (.long w) ∧ (∀ i : Nat, (i : Int) < h3.toInt → nm (16 + i) ≠ w) ∧ ∀ j : Nat, (j : Int) < h5.toInt → nm (28 + j) ≠ w))
theorem E_fr_sub (n : Nat) : (∀ G G', x_eff th E_bad G G' → x_eff th (E_fr n) G G') ∧ ∀ G G', x_eff th E_next G G' → x_eff th (E_fr n) G G' := by
  refine ⟨fun G G' h => h.mono (fun q hq => ?_), fun G G' h => h.mono (fun q hq => ?_)⟩
  · obtain rfl : q = _ := List.mem_singleton.mp hq
    exact ⟨(10, 11, 17), List.mem_of_getElem? (i := 1) rfl, rfl, by decide, by decide⟩
  · simp only [E_next, List.mem_cons, List.not_mem_nil, or_false] at hq
    rcases hq with rfl | rfl | rfl
    · exact ⟨(10, 4, 4), List.mem_of_getElem? (i := 0) rfl, rfl, by decide, by decide⟩
    · exact ⟨(10, 11, 17), List.mem_of_getElem? (i := 1) rfl, rfl, by decide, by decide⟩
    · exact ⟨(10, 11, 17), List.mem_of_getElem? (i := 1) rfl, rfl, by decide, by decide⟩
set_option maxHeartbeats 2000000 in
set_option maxRecDepth 100000 in
theorem g_fr58 (hd : 192 ≤ d) {lv : pL} {to : Int32} {G0 : List pE} (hI : xI x_tb th G) (ta : th[a]? = some 10) (ef : x_eff th (E_fr to.toInt.toNat) G0 G) (g0 : pm_get lv 0 = some (.ref a)) : x_Gd xs L J (d + 1) m_177 (z_F th G0 nb nm h3 h5 to) 58 lv [] G := by
  refine sg_fr58_go (d := d) (by omega) (v := (y_v [(a : Int)])) (G0 := G) ⟨y_v_Bd (List.forall_mem_cons.mpr ⟨(y_cellB hI ta), (fun _ h => absurd h List.not_mem_nil)⟩), (fun _ h => absurd h List.not_mem_nil), (List.forall_mem_cons.mpr ⟨⟨_, g0, a, rfl, (by simp only [xl_ev, xt_ev, y_v, List.getD_cons_succ, List.getD_cons_zero]; omega), ta⟩, (fun _ h => absurd h List.not_mem_nil)⟩), trivial, (fun _ h => absurd h List.not_mem_nil), hI⟩ x_eff.rf (fun r G' h => ?_) (fun n hn => absurd hn List.not_mem_nil)
  obtain ⟨v', -, -, hI', ef', p, hp, -, -, pa⟩ := h
  obtain rfl : p = _ := List.mem_singleton.mp hp
  obtain ⟨y, rfl, hy⟩ := y_p1 pa
  obtain rfl : y = 0 := y_i0 hy
  exact ⟨hI', ef.tr ((E_fr_sub _).1 _ _ ef'), Or.inl rfl⟩
set_option maxHeartbeats 2000000 in
set_option maxRecDepth 100000 in
theorem g_fresh (hd : 194 ≤ d) {to : Int32} (t0 : 16 ≤ to.toInt) (t1 : to.toInt ≤ 31) (hN : z_H th G a nb hb nm w h3 h4 h5) : x_Gd xs L J (d + 1) m_177 (z_F th G nb nm h3 h5 to) 0 (lv_args 0 [.ref a, .int to]) [] G := by
  have hI := hN.1
  have ta := hN.2.1
  refine sg_fr0_go (d := d) (by omega) (v := (y_v [(a : Int), to.toInt])) (G0 := G) ⟨y_v_Bd (List.forall_mem_cons.mpr ⟨(y_cellB hI ta), (List.forall_mem_cons.mpr ⟨(x_i32 to), (fun _ h => absurd h List.not_mem_nil)⟩)⟩), (fun _ h => absurd h List.not_mem_nil), (List.forall_mem_cons.mpr ⟨⟨_, rfl, a, rfl, (by simp only [xl_ev, xt_ev, y_v, List.getD_cons_succ, List.getD_cons_zero]; omega), ta⟩, (List.forall_mem_cons.mpr ⟨⟨_, rfl, to, rfl, (by simp only [xl_ev, xt_ev, y_v, List.getD_cons_succ, List.getD_cons_zero]; omega)⟩, (fun _ h => absurd h List.not_mem_nil)⟩)⟩), trivial, (fun _ h => absurd h List.not_mem_nil), hI⟩ x_eff.rf (fun r G' h => ?_) (fun n hn vn lv G1 hag hS1 hE1 => ?_)
  · obtain ⟨v', -, -, hI', ef, p, hp, -, -, pa⟩ := h
    obtain rfl : p = _ := List.mem_singleton.mp hp
    obtain ⟨y, rfl, hy⟩ := y_p1 pa
    obtain rfl : y = 0 := y_i0 hy
    exact ⟨hI', (E_fr_sub _).1 _ _ ef, Or.inl rfl⟩
  obtain rfl : n = _ := List.mem_singleton.mp hn
  have z0 : vn 0 = (a : Int) := hag 0 (by decide)
  have z1 : vn 1 = to.toInt := hag 1 (by decide)
  have g0 := hS1.loCe (i := 0) (t := 10) (l := ([(0, 1)], 0)) (a := a) (List.mem_of_getElem? (i := 0) rfl) (by simp only [xl_ev, xt_ev]; omega)
  have g1 := hS1.lo0e (i := 1) (l := ([(1, 1)], 0)) (x := to) (List.mem_of_getElem? (i := 1) rfl) (by simp only [xl_ev, xt_ev]; omega)
  have hI1 := hS1.2.2.2.2.2
  obtain ⟨nm1, w1, hN1, en, ew⟩ := hN.eff hI1 hE1 rfl
  have r3 := hN.r3
  have r4 := hN.r4
  have r5 := hN.r5
  have ef1 := (E_fr_sub to.toInt.toNat).1 _ _ hE1
  obtain ⟨-, -, n1, n2, n3, n4, n5, n6, n7, n8, n9⟩ := id hN1
  have f16 : ((Int8.ofInt 16).toInt32).toInt = 16 := by decide
  have f24 : ((Int8.ofInt 24).toInt32).toInt = 24 := by decide
  have f28 : ((Int8.ofInt 28).toInt32).toInt = 28 := by decide
  refine y_aln (e_177 (13, .aload_n 0, 1) (List.mem_of_getElem? (i := 7) rfl)) g0 ?_
  refine y_st (e_177 (14, .bipush 16, 2) (List.mem_of_getElem? (i := 8) rfl)) ⟨rfl, rfl, rfl, rfl⟩ ?_
  refine y_aln (e_177 (16, .aload_n 0, 1) (List.mem_of_getElem? (i := 9) rfl)) g0 ?_
  refine y_getf hI1 ta (e_177 (17, .getfield 37, 3) (List.mem_of_getElem? (i := 10) rfl)) u_17_37 ⟨rfl, rfl⟩ n5 ?_
  refine y_st (e_177 (20, .iconst 3, 1) (List.mem_of_getElem? (i := 11) rfl)) ⟨rfl, rfl, rfl, rfl⟩ ?_
  refine y_iald hI1 n6 (e_177 (21, .iaload, 1) (List.mem_of_getElem? (i := 12) rfl)) ⟨rfl, rfl⟩ (by decide) n7 ?_
  refine y_c3 (K' := _) (e_177 (22, .invokevirtual 188, 3) (List.mem_of_getElem? (i := 13) rfl)) ⟨rfl, rfl, rfl⟩ t_17_188 ⟨by decide, by decide, by decide, by decide⟩ m_179_ok rfl (by decide) (y_recv hI1 ta ⟨rfl, rfl⟩) (Nat.le_of_ble_eq_true rfl) (Nat.le_of_ble_eq_true rfl) (g_find (d := d) hN1 _ h3 (by decide) (by omega) (by rw [f16]; omega)) (fun r1 G2 h1 => ?_)
  obtain ⟨rfl, za, rfl, hza⟩ := h1
  simp only [Option.toList_some, Option.toList_none, List.cons_append, List.nil_append]
  refine y_ifc (e_177 (25, .ifCond .ge 33, 3) (List.mem_of_getElem? (i := 14) rfl)) rfl (fun _ => ?_) (fun hb => ?_)
  · exact g_fr58 (by omega) hI1 ta ef1 g0
  have za := y_hI.2.2.2.2.2.1 hb
  refine y_aln (e_177 (28, .aload_n 0, 1) (List.mem_of_getElem? (i := 15) rfl)) g0 ?_
  refine y_st (e_177 (29, .bipush 24, 2) (List.mem_of_getElem? (i := 16) rfl)) ⟨rfl, rfl, rfl, rfl⟩ ?_
  refine y_aln (e_177 (31, .aload_n 0, 1) (List.mem_of_getElem? (i := 17) rfl)) g0 ?_
  refine y_getf hI1 ta (e_177 (32, .getfield 37, 3) (List.mem_of_getElem? (i := 18) rfl)) u_17_37 ⟨rfl, rfl⟩ n5 ?_
  refine y_st (e_177 (35, .iconst 4, 1) (List.mem_of_getElem? (i := 19) rfl)) ⟨rfl, rfl, rfl, rfl⟩ ?_
  refine y_iald hI1 n6 (e_177 (36, .iaload, 1) (List.mem_of_getElem? (i := 20) rfl)) ⟨rfl, rfl⟩ (by decide) n8 ?_
  refine y_c3 (K' := _) (e_177 (37, .invokevirtual 188, 3) (List.mem_of_getElem? (i := 21) rfl)) ⟨rfl, rfl, rfl⟩ t_17_188 ⟨by decide, by decide, by decide, by decide⟩ m_179_ok rfl (by decide) (y_recv hI1 ta ⟨rfl, rfl⟩) (Nat.le_of_ble_eq_true rfl) (Nat.le_of_ble_eq_true rfl) (g_find (d := d) hN1 _ h4 (by decide) (by omega) (by rw [f24]; omega)) (fun r1 G2 h1 => ?_)
  obtain ⟨rfl, zb, rfl, hzb⟩ := h1
  simp only [Option.toList_some, Option.toList_none, List.cons_append, List.nil_append]
  refine y_ifc (e_177 (40, .ifCond .ge 18, 3) (List.mem_of_getElem? (i := 22) rfl)) rfl (fun _ => ?_) (fun hb => ?_)
  · exact g_fr58 (by omega) hI1 ta ef1 g0
  refine y_aln (e_177 (43, .aload_n 0, 1) (List.mem_of_getElem? (i := 23) rfl)) g0 ?_
  refine y_st (e_177 (44, .bipush 28, 2) (List.mem_of_getElem? (i := 24) rfl)) ⟨rfl, rfl, rfl, rfl⟩ ?_
  refine y_aln (e_177 (46, .aload_n 0, 1) (List.mem_of_getElem? (i := 25) rfl)) g0 ?_
  refine y_getf hI1 ta (e_177 (47, .getfield 37, 3) (List.mem_of_getElem? (i := 26) rfl)) u_17_37 ⟨rfl, rfl⟩ n5 ?_
  refine y_st (e_177 (50, .iconst 5, 1) (List.mem_of_getElem? (i := 27) rfl)) ⟨rfl, rfl, rfl, rfl⟩ ?_
  refine y_iald hI1 n6 (e_177 (51, .iaload, 1) (List.mem_of_getElem? (i := 28) rfl)) ⟨rfl, rfl⟩ (by decide) n9 ?_
  refine y_c3 (K' := _) (e_177 (52, .invokevirtual 188, 3) (List.mem_of_getElem? (i := 29) rfl)) ⟨rfl, rfl, rfl⟩ t_17_188 ⟨by decide, by decide, by decide, by decide⟩ m_179_ok rfl (by decide) (y_recv hI1 ta ⟨rfl, rfl⟩) (Nat.le_of_ble_eq_true rfl) (Nat.le_of_ble_eq_true rfl) (g_find (d := d) hN1 _ h5 (by decide) (by omega) (by rw [f28]; omega)) (fun r1 G2 h1 => ?_)
  obtain ⟨rfl, zc, rfl, hzc⟩ := h1
  simp only [Option.toList_some, Option.toList_none, List.cons_append, List.nil_append]
  refine y_ifc (e_177 (55, .ifCond .lt 9, 3) (List.mem_of_getElem? (i := 30) rfl)) rfl (fun hb => ?_) (fun hb => ?_)
  · have zc := y_hI.2.2.2.2.2.2.2.2.1 hb
    have o0 : (0 : Int32).toInt = 0 := rfl
    have ha := hza.resolve_right (fun z => by omega)
    have hc := hzc.resolve_right (fun z => by omega)
    refine y_aln (e_177 (64, .aload_n 0, 1) (List.mem_of_getElem? (i := 35) rfl)) g0 ?_
    refine y_getf hI1 ta (e_177 (65, .getfield 43, 3) (List.mem_of_getElem? (i := 36) rfl)) u_17_43 ⟨rfl, rfl⟩ n1 ?_
    refine y_iln (e_177 (68, .iload_n 1, 1) (List.mem_of_getElem? (i := 37) rfl)) g1 ?_
    refine y_aln (e_177 (69, .aload_n 0, 1) (List.mem_of_getElem? (i := 38) rfl)) g0 ?_
    refine y_getf hI1 ta (e_177 (70, .getfield 154, 3) (List.mem_of_getElem? (i := 39) rfl)) u_17_154 ⟨rfl, rfl⟩ n4 ?_
    refine y_last hI1 n2 (e_177 (73, .lastore, 1) (List.mem_of_getElem? (i := 40) rfl)) ⟨rfl, rfl⟩ ⟨by omega, by show _ < (32 : Int); omega⟩ (fun G3 u3 => ?_)
    have hI3 : xI x_tb th G3 := hI1.upd u3 n2 (y_okL (y_one (show to.toInt.toNat < 32 by omega)))
    have ef3 : x_eff th (E_fr to.toInt.toNat) G2 G3 := x_eff.upd u3 n2 (q := (39, to.toInt.toNat, to.toInt.toNat)) (List.mem_of_getElem? (i := 2) rfl) rfl (Nat.le_refl _) (Nat.le_refl _)
    refine y_aln (e_177 (74, .aload_n 0, 1) (List.mem_of_getElem? (i := 41) rfl)) g0 ?_
    refine y_c1 (K' := _) (e_177 (75, .invokevirtual 170, 3) (List.mem_of_getElem? (i := 42) rfl)) ⟨rfl, rfl, rfl⟩ t_17_170 ⟨by decide, by decide, by decide, by decide⟩ m_163_ok rfl (by decide) (y_recv hI3 ta ⟨rfl, rfl⟩) (Nat.le_of_ble_eq_true rfl) (Nat.le_of_ble_eq_true rfl) (g_next (d := d) hI3 ta (by omega)) (fun r1 G4 h1 => ?_)
    obtain ⟨rfl, hI4, ef4⟩ := h1
    simp only [Option.toList_some, Option.toList_none, List.cons_append, List.nil_append]
    refine y_st (e_177 (78, .iconst 1, 1) (List.mem_of_getElem? (i := 43) rfl)) ⟨rfl, rfl, rfl, rfl⟩ ?_
    refine y_ret (e_177 (79, .ireturn, 1) (List.mem_of_getElem? (i := 44) rfl)) ⟨rfl, y_rb (by decide)⟩ ⟨hI4, (ef1.tr ef3).tr ((E_fr_sub _).2 _ _ ef4), Or.inr ⟨rfl, w1, ?_, fun i hi => ?_, fun j hj => ?_⟩⟩
    · rw [ef4.at n2 rfl, u3.2.1, if_pos ⟨rfl, rfl⟩]
    · have := ha.2 i hi
      rw [f16, show (16 : Int).toNat + i = 16 + i from rfl, en _ (by omega) rfl] at this
      exact this
    · have := hc.2 j hj
      rw [f28, show (28 : Int).toNat + j = 28 + j from rfl, en _ (by omega) rfl] at this
      exact this
  · exact g_fr58 (by omega) hI1 ta ef1 g0
end ZH
