def y_outs (E F : List (Nat × Nat × Nat)) : Bool := E.all (fun q => F.all (fun f => !(q.1 == f.1) || decide (q.2.2 < f.2.1) || decide (f.2.2 < q.2.1)))
theorem y_outs_ok {E F : List (Nat × Nat × Nat)} {t lo hi i : Nat} (h : y_outs E F = true) (hf : (t, lo, hi) ∈ F) (h1 : lo ≤ i) (h2 : i ≤ hi) : y_out E t i = true := by
  unfold y_out
  unfold y_outs at h
  rw [List.all_eq_true] at h ⊢
  intro q hq
  have := List.all_eq_true.mp (h q hq) _ hf
  simp only [Bool.or_eq_true, Bool.not_eq_true', beq_eq_false_iff_ne, decide_eq_true_eq] at this
  simp only [Bool.not_eq_true', Bool.and_eq_false_iff, beq_eq_false_iff_ne, decide_eq_false_iff_not]
  by_cases e : q.1 = t
  · rcases this with (z | z) | z
    · exact absurd e z
    · exact Or.inr (by omega)
    · exact Or.inl (Or.inr (by omega))
  · exact Or.inl (Or.inl e)
def sg_lt144_ns : List xN := [(239, [(1, (0, ([(1, 1)], 0))), (0, (20, ([(0, 1)], 0)))], [(10, ([(0, 1)], 0), 6, (46, ([(2, 1)], 0))), (36, ([(2, 1)], 0), 3, (0, ([(3, 1)], 0)))], [([(3, 1)], 0), ([(3, -1)], 8), ([(1, 1)], 0), ([(1, -1)], 7), ([(1, -1)], 8), ([(1, -1)], 20), ([(1, -1)], 40), ([(1, -1)], 61), ([(1, -1)], 255), ([(1, -1)], 1000), ([(1, -1)], 1001)], 4, [([], 2), ([(1, -1)], 2147483647), ([], 5000000000), ([], 5000000000), ([], 5000000000)]), (156, [(1, (0, ([(1, 1)], 0))), (0, (20, ([(0, 1)], 0)))], [(10, ([(0, 1)], 0), 6, (46, ([(2, 1)], 0))), (36, ([(2, 1)], 0), 3, (0, ([(3, 1)], 0)))], [([(3, 1)], -1), ([(3, 1)], 0), ([(3, -1)], 8), ([(1, 1)], 0), ([(1, -1), (3, 1)], -1), ([(1, -1), (3, 1)], 0), ([(1, -1)], 7), ([(1, -1)], 8), ([(1, -1)], 20), ([(1, -1)], 40), ([(1, -1)], 61), ([(1, -1)], 255), ([(1, -1)], 1000), ([(1, -1)], 1001)], 4, [([], 4), ([(1, -1)], 2147483647), ([], 5000000000), ([], 5000000000), ([], 5000000000)])]
def sg_lt144_os : List xN := [(279, [(0, (20, ([(0, 1)], 0)))], [], [], 1, [([], 0), ([], 0), ([], 0), ([], 0), ([], 0)])]
def sg_lt144_g : xG := ([], [(0, (20, ([(0, 1)], 0)))], [], [], 1)
def sg_lt144_ps : List xP := []
set_option maxRecDepth 100000 in
set_option maxHeartbeats 4000000 in
theorem sg_lt144_ok : x_seg x_tb [] m_161 d_161 [(10, 28, 28), (36, 82, 97), (36, 114, 122), (36, 135, 142)] 1 sg_lt144_ps sg_lt144_ns sg_lt144_os 68 false 144 sg_lt144_g = true := by decide +kernel
set_option maxRecDepth 100000 in
theorem sg_lt144_go {th : List Nat} {xs : Nat → Int32} {L J d : Nat} {K : Option Value → List pE → Prop} (hd : 0 ≤ d) {v : Nat → Int} {lv : pL} {ws : List Value} {G0 G : List pE} (hS : x_S x_tb th v sg_lt144_g lv ws G) (hE : x_eff th [(10, 28, 28), (36, 82, 97), (36, 114, 122), (36, 135, 142)] G0 G) (hK : ∀ r G', x_Post x_tb th [(10, 28, 28), (36, 82, 97), (36, 114, 122), (36, 135, 142)] sg_lt144_ps 1 v G0 r G' → K r G') (hO : ∀ n ∈ sg_lt144_os, ∀ (vn : Nat → Int) (lv : pL) (G1 : List pE), x_ag 1 v vn → x_S x_tb th vn (n.2.2.2.1, n.2.1, [], n.2.2.1, n.2.2.2.2.1) lv [] G1 → x_eff th [(10, 28, 28), (36, 82, 97), (36, 114, 122), (36, 135, 142)] G0 G1 → x_Gd xs L J (d + 1) m_161 K n.1 lv [] G1) : x_Gd xs L J (d + 1) m_161 K 144 lv ws G :=
  x_seg_ok (dm := 0) x_tb_wf ⟨rfl, rfl, rfl⟩ e_161 (fun _ h => absurd h List.not_mem_nil) hd sg_lt144_ok hS hE (fun z => by cases z) hK hO
section TL
variable {th : List Nat} {xs : Nat → Int32} {L J d a nb hb : Nat}
set_option maxHeartbeats 2000000 in
set_option maxRecDepth 100000 in
theorem v_tail {G4 : List pE} {lv4 : pL} {l : Int32} (ta : th[a]? = some 10) (hP4 : z_Pl th a nb hb G4) (h19 : x_sl G4 a 19 = some (.int l)) {hf : Nat → Int32} (hhf : ∀ i, i < 81 → x_sl G4 hb i = some (.int (hf i))) {nf : Nat → Int64} {q15 : Int32} (hnf : ∀ i, i < 32 → x_sl G4 nb i = some (.long (nf i))) (h15 : x_sl G4 a 15 = some (.int q15)) (hU : ∀ b b' : Nat, th[b]? = some 36 → th[b']? = some 36 → b = b') (g04 : pm_get lv4 0 = some (.ref a)) : x_Gd xs L J (d + 1) m_161 (fun r G' => r = some (.int l) ∧ (∀ c i, th[c]? = some 36 → i < 81 → x_sl G' c i = some (.int (hf i))) ∧ (∀ i, i < 16 → x_sl G' nb i = some (.long (nf (16 + i)))) ∧ x_sl G' a 15 = some (.int q15)) 78 lv4 [] G4 := by
  obtain ⟨nm4, w4, n3, n4, n5, wt, hH4, hD4, hw4⟩ := hP4
  obtain ⟨hI4, -, q9, tnb, hnm4, -, q7, tb, v43, -, v45⟩ := id hH4
  obtain ⟨sc, q6, tsc⟩ := y_fref (i := 6) (u := 36) hI4 ta rfl
  refine y_st (e_161 (78, .iconst 0, 1) (List.mem_of_getElem? (i := 41) rfl)) ⟨rfl, rfl, rfl, rfl⟩ ?_
  refine y_isn (e_161 (79, .istore_n 1, 1) (List.mem_of_getElem? (i := 42) rfl)) (by decide) ?_
  refine g_lcp1 (G0 := G4) (sc := sc) (hb := hb) (hf := hf) ta q6 tsc q7 tb hI4 hhf (fun G5 lv5 hI5 hO5 hc5 ef5 g05 => ?_) _ G4 _ 0 hI4 (fun _ _ _ => rfl) x_eff.rf (by decide) (by decide) rfl (fun i hi => absurd hi (by show ¬ (i : Int) < 0; omega)) (y_gpr g04 (by decide)) x_get_self
  have ne : a ≠ sc := fun z => by rw [z, tsc] at ta; cases ta
  have ne2 : nb ≠ sc := fun z => by rw [z, tsc] at tnb; cases tnb
  have ne3 : sc ≠ nb := Ne.symm ne2
  have ne4 : a ≠ nb := fun z => by rw [z, tnb] at ta; cases ta
  refine y_st (e_161 (115, .iconst 0, 1) (List.mem_of_getElem? (i := 61) rfl)) ⟨rfl, rfl, rfl, rfl⟩ ?_
  refine y_isn (e_161 (116, .istore_n 1, 1) (List.mem_of_getElem? (i := 62) rfl)) (by decide) ?_
  refine g_lcp2 (G0 := G5) (nb := nb) (nm := nf) ta ((hO5 a 9 ne).trans q9) tnb (fun i hi => (hO5 nb i ne2).trans (hnf i hi)) (fun G6 lv6 hI6 hO6 hc6 ef6 g06 => ?_) _ G5 _ 0 hI5 (fun _ _ _ => rfl) x_eff.rf (by decide) (by decide) rfl (fun i hi => absurd hi (by show ¬ (i : Int) < 0; omega)) (fun i _ hi => (hO5 nb i ne2).trans (hnf i hi)) (y_gpr g05 (by decide)) x_get_self
  have f19 : x_sl G6 a 19 = some (.int l) := (hO6 a 19 ne4).trans ((hO5 a 19 ne).trans h19)
  refine sg_lt144_go (d := d) (by omega) (v := (y_v [(a : Int)])) (G0 := G6) ⟨y_v_Bd (List.forall_mem_cons.mpr ⟨(y_cellB hI6 ta), (fun _ h => absurd h List.not_mem_nil)⟩), (fun _ h => absurd h List.not_mem_nil), (List.forall_mem_cons.mpr ⟨⟨_, g06, a, rfl, (by simp only [xl_ev, xt_ev, y_v, List.getD_cons_succ, List.getD_cons_zero]; omega), ta⟩, (fun _ h => absurd h List.not_mem_nil)⟩), trivial, (fun _ h => absurd h List.not_mem_nil), hI6⟩ x_eff.rf (fun r G' h => ?_) (fun n hn vn lv7 G7 hag hS7 hE7 => ?_)
  · obtain ⟨v', -, -, -, -, p, hp, -⟩ := h
    exact absurd hp List.not_mem_nil
  obtain rfl : n = _ := List.mem_singleton.mp hn
  have z0 : vn 0 = (a : Int) := hag 0 (by decide)
  have g07 := hS7.loCe (i := 0) (t := 10) (l := ([(0, 1)], 0)) (a := a) (List.mem_of_getElem? (i := 0) rfl) (by simp only [xl_ev, xt_ev]; omega)
  refine y_aln (e_161 (279, .aload_n 0, 1) (List.mem_of_getElem? (i := 164) rfl)) g07 ?_
  refine y_getf hS7.2.2.2.2.2 ta (e_161 (280, .getfield 220, 3) (List.mem_of_getElem? (i := 165) rfl)) u_17_220 ⟨rfl, rfl⟩ (by rw [hE7.at ta rfl]; exact f19) ?_
  refine y_ret (e_161 (283, .ireturn, 1) (List.mem_of_getElem? (i := 166) rfl)) ⟨rfl, y_ri⟩ ⟨rfl, fun c i hc hi => ?_, fun i hi => by rw [hE7.at tnb (by rfl)]; exact hc6 i hi, by rw [hE7.at ta rfl]; exact (hO6 a 15 ne4).trans ((hO5 a 15 ne).trans h15)⟩
  obtain rfl := hU c sc hc tsc
  rw [hE7.at tsc (y_outs_ok (F := [(36, 0, 80)]) (by decide) (List.mem_of_getElem? (i := 0) rfl) (Nat.zero_le _) (by omega)), hO6 c i ne3, hc5 i (by omega), if_pos hi]
end TL
