theorem y_and255 {b : Int32} (h1 : -128 ≤ b.toInt) (h2 : b.toInt ≤ 127) : (0 ≤ b.toInt → (b &&& 255).toInt = b.toInt) ∧ (b.toInt < 0 → (b &&& 255).toInt = b.toInt + 256) := by
  have e : ∀ z : Int32, z.toInt = z.toBitVec.toInt := fun _ => rfl
  have hn : (b &&& 255).toBitVec.toNat = b.toBitVec.toNat % 256 := by
    show (b.toBitVec &&& (255 : Int32).toBitVec).toNat = _
    rw [BitVec.toNat_and, show (255 : Int32).toBitVec.toNat = 2 ^ 8 - 1 from rfl, Nat.and_two_pow_sub_one_eq_mod]
  have hl := b.toBitVec.isLt
  rw [e, BitVec.toInt_eq_toNat_cond] at h1 h2
  rw [e, e, BitVec.toInt_eq_toNat_cond, BitVec.toInt_eq_toNat_cond, hn]
  rw [if_pos (show 2 * (b.toBitVec.toNat % 256) < 2 ^ 32 by omega)]
  split at h1
  · rename_i h
    rw [if_pos h] at h2 ⊢
    omega
  · rename_i h
    rw [if_neg h] at h2 ⊢
    omega
def m_225 : pM := (⟨"BreathingHillModel", "octet", "(I)I"⟩, 1729, 2, some (FieldType.int), 17, 1, false, 10, 103, 1728, 72)
theorem m_225_ok : pm_tab[225]? = some m_225 := rfl
theorem e_225 : ∀ q ∈ d_225, decode m_225.code q.1 = .ok (q.2.1, q.2.2) := y_dec d_225_ok m_225_ok

theorem y_octet {th : List Nat} {xs : Nat → Int32} {L J d a c : Nat} {b : Int32} {G : List pE} (hI : xI x_tb th G) (ta : th[a]? = some 10) (s1 : x_sl G a 1 = some (.ref c)) (tc : th[c]? = some 35) (s2 : x_sl G c 0 = some (.int b)) : x_Gd xs L J d m_225 (fun r G' => r = some (.int (b &&& 255)) ∧ G' = G) 0 (lv_args 0 [.ref a, .int 0]) [] G := by
  refine y_aln (e_225 (0, .aload_n 0, 1) (List.mem_of_getElem? (i := 0) rfl)) rfl ?_
  refine y_getf hI ta (e_225 (1, .getfield 14, 3) (List.mem_of_getElem? (i := 1) rfl)) rfl ⟨rfl, rfl⟩ s1 ?_
  refine y_iln (e_225 (4, .iload_n 1, 1) (List.mem_of_getElem? (i := 2) rfl)) rfl ?_
  refine y_bald hI tc (e_225 (5, .baload, 1) (List.mem_of_getElem? (i := 3) rfl)) ⟨rfl, Or.inl rfl⟩ (by decide) s2 ?_
  refine y_st (e_225 (6, .sipush 255, 3) (List.mem_of_getElem? (i := 4) rfl)) ⟨rfl, rfl, rfl, rfl⟩ ?_
  refine y_st (e_225 (9, .iand, 1) (List.mem_of_getElem? (i := 5) rfl)) ⟨rfl, rfl, rfl, rfl⟩ ?_
  refine y_ret (e_225 (10, .ireturn, 1) (List.mem_of_getElem? (i := 6) rfl)) ⟨rfl, y_ri⟩ ⟨rfl, rfl⟩
theorem y_octet2 {th : List Nat} {v : Nat → Int} {as : List Value} {G : List pE} (hI : xI x_tb th G) (hg : x_gs th v [(20, ([(0, 1)], 0)), (0, ([], 0))] as) (hf : ∀ q ∈ [(10, ([(0, 1)], 0), 1, (45, ([(1, 1)], 0))), (35, ([(1, 1)], 0), 0, (0, ([(2, 1)], 0)))], x_fact th v G q) : ∃ a c b, as = [.ref a, .int 0] ∧ th[a]? = some 10 ∧ x_sl G a 1 = some (.ref c) ∧ th[c]? = some 35 ∧ x_sl G c 0 = some (.int b) ∧ b.toInt = v 2 ∧ -128 ≤ b.toInt ∧ b.toInt ≤ 127 := by
  obtain ⟨w1, r1, rfl, g1, hs1⟩ := x_gs_cons hg
  obtain ⟨w2, r2, rfl, g2, hs2⟩ := x_gs_cons hs1
  obtain rfl : r2 = [] := by
    cases r2 with
    | nil => rfl
    | cons => exact hs2.elim
  obtain ⟨a, rfl, ea, ta⟩ := x_g_cell g1 (by decide)
  obtain ⟨x, rfl, ex⟩ := x_g0 g2
  obtain ⟨a1, f1, f2, w, f3, f4⟩ := hf _ List.mem_cons_self
  obtain ⟨c, rfl, ec, tc⟩ := x_g_cell f4 (by decide)
  obtain ⟨c1, k1, k2, w9, k3, k4⟩ := hf _ (List.mem_cons_of_mem _ List.mem_cons_self)
  obtain ⟨b, rfl, eb⟩ := x_g0 k4
  simp only [xl_ev, xt_ev] at ea ex f1 ec k1 eb
  obtain rfl : a1 = a := by omega
  obtain rfl : c1 = c := by omega
  obtain rfl : x = 0 := by
    rw [← Int32.toInt_inj]
    rw [show (0 : Int32).toInt = 0 from rfl]
    omega
  obtain ⟨w, w1, w2⟩ := (hI.2.2 c1 35 tc).2 0 (0, -128, 127) rfl
  rw [k3] at w1
  cases w1
  obtain ⟨y, h1, h2, h3⟩ := w2
  cases h1
  exact ⟨a1, c1, b, rfl, ta, f3, tc, k3, by omega, h2, h3⟩
theorem h_292 (th : List Nat) (xs : Nat → Int32) (L J : Nat) : x_Holds x_tb th xs L J c_292 293 := by
  refine ⟨m_225, m_225_ok, fun d hd v as G hB hC hg hf hI hQ => ?_⟩
  obtain ⟨a, c, b, rfl, ta, s1, tc, s2, eb, b1, b2⟩ := y_octet2 hI hg hf
  obtain ⟨r, G', hr, rfl, rfl⟩ := y_octet (xs := xs) (L := L) (J := J) (d := d) hI ta s1 tc s2
  obtain ⟨n1, n2⟩ := y_and255 b1 b2
  have e : ∀ z : Int32, z.toInt = z.toBitVec.toInt := fun _ => rfl
  by_cases h : 0 ≤ b.toInt ∧ b.toInt ≤ 1
  · refine ⟨_, _, v, hr, x_ag.rf, hB, hI, x_eff.rf, _, List.mem_cons_self, ?_, fun q hq => absurd hq List.not_mem_nil, _, rfl, ?_⟩
    · intro c hc
      rcases List.mem_cons.mp hc with rfl | hc
      · simp only [xl_ev, xt_ev]; omega
      · rw [List.mem_singleton.mp hc]; simp only [xl_ev, xt_ev]; omega
    · simp only [xl_ev, xt_ev]
      have := n1 h.1
      omega
  · have hb : 2 ≤ (b &&& 255).toInt ∧ (b &&& 255).toInt ≤ 255 := by
      by_cases h0 : 0 ≤ b.toInt
      · have := n1 h0
        omega
      · have := n2 (by omega)
        omega
    refine ⟨_, _, x_up v 3 (b &&& 255).toInt, hr, x_ag.up (Nat.le_refl 3), x_up_Bd hB (by omega) (by omega), hI, x_eff.rf, _, List.mem_cons_of_mem _ List.mem_cons_self, ?_, fun q hq => absurd hq List.not_mem_nil, _, rfl, ?_⟩
    · intro c hc
      rcases List.mem_cons.mp hc with rfl | hc
      · simp [xl_ev, xt_ev, x_up]; omega
      · rw [List.mem_singleton.mp hc]; simp [xl_ev, xt_ev, x_up]; omega
    · simp [xl_ev, xt_ev, x_up]
theorem h_293 (th : List Nat) (xs : Nat → Int32) (L J : Nat) : x_Holds x_tb th xs L J c_293 294 := by
  refine ⟨m_225, m_225_ok, fun d hd v as G hB hC hg hf hI hQ => ?_⟩
  obtain ⟨a, c, b, rfl, ta, s1, tc, s2, eb, b1, b2⟩ := y_octet2 hI hg hf
  obtain ⟨r, G', hr, rfl, rfl⟩ := y_octet (xs := xs) (L := L) (J := J) (d := d) hI ta s1 tc s2
  obtain ⟨n1, n2⟩ := y_and255 b1 b2
  have c1 := hC ([(2, 1)], 0) List.mem_cons_self
  simp only [xl_ev, xt_ev] at c1
  refine ⟨_, _, v, hr, x_ag.rf, hB, hI, x_eff.rf, _, List.mem_cons_self, fun c hc => absurd hc List.not_mem_nil, fun q hq => absurd hq List.not_mem_nil, _, rfl, ?_⟩
  simp only [xl_ev, xt_ev]
  have := n1 (by omega)
  omega
