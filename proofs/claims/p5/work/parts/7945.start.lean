-- ===== the start: both objects, the row out =====
theorem xf_ext {th : List Nat} {t : Nat} {f : xF} {v : Value} (h : xf_ok th f v) : xf_ok (th ++ [t]) f v := by
  unfold xf_ok at h ⊢
  split at h
  · exact h
  · exact h
  · exact h
  · exact h
  · obtain ⟨a, h1, h2⟩ := h
    exact ⟨a, h1, by rw [List.getElem?_append_left (List.getElem?_eq_some_iff.mp h2).1]; exact h2⟩
  · exact h.elim
theorem x_sl_ext {G : List pE} {e : pE} {k i : Nat} (hk : k < G.length) : x_sl (G ++ [e]) k i = x_sl G k i := by
  unfold x_sl
  rw [List.getElem?_append_left hk]
theorem xI_ext {th : List Nat} {G : List pE} {t : Nat} {e : pE} (h : xI x_tb th G) (hl : th.length + 1 ≤ pm_TB) (hs : x_shape (x_tb t) e) (hf : ∀ i f, x_at (x_tb t).2.2.2 i = some f → ∃ v, x_slot e i = some v ∧ xf_ok (th ++ [t]) f v) : xI x_tb (th ++ [t]) (G ++ [e]) := by
  obtain ⟨h1, h2, h3⟩ := h
  refine ⟨by rw [List.length_append, List.length_append, h1]; rfl, by rw [List.length_append]; exact hl, fun k t' hk => ?_⟩
  by_cases hkl : k < th.length
  · rw [List.getElem?_append_left hkl] at hk
    obtain ⟨⟨e', a1, a2⟩, a3⟩ := h3 k t' hk
    refine ⟨⟨e', by rw [List.getElem?_append_left (by omega)]; exact a1, a2⟩, fun i f hif => ?_⟩
    obtain ⟨v, b1, b2⟩ := a3 i f hif
    exact ⟨v, by rw [x_sl_ext (by omega)]; exact b1, xf_ext b2⟩
  · have hkl2 := (List.getElem?_eq_some_iff.mp hk).1
    rw [List.length_append, List.length_singleton] at hkl2
    obtain rfl : k = th.length := by omega
    rw [List.getElem?_append_right (Nat.le_refl _), Nat.sub_self] at hk
    cases hk
    refine ⟨⟨e, by rw [← h1, List.getElem?_append_right (Nat.le_refl _), Nat.sub_self]; rfl, hs⟩, fun i f hif => ?_⟩
    obtain ⟨v, b1, b2⟩ := hf i f hif
    refine ⟨v, ?_, b2⟩
    unfold x_sl
    rw [← h1, List.getElem?_append_right (Nat.le_refl _), Nat.sub_self]
    exact b1
set_option maxRecDepth 100000 in
theorem th1_3637 : ∀ b, b < 365 → (th1[b]? = some 36 → b = 351) ∧ (th1[b]? = some 37 → b = 352) := by decide +kernel
theorem th1_len : th1.length = 365 := by decide +kernel
/-- s and h behind the model's constructor are of their types -/
theorem E_s0 : ∀ i, i < 324 → (match x_at (x_tb 36).2.2.2 i with
    | some f => f.1 == 0 && decide (f.2.1 ≤ (if i < 81 then z_cl i else 0 : Int32).toInt) && decide ((if i < 81 then z_cl i else 0 : Int32).toInt ≤ f.2.2)
    | none => false) = true := by decide +kernel
theorem xI_of_tbd {G' : List pE} (h : xI x_tbd th1 G') (hs : ∀ i, i < 324 → x_sl G' 351 i = some (.int (if i < 81 then z_cl i else 0))) (hh : ∀ i, i < 81 → x_sl G' 352 i = some (.int (z_cl i))) : xI x_tb th1 G' := by
  refine ⟨h.1, h.2.1, fun k t hk => ?_⟩
  obtain ⟨h1, h2⟩ := h.2.2 k t hk
  have hkl := (List.getElem?_eq_some_iff.mp hk).1
  rw [th1_len] at hkl
  by_cases h36 : t = 36
  · subst h36
    obtain rfl := (th1_3637 k hkl).1 hk
    refine ⟨by unfold x_tbd at h1; rw [if_pos rfl] at h1; exact h1, fun i f hf => ?_⟩
    have hi : i < 324 := by
      rcases Nat.lt_or_ge i 324 with z | z
      · exact z
      · rw [y_at_none _ i (Nat.le_trans (by decide) z)] at hf
        cases hf
    have := E_s0 i hi
    rw [hf] at this
    simp only [Bool.and_eq_true, beq_iff_eq, decide_eq_true_eq] at this
    refine ⟨_, hs i hi, ?_⟩
    unfold xf_ok
    rw [this.1.1]
    exact ⟨_, rfl, this.1.2, this.2⟩
  · by_cases h37 : t = 37
    · subst h37
      obtain rfl := (th1_3637 k hkl).2 hk
      refine ⟨by unfold x_tbd x_tbc at h1; rw [if_neg (by decide), if_pos rfl] at h1; exact h1, fun i f hf => ?_⟩
      have hi : i < 81 := by
        rcases Nat.lt_or_ge i 81 with z | z
        · exact z
        · rw [z_at81 i z] at hf
          cases hf
      have := z_cl_ok i hi
      rw [hf] at this
      simp only [Bool.and_eq_true, beq_iff_eq, decide_eq_true_eq] at this
      refine ⟨_, hh i hi, ?_⟩
      unfold xf_ok
      rw [this.1.1]
      exact ⟨_, rfl, this.1.2, this.2⟩
    · have e : x_tbd t = x_tb t := by
        unfold x_tbd x_tbc
        rw [if_neg h36, if_neg h37]
      rw [e] at h1 h2
      exact ⟨h1, h2⟩
def z_out : pE := .inl (3, 1, .inr (.inl (fun _ => 0)))
set_option maxRecDepth 1000000 in
theorem z_G3_f : x_sl z_G3 349 9 = some (.ref 354) ∧ x_sl z_G3 349 42 = some (.ref 362) ∧ x_sl z_G3 349 43 = some (.ref 363) ∧ x_sl z_G3 349 44 = some (.ref 364) ∧ x_sl z_G3 349 2 = some (.int 0) ∧ x_sl z_G3 0 0 = some (.ref 1) ∧ x_sl z_G3 1 1 = some (.int 0) ∧ x_sl z_G3 364 0 = some (.int 0) ∧ x_sl z_G3 364 1 = some (.int 0) := by decide +kernel
set_option maxRecDepth 1000000 in
theorem z_G3_p : x_sl z_G3 0 0 = some (.ref 1) ∧ x_sl z_G3 0 1 = some (.ref 3) ∧ x_sl z_G3 0 3 = some (.ref 32) ∧ x_sl z_G3 1 0 = some (.ref 2) ∧ x_sl z_G3 3 0 = some (.ref 4) ∧ x_sl z_G3 3 1 = some (.ref 5) ∧ x_sl z_G3 32 0 = some (.ref 33) ∧ x_sl z_G3 32 1 = some (.ref 39) ∧ x_sl z_G3 32 2 = some (.ref 40) ∧ x_sl z_G3 32 3 = some (.ref 41) ∧ x_sl z_G3 33 0 = some (.ref 34) ∧ x_sl z_G3 33 1 = some (.ref 35) ∧ x_sl z_G3 33 6 = some (.ref 36) ∧ x_sl z_G3 33 7 = some (.ref 37) ∧ x_sl z_G3 33 8 = some (.ref 38) ∧ x_sl z_G3 349 1 = some (.ref 350) ∧ x_sl z_G3 349 7 = some (.ref 352) ∧ x_sl z_G3 349 9 = some (.ref 354) ∧ x_sl z_G3 349 10 = some (.ref 355) := by decide +kernel
set_option maxRecDepth 1000000 in
theorem z_G3_a0 : ∀ i, i < 8 → x_sl z_G3 39 i = some (.ref (42 + i)) := by decide +kernel
set_option maxRecDepth 1000000 in
theorem z_G3_a1 : ∀ i, i < 4 → x_sl z_G3 40 i = some (.ref (50 + i)) := by decide +kernel
set_option maxRecDepth 1000000 in
theorem z_G3_a2 : ∀ i, i < 4 → x_sl z_G3 41 i = some (.ref (54 + i)) := by decide +kernel
set_option maxRecDepth 1000000 in
theorem z_G3_a3 : ∀ i, i < 25 → x_sl z_G3 355 i = some (.long (t_W i)) := by decide +kernel
set_option maxRecDepth 1000000 in
theorem z_G3_b : ∀ i, i < 940 → x_sl z_G3 2 i = x_sl z_G3 350 i := by decide +kernel
theorem th0_f : th0[1]? = some 7 ∧ th0[351]? = some 36 ∧ th0[354]? = some 39 ∧ th0[362]? = some 47 ∧ th0[363]? = some 48 ∧ th0[364]? = some 49 ∧ th0[349]? = some 10 := by decide +kernel
set_option maxRecDepth 100000 in
theorem th0_36' : ∀ b, b < 366 → th0[b]? = some 36 → b = 351 := by decide +kernel
set_option maxRecDepth 1000000 in
theorem z_s1 : ∀ h ∈ z_hs, HPt h z_G3 := by
  unfold HPt
  decide +kernel
set_option maxRecDepth 1000000 in
theorem z_s2 : x_sl z_G3 0 2 = some (.ref 6) ∧ x_sl z_G3 0 3 = some (.ref 32) ∧ x_sl z_G3 0 4 = some (.ref 58) ∧ x_sl z_G3 0 8 = some (.ref 69) ∧ x_sl z_G3 69 0 = some (.ref 287) ∧ x_sl z_G3 69 1 = some (.ref 318) ∧ x_sl z_G3 0 5 = some (.int (Int32.ofInt 0)) ∧ x_sl z_G3 0 10 = some (.ref 71) := by decide +kernel
set_option maxRecDepth 1000000 in
theorem z_s3 : ∀ k, k < 8 → x_sl z_G3 58 k = some (.ref (79 + 26 * k)) ∧ 79 + 26 * k ∈ z_ps := by decide +kernel
set_option maxRecDepth 1000000 in
theorem z_s4 : some (.int (z_cl 0)) = x_sl z_G3 (6 + 2) 0 ∧ some (.int (z_cl 1)) = x_sl z_G3 (6 + 2) 1 ∧ some (.int (z_cl 2)) = x_sl z_G3 (6 + 1) 5 ∧ some (.int (z_cl 3)) = x_sl z_G3 (6 + 0) 4 ∧ some (.int (z_cl 4)) = x_sl z_G3 (6 + 0) 5 ∧ some (.int (z_cl 5)) = x_sl z_G3 (6 + 0) 6 ∧ some (.int (z_cl 10)) = x_sl z_G3 (6 + 1) 2 ∧ some (.int (z_cl 11)) = x_sl z_G3 (6 + 1) 3 ∧ some (.int (z_cl 12)) = x_sl z_G3 (6 + 1) 4 ∧ x_sl z_G3 (6 + 1) 5 = some (.int (Int32.ofInt 0)) := by decide +kernel
set_option maxRecDepth 1000000 in
theorem z_s5 : ∀ i, i < 4 → some (.int (z_cl (6 + i))) = x_sl z_G3 (6 + 3) i := by decide +kernel
set_option maxRecDepth 1000000 in
theorem z_s6 : x_sl z_G3 71 0 = some (.int (Int32.ofInt 0)) ∧ x_sl z_G3 71 1 = some (.int (Int32.ofInt 0)) ∧ x_sl z_G3 364 0 = some (.int (Int32.ofInt 0)) ∧ x_sl z_G3 364 1 = some (.int (Int32.ofInt 0)) ∧ x_sl z_G3 349 42 = some (.ref 362) ∧ x_sl z_G3 349 44 = some (.ref 364) := by decide +kernel
set_option maxRecDepth 1000000 in
theorem z_s7 : x_sl z_G3 0 17 = x_sl z_G3 349 15 ∧ x_sl z_G3 0 14 = some (.ref 77) := by decide +kernel
set_option maxRecDepth 1000000 in
theorem z_s8 : ∀ h ∈ z_hs, HPn h z_G3 := by
  unfold HPn
  decide +kernel
theorem z_cl35 : (z_cl 3).toInt = 0 ∧ (z_cl 5).toInt = 0 := by decide
theorem z_st {G : List pE} (up : ∀ k i, k < 365 → k ≠ 351 → k ≠ 352 → x_sl G k i = x_sl z_G3 k i) (us : ∀ i, i < 324 → x_sl G 351 i = some (.int (if i < 81 then z_cl i else 0))) : ∃ w wi, z_JW w wi G := by
  have lv : ∀ h, h < 319 → LV h (fun c i => x_sl z_G3 (h + c) i) G := fun h hh => ⟨fun c i hc => by
    have hcb : c < 7 := by
      unfold h_rel at hc
      simp at hc
      omega
    exact up _ _ (by omega) (by omega) (by omega), fun x hx i hi h8 => by
    dsimp only
    rw [← Nat.add_assoc]
    exact up _ _ (by omega) (by omega) (by omega), fun x hx i hi h4 => by
    dsimp only
    rw [← Nat.add_assoc]
    exact up _ _ (by omega) (by omega) (by omega)⟩
  have u : ∀ i, i < 25 → z_nrow G i = some (.int (z_cl i)) := fun i hi => by
    unfold z_nrow
    rw [if_pos (by omega), us i (by omega), if_pos (by omega)]
  obtain ⟨s2, s3, s4, s8, s90, s91, s5, s10⟩ := z_s2
  obtain ⟨r0, r1, r2, r3, r4, r5, r10, r11, r12, rp⟩ := z_s4
  obtain ⟨f0, f1, k0, k1, m42, m44⟩ := z_s6
  refine ⟨fun c i => x_sl z_G3 (6 + c) i, fun q => if q = 0 then fun c i => x_sl z_G3 (287 + c) i else fun c i => x_sl z_G3 (318 + c) i, ⟨Int32.ofInt 0, ⟨fun h hh => ?_, (up 0 2 (by decide) (by decide) (by decide)).trans s2, (up 0 3 (by decide) (by decide) (by decide)).trans s3, (up 0 4 (by decide) (by decide) (by decide)).trans s4, (up 0 8 (by decide) (by decide) (by decide)).trans s8, (up 69 0 (by decide) (by decide) (by decide)).trans s90, (up 69 1 (by decide) (by decide) (by decide)).trans s91, fun h hh => ?_, (up 0 14 (by decide) (by decide) (by decide)).trans z_s7.2⟩, lv 6 (by decide), (up 0 5 (by decide) (by decide) (by decide)).trans s5, fun k k8 => ?_, lv 287 (by decide), lv 318 (by decide)⟩, ⟨(up 349 6 (by decide) (by decide) (by decide)).trans z_G3_6, (up 349 42 (by decide) (by decide) (by decide)).trans m42, (up 349 44 (by decide) (by decide) (by decide)).trans m44, (up 0 10 (by decide) (by decide) (by decide)).trans s10⟩, ⟨(u 0 (by decide)).trans r0, (u 1 (by decide)).trans r1, (u 2 (by decide)).trans r2, (u 3 (by decide)).trans r3, (u 4 (by decide)).trans r4, (u 5 (by decide)).trans r5, fun i hi => (u (6 + i) (by omega)).trans (z_s5 i hi), (u 10 (by decide)).trans r10, (u 11 (by decide)).trans r11, (u 12 (by decide)).trans r12, fun np p a b c => ?_, fun x hx i hi h8 => ?_, fun x hx i hi h4 => ?_⟩, ⟨fun q hq => ?_, (up 0 17 (by decide) (by decide) (by decide)).trans (z_s7.1.trans (up 349 15 (by decide) (by decide) (by decide)).symm)⟩, fun q hq x hx h0 => ?_⟩
  · have b := z_hsB h hh
    obtain ⟨b0, b1, b2, b3, b4, b5⟩ := z_s1 h hh
    exact ⟨(up h 0 (by omega) (by omega) (by omega)).trans b0, (up (h + 1) 0 (by omega) (by omega) (by omega)).trans b1, (up (h + 1) 1 (by omega) (by omega) (by omega)).trans b2, (up (h + 1) 6 (by omega) (by omega) (by omega)).trans b3, (up (h + 1) 7 (by omega) (by omega) (by omega)).trans b4, (up (h + 1) 8 (by omega) (by omega) (by omega)).trans b5⟩
  · have b := z_hsB h hh
    obtain ⟨b1, b2, b3, bT, bL, bM⟩ := z_s8 h hh
    exact ⟨(up _ _ (by omega) (by omega) (by omega)).trans b1, (up _ _ (by omega) (by omega) (by omega)).trans b2, (up _ _ (by omega) (by omega) (by omega)).trans b3, fun i hi => (up _ _ (by omega) (by omega) (by omega)).trans (bT i hi), fun i hi => (up _ _ (by omega) (by omega) (by omega)).trans (bL i hi), fun i hi => (up _ _ (by omega) (by omega) (by omega)).trans (bM i hi)⟩
  · exact ⟨79 + 26 * k, (z_s3 k k8).2, (up 58 k (by decide) (by decide) (by decide)).trans (z_s3 k k8).1, fun z => absurd z (by show ¬ (k : Int) < 0; omega)⟩
  · dsimp only at a
    rw [rp] at a
    cases a
    exact absurd b (by show ¬ (p : Int) < 0; omega)
  · replace hx := r3.trans hx
    cases hx
    rw [z_cl35.1] at hi
    omega
  · replace hx := r5.trans hx
    cases hx
    rw [z_cl35.2] at hi
    omega
  · rw [up 71 q (by decide) (by decide) (by decide), up 364 q (by decide) (by decide) (by decide)]
    rcases (show q = 0 ∨ q = 1 by omega) with rfl | rfl
    · rw [f0, k0]
    · rw [f1, k1]
  · rw [up 364 q (by decide) (by decide) (by decide)] at hx
    rcases (show q = 0 ∨ q = 1 by omega) with rfl | rfl
    · rw [k0] at hx
      cases hx
      exact absurd rfl h0
    · rw [k1] at hx
      cases hx
      exact absurd rfl h0
set_option maxHeartbeats 4000000 in
set_option maxRecDepth 100000 in
theorem z_start {xs : Nat → Int32} {L d : Nat} : ∃ G3, q_Gd xs L (d + 1) m_159 none G3 15 2873 0 (lv_args 0 [.ref 349]) [] z_G2 ∧ G3.length = 365 ∧ z_IN th0 0 349 (G3 ++ [z_out]) 0 0 := by
  obtain ⟨r, G3, hr, rfl, hI, hO, hs, hh⟩ := g_mdl2 (xs := xs) (L := L) (d := d)
  have l2 : z_G2.length = 350 := by
    unfold z_G2
    rw [List.length_append, z_G1_len]
    rfl
  have g2 : z_G2[349]? = some (.inr (10, pm_d 10)) := by
    unfold z_G2
    rw [List.getElem?_append_right (by rw [z_G1_len]; exact Nat.le_refl _), z_G1_len]
    rfl
  have hq : q_Gd xs L (d + 1) m_159 none G3 0 0 370 [(0, .ref 349)] [] (hp z_G2 349 (z_mdl z_G2.length) (z_mdlL z_G2.length)) := by
    rw [l2]
    exact q_of hr (pm_run_cs xs L 0 · (d + 1) m_159 370 [(0, .ref 349)] [] z_G3)
  have l3 : G3.length = 365 := by rw [hI.1, th1_len]
  have hTB : pm_TB = 1000000 := rfl
  refine ⟨G3, q_mdl (n := 0) (k := 0) (by omega) (by omega) g2 hq, l3, ?_⟩
  have hI3 := xI_of_tbd hI hs hh
  have hI4 : xI x_tb th0 (G3 ++ [z_out]) := xI_ext hI3 (by rw [th1_len]; omega) ⟨rfl, rfl, rfl, rfl⟩ (fun i f hf => by
    have hi : i < 1 := by
      rcases Nat.lt_or_ge i 1 with z | z
      · exact z
      · rw [y_at_none _ i (Nat.le_trans (by decide) z)] at hf
        cases hf
    obtain rfl : i = 0 := by omega
    cases hf
    exact ⟨_, rfl, 0, rfl⟩)
  obtain ⟨f1, f2, f3, f4, f5, f6, f7, f8, f9⟩ := z_G3_f
  obtain ⟨t1, t2, t3, t4, t5, t6, t7⟩ := th0_f
  have up : ∀ k i, k < 365 → k ≠ 351 → k ≠ 352 → x_sl (G3 ++ [z_out]) k i = x_sl z_G3 k i := fun k i hk h1 h2 => (x_sl_ext (by omega)).trans (hO k i h1 h2)
  have us : ∀ i, i < 324 → x_sl (G3 ++ [z_out]) 351 i = some (.int (if i < 81 then z_cl i else 0)) := fun i hi => (x_sl_ext (by omega)).trans (hs i hi)
  refine ⟨hI4, ⟨hI4, fun b hb => ?_, ⟨354, 351, (up 349 9 (by decide) (by decide) (by decide)).trans f1, t3, (up 349 6 (by decide) (by decide) (by decide)).trans z_G3_6, t2, fun n3 n5 i j x y a1 a2 a3 a4 a5 a6 => ?_⟩, 362, 363, 364, (up 349 42 (by decide) (by decide) (by decide)).trans f2, t4, (up 349 43 (by decide) (by decide) (by decide)).trans f3, t5, (up 349 44 (by decide) (by decide) (by decide)).trans f4, t6, fun q hq2 x hx hx0 => ?_⟩, 1, (up 0 0 (by decide) (by decide) (by decide)).trans f6, t1, (up 1 1 (by decide) (by decide) (by decide)).trans f7, (up 349 2 (by decide) (by decide) (by decide)).trans f5, rfl, rfl, rfl, ⟨⟨(up 0 0 (by decide) (by decide) (by decide)).trans z_G3_p.1, (up 0 1 (by decide) (by decide) (by decide)).trans z_G3_p.2.1, (up 0 3 (by decide) (by decide) (by decide)).trans z_G3_p.2.2.1, (up 1 0 (by decide) (by decide) (by decide)).trans z_G3_p.2.2.2.1, (up 3 0 (by decide) (by decide) (by decide)).trans z_G3_p.2.2.2.2.1, (up 3 1 (by decide) (by decide) (by decide)).trans z_G3_p.2.2.2.2.2.1, (up 32 0 (by decide) (by decide) (by decide)).trans z_G3_p.2.2.2.2.2.2.1, (up 32 1 (by decide) (by decide) (by decide)).trans z_G3_p.2.2.2.2.2.2.2.1, (up 32 2 (by decide) (by decide) (by decide)).trans z_G3_p.2.2.2.2.2.2.2.2.1, (up 32 3 (by decide) (by decide) (by decide)).trans z_G3_p.2.2.2.2.2.2.2.2.2.1, (up 33 0 (by decide) (by decide) (by decide)).trans z_G3_p.2.2.2.2.2.2.2.2.2.2.1, (up 33 1 (by decide) (by decide) (by decide)).trans z_G3_p.2.2.2.2.2.2.2.2.2.2.2.1, (up 33 6 (by decide) (by decide) (by decide)).trans z_G3_p.2.2.2.2.2.2.2.2.2.2.2.2.1, (up 33 7 (by decide) (by decide) (by decide)).trans z_G3_p.2.2.2.2.2.2.2.2.2.2.2.2.2.1, (up 33 8 (by decide) (by decide) (by decide)).trans z_G3_p.2.2.2.2.2.2.2.2.2.2.2.2.2.2.1, (up 349 1 (by decide) (by decide) (by decide)).trans z_G3_p.2.2.2.2.2.2.2.2.2.2.2.2.2.2.2.1, (up 349 7 (by decide) (by decide) (by decide)).trans z_G3_p.2.2.2.2.2.2.2.2.2.2.2.2.2.2.2.2.1, (up 349 9 (by decide) (by decide) (by decide)).trans z_G3_p.2.2.2.2.2.2.2.2.2.2.2.2.2.2.2.2.2.1, (up 349 10 (by decide) (by decide) (by decide)).trans z_G3_p.2.2.2.2.2.2.2.2.2.2.2.2.2.2.2.2.2.2, fun i hi => (up 39 i (by decide) (by decide) (by decide)).trans (z_G3_a0 i hi), fun i hi => (up 40 i (by decide) (by decide) (by decide)).trans (z_G3_a1 i hi), fun i hi => (up 41 i (by decide) (by decide) (by decide)).trans (z_G3_a2 i hi), fun i hi => (up 355 i (by decide) (by decide) (by decide)).trans (z_G3_a3 i hi)⟩, fun i hi => (up 2 i (by decide) (by decide) (by decide)).trans ((z_G3_b i hi).trans (up 350 i (by decide) (by decide) (by decide)).symm)⟩, z_st up us⟩
  · have hbl := (List.getElem?_eq_some_iff.mp hb).1
    have l0 : th0.length = 366 := by decide +kernel
    rw [l0] at hbl
    obtain rfl := th0_36' b hbl hb
    refine ⟨fun n x t a1 a2 a3 a4 => ?_, fun n x i a1 a2 a3 => ?_⟩
    · rw [us 3 (by decide)] at a1
      cases a1
      exact absurd a2 (by show ¬ (t : Int) < 0; omega)
    · rw [us 143 (by decide)] at a1
      cases a1
      exact absurd a2 (by show ¬ (i : Int) < 0; omega)
  · rw [us 3 (by decide)] at a1
    cases a1
    exact absurd a3 (by show ¬ (i : Int) < 0; omega)
  · rcases (show q = 0 ∨ q = 1 by omega) with rfl | rfl
    · rw [up 364 0 (by decide) (by decide) (by decide), f8] at hx
      cases hx
      exact absurd rfl hx0
    · rw [up 364 1 (by decide) (by decide) (by decide), f9] at hx
      cases hx
      exact absurd rfl hx0
