def z_hs : List Nat := [6, 32, 79, 105, 131, 157, 183, 209, 235, 261, 287, 318]
def z_ps : List Nat := [79, 105, 131, 157, 183, 209, 235, 261]
theorem z_hsT : ∀ h ∈ z_hs, HT h := by
  unfold HT
  decide +kernel
theorem z_psH : ∀ p ∈ z_ps, p ∈ z_hs ∧ 78 < p ∧ p < 262 := by decide
theorem z_hsD : ∀ h ∈ z_hs, ∀ h' ∈ z_hs, h ≠ h' → h + 25 < h' ∨ h' + 25 < h := by decide
theorem z_hsN : ∀ h ∈ z_hs, HN h := by
  unfold HN
  decide +kernel
theorem z_ty : th0[0]? = some 9 ∧ th0[58]? = some 29 ∧ th0[69]? = some 30 := by decide +kernel
/-- pointers -/
def ZP (G : List pE) : Prop := (∀ h ∈ z_hs, HPt h G) ∧ x_sl G 0 2 = some (.ref 6) ∧ x_sl G 0 3 = some (.ref 32) ∧ x_sl G 0 4 = some (.ref 58) ∧ x_sl G 0 8 = some (.ref 69) ∧ x_sl G 69 0 = some (.ref 287) ∧ x_sl G 69 1 = some (.ref 318) ∧ (∀ h ∈ z_hs, HPn h G) ∧ x_sl G 0 14 = some (.ref 77)
def LVo (h : Nat) (w : Nat → Nat → Option Value) (G : List pE) : Prop := ∀ c i, h_rel c i = true → x_sl G (h + c) i = w c i
/-- the names of the things and of the men -/
def LN (h : Nat) (w : Nat → Nat → Option Value) (G : List pE) : Prop := (∀ x : Int32, w 0 4 = some (.int x) → ∀ i : Nat, (i : Int) < x.toInt → i < 8 → x_sl G (h + 10 + i) 0 = w (10 + i) 0) ∧ ∀ x : Int32, w 0 6 = some (.int x) → ∀ i : Nat, (i : Int) < x.toInt → i < 4 → x_sl G (h + 22 + i) 0 = w (22 + i) 0
def LV (h : Nat) (w : Nat → Nat → Option Value) (G : List pE) : Prop := LVo h w G ∧ LN h w G
/-- the hill's LAND is w, and so is that of the past; the images' are wi -/
def ZL (w : Nat → Nat → Option Value) (wi : Nat → Nat → Nat → Option Value) (pc : Int32) (G : List pE) : Prop := ZP G ∧ LV 6 w G ∧ x_sl G 0 5 = some (.int pc) ∧ (∀ k, k < 8 → ∃ p ∈ z_ps, x_sl G 58 k = some (.ref p) ∧ ((k : Int) < pc.toInt → LV p w G)) ∧ LV 287 (wi 0) G ∧ LV 318 (wi 1) G
def ZX (w : Nat → Nat → Option Value) (wi : Nat → Nat → Nat → Option Value) (G : List pE) : Prop := ∃ pc, ZL w wi pc G
def z_fz : List (Nat × Nat × Nat) := [(0, 0, 6), (1, 0, 8), (14, 0, 1), (15, 0, 3), (16, 0, 3), (17, 0, 3), (18, 0, 3), (9, 2, 5), (9, 8, 8), (29, 0, 7), (30, 0, 1), (8, 0, 0), (4, 0, 0), (11, 0, 7), (12, 0, 3), (13, 0, 3), (9, 14, 14)]
def z_fp : List (Nat × Nat × Nat) := [(0, 0, 0), (1, 0, 1), (1, 6, 8), (9, 2, 4), (9, 8, 8), (30, 0, 1), (0, 1, 3), (11, 0, 7), (12, 0, 3), (13, 0, 3), (9, 14, 14)]
section ZLs
variable {E F : List (Nat × Nat × Nat)} {G G' G1 : List pE} {w : Nat → Nat → Option Value} {wi : Nat → Nat → Nat → Option Value} {pc : Int32}
theorem LVo.eff {h : Nat} (hh : h ∈ z_hs) (H : LVo h w G) (he : x_eff th0 E G G') (hok : y_outs E z_fz = true) : LVo h w G' := by
  intro c i hc
  obtain ⟨a0, a1, a2, a3, a4, a5, a6⟩ := z_hsT h hh
  rw [← H c i hc]
  unfold h_rel at hc
  simp only [Bool.or_eq_true, Bool.and_eq_true, beq_iff_eq, decide_eq_true_eq] at hc
  rcases hc with ((⟨⟨rfl, h1⟩, h2⟩ | ⟨⟨rfl, h1⟩, h2⟩) | ⟨rfl, h1⟩) | ⟨⟨h1, h2⟩, h3⟩
  · exact he.at a0 (y_outs_ok hok (List.mem_of_getElem? (i := 0) rfl) (by omega) (by omega))
  · exact he.at a1 (y_outs_ok hok (List.mem_of_getElem? (i := 1) rfl) (by omega) (by omega))
  · exact he.at a2 (y_outs_ok hok (List.mem_of_getElem? (i := 2) rfl) (by omega) (by omega))
  · rcases (show c = 3 ∨ c = 4 ∨ c = 5 ∨ c = 6 by omega) with rfl | rfl | rfl | rfl
    · exact he.at a3 (y_outs_ok hok (List.mem_of_getElem? (i := 3) rfl) (by omega) (by omega))
    · exact he.at a4 (y_outs_ok hok (List.mem_of_getElem? (i := 4) rfl) (by omega) (by omega))
    · exact he.at a5 (y_outs_ok hok (List.mem_of_getElem? (i := 5) rfl) (by omega) (by omega))
    · exact he.at a6 (y_outs_ok hok (List.mem_of_getElem? (i := 6) rfl) (by omega) (by omega))
theorem LN.eff {h : Nat} (hh : h ∈ z_hs) (H : LN h w G) (he : x_eff th0 E G G') (hok : y_outs E z_fz = true) : LN h w G' := by
  obtain ⟨-, -, -, nT, -, nM⟩ := z_hsN h hh
  exact ⟨fun x hx i hi h8 => (he.at (nT i h8) (y_outs_ok hok (List.mem_of_getElem? (i := 11) rfl) (by omega) (by omega))).trans (H.1 x hx i hi h8), fun x hx i hi h4 => (he.at (nM i h4) (y_outs_ok hok (List.mem_of_getElem? (i := 12) rfl) (by omega) (by omega))).trans (H.2 x hx i hi h4)⟩
theorem LV.eff {h : Nat} (hh : h ∈ z_hs) (H : LV h w G) (he : x_eff th0 E G G') (hok : y_outs E z_fz = true) : LV h w G' := ⟨H.1.eff hh he hok, H.2.eff hh he hok⟩
theorem ZP.eff (H : ZP G) (he : x_eff th0 E G G') (hok : y_outs E z_fp = true) : ZP G' := by
  obtain ⟨hp, p2, p3, p4, p8, q0, q1, qn, q14⟩ := H
  have o := fun {t lo hi i : Nat} => y_outs_ok (t := t) (lo := lo) (hi := hi) (i := i) hok
  refine ⟨fun h hh => ?_, (he.at z_ty.1 (o (List.mem_of_getElem? (i := 3) rfl) (by decide) (by decide))).trans p2, (he.at z_ty.1 (o (List.mem_of_getElem? (i := 3) rfl) (by decide) (by decide))).trans p3, (he.at z_ty.1 (o (List.mem_of_getElem? (i := 3) rfl) (by decide) (by decide))).trans p4, (he.at z_ty.1 (o (List.mem_of_getElem? (i := 4) rfl) (by decide) (by decide))).trans p8, (he.at z_ty.2.2 (o (List.mem_of_getElem? (i := 5) rfl) (by decide) (by decide))).trans q0, (he.at z_ty.2.2 (o (List.mem_of_getElem? (i := 5) rfl) (by decide) (by decide))).trans q1, fun h hh => ?_, (he.at z_ty.1 (o (List.mem_of_getElem? (i := 10) rfl) (by decide) (by decide))).trans q14⟩
  rotate_left
  · obtain ⟨a0, -⟩ := z_hsT h hh
    obtain ⟨n7, n8, n9, -⟩ := z_hsN h hh
    obtain ⟨b1, b2, b3, bT, bL, bM⟩ := qn h hh
    exact ⟨(he.at a0 (o (List.mem_of_getElem? (i := 6) rfl) (by decide) (by decide))).trans b1, (he.at a0 (o (List.mem_of_getElem? (i := 6) rfl) (by decide) (by decide))).trans b2, (he.at a0 (o (List.mem_of_getElem? (i := 6) rfl) (by decide) (by decide))).trans b3, fun i hi => (he.at n7 (o (List.mem_of_getElem? (i := 7) rfl) (by omega) (by omega))).trans (bT i hi), fun i hi => (he.at n8 (o (List.mem_of_getElem? (i := 8) rfl) (by omega) (by omega))).trans (bL i hi), fun i hi => (he.at n9 (o (List.mem_of_getElem? (i := 9) rfl) (by omega) (by omega))).trans (bM i hi)⟩
  obtain ⟨a0, a1, -⟩ := z_hsT h hh
  obtain ⟨b0, b1, b2, b3, b4, b5⟩ := hp h hh
  exact ⟨(he.at a0 (o (List.mem_of_getElem? (i := 0) rfl) (by decide) (by decide))).trans b0, (he.at a1 (o (List.mem_of_getElem? (i := 1) rfl) (by decide) (by decide))).trans b1, (he.at a1 (o (List.mem_of_getElem? (i := 1) rfl) (by decide) (by decide))).trans b2, (he.at a1 (o (List.mem_of_getElem? (i := 2) rfl) (by decide) (by decide))).trans b3, (he.at a1 (o (List.mem_of_getElem? (i := 2) rfl) (by decide) (by decide))).trans b4, (he.at a1 (o (List.mem_of_getElem? (i := 2) rfl) (by decide) (by decide))).trans b5⟩
theorem y_outs_sub {F F' : List (Nat × Nat × Nat)} (hc : F'.all (fun f => F.any (fun g => g.1 == f.1 && decide (g.2.1 ≤ f.2.1) && decide (f.2.2 ≤ g.2.2))) = true) (h : y_outs E F = true) : y_outs E F' = true := by
  unfold y_outs at h ⊢
  rw [List.all_eq_true] at h ⊢
  intro q hq
  rw [List.all_eq_true]
  intro f hf
  obtain ⟨g, hg, e⟩ := List.any_eq_true.mp (List.all_eq_true.mp hc f hf)
  have := List.all_eq_true.mp (h q hq) g hg
  simp only [Bool.and_eq_true, Bool.or_eq_true, Bool.not_eq_true', beq_eq_false_iff_ne, beq_iff_eq, decide_eq_true_eq] at this e ⊢
  obtain ⟨⟨e1, e2⟩, e3⟩ := e
  rcases this with (z | z) | z
  · exact Or.inl (Or.inl (fun w => z (w.trans e1.symm)))
  · exact Or.inl (Or.inr (by omega))
  · exact Or.inr (by omega)
theorem y_outs_p (h : y_outs E z_fz = true) : y_outs E z_fp = true := y_outs_sub (by decide) h
theorem ZL.eff (H : ZL w wi pc G) (he : x_eff th0 E G G') (hok : y_outs E z_fz = true) : ZL w wi pc G' := by
  obtain ⟨hp, h6, h5, hk, i0, i1⟩ := H
  refine ⟨hp.eff he (y_outs_p hok), h6.eff (by decide) he hok, (he.at z_ty.1 (y_outs_ok hok (List.mem_of_getElem? (i := 7) rfl) (by decide) (by decide))).trans h5, fun k k8 => ?_, i0.eff (by decide) he hok, i1.eff (by decide) he hok⟩
  obtain ⟨p, pp, e, hl⟩ := hk k k8
  exact ⟨p, pp, (he.at z_ty.2.1 (y_outs_ok hok (List.mem_of_getElem? (i := 9) rfl) (by omega) (by omega))).trans e, fun z => (hl z).eff (z_psH p pp).1 he hok⟩
theorem ZX.eff (H : ZX w wi G) (he : x_eff th0 E G G') (hok : y_outs E z_fz = true) : ZX w wi G' := by
  obtain ⟨pc, H⟩ := H
  exact ⟨pc, H.eff he hok⟩
/-- a copy leaves the other hills' LANDs -/
theorem LV.fr {k : Nat} (H : LV k w G) (F : ∀ c i, k ≤ c → c ≤ k + 25 → x_sl G' c i = x_sl G c i) : LV k w G' := by
  refine ⟨fun c i hc => ?_, fun x hx i hi h8 => (F _ _ (by omega) (by omega)).trans (H.2.1 x hx i hi h8), fun x hx i hi h4 => (F _ _ (by omega) (by omega)).trans (H.2.2 x hx i hi h4)⟩
  have hcb : c < 7 := by
    unfold h_rel at hc
    simp at hc
    omega
  rw [F (k + c) i (by omega) (by omega)]
  exact H.1 c i hc
theorem LV.kc {h h' k : Nat} (hk : k ∈ z_hs) (hh : h ∈ z_hs) (ne : k ≠ h) (H : LV k w G) (C : KC h h' G G') : LV k w G' := H.fr (fun c i h1 h2 => C.2.2 c i (by have := z_hsD k hk h hh ne; omega))
theorem LV.kd {h h' : Nat} (H : LV h' w G) (C : KC h h' G G') : LV h w G' := ⟨fun c i hc => (C.2.1.1 c i hc).trans (H.1 c i hc), fun x hx i hi h8 => (C.2.1.2.1 x ((H.1 0 4 rfl).trans hx) i hi).trans (H.2.1 x hx i hi h8), fun x hx i hi h4 => (C.2.1.2.2 x ((H.1 0 6 rfl).trans hx) i hi).trans (H.2.2 x hx i hi h4)⟩
theorem y_outT5 {t : Nat} (h : E.all (fun q => !(q.1 == t)) = true) (i : Nat) : y_out E t i = true := by
  unfold y_out
  rw [List.all_eq_true] at h ⊢
  intro q hq
  have := h q hq
  simp only [Bool.not_eq_true', beq_eq_false_iff_ne] at this
  simp only [Bool.not_eq_true', Bool.and_eq_false_iff, beq_eq_false_iff_ne]
  exact Or.inl (Or.inl this)
def z_E47 : List (Nat × Nat × Nat) := [(0, 4, 7), (1, 2, 5), (4, 0, 3), (5, 0, 3), (8, 0, 9), (14, 0, 1), (15, 0, 3), (16, 0, 3), (17, 0, 3), (18, 0, 3)]
/-- into a hill k that is neither the hill nor an image, from a hill of LAND w -/
theorem ZL.copy {h h' : Nat} (hh : h ∈ z_hs) (n6 : h ≠ 6) (n0 : h ≠ 287) (n1 : h ≠ 318) (H : ZL w wi pc G) (hw : LV h' w G) (C : KC h h' G G') (he : x_eff th0 z_E47 G G') : ZL w wi pc G' ∧ LV h w G' := by
  obtain ⟨hp, h6, h5, hk, i0, i1⟩ := H
  refine ⟨⟨hp.eff he (by decide), h6.kc (by decide) hh (Ne.symm n6) C, (he.at z_ty.1 (by decide)).trans h5, fun k k8 => ?_, i0.kc (by decide) hh (Ne.symm n0) C, i1.kc (by decide) hh (Ne.symm n1) C⟩, hw.kd C⟩
  obtain ⟨p, pp, e, hl⟩ := hk k k8
  refine ⟨p, pp, (he.at z_ty.2.1 (y_outT5 (by decide) k)).trans e, fun z => ?_⟩
  by_cases e : p = h
  · rw [e]
    exact hw.kd C
  · exact (hl z).kc (z_psH p pp).1 hh e C
/-- into the hill -/
theorem ZL.into {h' : Nat} {w' : Nat → Nat → Option Value} (H : ZL w wi pc G) (hw : LV h' w' G) (C : KC 6 h' G G') (he : x_eff th0 z_E47 G G') (hpc : pc.toInt ≤ 0 ∨ w' = w) : ZL w' wi pc G' := by
  obtain ⟨hp, h6, h5, hk, i0, i1⟩ := H
  refine ⟨hp.eff he (by decide), hw.kd C, (he.at z_ty.1 (by decide)).trans h5, fun k k8 => ?_, i0.kc (by decide) (by decide) (by decide) C, i1.kc (by decide) (by decide) (by decide) C⟩
  obtain ⟨p, pp, e, hl⟩ := hk k k8
  refine ⟨p, pp, (he.at z_ty.2.1 (y_outT5 (by decide) k)).trans e, fun z => ?_⟩
  rcases hpc with y | rfl
  · omega
  · exact (hl z).kc (z_psH p pp).1 (by decide) (by have := (z_psH p pp).2; omega) C
theorem ZL.ch {h h' : Nat} (H : ZP G) (hh : h ∈ z_hs) (hh' : h' ∈ z_hs) (ne : h ≠ h') : CH h h' G := ⟨z_hsT h hh, z_hsT h' hh', H.1 h hh, H.1 h' hh', z_hsD h hh h' hh' ne⟩
theorem ZL.cn {h h' : Nat} (H : ZP G) (hh : h ∈ z_hs) (hh' : h' ∈ z_hs) : HN h ∧ HN h' ∧ HPn h G ∧ HPn h' G := ⟨z_hsN h hh, z_hsN h' hh', H.2.2.2.2.2.2.2.1 h hh, H.2.2.2.2.2.2.2.1 h' hh'⟩
end ZLs
