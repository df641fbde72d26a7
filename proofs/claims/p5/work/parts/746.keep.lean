def m_77 : pM := (⟨"BreathingHill", "keptIfDone", "(I)I"⟩, 816, 2, some (FieldType.int), 0, 1, false, 9, 91, 815, 13)
set_option maxRecDepth 100000 in
theorem m_77_ok : pm_tab[77]? = some m_77 := rfl
theorem e_77 : ∀ q ∈ d_77, decode m_77.code q.1 = .ok (q.2.1, q.2.2) := y_dec d_77_ok m_77_ok
def m_78 : pM := (⟨"BreathingHill", "keepPast", "(LBreathingHill$Hill;)V"⟩, 820, 4, none, 0, 1, false, 9, 91, 819, 14)
set_option maxRecDepth 100000 in
theorem m_78_ok : pm_tab[78]? = some m_78 := rfl
theorem e_78 : ∀ q ∈ d_78, decode m_78.code q.1 = .ok (q.2.1, q.2.2) := y_dec d_78_ok m_78_ok
def m_97 : pM := (⟨"BreathingHill", "keptIfGone", "(I)I"⟩, 918, 2, some (FieldType.int), 0, 1, false, 9, 91, 917, 20)
set_option maxRecDepth 100000 in
theorem m_97_ok : pm_tab[97]? = some m_97 := rfl
theorem e_97 : ∀ q ∈ d_97, decode m_97.code q.1 = .ok (q.2.1, q.2.2) := y_dec d_97_ok m_97_ok
theorem t_0_117 : pm_ctab.find? (fun r => r.1 == 0 && r.2.1 == 117) = some (0, 117, 1, 47, 692) := by decide +kernel
theorem t_0_286 : pm_ctab.find? (fun r => r.1 == 0 && r.2.1 == 286) = some (0, 286, 1, 78, 817) := by decide +kernel
theorem z_tp : ∀ h ∈ z_hs, th0[h]? = some 0 := fun h hh => (z_hsT h hh).1
theorem z_hsB : ∀ h ∈ z_hs, 5 < h ∧ h < 319 ∧ (h + 25 < 58 ∨ 58 < h) := by decide
theorem y_landT' {t : Nat} (ht : h_lt t) (i : Nat) : y_out [(9, 5, 5)] t i = true := by
  unfold h_lt at ht
  rcases ht with rfl | rfl | rfl | rfl | rfl | rfl | rfl <;> exact y_outT5 (by decide) i
theorem LVo.eff5 {h : Nat} {G G' : List pE} {w : Nat → Nat → Option Value} (hh : h ∈ z_hs) (H : LVo h w G) (he : x_eff th0 [(9, 5, 5)] G G') : LVo h w G' := by
  intro c i hc
  have hcb : c < 7 := by
    unfold h_rel at hc
    simp at hc
    omega
  obtain ⟨t, tc, ht⟩ := (z_hsT h hh).ty c hcb
  rw [he.at tc (y_landT' ht i)]
  exact H c i hc
theorem LV.eff5 {h : Nat} {G G' : List pE} {w : Nat → Nat → Option Value} (hh : h ∈ z_hs) (H : LV h w G) (he : x_eff th0 [(9, 5, 5)] G G') : LV h w G' := by
  obtain ⟨-, -, -, nT, -, nM⟩ := z_hsN h hh
  exact ⟨H.1.eff5 hh he, fun x hx i hi h8 => (he.at (nT i h8) (by decide)).trans (H.2.1 x hx i hi h8), fun x hx i hi h4 => (he.at (nM i h4) (by decide)).trans (H.2.2 x hx i hi h4)⟩
section KE
variable {xs : Nat → Int32} {L J d : Nat} {K : Option Value → List pE → Prop} {lv : pL} {G G0 G1 : List pE} {w : Nat → Nat → Option Value} {wi : Nat → Nat → Nat → Option Value} {pc : Int32}
theorem y_aastH {t v : Nat} {M : pM} {pc a : Nat} {r : List Value} {j : Int32} (hI : xI x_tb th0 G) (ha : th0[a]? = some 29) (hd : decode M.code pc = .ok (Instr.aastore, 1)) (hj : 0 ≤ j.toInt ∧ j.toInt < 8) (hv : th0[v]? = some 0) (hk : ∀ G1, x_upd G G1 a j.toInt.toNat (.ref v) → xI x_tb th0 G1 → x_Gd xs L J d M K (pc + 1) lv r G1) : x_Gd xs L J d M K pc lv (.ref v :: .int j :: .ref a :: r) G := by
  obtain ⟨e, he, hs⟩ := (hI.2.2 a 29 ha).1
  obtain ⟨h9, g, rfl⟩ := x_arr_ref hs rfl (by decide)
  obtain ⟨i1, i2⟩ := y_idx (n := (x_tb 29).2.2.1) hj.1 hj.2
  have hu := x_upd_ref (x := some v) (i := j.toInt.toNat) he (by show j.toInt.toNat < 8; omega)
  obtain ⟨e2, he2, hsh2⟩ := (hI.2.2 v 0 hv).1
  obtain ⟨fs2, rfl, -⟩ := x_obj hsh2 rfl
  refine y_st hd ⟨rfl, rfl, rfl, ?_⟩ (hk _ hu (hI.upd hu ha (fun f hf => by
    rw [show (x_tb 29).2.2.2 = [(8, ((10 : Nat), (0 : Int), (0 : Int)))] from rfl, y_one (show j.toInt.toNat < 8 by omega)] at hf
    cases hf
    exact ⟨v, rfl, hv⟩)))
  dsimp only [pm_step]
  rw [he]
  dsimp only
  rw [if_neg (by rw [i2]; intro z; rcases z with z | z | z; cases z; exact absurd z (by decide); exact absurd z (by decide)), if_neg (by rw [(hI.cell hv).2.1]; decide), he2]
  dsimp only
  rw [if_pos (by decide), i1]
/-- copyFrom: both facts -/
theorem k_copy2 {h h' : Nat} (hd : 45 ≤ d) (hp : ZP G) (hI : xI x_tb th0 G) (hh : h ∈ z_hs) (hh' : h' ∈ z_hs) (ne : h ≠ h') : x_Gd xs L J (d + 1) m_47 (fun r G' => r = none ∧ KC h h' G G' ∧ x_eff th0 z_E47 G G') 0 (lv_args 0 [.ref h, .ref h']) [] G := by
  refine ((k_copy (d := d) (by omega) (ZL.ch hp hh hh' ne) (ZL.cn hp hh hh') hI).and ((h_44 th0 xs L J).gd (G := G) (d := d + 1) m_47_ok (by omega) (v := y_v [(h : Int), (h' : Int)]) (as := [.ref h, .ref h']) (y_v_Bd (List.forall_mem_cons.mpr ⟨(y_cellB hI (z_tp h hh)), (List.forall_mem_cons.mpr ⟨(y_cellB hI (z_tp h' hh')), (fun _ h => absurd h List.not_mem_nil)⟩)⟩)) (fun _ h => absurd h List.not_mem_nil) ⟨⟨h, rfl, (by simp only [xl_ev, xt_ev, y_v, List.getD_cons_succ, List.getD_cons_zero]; omega), z_tp h hh⟩, ⟨h', rfl, (by simp only [xl_ev, xt_ev, y_v, List.getD_cons_succ, List.getD_cons_zero]; omega), z_tp h' hh'⟩, trivial⟩ (fun q hq => absurd hq List.not_mem_nil) hI (fun z => by cases z))).mono (fun r G' h' => ?_)
  obtain ⟨⟨e, C⟩, v', -, -, -, ef, -⟩ := h'
  exact ⟨e, C, ef⟩
set_option maxHeartbeats 2000000 in
set_option maxRecDepth 100000 in
theorem k_keep58 {src : Nat} (hd : 45 ≤ d) (H : ZL w wi pc G) (hI : xI x_tb th0 G) (hpc : 0 ≤ pc.toInt ∧ pc.toInt < 8) (hs : src = 6 ∨ src = 32) (hw : LV src w G) (g0 : pm_get lv 0 = some (.ref 0)) (g1 : pm_get lv 1 = some (.ref src)) : x_Gd xs L J (d + 2) m_78 (fun r G' => r = none ∧ xI x_tb th0 G' ∧ ZX w wi G' ∧ ∀ w', LV 32 w' G → LV 32 w' G') 58 lv [] G := by
  obtain ⟨p, pp, ep, -⟩ := H.2.2.2.1 pc.toInt.toNat (by omega)
  have hp := H.1
  have rp := z_psH p pp
  have hsh : src ∈ z_hs := by rcases hs with rfl | rfl <;> decide
  refine y_aln (e_78 (58, .aload_n 0, 1) (List.mem_of_getElem? (i := 34) rfl)) g0 ?_
  refine y_getf hI z_ty.1 (e_78 (59, .getfield 33, 3) (List.mem_of_getElem? (i := 35) rfl)) u_0_33 ⟨rfl, rfl⟩ hp.2.2.2.1 ?_
  refine y_aln (e_78 (62, .aload_n 0, 1) (List.mem_of_getElem? (i := 36) rfl)) g0 ?_
  refine y_getf hI z_ty.1 (e_78 (63, .getfield 37, 3) (List.mem_of_getElem? (i := 37) rfl)) u_0_37 ⟨rfl, rfl⟩ H.2.2.1 ?_
  refine y_aald hI z_ty.2.1 (e_78 (66, .aaload, 1) (List.mem_of_getElem? (i := 38) rfl)) ⟨rfl, by decide⟩ ⟨hpc.1, by show pc.toInt < 8; omega⟩ ep ?_
  refine y_aln (e_78 (67, .aload_n 1, 1) (List.mem_of_getElem? (i := 39) rfl)) g1 ?_
  refine y_c2 (K' := _) (e_78 (68, .invokevirtual 117, 3) (List.mem_of_getElem? (i := 40) rfl)) ⟨rfl, rfl, rfl⟩ t_0_117 ⟨by decide, by decide, by decide, by decide⟩ m_47_ok rfl (by decide) (y_recv hI (z_tp p rp.1) ⟨rfl, rfl⟩) (Nat.le_of_ble_eq_true rfl) (Nat.le_of_ble_eq_true rfl) (k_copy2 hd hp hI rp.1 hsh (by rcases hs with rfl | rfl <;> omega)) (fun r1 G1 h1 => ?_)
  obtain ⟨rfl, C, ef⟩ := h1
  simp only [Option.toList_some, Option.toList_none, List.cons_append, List.nil_append]
  obtain ⟨H1, hl⟩ := H.copy rp.1 (by omega) (by omega) (by omega) hw C ef
  have e1 := y_add1 (t := pc) (by omega)
  refine y_aln (e_78 (71, .aload_n 0, 1) (List.mem_of_getElem? (i := 41) rfl)) g0 ?_
  refine y_st (e_78 (72, .dup, 1) (List.mem_of_getElem? (i := 42) rfl)) ⟨rfl, rfl, rfl, rfl⟩ ?_
  refine y_getf C.1 z_ty.1 (e_78 (73, .getfield 37, 3) (List.mem_of_getElem? (i := 43) rfl)) u_0_37 ⟨rfl, rfl⟩ H1.2.2.1 ?_
  refine y_st (e_78 (76, .iconst 1, 1) (List.mem_of_getElem? (i := 44) rfl)) ⟨rfl, rfl, rfl, rfl⟩ ?_
  refine y_st (e_78 (77, .iadd, 1) (List.mem_of_getElem? (i := 45) rfl)) ⟨rfl, rfl, rfl, rfl⟩ ?_
  refine y_putf (f := (0, 0, 8)) C.1 z_ty.1 (e_78 (78, .putfield 37, 3) (List.mem_of_getElem? (i := 46) rfl)) u_0_37 ⟨rfl, rfl, by decide, rfl, rfl⟩ ⟨_, rfl, by dsimp only; omega, by dsimp only; omega⟩ (fun G2 u2 => ?_)
  refine y_ret (e_78 (81, .return_, 1) (List.mem_of_getElem? (i := 47) rfl)) ⟨rfl, rfl⟩ ⟨rfl, C.1.upd u2 z_ty.1 (y_okI (lo := 0) (hi := 8) rfl (by omega) (by omega)), ⟨pc + Int32.ofInt 1, ?_⟩, fun w' h32 => (h32.kc (by decide) rp.1 (by omega) C).eff5 (by decide) (x_eff.upd u2 z_ty.1 (q := (9, 5, 5)) (List.mem_singleton.mpr rfl) rfl (Nat.le_refl _) (Nat.le_refl _))⟩
  have ef2 : x_eff th0 [(9, 5, 5)] G1 G2 := x_eff.upd u2 z_ty.1 (q := (9, 5, 5)) (List.mem_singleton.mpr rfl) rfl (Nat.le_refl _) (Nat.le_refl _)
  obtain ⟨hp1, h6, h5, hk, i0, i1⟩ := H1
  refine ⟨hp1.eff ef2 (by decide), h6.eff5 (by decide) ef2, by rw [u2.2.1, if_pos ⟨rfl, rfl⟩], fun j j8 => ?_, i0.eff5 (by decide) ef2, i1.eff5 (by decide) ef2⟩
  obtain ⟨q, qq, eq, hq⟩ := hk j j8
  refine ⟨q, qq, (ef2.at z_ty.2.1 (y_outT5 (by decide) j)).trans eq, fun z => ?_⟩
  by_cases hj : (j : Int) < pc.toInt
  · exact (hq hj).eff5 (z_psH q qq).1 ef2
  · obtain rfl : j = pc.toInt.toNat := by omega
    rw [ef.at z_ty.2.1 (y_outT5 (by decide) _), ep] at eq
    cases eq
    exact hl.eff5 rp.1 ef2
/-- while the row of the past is turned -/
def KR (w : Nat → Nat → Option Value) (G0 G : List pE) : Prop := (xI x_tb th0 G ∧ (∀ c i, c ≠ 58 → x_sl G c i = x_sl G0 c i) ∧ ∀ k, k < 8 → ∃ p ∈ z_ps, x_sl G 58 k = some (.ref p) ∧ LV p w G0)
set_option maxHeartbeats 2000000 in
set_option maxRecDepth 100000 in
theorem k_turn (hp : ZP G0) {p0 src : Nat} (hp0 : p0 ∈ z_ps ∧ LV p0 w G0) (hK : ∀ (G1 : List pE) (lv1 : pL), KR w G0 G1 → pm_get lv1 0 = some (.ref 0) → pm_get lv1 1 = some (.ref src) → pm_get lv1 2 = some (.ref p0) → x_Gd xs L J d m_78 K 44 lv1 [] G1) : ∀ (m : Nat) (G : List pE) (lv : pL) (j : Int32), KR w G0 G → 1 ≤ j.toInt → j.toInt ≤ 8 → (8 - j.toInt).toNat = m → pm_get lv 0 = some (.ref 0) → pm_get lv 1 = some (.ref src) → pm_get lv 2 = some (.ref p0) → pm_get lv 3 = some (.int j) → x_Gd xs L J d m_78 K 18 lv [] G := by
  have e8 : ((Int8.ofInt 8).toInt32).toInt = 8 := by decide
  intro m
  induction m with
  | zero =>
    intro G lv j R j1 j8 hm g0 g1 g2 g3
    refine y_iln (e_78 (18, .iload_n 3, 1) (List.mem_of_getElem? (i := 11) rfl)) g3 ?_
    refine y_st (e_78 (19, .bipush 8, 2) (List.mem_of_getElem? (i := 12) rfl)) ⟨rfl, rfl, rfl, rfl⟩ ?_
    refine y_icm (e_78 (21, .if_icmp .ge 23, 3) (List.mem_of_getElem? (i := 13) rfl)) rfl (fun _ => hK G lv R g0 g1 g2) (fun hc => ?_)
    have := y_hI.2.2.2.2.2.1 hc
    omega
  | succ m ih =>
    intro G lv j R j1 j8 hm g0 g1 g2 g3
    refine y_iln (e_78 (18, .iload_n 3, 1) (List.mem_of_getElem? (i := 11) rfl)) g3 ?_
    refine y_st (e_78 (19, .bipush 8, 2) (List.mem_of_getElem? (i := 12) rfl)) ⟨rfl, rfl, rfl, rfl⟩ ?_
    refine y_icm (e_78 (21, .if_icmp .ge 23, 3) (List.mem_of_getElem? (i := 13) rfl)) rfl (fun hc => ?_) (fun _ => ?_)
    · have := y_hI.2.2.2.2.1 hc
      omega
    have p4 : x_sl G 0 4 = some (.ref 58) := (R.2.1 0 4 (by decide)).trans hp.2.2.2.1
    obtain ⟨p, pp, ep, hl⟩ := R.2.2 j.toInt.toNat (by omega)
    have es : (j - Int32.ofInt 1).toInt = j.toInt - 1 := by
      rw [Int32.toInt_sub, show (Int32.ofInt 1).toInt = 1 from rfl, Jvm.Kit.bmod32 (by omega) (by omega)]
    have ea := y_add1 (t := j) (by omega)
    refine y_aln (e_78 (24, .aload_n 0, 1) (List.mem_of_getElem? (i := 14) rfl)) g0 ?_
    refine y_getf R.1 z_ty.1 (e_78 (25, .getfield 33, 3) (List.mem_of_getElem? (i := 15) rfl)) u_0_33 ⟨rfl, rfl⟩ p4 ?_
    refine y_iln (e_78 (28, .iload_n 3, 1) (List.mem_of_getElem? (i := 16) rfl)) g3 ?_
    refine y_st (e_78 (29, .iconst 1, 1) (List.mem_of_getElem? (i := 17) rfl)) ⟨rfl, rfl, rfl, rfl⟩ ?_
    refine y_st (e_78 (30, .isub, 1) (List.mem_of_getElem? (i := 18) rfl)) ⟨rfl, rfl, rfl, rfl⟩ ?_
    refine y_aln (e_78 (31, .aload_n 0, 1) (List.mem_of_getElem? (i := 19) rfl)) g0 ?_
    refine y_getf R.1 z_ty.1 (e_78 (32, .getfield 33, 3) (List.mem_of_getElem? (i := 20) rfl)) u_0_33 ⟨rfl, rfl⟩ p4 ?_
    refine y_iln (e_78 (35, .iload_n 3, 1) (List.mem_of_getElem? (i := 21) rfl)) g3 ?_
    refine y_aald R.1 z_ty.2.1 (e_78 (36, .aaload, 1) (List.mem_of_getElem? (i := 22) rfl)) ⟨rfl, by decide⟩ ⟨by omega, by show j.toInt < 8; omega⟩ ep ?_
    refine y_aastH (t := 0) R.1 z_ty.2.1 (e_78 (37, .aastore, 1) (List.mem_of_getElem? (i := 23) rfl)) ⟨by omega, by omega⟩ (z_tp p (z_psH p pp).1) (fun G1 u1 hI1 => ?_)
    refine y_iinc (e_78 (38, .iinc 3 1, 3) (List.mem_of_getElem? (i := 24) rfl)) g3 (by decide) ?_
    refine y_st (e_78 (41, .goto (-23), 3) (List.mem_of_getElem? (i := 25) rfl)) ⟨rfl, rfl, rfl, rfl⟩ ?_
    refine ih G1 _ _ ⟨hI1, fun c i hc => by rw [u1.2.1, if_neg (fun z => hc z.1)]; exact R.2.1 c i hc, fun q q8 => ?_⟩ (by omega) (by omega) (by omega) (y_gpr g0 (by decide)) (y_gpr g1 (by decide)) (y_gpr g2 (by decide)) x_get_self
    rw [u1.2.1]
    by_cases e : q = (j - Int32.ofInt 1).toInt.toNat
    · rw [if_pos ⟨rfl, e⟩]
      exact ⟨p, pp, rfl, hl⟩
    · rw [if_neg (fun z => e z.2)]
      exact R.2.2 q q8
set_option maxHeartbeats 2000000 in
set_option maxRecDepth 100000 in
theorem k_keep {src : Nat} (hd : 45 ≤ d) (H : ZL w wi pc G) (hI : xI x_tb th0 G) (hs : src = 6 ∨ src = 32) (hw : LV src w G) : x_Gd xs L J (d + 2) m_78 (fun r G' => r = none ∧ xI x_tb th0 G' ∧ ZX w wi G' ∧ ∀ w', LV 32 w' G → LV 32 w' G') 0 (lv_args 0 [.ref 0, .ref src]) [] G := by
  have g0 : pm_get (lv_args 0 [.ref 0, .ref src]) 0 = some (.ref 0) := rfl
  have g1 : pm_get (lv_args 0 [.ref 0, .ref src]) 1 = some (.ref src) := rfl
  generalize lv_args 0 [.ref 0, .ref src] = lv at g0 g1 ⊢
  have e8 : ((Int8.ofInt 8).toInt32).toInt = 8 := by decide
  have rp := y_fie (i := 5) (t := 9) (lo := 0) (hi := 8) hI z_ty.1 rfl H.2.2.1
  refine y_aln (e_78 (0, .aload_n 0, 1) (List.mem_of_getElem? (i := 0) rfl)) g0 ?_
  refine y_getf hI z_ty.1 (e_78 (1, .getfield 37, 3) (List.mem_of_getElem? (i := 1) rfl)) u_0_37 ⟨rfl, rfl⟩ H.2.2.1 ?_
  refine y_st (e_78 (4, .bipush 8, 2) (List.mem_of_getElem? (i := 2) rfl)) ⟨rfl, rfl, rfl, rfl⟩ ?_
  refine y_icm (e_78 (6, .if_icmp .lt 52, 3) (List.mem_of_getElem? (i := 3) rfl)) rfl (fun hc => ?_) (fun hc => ?_)
  · have := y_hI.2.2.2.2.2.2.2.2.1 hc
    exact k_keep58 hd H hI ⟨rp.1, by omega⟩ hs hw g0 g1
  have h8 := y_hI.2.2.2.2.2.2.2.2.2.1 hc
  have hall : ∀ q, q < 8 → ∃ p ∈ z_ps, x_sl G 58 q = some (.ref p) ∧ LV p w G := fun q q8 => by
    obtain ⟨p, pp, e, hl⟩ := H.2.2.2.1 q q8
    exact ⟨p, pp, e, hl (by omega)⟩
  obtain ⟨p0, pp0, e0, hl0⟩ := hall 0 (by decide)
  refine y_aln (e_78 (9, .aload_n 0, 1) (List.mem_of_getElem? (i := 4) rfl)) g0 ?_
  refine y_getf hI z_ty.1 (e_78 (10, .getfield 33, 3) (List.mem_of_getElem? (i := 5) rfl)) u_0_33 ⟨rfl, rfl⟩ H.1.2.2.2.1 ?_
  refine y_st (e_78 (13, .iconst 0, 1) (List.mem_of_getElem? (i := 6) rfl)) ⟨rfl, rfl, rfl, rfl⟩ ?_
  refine y_aald hI z_ty.2.1 (e_78 (14, .aaload, 1) (List.mem_of_getElem? (i := 7) rfl)) ⟨rfl, by decide⟩ ⟨by decide, by decide⟩ e0 ?_
  refine y_asn (e_78 (15, .astore_n 2, 1) (List.mem_of_getElem? (i := 8) rfl)) (by decide) ?_
  refine y_st (e_78 (16, .iconst 1, 1) (List.mem_of_getElem? (i := 9) rfl)) ⟨rfl, rfl, rfl, rfl⟩ ?_
  refine y_isn (e_78 (17, .istore_n 3, 1) (List.mem_of_getElem? (i := 10) rfl)) (by decide) ?_
  refine k_turn (w := w) (G0 := G) H.1 ⟨pp0, hl0⟩ (fun G1 lv1 R1 a0 a1 a2 => ?_) _ G _ (Int32.ofInt 1) ⟨hI, fun _ _ _ => rfl, hall⟩ (by decide) (by decide) rfl (y_gpr (y_gpr g0 (by decide)) (by decide)) (y_gpr (y_gpr g1 (by decide)) (by decide)) (y_gpr x_get_self (by decide)) x_get_self
  refine y_aln (e_78 (44, .aload_n 0, 1) (List.mem_of_getElem? (i := 26) rfl)) a0 ?_
  refine y_getf R1.1 z_ty.1 (e_78 (45, .getfield 33, 3) (List.mem_of_getElem? (i := 27) rfl)) u_0_33 ⟨rfl, rfl⟩ ((R1.2.1 0 4 (by decide)).trans H.1.2.2.2.1) ?_
  refine y_st (e_78 (48, .bipush 7, 2) (List.mem_of_getElem? (i := 28) rfl)) ⟨rfl, rfl, rfl, rfl⟩ ?_
  refine y_aln (e_78 (50, .aload_n 2, 1) (List.mem_of_getElem? (i := 29) rfl)) a2 ?_
  refine y_aastH (t := 0) R1.1 z_ty.2.1 (e_78 (51, .aastore, 1) (List.mem_of_getElem? (i := 30) rfl)) ⟨by decide, by decide⟩ (z_tp p0 (z_psH p0 pp0).1) (fun G2 u2 hI2 => ?_)
  refine y_aln (e_78 (52, .aload_n 0, 1) (List.mem_of_getElem? (i := 31) rfl)) a0 ?_
  refine y_st (e_78 (53, .bipush 7, 2) (List.mem_of_getElem? (i := 32) rfl)) ⟨rfl, rfl, rfl, rfl⟩ ?_
  refine y_putf (f := (0, 0, 8)) hI2 z_ty.1 (e_78 (55, .putfield 37, 3) (List.mem_of_getElem? (i := 33) rfl)) u_0_37 ⟨rfl, rfl, by decide, rfl, rfl⟩ ⟨_, rfl, by decide, by decide⟩ (fun G3 u3 => ?_)
  have ot : ∀ c i, c ≠ 58 → ¬ (c = 0 ∧ i = 5) → x_sl G3 c i = x_sl G c i := fun c i hc h0 => by
    rw [u3.2.1, if_neg h0, u2.2.1, if_neg (fun z => hc z.1)]
    exact R1.2.1 c i hc
  have lvk : ∀ h, h ∈ z_hs → ∀ w', LV h w' G → LV h w' G3 := fun h hh w' hl => hl.fr (fun c i c1 c2 => by
    have b := z_hsB h hh
    exact ot c i (by omega) (by omega))
  have hI3 : xI x_tb th0 G3 := hI2.upd u3 z_ty.1 (y_okI (lo := 0) (hi := 8) rfl (by decide) (by decide))
  refine (k_keep58 (pc := (Int8.ofInt 7).toInt32) hd ⟨?_, lvk 6 (by decide) w H.2.1, by rw [u3.2.1, if_pos ⟨rfl, rfl⟩], fun q q8 => ?_, lvk 287 (by decide) _ H.2.2.2.2.1, lvk 318 (by decide) _ H.2.2.2.2.2⟩ hI3 (by decide) hs (lvk src (by rcases hs with rfl | rfl <;> decide) w hw) a0 a1).mono (fun r G' h' => ⟨h'.1, h'.2.1, h'.2.2.1, fun w' h32 => h'.2.2.2 w' (lvk 32 (by decide) w' h32)⟩)
  · obtain ⟨hp, p2, p3, p4, p8, q0, q1, qn, q14⟩ := H.1
    refine ⟨fun h hh => ?_, (ot 0 2 (by decide) (by decide)).trans p2, (ot 0 3 (by decide) (by decide)).trans p3, (ot 0 4 (by decide) (by decide)).trans p4, (ot 0 8 (by decide) (by decide)).trans p8, (ot 69 0 (by decide) (by decide)).trans q0, (ot 69 1 (by decide) (by decide)).trans q1, fun h hh => ?_, (ot 0 14 (by decide) (by decide)).trans q14⟩
    rotate_left
    · have b := z_hsB h hh
      obtain ⟨b1, b2, b3, bT, bL, bM⟩ := qn h hh
      exact ⟨(ot h 1 (by omega) (by omega)).trans b1, (ot h 2 (by omega) (by omega)).trans b2, (ot h 3 (by omega) (by omega)).trans b3, fun i hi => (ot _ _ (by omega) (by omega)).trans (bT i hi), fun i hi => (ot _ _ (by omega) (by omega)).trans (bL i hi), fun i hi => (ot _ _ (by omega) (by omega)).trans (bM i hi)⟩
    have b := z_hsB h hh
    obtain ⟨b0, b1, b2, b3, b4, b5⟩ := hp h hh
    exact ⟨(ot h 0 (by omega) (by omega)).trans b0, (ot (h + 1) 0 (by omega) (by omega)).trans b1, (ot (h + 1) 1 (by omega) (by omega)).trans b2, (ot (h + 1) 6 (by omega) (by omega)).trans b3, (ot (h + 1) 7 (by omega) (by omega)).trans b4, (ot (h + 1) 8 (by omega) (by omega)).trans b5⟩
  · rw [u3.2.1, if_neg (by omega), u2.2.1]
    by_cases e : q = ((Int8.ofInt 7).toInt32).toInt.toNat
    · rw [if_pos ⟨rfl, e⟩]
      exact ⟨p0, pp0, rfl, fun _ => lvk p0 (z_psH p0 pp0).1 w hl0⟩
    · rw [if_neg (fun z => e z.2)]
      obtain ⟨p, pp, ep, hl⟩ := R1.2.2 q q8
      exact ⟨p, pp, ep, fun _ => lvk p (z_psH p pp).1 w hl⟩
set_option maxHeartbeats 2000000 in
set_option maxRecDepth 100000 in
theorem k_done {x : Int32} (hd : 45 ≤ d) (H : ZL w wi pc G) (hI : xI x_tb th0 G) (hw : LV 32 w G) : x_Gd xs L J (d + 3) m_77 (fun r G' => (∃ y : Int32, r = some (.int y)) ∧ xI x_tb th0 G' ∧ ZX w wi G') 0 (lv_args 0 [.ref 0, .int x]) [] G := by
  have g0 : pm_get (lv_args 0 [.ref 0, .int x]) 0 = some (.ref 0) := rfl
  have g1 : pm_get (lv_args 0 [.ref 0, .int x]) 1 = some (.int x) := rfl
  generalize lv_args 0 [.ref 0, .int x] = lv at g0 g1 ⊢
  refine y_iln (e_77 (0, .iload_n 1, 1) (List.mem_of_getElem? (i := 0) rfl)) g1 ?_
  refine y_ifc (e_77 (1, .ifCond .ne 11, 3) (List.mem_of_getElem? (i := 1) rfl)) rfl (fun _ => ?_) (fun _ => ?_)
  · refine y_iln (e_77 (12, .iload_n 1, 1) (List.mem_of_getElem? (i := 6) rfl)) g1 ?_
    exact y_ret (e_77 (13, .ireturn, 1) (List.mem_of_getElem? (i := 7) rfl)) ⟨rfl, y_ri⟩ ⟨⟨_, rfl⟩, hI, pc, H⟩
  refine y_aln (e_77 (4, .aload_n 0, 1) (List.mem_of_getElem? (i := 2) rfl)) g0 ?_
  refine y_aln (e_77 (5, .aload_n 0, 1) (List.mem_of_getElem? (i := 3) rfl)) g0 ?_
  refine y_getf hI z_ty.1 (e_77 (6, .getfield 30, 3) (List.mem_of_getElem? (i := 4) rfl)) u_0_30 ⟨rfl, rfl⟩ H.1.2.2.1 ?_
  refine y_c2 (K' := _) (e_77 (9, .invokevirtual 286, 3) (List.mem_of_getElem? (i := 5) rfl)) ⟨rfl, rfl, rfl⟩ t_0_286 ⟨by decide, by decide, by decide, by decide⟩ m_78_ok rfl (by decide) (y_recv hI z_ty.1 ⟨rfl, rfl⟩) (Nat.le_of_ble_eq_true rfl) (Nat.le_of_ble_eq_true rfl) (k_keep hd H hI (Or.inr rfl) hw) (fun r1 G1 h1 => ?_)
  obtain ⟨rfl, hI1, H1, -⟩ := h1
  simp only [Option.toList_some, Option.toList_none, List.cons_append, List.nil_append]
  refine y_iln (e_77 (12, .iload_n 1, 1) (List.mem_of_getElem? (i := 6) rfl)) g1 ?_
  exact y_ret (e_77 (13, .ireturn, 1) (List.mem_of_getElem? (i := 7) rfl)) ⟨rfl, y_ri⟩ ⟨⟨_, rfl⟩, hI1, H1⟩
set_option maxHeartbeats 2000000 in
set_option maxRecDepth 100000 in
theorem k_gone {x : Int32} (hd : 45 ≤ d) (H : ZL w wi pc G) (hI : xI x_tb th0 G) (hw : LV 32 w G) : x_Gd xs L J (d + 3) m_97 (fun r G' => (∃ y : Int32, r = some (.int y)) ∧ xI x_tb th0 G' ∧ ZX w wi G') 0 (lv_args 0 [.ref 0, .int x]) [] G := by
  have g0 : pm_get (lv_args 0 [.ref 0, .int x]) 0 = some (.ref 0) := rfl
  have g1 : pm_get (lv_args 0 [.ref 0, .int x]) 1 = some (.int x) := rfl
  generalize lv_args 0 [.ref 0, .int x] = lv at g0 g1 ⊢
  refine y_iln (e_97 (0, .iload_n 1, 1) (List.mem_of_getElem? (i := 0) rfl)) g1 ?_
  refine y_ifc (e_97 (1, .ifCond .le 11, 3) (List.mem_of_getElem? (i := 1) rfl)) rfl (fun _ => ?_) (fun _ => ?_)
  · refine y_iln (e_97 (12, .iload_n 1, 1) (List.mem_of_getElem? (i := 6) rfl)) g1 ?_
    exact y_ret (e_97 (13, .ireturn, 1) (List.mem_of_getElem? (i := 7) rfl)) ⟨rfl, y_ri⟩ ⟨⟨_, rfl⟩, hI, pc, H⟩
  refine y_aln (e_97 (4, .aload_n 0, 1) (List.mem_of_getElem? (i := 2) rfl)) g0 ?_
  refine y_aln (e_97 (5, .aload_n 0, 1) (List.mem_of_getElem? (i := 3) rfl)) g0 ?_
  refine y_getf hI z_ty.1 (e_97 (6, .getfield 30, 3) (List.mem_of_getElem? (i := 4) rfl)) u_0_30 ⟨rfl, rfl⟩ H.1.2.2.1 ?_
  refine y_c2 (K' := _) (e_97 (9, .invokevirtual 286, 3) (List.mem_of_getElem? (i := 5) rfl)) ⟨rfl, rfl, rfl⟩ t_0_286 ⟨by decide, by decide, by decide, by decide⟩ m_78_ok rfl (by decide) (y_recv hI z_ty.1 ⟨rfl, rfl⟩) (Nat.le_of_ble_eq_true rfl) (Nat.le_of_ble_eq_true rfl) (k_keep hd H hI (Or.inr rfl) hw) (fun r1 G1 h1 => ?_)
  obtain ⟨rfl, hI1, H1, -⟩ := h1
  simp only [Option.toList_some, Option.toList_none, List.cons_append, List.nil_append]
  refine y_iln (e_97 (12, .iload_n 1, 1) (List.mem_of_getElem? (i := 6) rfl)) g1 ?_
  exact y_ret (e_97 (13, .ireturn, 1) (List.mem_of_getElem? (i := 7) rfl)) ⟨rfl, y_ri⟩ ⟨⟨_, rfl⟩, hI1, H1⟩
end KE
