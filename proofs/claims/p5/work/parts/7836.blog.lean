theorem t_10_34 : pm_ctab.find? (fun r => r.1 == 10 && r.2.1 == 34) = some (10, 34, 1, 20, 1063) := by decide +kernel
theorem t_0_341 : pm_ctab.find? (fun r => r.1 == 0 && r.2.1 == 341) = some (0, 341, 1, 130, 1059) := by decide +kernel
-- ===== log(), on both sides: the kind of FAULT =====
def sg_q129_ns : List xN := []
def sg_q129_os : List xN := []
def sg_q129_g : xG := ([], [(0, (19, ([(0, 1)], 0))), (1, (0, ([(1, 1)], 0))), (2, (0, ([(2, 1)], 0)))], [], [], 3)
def sg_q129_ps : List xP := [(some (0, ([(3, 1)], 0)), [], [])]
set_option maxRecDepth 100000 in
set_option maxHeartbeats 4000000 in
theorem sg_q129_ok : x_seg x_tb [c_44, c_52, c_90, c_142] m_129 d_129 [(0, 4, 7), (1, 2, 5), (3, 3, 5), (4, 0, 3), (5, 0, 3), (7, 1, 9), (8, 0, 9), (9, 5, 5), (9, 13, 13), (14, 0, 1), (15, 0, 3), (16, 0, 3), (17, 0, 3), (18, 0, 3), (21, 0, 39), (22, 0, 39), (23, 0, 39), (29, 0, 7), (33, 0, 3)] 3 sg_q129_ps sg_q129_ns sg_q129_os 73 false 49 sg_q129_g = true := by decide +kernel
set_option maxRecDepth 100000 in
theorem sg_q129_go {th : List Nat} {xs : Nat → Int32} {L J d : Nat} {K : Option Value → List pE → Prop} (hd : 143 ≤ d) {v : Nat → Int} {lv : pL} {ws : List Value} {G0 G : List pE} (hS : x_S x_tb th v sg_q129_g lv ws G) (hE : x_eff th [(0, 4, 7), (1, 2, 5), (3, 3, 5), (4, 0, 3), (5, 0, 3), (7, 1, 9), (8, 0, 9), (9, 5, 5), (9, 13, 13), (14, 0, 1), (15, 0, 3), (16, 0, 3), (17, 0, 3), (18, 0, 3), (21, 0, 39), (22, 0, 39), (23, 0, 39), (29, 0, 7), (33, 0, 3)] G0 G) (hK : ∀ r G', x_Post x_tb th [(0, 4, 7), (1, 2, 5), (3, 3, 5), (4, 0, 3), (5, 0, 3), (7, 1, 9), (8, 0, 9), (9, 5, 5), (9, 13, 13), (14, 0, 1), (15, 0, 3), (16, 0, 3), (17, 0, 3), (18, 0, 3), (21, 0, 39), (22, 0, 39), (23, 0, 39), (29, 0, 7), (33, 0, 3)] sg_q129_ps 3 v G0 r G' → K r G') (hO : ∀ n ∈ sg_q129_os, ∀ (vn : Nat → Int) (lv : pL) (G1 : List pE), x_ag 3 v vn → x_S x_tb th vn (n.2.2.2.1, n.2.1, [], n.2.2.1, n.2.2.2.2.1) lv [] G1 → x_eff th [(0, 4, 7), (1, 2, 5), (3, 3, 5), (4, 0, 3), (5, 0, 3), (7, 1, 9), (8, 0, 9), (9, 5, 5), (9, 13, 13), (14, 0, 1), (15, 0, 3), (16, 0, 3), (17, 0, 3), (18, 0, 3), (21, 0, 39), (22, 0, 39), (23, 0, 39), (29, 0, 7), (33, 0, 3)] G0 G1 → x_Gd xs L J (d + 1) m_129 K n.1 lv [] G1) : x_Gd xs L J (d + 1) m_129 K 49 lv ws G :=
  x_seg_ok (dm := 143) x_tb_wf ⟨rfl, rfl, rfl⟩ e_129 (List.forall_mem_cons.mpr ⟨(h_44 th xs L J).mono (by omega), List.forall_mem_cons.mpr ⟨(h_52 th xs L J).mono (by omega), List.forall_mem_cons.mpr ⟨(h_90 th xs L J).mono (by omega), List.forall_mem_cons.mpr ⟨(h_142 th xs L J).mono (by omega), fun _ h => absurd h List.not_mem_nil⟩⟩⟩⟩) hd sg_q129_ok hS hE (fun z => by cases z) hK hO
theorem TM.ef {f : Nat → Int32} {G G' : List pE} {n lim p tok at9 sp num : Int32} {wd : Int64} (h : TM th0 349 350 f G n lim p tok at9 sp num wd G') : x_eff th0 [(10, 4, 4), (10, 11, 14), (10, 17, 17)] G G' := fun k t i hk hq => h.ot k i (by
  by_cases e : k = 349
  · refine Or.inr ?_
    subst e
    rw [th0_351.2] at hk
    cases hk
    have q1 := hq (10, 4, 4) (List.mem_of_getElem? (i := 0) rfl)
    have q2 := hq (10, 11, 14) (List.mem_of_getElem? (i := 1) rfl)
    have q3 := hq (10, 17, 17) (List.mem_of_getElem? (i := 2) rfl)
    dsimp only at q1 q2 q3
    omega
  · exact Or.inl e)
theorem lg_fam {G : List pE} {a n t : Nat} (hI : xI x_tb th0 G) (ta : ∀ i, i < n → th0[a + i]? = some t) (e : x_at (x_tb t).2.2.2 0 = some (1, 0, 0)) : ∃ f : Nat → Int64, ∀ i, i < n → x_sl G (a + i) 0 = some (.long (f i)) := by
  have h : ∀ i, i < n → ∃ x : Int64, x_sl G (a + i) 0 = some (.long x) := fun i hi => y_flong hI (ta i hi) e
  refine ⟨fun i => if h' : i < n then Classical.choose (h i h') else 0, fun i hi => ?_⟩
  dsimp only
  rw [dif_pos hi]
  exact Classical.choose_spec (h i hi)
section LG9
variable {xs : Nat → Int32} {L J d lc k0 : Nat} {f : Nat → Int32} {G : List pE} {sz lim nx pl num ft fp nt nn x1 q : Int32} {tk : Nat} {nm : Int64} {tn mn nf : Nat → Int64} {hf : Nat → Int32} {on n0 p0 tok0 at0 sp0 mu0 : Int32} {wd0 : Int64} {nx1 pl1 num1 : Int32} {tk1 : Nat} {nm1 : Int64} {tok1 sp1 mu1 : Int32} {wd1 : Int64}
set_option maxHeartbeats 2000000 in
set_option maxRecDepth 100000 in
theorem cm_log (h : CL f sz lim nx tk pl num nm ft fp lc nt nn tn mn k0 G) (N1 : NXc f sz (Int16.ofInt 400).toInt32 (Int32.ofInt 0) num nm nx1 tk1 pl1 num1 nm1) (hc : ∀ (xs : Nat → Int32) (L J d lc : Nat) (ft fp : Int32) (G : List pE) (lv : pL), ft = Int32.ofInt 0 → CL f sz (Int16.ofInt 400).toInt32 nx1 tk1 pl1 num1 nm1 ft fp lc nt nn tn mn 0 G → pm_get lv 0 = some (.ref lc) → pm_get lv 1 = some (.ref 1) → pm_get lv 2 = some (.ref 6) → pm_get lv 3 = some (.int (Int32.ofNat 0)) → x_Gd xs L J (d + 4) m_130 (fun r G' => (∃ z : Int32, r = some (.int z)) ∧ x_sl G' 1 8 = some (.int q)) 14 lv [] G) : x_Gd xs L J (d + 4) m_130 (fun r G' => (∃ z : Int32, r = some (.int z)) ∧ x_sl G' 1 8 = some (.int q)) 0 (lv_args 0 [.ref lc, .ref 1, .ref 6]) [] G := by
  have g0 : pm_get (lv_args 0 [.ref lc, .ref 1, .ref 6]) 0 = some (.ref lc) := rfl
  have g1 : pm_get (lv_args 0 [.ref lc, .ref 1, .ref 6]) 1 = some (.ref 1) := rfl
  have g2 : pm_get (lv_args 0 [.ref lc, .ref 1, .ref 6]) 2 = some (.ref 6) := rfl
  generalize lv_args 0 [.ref lc, .ref 1, .ref 6] = lv at g0 g1 g2 ⊢
  refine y_aln (e_130 (0, .aload_n 0, 1) (List.mem_of_getElem? (i := 0) rfl)) g0 ?_
  refine y_st (e_130 (1, .iconst 0, 1) (List.mem_of_getElem? (i := 1) rfl)) ⟨rfl, rfl, rfl, rfl⟩ ?_
  refine y_putf (f := (0, 0, 40)) h.1.I h.2.1 (e_130 (2, .putfield 24, 3) (List.mem_of_getElem? (i := 2) rfl)) u_10_24 ⟨rfl, rfl, by decide, rfl, rfl⟩ ⟨_, rfl, by decide, by decide⟩ (fun G1 u1 => ?_)
  have h1 := h.up3 (k' := 0) (show x_upd G G1 lc 3 (.int (Int32.ofNat 0)) from u1) (by decide)
  refine y_aln (e_130 (5, .aload_n 1, 1) (List.mem_of_getElem? (i := 3) rfl)) g1 ?_
  refine y_st (e_130 (6, .sipush 400, 3) (List.mem_of_getElem? (i := 4) rfl)) ⟨rfl, rfl, rfl, rfl⟩ ?_
  refine y_c2 (K' := _) (e_130 (9, .invokevirtual 34, 3) (List.mem_of_getElem? (i := 5) rfl)) ⟨rfl, rfl, rfl⟩ t_10_34 ⟨by decide, by decide, by decide, by decide⟩ m_20_ok rfl (by decide) (y_recv h1.1.I h1.1.t ⟨rfl, rfl⟩) (Nat.le_of_ble_eq_true rfl) (Nat.le_of_ble_eq_true rfl) (k_begin (d := d + 1) h1.1 N1) (fun r1 Gc hc1 => ?_)
  obtain ⟨rfl, t⟩ := hc1
  simp only [Option.toList_some, Option.toList_none, List.cons_append, List.nil_append]
  have l7 := h1.l71
  have h2 : CL f sz (Int16.ofInt 400).toInt32 nx1 tk1 pl1 num1 nm1 (Int32.ofInt 0) (Int32.ofInt 0) lc nt nn tn mn 0 Gc := by
    obtain ⟨-, a1, a2, ⟨b1, b2, b3, b4, b5, b6⟩, a4, a5, a6, a7⟩ := h1
    have F : ∀ c i, c ≠ 1 → x_sl Gc c i = x_sl G1 c i := fun c i hc => t.ot c i hc
    exact ⟨t.self, a1, (F _ _ (by omega)).trans a2, ⟨(F _ _ (by omega)).trans b1, (F _ _ (by omega)).trans b2, (F _ _ (by omega)).trans b3, fun i hi => (F _ _ (by omega)).trans (b4 i hi), fun i hi => (F _ _ (by omega)).trans (b5 i hi), fun i hi => (F _ _ (by omega)).trans (b6 i hi)⟩, (F _ _ (by omega)).trans a4, (F _ _ (by omega)).trans a5, fun i hi h8 => (F _ _ (by omega)).trans (a6 i hi h8), fun i hi h4 => (F _ _ (by omega)).trans (a7 i hi h4)⟩
  refine y_st (e_130 (12, .iconst 0, 1) (List.mem_of_getElem? (i := 6) rfl)) ⟨rfl, rfl, rfl, rfl⟩ ?_
  refine y_isn (e_130 (13, .istore_n 3, 1) (List.mem_of_getElem? (i := 7) rfl)) (by decide) ?_
  exact hc xs L J d lc _ _ Gc _ rfl h2 (y_gpr g0 (by decide)) (y_gpr g1 (by decide)) (y_gpr g2 (by decide)) x_get_self
set_option maxHeartbeats 2000000 in
set_option maxRecDepth 100000 in
theorem vm_log (hd : 307 ≤ d) (hx : 0 ≤ x1.toInt ∧ x1.toInt ≤ 1) (h : MSo th0 349 350 352 354 355 f n0 lim p0 tok0 at0 sp0 mu0 wd0 hf nf on G) (hs : x_sl G 349 2 = some (.int sz)) (hr : 0 ≤ sz.toInt ∧ sz.toInt ≤ 940) (s6 : x_sl G 349 6 = some (.ref 351)) (e3 : x_sl G 351 3 = some (.int nt)) (e5 : x_sl G 351 5 = some (.int nn)) (hNs : z_Ns th0 349 G) (hQ : x_Q th0 G) (M1 : NXm f sz (Int16.ofInt 400).toInt32 (Int32.ofInt 0) mu0 wd0 nx1 tok1 pl1 sp1 mu1 wd1) (hm : ∀ (xs : Nat → Int32) (L J d : Nat) (x1 : Int32) (G : List pE) (lv : pL), 307 ≤ d → (0 ≤ x1.toInt ∧ x1.toInt ≤ 1) → MS th0 349 350 352 354 355 f sz (Int16.ofInt 400).toInt32 nx1 tok1 pl1 sp1 mu1 wd1 hf nf on G → MGf nt nn 0 G → RG 0 G → pm_get lv 0 = some (.ref 349) → pm_get lv 1 = some (.int x1) → x_Gd xs L J (d + 4) m_243 (fun _ G' => x_sl G' 349 15 = some (.int (q))) 39 lv [] G) : x_Gd xs L J (d + 4) m_243 (fun _ G' => x_sl G' 349 15 = some (.int (q))) 0 (lv_args 0 [.ref 349, .int x1]) [] G := by
  have g0 : pm_get (lv_args 0 [.ref 349, .int x1]) 0 = some (.ref 349) := rfl
  have g1 : pm_get (lv_args 0 [.ref 349, .int x1]) 1 = some (.int x1) := rfl
  generalize lv_args 0 [.ref 349, .int x1] = lv at g0 g1 ⊢
  have ta := th0_351.2
  refine y_aln (e_243 (0, .aload_n 0, 1) (List.mem_of_getElem? (i := 0) rfl)) g0 ?_
  refine y_st (e_243 (1, .iconst 0, 1) (List.mem_of_getElem? (i := 1) rfl)) ⟨rfl, rfl, rfl, rfl⟩ ?_
  refine y_putf (f := (0, -2147483648, 2147483647)) h.T.I ta (e_243 (2, .putfield 1, 3) (List.mem_of_getElem? (i := 2) rfl)) u_17_1 ⟨rfl, rfl, by decide, rfl, rfl⟩ ⟨_, rfl, (x_i32 _).1, (x_i32 _).2⟩ (fun G1 u1 => ?_)
  have w1 := h.u u1 (by decide) (h.T.I.upd u1 ta (y_okA rfl)) (by rw [u1.2.1, if_neg (fun z => absurd z.2 (by decide))]; exact h.T.s3) (by rw [u1.2.1, if_neg (fun z => absurd z.2 (by decide))]; exact h.T.s4) (by rw [u1.2.1, if_neg (fun z => absurd z.2 (by decide))]; exact h.T.s5)
  have hs1 : x_sl G1 349 2 = some (.int sz) := (by rw [u1.2.1, if_neg (fun z => absurd z.2 (by decide))]; exact hs)
  refine y_iln (e_243 (5, .iload_n 1, 1) (List.mem_of_getElem? (i := 3) rfl)) g1 ?_
  refine y_st (e_243 (6, .iconst 0, 1) (List.mem_of_getElem? (i := 4) rfl)) ⟨rfl, rfl, rfl, rfl⟩ ?_
  refine y_st (e_243 (7, .iconst 1, 1) (List.mem_of_getElem? (i := 5) rfl)) ⟨rfl, rfl, rfl, rfl⟩ ?_
  refine y_c3 (K' := _) (e_243 (8, .invokestatic 173, 3) (List.mem_of_getElem? (i := 6) rfl)) ⟨rfl, rfl, rfl⟩ t_17_173 ⟨by decide, by decide, by decide, by decide⟩ m_174_ok rfl (by decide) rfl (Nat.le_of_ble_eq_true rfl) (Nat.le_of_ble_eq_true rfl) (k_isIn x1 _ _) (fun r1 Gc hc1 => ?_)
  obtain ⟨rfl, rfl⟩ := hc1
  simp only [Option.toList_some, Option.toList_none, List.cons_append, List.nil_append]
  rw [if_pos (show (Int32.ofInt 0).toInt ≤ x1.toInt ∧ x1.toInt ≤ (Int32.ofInt 1).toInt from hx)]
  refine y_ifc (e_243 (11, .ifCond .ne 7, 3) (List.mem_of_getElem? (i := 7) rfl)) rfl (fun _ => ?_) (fun hb => absurd hb (by decide))
  refine y_aln (e_243 (18, .aload_n 0, 1) (List.mem_of_getElem? (i := 10) rfl)) g0 ?_
  refine y_st (e_243 (19, .sipush 400, 3) (List.mem_of_getElem? (i := 11) rfl)) ⟨rfl, rfl, rfl, rfl⟩ ?_
  refine y_c2 (K' := _) (e_243 (22, .invokevirtual 217, 3) (List.mem_of_getElem? (i := 12) rfl)) ⟨rfl, rfl, rfl⟩ t_17_217 ⟨by decide, by decide, by decide, by decide⟩ m_162_ok rfl (by decide) (y_recv w1.T.I w1.T.t ⟨rfl, rfl⟩) (Nat.le_of_ble_eq_true rfl) (Nat.le_of_ble_eq_true rfl) ((k_taken w1 hs1 hr).and ((h_179 th0 xs L J).gd (d := d + 3) m_162_ok (by omega) (v := y_v [((349 : Nat) : Int), ((Int16.ofInt 400).toInt32).toInt, sz.toInt]) (as := [.ref 349, .int (Int16.ofInt 400).toInt32]) (y_v_Bd (List.forall_mem_cons.mpr ⟨(y_cellB w1.T.I ta), (List.forall_mem_cons.mpr ⟨(x_i32 _), (List.forall_mem_cons.mpr ⟨(x_i32 sz), (fun _ h => absurd h List.not_mem_nil)⟩)⟩)⟩)) (List.forall_mem_cons.mpr ⟨(by simp only [xl_ev, xt_ev, y_v, List.getD_cons_succ, List.getD_cons_zero]; omega), (List.forall_mem_cons.mpr ⟨(by simp only [xl_ev, xt_ev, y_v, List.getD_cons_succ, List.getD_cons_zero]; omega), (fun _ h => absurd h List.not_mem_nil)⟩)⟩) ⟨⟨349, rfl, (by simp only [xl_ev, xt_ev, y_v, List.getD_cons_succ, List.getD_cons_zero]; omega), ta⟩, ⟨_, rfl, (by simp only [xl_ev, xt_ev, y_v, List.getD_cons_succ, List.getD_cons_zero]; omega)⟩, trivial⟩ (List.forall_mem_cons.mpr ⟨⟨349, (by simp only [xl_ev, xt_ev, y_v, List.getD_cons_succ, List.getD_cons_zero]; omega), ta, _, hs1, sz, rfl, (by simp only [xl_ev, xt_ev, y_v, List.getD_cons_succ, List.getD_cons_zero]; omega)⟩, (fun _ h => absurd h List.not_mem_nil)⟩) w1.T.I (fun z => by cases z))) (fun r1 G2 hc1 => ?_)
  obtain ⟨⟨rfl, w2, sf2⟩, v2, -, -, hI2, ef2, -⟩ := hc1
  simp only [Option.toList_some, Option.toList_none, List.cons_append, List.nil_append]
  refine y_aln (e_243 (25, .aload_n 0, 1) (List.mem_of_getElem? (i := 13) rfl)) g0 ?_
  refine y_st (e_243 (26, .iconst 0, 1) (List.mem_of_getElem? (i := 14) rfl)) ⟨rfl, rfl, rfl, rfl⟩ ?_
  refine y_putf (f := (0, -2147483648, 2147483647)) hI2 ta (e_243 (27, .putfield 158, 3) (List.mem_of_getElem? (i := 15) rfl)) u_17_158 ⟨rfl, rfl, by decide, rfl, rfl⟩ ⟨_, rfl, (x_i32 _).1, (x_i32 _).2⟩ (fun G3 u3 => ?_)
  have hI3 := hI2.upd u3 ta (y_okA rfl)
  have w3 := w2.f15 u3 hI3
  refine y_aln (e_243 (30, .aload_n 0, 1) (List.mem_of_getElem? (i := 16) rfl)) g0 ?_
  refine y_st (e_243 (31, .iconst 0, 1) (List.mem_of_getElem? (i := 17) rfl)) ⟨rfl, rfl, rfl, rfl⟩ ?_
  refine y_putf (f := (0, 0, 40)) hI3 ta (e_243 (32, .putfield 356, 3) (List.mem_of_getElem? (i := 18) rfl)) u_17_356 ⟨rfl, rfl, by decide, rfl, rfl⟩ ⟨_, rfl, by decide, by decide⟩ (fun G4 u4 => ?_)
  have hI4 := hI3.upd u4 ta (y_okI (lo := 0) (hi := 40) rfl (by decide) (by decide))
  have w4 := w3.o32 u4 hI4
  refine y_aln (e_243 (35, .aload_n 0, 1) (List.mem_of_getElem? (i := 19) rfl)) g0 ?_
  refine y_c1 (K' := _) (e_243 (36, .invokevirtual 170, 3) (List.mem_of_getElem? (i := 20) rfl)) ⟨rfl, rfl, rfl⟩ t_17_170 ⟨by decide, by decide, by decide, by decide⟩ m_163_ok rfl (by decide) (y_recv hI4 ta ⟨rfl, rfl⟩) (Nat.le_of_ble_eq_true rfl) (Nat.le_of_ble_eq_true rfl) (M1 _ _ _ _ _ _ _ _ _ _ _ _ w4.T) (fun r1 Gc hc1 => ?_)
  obtain ⟨rfl, hc5⟩ := hc1
  simp only [Option.toList_some, Option.toList_none, List.cons_append, List.nil_append]
  have w5 := w4.nxt hc5
  have ef : x_eff th0 E_lg0 G Gc := ((((x_eff.upd (E := E_lg0) u1 ta (q := (10, 0, 0)) (List.mem_of_getElem? (i := 0) rfl) rfl (by decide) (by decide)).tr (ef2.sub (by decide))).tr (x_eff.upd (E := E_lg0) u3 ta (q := (10, 15, 15)) (List.mem_of_getElem? (i := 2) rfl) rfl (by decide) (by decide))).tr (x_eff.upd (E := E_lg0) u4 ta (q := (10, 32, 32)) (List.mem_of_getElem? (i := 3) rfl) rfl (by decide) (by decide))).tr (hc5.ef.sub (by decide))
  have l32 : x_sl Gc 349 32 = some (.int (Int32.ofNat 0)) := (hc5.ot 349 32 (Or.inr (by decide))).trans (by rw [u4.2.1, if_pos ⟨rfl, rfl⟩]; rfl)
  obtain ⟨rb, rd, tv, hV⟩ := z_RVview w5.T.I ta
  obtain rfl : tv = Int32.ofNat 0 := by
    have e := hV.2.2.2.2.2
    rw [l32] at e
    exact (Value.int.inj (Option.some.inj e)).symm
  exact hm xs L J d x1 Gc lv hd hx w5 ⟨l32, by rw [ef.at ta (by decide)]; exact s6, by rw [ef.at th0_351.1 (by decide)]; exact e3, by rw [ef.at th0_351.1 (by decide)]; exact e5⟩ ⟨⟨rb, rd, hV, fun i hi => absurd hi (by show ¬ (i : Int) < 0; omega)⟩, hNs.eff ta h.T.I ef rfl (by decide), x_Q_eff (by decide) ef hQ⟩ g0 g1
set_option maxHeartbeats 2000000 in
set_option maxRecDepth 100000 in
theorem bm_log (hd : 312 ≤ d) (hI : xI x_tb th0 G) (hx : 0 ≤ x1.toInt ∧ x1.toInt ≤ 1) (tl : th0[lc]? = some 3) (p11 : x_sl G 0 11 = some (.ref lc)) (p0 : x_sl G 0 0 = some (.ref 1)) (p2 : x_sl G 0 2 = some (.ref 6)) (hcl : x_Gd xs L J (d + 4) m_130 (fun r G' => (∃ z : Int32, r = some (.int z)) ∧ x_sl G' 1 8 = some (.int q)) 0 (lv_args 0 [.ref lc, .ref 1, .ref 6]) [] G) : x_Gd xs L J (d + 5) m_129 (fun r G' => x_sl G' 0 17 = some (.int q)) 0 (lv_args 0 [.ref 0, .int x1]) [] G := by
  have g0 : pm_get (lv_args 0 [.ref 0, .int x1]) 0 = some (.ref 0) := rfl
  have g1 : pm_get (lv_args 0 [.ref 0, .int x1]) 1 = some (.int x1) := rfl
  generalize lv_args 0 [.ref 0, .int x1] = lv at g0 g1 ⊢
  refine y_iln (e_129 (0, .iload_n 1, 1) (List.mem_of_getElem? (i := 0) rfl)) g1 ?_
  refine y_ifc (e_129 (1, .ifCond .lt 8, 3) (List.mem_of_getElem? (i := 1) rfl)) rfl (fun hb => ?_) (fun _ => ?_)
  · have z0 := y_hI.2.2.2.2.2.2.2.2.1 hb
    rw [show (0 : Int32).toInt = 0 from rfl] at z0
    omega
  refine y_iln (e_129 (4, .iload_n 1, 1) (List.mem_of_getElem? (i := 2) rfl)) g1 ?_
  refine y_st (e_129 (5, .iconst 1, 1) (List.mem_of_getElem? (i := 3) rfl)) ⟨rfl, rfl, rfl, rfl⟩ ?_
  refine y_icm (e_129 (6, .if_icmp .le 7, 3) (List.mem_of_getElem? (i := 4) rfl)) rfl (fun _ => ?_) (fun hb => ?_)
  rotate_left
  · have z0 := y_hI.2.2.2.2.2.2.2.1 hb
    rw [show (Int32.ofInt 1).toInt = 1 from rfl] at z0
    omega
  refine y_aln (e_129 (13, .aload_n 0, 1) (List.mem_of_getElem? (i := 7) rfl)) g0 ?_
  refine y_getf hI z_ty.1 (e_129 (14, .getfield 65, 3) (List.mem_of_getElem? (i := 8) rfl)) u_0_65 ⟨rfl, rfl⟩ p11 ?_
  refine y_aln (e_129 (17, .aload_n 0, 1) (List.mem_of_getElem? (i := 9) rfl)) g0 ?_
  refine y_getf hI z_ty.1 (e_129 (18, .getfield 10, 3) (List.mem_of_getElem? (i := 10) rfl)) u_0_10 ⟨rfl, rfl⟩ p0 ?_
  refine y_aln (e_129 (21, .aload_n 0, 1) (List.mem_of_getElem? (i := 11) rfl)) g0 ?_
  refine y_getf hI z_ty.1 (e_129 (22, .getfield 26, 3) (List.mem_of_getElem? (i := 12) rfl)) u_0_26 ⟨rfl, rfl⟩ p2 ?_
  refine y_c3 (K' := _) (e_129 (25, .invokevirtual 341, 3) (List.mem_of_getElem? (i := 13) rfl)) ⟨rfl, rfl, rfl⟩ t_0_341 ⟨by decide, by decide, by decide, by decide⟩ m_130_ok rfl (by decide) (y_recv hI tl ⟨rfl, rfl⟩) (Nat.le_of_ble_eq_true rfl) (Nat.le_of_ble_eq_true rfl) (hcl.and ((h_88 th0 xs L J).gd (G := G) (d := d + 4) m_130_ok (by omega) (v := y_v [(lc : Int), ((1 : Nat) : Int), ((6 : Nat) : Int)]) (as := [.ref lc, .ref 1, .ref 6]) (y_v_Bd (List.forall_mem_cons.mpr ⟨(y_cellB hI tl), (List.forall_mem_cons.mpr ⟨(y_cellB hI th0_p.1), (List.forall_mem_cons.mpr ⟨(y_cellB hI (z_tp 6 (by decide))), (fun _ h => absurd h List.not_mem_nil)⟩)⟩)⟩)) (fun _ h => absurd h List.not_mem_nil) ⟨⟨lc, rfl, (by simp only [xl_ev, xt_ev, y_v, List.getD_cons_succ, List.getD_cons_zero]; omega), tl⟩, ⟨1, rfl, (by simp only [xl_ev, xt_ev, y_v, List.getD_cons_succ, List.getD_cons_zero]; omega), th0_p.1⟩, ⟨6, rfl, (by simp only [xl_ev, xt_ev, y_v, List.getD_cons_succ, List.getD_cons_zero]; omega), z_tp 6 (by decide)⟩, trivial⟩ (fun q hq => absurd hq List.not_mem_nil) hI (fun z => by cases z))) (fun r1 G1 hc1 => ?_)
  obtain ⟨⟨⟨z, rfl⟩, h8⟩, v1, -, -, hI1, ef1, -⟩ := hc1
  simp only [Option.toList_some, Option.toList_none, List.cons_append, List.nil_append]
  have q0 : x_sl G1 0 0 = some (.ref 1) := by rw [ef1.at z_ty.1 (by decide +kernel)]; exact p0
  refine y_isn (e_129 (28, .istore_n 2, 1) (List.mem_of_getElem? (i := 14) rfl)) (by decide) ?_
  have g0 : pm_get (pm_put1 lv 2 (.int z)) 0 = some (.ref 0) := y_gpr g0 (by decide)
  have g1 : pm_get (pm_put1 lv 2 (.int z)) 1 = some (.int x1) := y_gpi g1 (by decide)
  have g2 : pm_get (pm_put1 lv 2 (.int z)) 2 = some (.int z) := x_get_self
  change x_Gd _ _ _ _ _ _ _ (pm_put1 lv 2 (.int z)) _ _
  generalize pm_put1 lv 2 (.int z) = lv at g0 g1 g2 ⊢
  refine y_aln (e_129 (29, .aload_n 0, 1) (List.mem_of_getElem? (i := 15) rfl)) g0 ?_
  refine y_getf hI1 z_ty.1 (e_129 (30, .getfield 10, 3) (List.mem_of_getElem? (i := 16) rfl)) u_0_10 ⟨rfl, rfl⟩ q0 ?_
  refine y_st (e_129 (33, .iconst 0, 1) (List.mem_of_getElem? (i := 17) rfl)) ⟨rfl, rfl, rfl, rfl⟩ ?_
  refine y_c2 (K' := _) (e_129 (34, .invokevirtual 104, 3) (List.mem_of_getElem? (i := 18) rfl)) ⟨rfl, rfl, rfl⟩ t_0_104 ⟨by decide, by decide, by decide, by decide⟩ m_15_ok rfl (by decide) (y_recv hI1 th0_p.1 ⟨rfl, rfl⟩) (Nat.le_of_ble_eq_true rfl) (Nat.le_of_ble_eq_true rfl) (((h_8 th0 xs L J).gd (G := G1) (d := d + 4) m_15_ok (by omega) (v := y_v [((1 : Nat) : Int), (Int32.ofInt 0).toInt]) (as := [.ref 1, .int (Int32.ofInt 0)]) (y_v_Bd (List.forall_mem_cons.mpr ⟨(y_cellB hI1 th0_p.1), (List.forall_mem_cons.mpr ⟨(x_i32 (Int32.ofInt 0)), (fun _ h => absurd h List.not_mem_nil)⟩)⟩)) (fun _ h => absurd h List.not_mem_nil) ⟨⟨1, rfl, (by simp only [xl_ev, xt_ev, y_v, List.getD_cons_succ, List.getD_cons_zero]; omega), th0_p.1⟩, ⟨Int32.ofInt 0, rfl, (by simp only [xl_ev, xt_ev, y_v, List.getD_cons_succ, List.getD_cons_zero]; omega)⟩, trivial⟩ (fun q hq => absurd hq List.not_mem_nil) hI1 (fun z => by cases z))) (fun r1 G2 h2 => ?_)
  obtain ⟨v2, -, -, hI2, ef2, p, hp, -, -, pa⟩ := h2
  obtain rfl : p = _ := List.mem_singleton.mp hp
  obtain ⟨z2, rfl, -⟩ := y_pI pa
  simp only [Option.toList_some, Option.toList_none, List.cons_append, List.nil_append]
  have r0 : x_sl G2 0 0 = some (.ref 1) := by rw [ef2.at z_ty.1 (by decide +kernel)]; exact q0
  have r8 : x_sl G2 1 8 = some (.int q) := by rw [ef2.at th0_p.1 (by decide +kernel)]; exact h8
  refine y_st (e_129 (37, .pop, 1) (List.mem_of_getElem? (i := 19) rfl)) ⟨rfl, rfl, rfl, rfl⟩ ?_
  refine y_aln (e_129 (38, .aload_n 0, 1) (List.mem_of_getElem? (i := 20) rfl)) g0 ?_
  refine y_aln (e_129 (39, .aload_n 0, 1) (List.mem_of_getElem? (i := 21) rfl)) g0 ?_
  refine y_getf hI2 z_ty.1 (e_129 (40, .getfield 10, 3) (List.mem_of_getElem? (i := 22) rfl)) u_0_10 ⟨rfl, rfl⟩ r0 ?_
  refine y_getf hI2 th0_p.1 (e_129 (43, .getfield 111, 3) (List.mem_of_getElem? (i := 23) rfl)) u_0_111 ⟨rfl, rfl⟩ r8 ?_
  refine y_putf (f := (0, -2147483648, 2147483647)) hI2 z_ty.1 (e_129 (46, .putfield 90, 3) (List.mem_of_getElem? (i := 24) rfl)) u_0_90 ⟨rfl, rfl, by decide, rfl, rfl⟩ ⟨_, rfl, (x_i32 _).1, (x_i32 _).2⟩ (fun G3 u3 => ?_)
  have hI3 := hI2.upd u3 z_ty.1 (y_okA rfl)
  refine sg_q129_go (th := th0) (d := d + 4) (by omega) (v := (y_v [((0 : Nat) : Int), x1.toInt, z.toInt])) (G0 := G3) (G := G3) ⟨y_v_Bd (List.forall_mem_cons.mpr ⟨(y_cellB hI3 z_ty.1), (List.forall_mem_cons.mpr ⟨(x_i32 x1), (List.forall_mem_cons.mpr ⟨(x_i32 z), (fun _ h => absurd h List.not_mem_nil)⟩)⟩)⟩), (fun _ h => absurd h List.not_mem_nil), (List.forall_mem_cons.mpr ⟨⟨_, g0, 0, rfl, (by simp only [xl_ev, xt_ev, y_v, List.getD_cons_succ, List.getD_cons_zero]; omega), z_ty.1⟩, (List.forall_mem_cons.mpr ⟨⟨_, g1, x1, rfl, (by simp only [xl_ev, xt_ev, y_v, List.getD_cons_succ, List.getD_cons_zero]; omega)⟩, (List.forall_mem_cons.mpr ⟨⟨_, g2, z, rfl, (by simp only [xl_ev, xt_ev, y_v, List.getD_cons_succ, List.getD_cons_zero]; omega)⟩, (fun _ h => absurd h List.not_mem_nil)⟩)⟩)⟩), trivial, (fun _ h => absurd h List.not_mem_nil), hI3⟩ x_eff.rf (fun r G' hp => ?_) (fun n hn => absurd hn List.not_mem_nil)
  obtain ⟨v', -, -, -, ef, -⟩ := hp
  rw [ef.at z_ty.1 (by decide), u3.2.1, if_pos ⟨rfl, rfl⟩]
end LG9
set_option maxHeartbeats 2000000 in
set_option maxRecDepth 100000 in
theorem bl_log {th : List Nat} {xs : Nat → Int32} {L J d ax am : Nat} {G : List pE} {sc : Int32} (hd : 318 ≤ d) (h : z_IN th ax am G sc sc) (x1 : Int32) : x_Gd xs L J d m_129 (fun r G' => ∃ q : Int32, x_sl G' 0 17 = some (.int q) ∧ ∀ G2 : List pE, xI x_tb th G2 → z_sm th G G2 → z_FL x1 q G2) 0 (lv_args 0 [.ref ax, .int x1]) [] G := by
  obtain ⟨tp, j1, j2, j3, j4, jK⟩ := h.2.2
  have hNs := h.2.1.2.2.1
  have hQ := h.2.1.2.1
  have hI := h.1
  obtain ⟨rfl, rfl, rfl, ⟨hC, hB⟩, w, wi, hJ⟩ := jK
  have ta := th0_351.2
  obtain ⟨p0, -, -, p3, -, -, -, -, -, -, -, -, -, -, -, p15, p16, p17, p18, -, -, -, a3⟩ := id hC
  obtain rfl : tp = 1 := by
    rw [p0] at j1
    cases j1
    rfl
  by_cases hx : 0 ≤ x1.toInt ∧ x1.toInt ≤ 1
  rotate_left
  · obtain ⟨v, hv⟩ := y_fiT4 (a := 0) (i := 17) hI z_ty.1 rfl
    have hv' : x_sl G 349 15 = some (.int v) := (hJ.2.2.2.1.2).symm.trans hv
    have fin : ∀ G2 : List pE, xI x_tb th0 G2 → z_sm th0 G G2 → z_FL x1 v G2 := fun G2 hI2 hs xs L J d hd => by
      have v2 : x_sl G2 349 15 = some (.int v) := (hs 349 10 15 ta (Or.inl rfl)).trans hv'
      have g0 : pm_get (lv_args 0 [.ref 349, .int x1]) 0 = some (.ref 349) := rfl
      have g1 : pm_get (lv_args 0 [.ref 349, .int x1]) 1 = some (.int x1) := rfl
      generalize lv_args 0 [.ref 349, .int x1] = lv at g0 g1 ⊢
      obtain ⟨d, rfl⟩ : ∃ k, d = k + 1 := ⟨d - 1, by omega⟩
      refine y_aln (e_243 (0, .aload_n 0, 1) (List.mem_of_getElem? (i := 0) rfl)) g0 ?_
      refine y_st (e_243 (1, .iconst 0, 1) (List.mem_of_getElem? (i := 1) rfl)) ⟨rfl, rfl, rfl, rfl⟩ ?_
      refine y_putf (f := (0, -2147483648, 2147483647)) hI2 ta (e_243 (2, .putfield 1, 3) (List.mem_of_getElem? (i := 2) rfl)) u_17_1 ⟨rfl, rfl, by decide, rfl, rfl⟩ ⟨_, rfl, (x_i32 _).1, (x_i32 _).2⟩ (fun G1 u1 => ?_)
      refine y_iln (e_243 (5, .iload_n 1, 1) (List.mem_of_getElem? (i := 3) rfl)) g1 ?_
      refine y_st (e_243 (6, .iconst 0, 1) (List.mem_of_getElem? (i := 4) rfl)) ⟨rfl, rfl, rfl, rfl⟩ ?_
      refine y_st (e_243 (7, .iconst 1, 1) (List.mem_of_getElem? (i := 5) rfl)) ⟨rfl, rfl, rfl, rfl⟩ ?_
      refine y_c3 (K' := _) (e_243 (8, .invokestatic 173, 3) (List.mem_of_getElem? (i := 6) rfl)) ⟨rfl, rfl, rfl⟩ t_17_173 ⟨by decide, by decide, by decide, by decide⟩ m_174_ok rfl (by decide) rfl (Nat.le_of_ble_eq_true rfl) (Nat.le_of_ble_eq_true rfl) (k_isIn x1 _ _) (fun r1 Gc hc1 => ?_)
      obtain ⟨rfl, rfl⟩ := hc1
      simp only [Option.toList_some, Option.toList_none, List.cons_append, List.nil_append]
      rw [if_neg (show ¬ ((Int32.ofInt 0).toInt ≤ x1.toInt ∧ x1.toInt ≤ (Int32.ofInt 1).toInt) from hx)]
      refine y_ifc (e_243 (11, .ifCond .ne 7, 3) (List.mem_of_getElem? (i := 7) rfl)) rfl (fun hb => absurd hb (by decide)) (fun _ => ?_)
      refine y_st (e_243 (14, .sipush (-1000), 3) (List.mem_of_getElem? (i := 8) rfl)) ⟨rfl, rfl, rfl, rfl⟩ ?_
      exact y_ret (e_243 (17, .ireturn, 1) (List.mem_of_getElem? (i := 9) rfl)) ⟨rfl, y_ri⟩ (by rw [u1.2.1, if_neg (fun z => absurd z.2 (by decide))]; exact v2)
    have g1 : pm_get (lv_args 0 [.ref 0, .int x1]) 1 = some (.int x1) := rfl
    generalize lv_args 0 [.ref 0, .int x1] = lv at g1 ⊢
    have at9 : x_Gd xs L J d m_129 (fun r G' => ∃ q : Int32, x_sl G' 0 17 = some (.int q) ∧ ∀ G2 : List pE, xI x_tb th0 G2 → z_sm th0 G G2 → z_FL x1 q G2) 9 lv [] G := by
      refine y_st (e_129 (9, .sipush (-1000), 3) (List.mem_of_getElem? (i := 5) rfl)) ⟨rfl, rfl, rfl, rfl⟩ ?_
      exact y_ret (e_129 (12, .ireturn, 1) (List.mem_of_getElem? (i := 6) rfl)) ⟨rfl, y_ri⟩ ⟨v, hv, fin⟩
    refine y_iln (e_129 (0, .iload_n 1, 1) (List.mem_of_getElem? (i := 0) rfl)) g1 ?_
    refine y_ifc (e_129 (1, .ifCond .lt 8, 3) (List.mem_of_getElem? (i := 1) rfl)) rfl (fun _ => at9) (fun hb => ?_)
    have z0 := y_hI.2.2.2.2.2.2.2.2.2.1 hb
    refine y_iln (e_129 (4, .iload_n 1, 1) (List.mem_of_getElem? (i := 2) rfl)) g1 ?_
    refine y_st (e_129 (5, .iconst 1, 1) (List.mem_of_getElem? (i := 3) rfl)) ⟨rfl, rfl, rfl, rfl⟩ ?_
    refine y_icm (e_129 (6, .if_icmp .le 7, 3) (List.mem_of_getElem? (i := 4) rfl)) rfl (fun hb => ?_) (fun _ => at9)
    have z1 := y_hI.2.2.2.2.2.2.1 hb
    rw [show (0 : Int32).toInt = 0 from rfl] at z0
    rw [show (Int32.ofInt 1).toInt = 1 from rfl] at z1
    exact absurd ⟨z0, z1⟩ hx
  have hr : 0 ≤ sc.toInt ∧ sc.toInt ≤ 940 := y_fie (i := 1) (t := 7) hI th0_p.1 rfl j3
  obtain ⟨f, hf⟩ := y_iarr (t := 28) (n := 940) hI th0_p.2.1 rfl rfl
  have hfb : ∀ i, i < 940 → -128 ≤ (f i).toInt ∧ (f i).toInt ≤ 127 := fun i hi => y_fie (t := 28) hI th0_p.2.1 (by rw [show (x_tb 28).2.2.2 = [(940, ((0 : Nat), (-128 : Int), (127 : Int)))] from rfl]; exact y_one hi) (hf i hi)
  obtain ⟨lim, nx, tk, pl, num, nm, ft, fp, hTC⟩ := s_TC hI th0_p.1 th0_p.2.1 p3 hf j3
  obtain ⟨n2, lim2, p2', tok, at9, sp, mu, wd, hTM⟩ := s_TM hI ta (by decide +kernel) p15 (fun i hi => (hB i hi).symm.trans (hf i hi))
  obtain ⟨hf2, kh⟩ := y_iarr (t := 37) (n := 81) hI (show th0[352]? = some 37 by decide +kernel) rfl rfl
  obtain ⟨nf, kn⟩ := y_larr (t := 39) (n := 32) hI (show th0[354]? = some 39 by decide +kernel) rfl
  obtain ⟨on, k20⟩ := y_fiT4 (a := 349) (i := 20) hI ta rfl
  have hMS : MSo th0 349 350 352 354 355 f n2 lim2 p2' tok at9 sp mu wd hf2 nf on G := ⟨hTM, by decide +kernel, by decide +kernel, by decide +kernel, p16, p17, p18, k20, kh, kn, a3⟩
  -- names
  obtain ⟨⟨pc, hZ⟩, hJM⟩ := hJ
  have hLV := hZ.2.1
  have hRW := hJM.2.1
  obtain ⟨-, -, -, nT6, -, nM6⟩ := z_hsN 6 (by decide)
  have hPn := hZ.1.2.2.2.2.2.2.2.1 6 (by decide)
  obtain ⟨nt, ht, c0, c1⟩ := y_fi (a := 6) (i := 4) (t := 0) (lo := 0) (hi := 8) hI (z_tp 6 (by decide)) rfl
  obtain ⟨nn, hn, c2, c3⟩ := y_fi (a := 6) (i := 6) (t := 0) (lo := 0) (hi := 4) hI (z_tp 6 (by decide)) rfl
  obtain ⟨tn, htn⟩ := lg_fam hI nT6 rfl
  obtain ⟨mn, hmn⟩ := lg_fam hI nM6 rfl
  have w04 : w 0 4 = some (.int nt) := (hLV.1 0 4 rfl).symm.trans ht
  have w06 : w 0 6 = some (.int nn) := (hLV.1 0 6 rfl).symm.trans hn
  obtain ⟨-, -, -, r3, -, r5, -, -, -, -, -, rT, rM⟩ := hRW
  have e3 : x_sl G 351 3 = some (.int nt) := (show z_nrow G 3 = x_sl G 351 3 from rfl).symm.trans (r3.trans w04)
  have e5 : x_sl G 351 5 = some (.int nn) := (show z_nrow G 5 = x_sl G 351 5 from rfl).symm.trans (r5.trans w06)
  have hD : LGD nt nn tn mn nf := by
    refine ⟨⟨c0, c1⟩, ⟨c2, c3⟩, fun i hi => ?_, fun i hi => ?_, fun i j hi hj => ?_⟩
    · obtain ⟨a, b, ea, eb, hab⟩ := rT nt w04 i hi (by omega)
      have e1 := (hLV.2.1 nt w04 i hi (by omega)).symm.trans (htn i (by omega))
      rw [ea] at e1
      cases e1
      have e2 : z_nrow G (400 + i) = x_sl G 354 i := by
        unfold z_nrow
        rw [if_neg (by omega), show 400 + i - 400 = i by omega]
      rw [e2, kn i (by omega)] at eb
      cases eb
      exact hab
    · obtain ⟨a, b, ea, eb, hab⟩ := rM nn w06 i hi (by omega)
      have e1 := (hLV.2.2 nn w06 i hi (by omega)).symm.trans (hmn i (by omega))
      rw [ea] at e1
      cases e1
      have e2 : z_nrow G (412 + i) = x_sl G 354 (12 + i) := by
        unfold z_nrow
        rw [if_neg (by omega), show 412 + i - 400 = 12 + i by omega]
      rw [e2, kn (12 + i) (by omega)] at eb
      cases eb
      exact hab
    · obtain ⟨nb, scc, k9, tnb, k6, tsc, hDD⟩ := hNs
      rw [p17] at k9
      cases k9
      rw [hJM.1.1] at k6
      cases k6
      exact hDD nt nn i j _ _ e3 e5 hi hj (kn i (by omega)) (kn (12 + j) (by omega))
  obtain ⟨nx1, tk1, pl1, num1, nm1, tok1, mu1, sp1, wd1, hP1, -, tr1, N1, M1⟩ := t_nx (lim := (Int16.ofInt 400).toInt32) (P := Int32.ofInt 0) hr.2 ⟨by decide, hr.1⟩ hfb num nm mu wd
  obtain ⟨q, hc, hm⟩ := p_lgloop (lim := (Int16.ofInt 400).toInt32) (on := on) (hf := hf2) hr.2 hfb hD 40 0 nx1 tk1 pl1 num1 nm1 tok1 sp1 mu1 wd1 rfl (by decide) hP1 tr1
  obtain ⟨lc, p11, tl⟩ := y_fref (i := 11) (u := 3) hI z_ty.1 rfl
  obtain ⟨x3, hx3, x3a, x3b⟩ := y_fi (a := lc) (i := 3) (t := 3) (lo := 0) (hi := 40) hI tl rfl
  have hCL : CL f sc lim nx tk pl num nm ft fp lc nt nn tn mn x3.toInt.toNat G := ⟨hTC, tl, by rw [hx3, show Int32.ofNat x3.toInt.toNat = x3 from Int32.toInt_inj.mp (by rw [s_toI (by omega)]; omega)], hPn, ht, hn, fun i hi h8 => htn i h8, fun i hi h4 => hmn i h4⟩
  obtain ⟨d, rfl⟩ : ∃ k, d = k + 5 := ⟨d - 5, by omega⟩
  refine (bm_log (d := d) (by omega) hI hx tl p11 p0 hZ.1.2.1 (cm_log hCL N1 hc)).mono (fun r G' h17 => ⟨q, h17, fun G2 hI2 hs xs L J d hd => ?_⟩)
  obtain ⟨d, rfl⟩ : ∃ k, d = k + 4 := ⟨d - 4, by omega⟩
  have hMS2 : MSo th0 349 350 352 354 355 f n2 lim2 p2' tok at9 sp mu wd hf2 nf on G2 := by
    obtain ⟨⟨-, ta, tm, k1, -, s1, s3, s4, s5, s11, s12, s13, s14, s17⟩, b1, b2, b3, c1, c2, c3, c4, d1, d2, d3⟩ := hMS
    have ea : ∀ i, x_sl G2 349 i = x_sl G 349 i := fun i => hs 349 10 i ta (Or.inl rfl)
    exact ⟨⟨hI2, ta, tm, fun i hi => (hs 350 35 i tm (Or.inr (Or.inl rfl))).trans (k1 i hi), fun _ _ _ => rfl, (ea _).trans s1, (ea _).trans s3, (ea _).trans s4, (ea _).trans s5, (ea _).trans s11, (ea _).trans s12, (ea _).trans s13, (ea _).trans s14, (ea _).trans s17⟩, b1, b2, b3, (ea _).trans c1, (ea _).trans c2, (ea _).trans c3, (ea _).trans c4, fun i hi => (hs 352 37 i b1 (Or.inr (Or.inr (Or.inl rfl)))).trans (d1 i hi), fun i hi => (hs 354 39 i b2 (Or.inr (Or.inr (Or.inr (Or.inl rfl))))).trans (d2 i hi), fun i hi => (hs 355 40 i b3 (Or.inr (Or.inr (Or.inr (Or.inr (Or.inl rfl)))))).trans (d3 i hi)⟩
  have s36 : ∀ i, x_sl G2 351 i = x_sl G 351 i := fun i => hs 351 36 i th0_351.1 (Or.inr (Or.inr (Or.inr (Or.inr (Or.inr rfl)))))
  exact vm_log (by omega) hx hMS2 ((hs 349 10 2 ta (Or.inl rfl)).trans j4) hr ((hs 349 10 6 ta (Or.inl rfl)).trans hJM.1.1) ((s36 3).trans e3) ((s36 5).trans e5) (by
      obtain ⟨nb, scc, k9, tnb, k6, tsc, hDD⟩ := hNs
      exact ⟨nb, scc, (hs 349 10 9 ta (Or.inl rfl)).trans k9, tnb, (hs 349 10 6 ta (Or.inl rfl)).trans k6, tsc, fun n3 n5 i j x y a1 a2 a3 a4 a5 a6 => by
        rw [hs scc 36 3 tsc (Or.inr (Or.inr (Or.inr (Or.inr (Or.inr rfl)))))] at a1
        rw [hs scc 36 5 tsc (Or.inr (Or.inr (Or.inr (Or.inr (Or.inr rfl)))))] at a2
        rw [hs nb 39 _ tnb (Or.inr (Or.inr (Or.inr (Or.inl rfl))))] at a5 a6
        exact hDD n3 n5 i j x y a1 a2 a3 a4 a5 a6⟩) (fun b hb => by
      rw [show x_sl G2 b = x_sl G b from funext (fun i => hs b 36 i hb (Or.inr (Or.inr (Or.inr (Or.inr (Or.inr rfl))))))]
      exact hQ b hb) M1 hm
