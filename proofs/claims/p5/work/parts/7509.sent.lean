def m_145 : pM := (⟨"BreathingHill$Sentence", "copyFrom", "(LBreathingHill$Sentence;)V"⟩, 1184, 3, none, 9, 1, false, 6, 101, 1182, 1183)
set_option maxRecDepth 100000 in
theorem m_145_ok : pm_tab[145]? = some m_145 := rfl
theorem e_145 : ∀ q ∈ d_145, decode m_145.code q.1 = .ok (q.2.1, q.2.2) := y_dec d_145_ok m_145_ok
def m_15 : pM := (⟨"BreathingHill$Tape", "cutTo", "(I)Z"⟩, 535, 2, some (FieldType.boolean), 2, 1, false, 7, 92, 533, 534)
set_option maxRecDepth 100000 in
theorem m_15_ok : pm_tab[15]? = some m_15 := rfl
theorem e_15 : ∀ q ∈ d_15, decode m_15.code q.1 = .ok (q.2.1, q.2.2) := y_dec d_15_ok m_15_ok
theorem t_0_354 : pm_ctab.find? (fun r => r.1 == 0 && r.2.1 == 354) = some (0, 354, 1, 137, 1113) := by decide +kernel
theorem t_0_104 : pm_ctab.find? (fun r => r.1 == 0 && r.2.1 == 104) = some (0, 104, 1, 15, 532) := by decide +kernel
theorem u_0_111 : pm_ftab.find? (fun r => r.1 == 0 && r.2.1 == 111) = some (0, 111, 7, 8, 1, 141) := by decide +kernel
theorem u_0_114 : pm_ftab.find? (fun r => r.1 == 0 && r.2.1 == 114) = some (0, 114, 7, 9, 1, 143) := by decide +kernel
theorem t_0_358 : pm_ctab.find? (fun r => r.1 == 0 && r.2.1 == 358) = some (0, 358, 1, 145, 1181) := by decide +kernel
theorem u_0_361 : pm_ftab.find? (fun r => r.1 == 0 && r.2.1 == 361) = some (0, 361, 6, 5, 1, 415) := by decide +kernel
-- ===== sentence() =====
def sg_sc16_ns : List xN := [(18, [(2, (0, ([(2, 1)], 0))), (0, (16, ([(0, 1)], 0))), (1, (16, ([(1, 1)], 0)))], [], [([(2, 1)], 0), ([(2, -1)], 40), ([(2, -1)], 61), ([(2, -1)], 255), ([(2, -1)], 1000), ([(2, -1)], 1001)], 3, [([], 1), ([(2, -1)], 2147483647), ([], 5000000000), ([], 5000000000), ([], 5000000000)])]
def sg_sc16_os : List xN := []
def sg_sc16_g : xG := ([], [(0, (16, ([(0, 1)], 0))), (1, (16, ([(1, 1)], 0)))], [], [], 2)
def sg_sc16_ps : List xP := [(none, [], [])]
set_option maxRecDepth 100000 in
set_option maxHeartbeats 4000000 in
theorem sg_sc16_ok : x_seg x_tb [] m_145 d_145 [(24, 0, 39), (25, 0, 39), (26, 0, 39)] 2 sg_sc16_ps sg_sc16_ns sg_sc16_os 39 false 16 sg_sc16_g = true := by decide +kernel
set_option maxRecDepth 100000 in
theorem sg_sc16_go {th : List Nat} {xs : Nat → Int32} {L J d : Nat} {K : Option Value → List pE → Prop} (hd : 0 ≤ d) {v : Nat → Int} {lv : pL} {ws : List Value} {G0 G : List pE} (hS : x_S x_tb th v sg_sc16_g lv ws G) (hE : x_eff th [(24, 0, 39), (25, 0, 39), (26, 0, 39)] G0 G) (hK : ∀ r G', x_Post x_tb th [(24, 0, 39), (25, 0, 39), (26, 0, 39)] sg_sc16_ps 2 v G0 r G' → K r G') (hO : ∀ n ∈ sg_sc16_os, ∀ (vn : Nat → Int) (lv : pL) (G1 : List pE), x_ag 2 v vn → x_S x_tb th vn (n.2.2.2.1, n.2.1, [], n.2.2.1, n.2.2.2.2.1) lv [] G1 → x_eff th [(24, 0, 39), (25, 0, 39), (26, 0, 39)] G0 G1 → x_Gd xs L J (d + 1) m_145 K n.1 lv [] G1) : x_Gd xs L J (d + 1) m_145 K 16 lv ws G :=
  x_seg_ok (dm := 0) x_tb_wf ⟨rfl, rfl, rfl⟩ e_145 (fun _ h => absurd h List.not_mem_nil) hd sg_sc16_ok hS hE (fun z => by cases z) hK hO
set_option maxHeartbeats 2000000 in
set_option maxRecDepth 100000 in
/-- what copyFrom() leaves: the other's ONES -/
theorem s_copy {th : List Nat} {xs : Nat → Int32} {L J d a c : Nat} {G : List pE} {x : Int32} (hI : xI x_tb th G) (ta : th[a]? = some 6) (tc : th[c]? = some 6) (h5 : x_sl G c 5 = some (.int x)) : x_Gd xs L J (d + 1) m_145 (fun r G' => r = none ∧ x_sl G' a 5 = some (.int x) ∧ xI x_tb th G' ∧ x_eff th [(6, 4, 5), (24, 0, 39), (25, 0, 39), (26, 0, 39)] G G') 0 (lv_args 0 [.ref a, .ref c]) [] G := by
  have g0 : pm_get (lv_args 0 [.ref a, .ref c]) 0 = some (.ref a) := rfl
  have g1 : pm_get (lv_args 0 [.ref a, .ref c]) 1 = some (.ref c) := rfl
  generalize lv_args 0 [.ref a, .ref c] = lv at g0 g1 ⊢
  obtain ⟨z, k4, z1, z2⟩ := y_fi (i := 4) (lo := 0) (hi := 40) hI tc rfl
  refine y_aln (e_145 (0, .aload_n 0, 1) (List.mem_of_getElem? (i := 0) rfl)) g0 ?_
  refine y_aln (e_145 (1, .aload_n 1, 1) (List.mem_of_getElem? (i := 1) rfl)) g1 ?_
  refine y_getf hI tc (e_145 (2, .getfield 27, 3) (List.mem_of_getElem? (i := 2) rfl)) u_9_27 ⟨rfl, rfl⟩ k4 ?_
  refine y_putf (f := (0, 0, 40)) hI ta (e_145 (5, .putfield 27, 3) (List.mem_of_getElem? (i := 3) rfl)) u_9_27 ⟨rfl, rfl, by decide, rfl, rfl⟩ ⟨_, rfl, z1, z2⟩ (fun G1 u1 => ?_)
  have hI1 := hI.upd u1 ta (y_okI rfl z1 z2)
  refine y_aln (e_145 (8, .aload_n 0, 1) (List.mem_of_getElem? (i := 4) rfl)) g0 ?_
  refine y_aln (e_145 (9, .aload_n 1, 1) (List.mem_of_getElem? (i := 5) rfl)) g1 ?_
  refine y_getf hI1 tc (e_145 (10, .getfield 31, 3) (List.mem_of_getElem? (i := 6) rfl)) u_9_31 ⟨rfl, rfl⟩ (by rw [u1.2.1, if_neg (fun z => absurd z.2 (by decide))]; exact h5) ?_
  refine y_putf (f := (0, -2147483648, 2147483647)) hI1 ta (e_145 (13, .putfield 31, 3) (List.mem_of_getElem? (i := 7) rfl)) u_9_31 ⟨rfl, rfl, by decide, rfl, rfl⟩ ⟨_, rfl, (x_i32 _).1, (x_i32 _).2⟩ (fun G2 u2 => ?_)
  have hI2 := hI1.upd u2 ta (y_okA rfl)
  refine sg_sc16_go (th := th) (d := d) (by omega) (v := (y_v [(a : Int), (c : Int)])) (G0 := G2) (G := G2) ⟨y_v_Bd (List.forall_mem_cons.mpr ⟨(y_cellB hI2 ta), (List.forall_mem_cons.mpr ⟨(y_cellB hI2 tc), (fun _ h => absurd h List.not_mem_nil)⟩)⟩), (fun _ h => absurd h List.not_mem_nil), (List.forall_mem_cons.mpr ⟨⟨_, g0, a, rfl, (by simp only [xl_ev, xt_ev, y_v, List.getD_cons_succ, List.getD_cons_zero]; omega), ta⟩, (List.forall_mem_cons.mpr ⟨⟨_, g1, c, rfl, (by simp only [xl_ev, xt_ev, y_v, List.getD_cons_succ, List.getD_cons_zero]; omega), tc⟩, (fun _ h => absurd h List.not_mem_nil)⟩)⟩), trivial, (fun _ h => absurd h List.not_mem_nil), hI2⟩ x_eff.rf (fun r G' hp => ?_) (fun n hn => absurd hn List.not_mem_nil)
  obtain ⟨v', -, -, hI3, ef, p, hp, -, -, pa⟩ := hp
  obtain rfl : p = _ := List.mem_singleton.mp hp
  have e1 := x_eff.upd (E := [(6, 4, 5), (24, 0, 39), (25, 0, 39), (26, 0, 39)]) u1 ta (q := (6, 4, 5)) List.mem_cons_self rfl (by decide) (by decide)
  have e2 := x_eff.upd (E := [(6, 4, 5), (24, 0, 39), (25, 0, 39), (26, 0, 39)]) u2 ta (q := (6, 4, 5)) List.mem_cons_self rfl (by decide) (by decide)
  refine ⟨?_, by rw [ef.at ta rfl, u2.2.1, if_pos ⟨rfl, rfl⟩], hI3, (e1.tr e2).tr (ef.sub (by decide))⟩
  cases r with
  | none => rfl
  | some w => exact pa.elim
section S9
variable {th : List Nat} {f : Nat → Int32} {sz : Int32}
set_option maxHeartbeats 2000000 in
set_option maxRecDepth 100000 in
/-- a SENTENCE is read on both sides with the same answer, and the same kind of FAULT -/
theorem p_sent (hr : 0 ≤ sz.toInt ∧ sz.toInt ≤ 940) (hfb : ∀ i, i < 940 → -128 ≤ (f i).toInt ∧ (f i).toInt ≤ 127) (num0 : Int32) (nm0 : Int64) (mu0 : Int32) (wd0 : Int64) :
    (∃ q p9 : Int32, (∀ (th : List Nat) (tp b sc : Nat) (G0 : List pE) (lim nx : Int32) (tk : Nat) (pl ft fp : Int32) (xs : Nat → Int32) (L J d : Nat) (G : List pE), TC th tp b f G0 sz lim nx tk pl num0 nm0 ft fp G → th[sc]? = some 6 → x_Gd xs L J (d + 32) m_137 (fun r G' => r = some (.int 0) ∧ x_sl G' tp 8 = some (.int q) ∧ x_sl G' tp 9 = some (.int p9)) 0 (lv_args 0 [.ref sc, .ref tp]) [] G) ∧
      (∀ (th : List Nat) (am mb : Nat) (G0 : List pE) (n2 lim p tok at9 sp : Int32) (xs : Nat → Int32) (L J d : Nat) (G : List pE), TM th am mb f G0 n2 lim p tok at9 sp mu0 wd0 G → x_sl G am 2 = some (.int sz) → x_Gd xs L J (d + 3) m_247 (fun r G' => r = some (.int (Int32.ofInt (-1) - p9)) ∧ x_sl G' am 15 = some (.int q)) 0 (lv_args 0 [.ref am]) [] G)) ∨
    (∃ on : Nat, (∀ (th : List Nat) (tp b sc : Nat) (G0 : List pE) (lim nx : Int32) (tk : Nat) (pl ft fp : Int32) (xs : Nat → Int32) (L J d : Nat) (G : List pE), TC th tp b f G0 sz lim nx tk pl num0 nm0 ft fp G → th[sc]? = some 6 → x_Gd xs L J (d + 32) m_137 (fun r G' => r = some (.int 1) ∧ x_sl G' tp 8 = some (.int (Int32.ofInt 0)) ∧ x_sl G' sc 5 = some (.int (Int32.ofNat on))) 0 (lv_args 0 [.ref sc, .ref tp]) [] G) ∧
      (∀ (th : List Nat) (am mb : Nat) (G0 : List pE) (n2 lim p tok at9 sp : Int32) (xs : Nat → Int32) (L J d : Nat) (G : List pE), TM th am mb f G0 n2 lim p tok at9 sp mu0 wd0 G → x_sl G am 2 = some (.int sz) → x_Gd xs L J (d + 3) m_247 (fun r G' => r = some (.int (Int32.ofNat on)) ∧ x_sl G' am 15 = some (.int (Int32.ofInt 0))) 0 (lv_args 0 [.ref am]) [] G)) := by
  obtain ⟨nx1, tk1, pl1, num1, nm1, tok1, mu1, sp1, wd1, hP1, -, tr1, hnum1, N1, M1⟩ := s_nx (lim := (Int16.ofInt 200).toInt32) (P := Int32.ofInt 0) hr.2 ⟨by decide, hr.1⟩ hfb num0 nm0 mu0 wd0
  rcases (s_both (lim := (Int16.ofInt 200).toInt32) hr.2 hfb 20 0 (by decide) (by decide)).2 nx1 tk1 pl1 num1 nm1 tok1 sp1 mu1 wd1 0 0 [] 1 ⟨hP1, tr1, hnum1⟩ (fun v hv => absurd hv List.not_mem_nil) (by simp) (by simp) (by simp) (by decide) (by decide) (by decide) with ⟨q, p9, hc, hm⟩ | ⟨nx2, tk2, pl2, num2, nm2, tok2, sp2, mu2, wd2, sz2, on2, cd2, j2, A, O, ⟨hP2, tr2, hnum2⟩, n26, n25, hA, hO, ⟨b1, b2⟩, b3, b4, hc, hm⟩
  · exact Or.inl ⟨q, p9, fun th tp b sc G0 lim nx tk pl ft fp xs L J d G h ts => s_rs_h (d := d + 29) h ts N1 (fun G1 lv h1 g0 g1 => s_rs_f (d := d + 31) h1 (hc _ _ _ _ _ _ _ _ _ _ _ (by omega) h1) g0 g1), fun th am mb G0 n2 lim p tok at9 sp xs L J d G h hs => s_head (d := d + 1) h hs hr M1 (fun G1 lv sb h1 g0 g1 => hm _ _ _ _ _ _ _ _ _ _ _ h1 g0 g1)⟩
  have a1 := s_A1 hA
  have o1 := s_O1 hO
  have hL3 : (A ++ (O ++ ([] : List Nat))).length = A.length + O.length := by rw [s_len2]; rfl
  have hr3 : (A ++ (O ++ ([] : List Nat))).head? ≠ some 20 := s_hd hA hO (by simp)
  have hlt3 : ∀ v ∈ A ++ (O ++ ([] : List Nat)), v < 100 := s_lt hA hO (fun v hv => absurd hv List.not_mem_nil)
  have hpj : s_pj 22 (A ++ (O ++ ([] : List Nat))) = [] := s_pj2 hA hO (by simp) (by simp)
  rw [show ([] : List Nat).length = 0 from rfl] at b4
  by_cases c0 : tk2 = 0
  · refine Or.inr ⟨on2, fun th tp b sc G0 lim nx tk pl ft fp xs L J d G h ts => s_rs_h (d := d + 29) h ts N1 (fun G1 lv h1 g0 g1 => (s_rs_y (d := d + 31) h1 (hc _ _ _ _ _ _ _ _ _ _ _ (by omega) h1) c0 g0 g1).mono (fun r G' z => ⟨z.1, z.2.1.s8, z.2.son⟩)), fun th am mb G0 n2 lim p tok at9 sp xs L J d G h hs => s_head (d := d + 1) h hs hr M1 (fun G1 lv sb h1 g0 g1 => hm _ _ _ _ _ _ _ _ _ _ _ _ h1 g0 g1 (fun G2 h2 => s_lp_sg (d := d + 1) h2 rfl (tr2.end9.mp c0) hr3 hlt3 (by rw [hL3]; omega) (by rw [hL3]; omega) g0 g1 hpj (fun G3 lv3 h3 a0 => s_tail h3 (by rw [hL3]; omega) a0)))⟩
  · refine Or.inl ⟨Int32.ofInt 1, pl2, fun th tp b sc G0 lim nx tk pl ft fp xs L J d G h ts => s_rs_h (d := d + 29) h ts N1 (fun G1 lv h1 g0 g1 => s_rs_n (d := d + 30) h1 (hc _ _ _ _ _ _ _ _ _ _ _ (by omega) h1) c0 g0 g1), fun th am mb G0 n2 lim p tok at9 sp xs L J d G h hs => s_head (d := d + 1) h hs hr M1 (fun G1 lv sb h1 g0 g1 => hm _ _ _ _ _ _ _ _ _ _ _ _ h1 g0 g1 (fun G2 h2 => s_lp_bf (d := d + 2) h2 rfl (fun z => c0 (tr2.end9.mpr z)) (s_bh_n h2 hr3 hlt3 (by rw [hL3]; omega) (by rw [hL3]; omega) tr2 ⟨n25, n26⟩ (Or.inr hpj)) g0 g1))⟩
theorem s_fiT {G : List pE} {a i t : Nat} {lo hi : Int} (hI : xI x_tb th G) (ta : th[a]? = some t) (e : x_at (x_tb t).2.2.2 i = some (0, lo, hi)) : ∃ x : Int32, x_sl G a i = some (.int x) := by
  obtain ⟨w, k1, x, rfl, -⟩ := (hI.2.2 a t ta).2 i _ e
  exact ⟨x, k1⟩
theorem s_ftok {G : List pE} {a i t : Nat} (hI : xI x_tb th G) (ta : th[a]? = some t) (e : x_at (x_tb t).2.2.2 i = some (3, 0, 0)) : ∃ k : Nat, x_sl G a i = some (.ref (pm_TB + k)) := by
  obtain ⟨w, k1, x, rfl, hx⟩ := (hI.2.2 a t ta).2 i _ e
  unfold pm_isTok at hx
  simp only [Bool.and_eq_true, decide_eq_true_eq] at hx
  exact ⟨x - pm_TB, by rw [k1, show pm_TB + (x - pm_TB) = x by omega]⟩
theorem s_TC {G : List pE} {tp b : Nat} (hI : xI x_tb th G) (t1 : th[tp]? = some 7) (tb : th[b]? = some 28) (p3 : x_sl G tp 0 = some (.ref b)) (hf : ∀ i, i < 940 → x_sl G b i = some (.int (f i))) (hs : x_sl G tp 1 = some (.int sz)) : ∃ (lim nx : Int32) (tk : Nat) (pl num : Int32) (nm : Int64) (ft fp : Int32), TC th tp b f G sz lim nx tk pl num nm ft fp G := by
  obtain ⟨lim, c2⟩ := s_fiT (i := 2) hI t1 rfl
  obtain ⟨nx, c3⟩ := s_fiT (i := 3) hI t1 rfl
  obtain ⟨tk, c4⟩ := s_ftok (i := 4) hI t1 rfl
  obtain ⟨pl, c5⟩ := s_fiT (i := 5) hI t1 rfl
  obtain ⟨num, c6⟩ := s_fiT (i := 6) hI t1 rfl
  obtain ⟨nm, c7⟩ := y_flong (i := 7) hI t1 rfl
  obtain ⟨ft, c8⟩ := s_fiT (i := 8) hI t1 rfl
  obtain ⟨fp, c9⟩ := s_fiT (i := 9) hI t1 rfl
  exact ⟨lim, nx, tk, pl, num, nm, ft, fp, hI, t1, tb, hf, fun _ _ _ => rfl, p3, hs, c2, c3, c4, c5, c6, c7, c8, c9⟩
theorem s_TM {G : List pE} {am mb : Nat} (hI : xI x_tb th G) (ta : th[am]? = some 10) (tm : th[mb]? = some 35) (pm : x_sl G am 1 = some (.ref mb)) (hf : ∀ i, i < 940 → x_sl G mb i = some (.int (f i))) : ∃ (n lim p tok at9 sp num : Int32) (wd : Int64), TM th am mb f G n lim p tok at9 sp num wd G := by
  obtain ⟨n, c3⟩ := s_fiT (i := 3) hI ta rfl
  obtain ⟨p, c4⟩ := s_fiT (i := 4) hI ta rfl
  obtain ⟨lim, c5⟩ := s_fiT (i := 5) hI ta rfl
  obtain ⟨tok, c11⟩ := s_fiT (i := 11) hI ta rfl
  obtain ⟨at9, c12⟩ := s_fiT (i := 12) hI ta rfl
  obtain ⟨sp, c13⟩ := s_fiT (i := 13) hI ta rfl
  obtain ⟨num, c14⟩ := s_fiT (i := 14) hI ta rfl
  obtain ⟨wd, c17⟩ := y_flong (i := 17) hI ta rfl
  exact ⟨n, lim, p, tok, at9, sp, num, wd, hI, ta, tm, hf, fun _ _ _ => rfl, pm, c3, c4, c5, c11, c12, c13, c14, c17⟩
theorem TM.same {am mb : Nat} {n lim p tok at9 sp num : Int32} {wd : Int64} {G G' G0 : List pE} (h : TM th am mb f G0 n lim p tok at9 sp num wd G) (hI : xI x_tb th G') (hs : ∀ c t i : Nat, th[c]? = some t → (t = 10 ∨ t = 35) → x_sl G' c i = x_sl G c i) : TM th am mb f G' n lim p tok at9 sp num wd G' := by
  obtain ⟨-, ta, tm, k1, -, s1, s3, s4, s5, s11, s12, s13, s14, s17⟩ := h
  have ea : ∀ i, x_sl G' am i = x_sl G am i := fun i => hs am 10 i ta (Or.inl rfl)
  exact ⟨hI, ta, tm, fun i hi => (hs mb 35 i tm (Or.inr rfl)).trans (k1 i hi), fun _ _ _ => rfl, (ea _).trans s1, (ea _).trans s3, (ea _).trans s4, (ea _).trans s5, (ea _).trans s11, (ea _).trans s12, (ea _).trans s13, (ea _).trans s14, (ea _).trans s17⟩
/-- the model's sentence() answers y, with such a kind of FAULT -/
def z_AS (th : List Nat) (am : Nat) (y q : Int32) (G : List pE) : Prop := ∀ (xs : Nat → Int32) (L J d : Nat), 3 ≤ d → x_Gd xs L J d m_247 (fun r G' => r = some (.int y) ∧ x_sl G' am 15 = some (.int q)) 0 (lv_args 0 [.ref am]) [] G
set_option maxHeartbeats 2000000 in
set_option maxRecDepth 100000 in
theorem s_bsent {xs : Nat → Int32} {L J d ax tp b am mb : Nat} {G : List pE} (hI : xI x_tb th G) (tx : th[ax]? = some 9) (t1 : th[tp]? = some 7) (tb : th[b]? = some 28) (ta : th[am]? = some 10) (tm : th[mb]? = some 35) (p0 : x_sl G ax 0 = some (.ref tp)) (p3 : x_sl G tp 0 = some (.ref b)) (pm : x_sl G am 1 = some (.ref mb)) (hB : ∀ i, i < 940 → x_sl G b i = x_sl G mb i) (hs : x_sl G tp 1 = some (.int sz)) (hm : x_sl G am 2 = some (.int sz)) : x_Gd xs L J (d + 132) m_136 (fun r G' => ∃ y q : Int32, r = some (.int y) ∧ x_sl G' ax 17 = some (.int q) ∧ ∀ G2 : List pE, xI x_tb th G2 → (∀ c t i : Nat, th[c]? = some t → (t = 10 ∨ t = 35) → x_sl G2 c i = x_sl G c i) → z_AS th am y q G2) 0 (lv_args 0 [.ref ax]) [] G := by
  have g0 : pm_get (lv_args 0 [.ref ax]) 0 = some (.ref ax) := rfl
  generalize lv_args 0 [.ref ax] = lv at g0 ⊢
  have hr : 0 ≤ sz.toInt ∧ sz.toInt ≤ 940 := y_fie (i := 1) (t := 7) hI t1 rfl hs
  obtain ⟨f, hf⟩ := y_iarr (t := 28) (n := 940) hI tb rfl rfl
  have hfb : ∀ i, i < 940 → -128 ≤ (f i).toInt ∧ (f i).toInt ≤ 127 := fun i hi => y_fie (t := 28) hI tb (by rw [show (x_tb 28).2.2.2 = [(940, ((0 : Nat), (-128 : Int), (127 : Int)))] from rfl]; exact y_one hi) (hf i hi)
  obtain ⟨lim, nx, tk, pl, num, nm, ft, fp, hC⟩ := s_TC hI t1 tb p3 hf hs
  obtain ⟨n2, lim2, p2, tok, at9, sp, mu, wd, hM⟩ := s_TM hI ta tm pm (fun i hi => (hB i hi).symm.trans (hf i hi))
  obtain ⟨c6, k6, t6⟩ := y_fref (i := 6) (u := 6) hI tx rfl
  obtain ⟨c7, k7, t7⟩ := y_fref (i := 7) (u := 6) hI tx rfl
  -- up to the kind of FAULT
  have head : ∀ (y0 q : Int32) (C : List pE → Prop) {K : Option Value → List pE → Prop}, (∀ G1, C G1 → x_sl G1 tp 8 = some (.int q)) → x_Gd xs L J (d + 131) m_137 (fun r G' => r = some (.int y0) ∧ C G') 0 (lv_args 0 [.ref c7, .ref tp]) [] G → (∀ (G1 G4 : List pE) (lv : pL), C G1 → x_sl G4 ax 17 = some (.int q) → xI x_tb th G4 → x_sl G4 ax 0 = some (.ref tp) → x_sl G4 ax 6 = some (.ref c6) → x_sl G4 ax 7 = some (.ref c7) → x_sl G4 tp 9 = x_sl G1 tp 9 → x_sl G4 c7 5 = x_sl G1 c7 5 → pm_get lv 0 = some (.ref ax) → pm_get lv 1 = some (.int y0) → x_Gd xs L J (d + 132) m_136 K 32 lv [] G4) → x_Gd xs L J (d + 132) m_136 K 0 lv [] G := fun y0 q C K h8 hcall hk => by
    refine y_aln (e_136 (0, .aload_n 0, 1) (List.mem_of_getElem? (i := 0) rfl)) g0 ?_
    refine y_getf hI tx (e_136 (1, .getfield 48, 3) (List.mem_of_getElem? (i := 1) rfl)) u_0_48 ⟨rfl, rfl⟩ k7 ?_
    refine y_aln (e_136 (4, .aload_n 0, 1) (List.mem_of_getElem? (i := 2) rfl)) g0 ?_
    refine y_getf hI tx (e_136 (5, .getfield 10, 3) (List.mem_of_getElem? (i := 3) rfl)) u_0_10 ⟨rfl, rfl⟩ p0 ?_
    refine y_c2 (K' := _) (e_136 (8, .invokevirtual 354, 3) (List.mem_of_getElem? (i := 4) rfl)) ⟨rfl, rfl, rfl⟩ t_0_354 ⟨by decide, by decide, by decide, by decide⟩ m_137_ok rfl (by decide) (y_recv hI t7 ⟨rfl, rfl⟩) (Nat.le_of_ble_eq_true rfl) (Nat.le_of_ble_eq_true rfl) (hcall.and (((h_130 th xs L J).gd (G := G) (d := d + 131) m_137_ok (by omega) (v := y_v [(c7 : Int), (tp : Int)]) (as := [.ref c7, .ref tp]) (y_v_Bd (List.forall_mem_cons.mpr ⟨(y_cellB hI t7), (List.forall_mem_cons.mpr ⟨(y_cellB hI t1), (fun _ h => absurd h List.not_mem_nil)⟩)⟩)) (fun _ h => absurd h List.not_mem_nil) ⟨⟨c7, rfl, (by simp only [xl_ev, xt_ev, y_v, List.getD_cons_succ, List.getD_cons_zero]; omega), t7⟩, ⟨tp, rfl, (by simp only [xl_ev, xt_ev, y_v, List.getD_cons_succ, List.getD_cons_zero]; omega), t1⟩, trivial⟩ (fun q hq => absurd hq List.not_mem_nil) hI (fun z => by cases z)))) (fun r1 G1 hc1 => ?_)
    obtain ⟨⟨rfl, hC1⟩, v1, -, -, hI1, ef1, -⟩ := hc1
    simp only [Option.toList_some, Option.toList_none, List.cons_append, List.nil_append]
    have q0 : x_sl G1 ax 0 = some (.ref tp) := by rw [ef1.at tx (by decide +kernel)]; exact p0
    have q6 : x_sl G1 ax 6 = some (.ref c6) := by rw [ef1.at tx (by decide +kernel)]; exact k6
    have q7 : x_sl G1 ax 7 = some (.ref c7) := by rw [ef1.at tx (by decide +kernel)]; exact k7
    refine y_isn (e_136 (11, .istore_n 1, 1) (List.mem_of_getElem? (i := 5) rfl)) (by decide) ?_
    have g0' : pm_get (pm_put1 lv 1 (.int y0)) 0 = some (.ref ax) := y_gpr g0 (by decide)
    have g1' : pm_get (pm_put1 lv 1 (.int y0)) 1 = some (.int y0) := x_get_self
    change x_Gd _ _ _ _ _ _ _ (pm_put1 lv 1 (.int y0)) _ _
    generalize pm_put1 lv 1 (.int y0) = lv at g0' g1' ⊢
    refine y_aln (e_136 (12, .aload_n 0, 1) (List.mem_of_getElem? (i := 6) rfl)) g0' ?_
    refine y_getf hI1 tx (e_136 (13, .getfield 10, 3) (List.mem_of_getElem? (i := 7) rfl)) u_0_10 ⟨rfl, rfl⟩ q0 ?_
    refine y_st (e_136 (16, .iconst 0, 1) (List.mem_of_getElem? (i := 8) rfl)) ⟨rfl, rfl, rfl, rfl⟩ ?_
    refine y_c2 (K' := _) (e_136 (17, .invokevirtual 104, 3) (List.mem_of_getElem? (i := 9) rfl)) ⟨rfl, rfl, rfl⟩ t_0_104 ⟨by decide, by decide, by decide, by decide⟩ m_15_ok rfl (by decide) (y_recv hI1 t1 ⟨rfl, rfl⟩) (Nat.le_of_ble_eq_true rfl) (Nat.le_of_ble_eq_true rfl) (((h_8 th xs L J).gd (G := G1) (d := d + 131) m_15_ok (by omega) (v := y_v [(tp : Int), (Int32.ofInt 0).toInt]) (as := [.ref tp, .int (Int32.ofInt 0)]) (y_v_Bd (List.forall_mem_cons.mpr ⟨(y_cellB hI1 t1), (List.forall_mem_cons.mpr ⟨(x_i32 (Int32.ofInt 0)), (fun _ h => absurd h List.not_mem_nil)⟩)⟩)) (fun _ h => absurd h List.not_mem_nil) ⟨⟨tp, rfl, (by simp only [xl_ev, xt_ev, y_v, List.getD_cons_succ, List.getD_cons_zero]; omega), t1⟩, ⟨Int32.ofInt 0, rfl, (by simp only [xl_ev, xt_ev, y_v, List.getD_cons_succ, List.getD_cons_zero]; omega)⟩, trivial⟩ (fun q hq => absurd hq List.not_mem_nil) hI1 (fun z => by cases z))) (fun r1 G2 h2 => ?_)
    obtain ⟨v2, -, -, hI2, ef2, p, hp, -, -, pa⟩ := h2
    obtain rfl : p = _ := List.mem_singleton.mp hp
    obtain ⟨z, rfl, -⟩ := y_pI pa
    simp only [Option.toList_some, Option.toList_none, List.cons_append, List.nil_append]
    have r0 : x_sl G2 ax 0 = some (.ref tp) := by rw [ef2.at tx (by decide +kernel)]; exact q0
    have r6 : x_sl G2 ax 6 = some (.ref c6) := by rw [ef2.at tx (by decide +kernel)]; exact q6
    have r7 : x_sl G2 ax 7 = some (.ref c7) := by rw [ef2.at tx (by decide +kernel)]; exact q7
    have r8 : x_sl G2 tp 8 = some (.int q) := by rw [ef2.at t1 (by decide +kernel)]; exact h8 G1 hC1
    refine y_st (e_136 (20, .pop, 1) (List.mem_of_getElem? (i := 10) rfl)) ⟨rfl, rfl, rfl, rfl⟩ ?_
    refine y_aln (e_136 (21, .aload_n 0, 1) (List.mem_of_getElem? (i := 11) rfl)) g0' ?_
    refine y_aln (e_136 (22, .aload_n 0, 1) (List.mem_of_getElem? (i := 12) rfl)) g0' ?_
    refine y_getf hI2 tx (e_136 (23, .getfield 10, 3) (List.mem_of_getElem? (i := 13) rfl)) u_0_10 ⟨rfl, rfl⟩ r0 ?_
    refine y_getf hI2 t1 (e_136 (26, .getfield 111, 3) (List.mem_of_getElem? (i := 14) rfl)) u_0_111 ⟨rfl, rfl⟩ r8 ?_
    refine y_putf (f := (0, -2147483648, 2147483647)) hI2 tx (e_136 (29, .putfield 90, 3) (List.mem_of_getElem? (i := 15) rfl)) u_0_90 ⟨rfl, rfl, by decide, rfl, rfl⟩ ⟨_, rfl, (x_i32 _).1, (x_i32 _).2⟩ (fun G4 u4 => ?_)
    have n1 : tp ≠ ax := fun z => by rw [z, tx] at t1; cases t1
    have n7 : c7 ≠ ax := fun z => by rw [z, tx] at t7; cases t7
    exact hk G1 G4 lv hC1 (by rw [u4.2.1, if_pos ⟨rfl, rfl⟩]) (hI2.upd u4 tx (y_okA rfl)) (by rw [u4.2.1, if_neg (fun z => absurd z.2 (by decide))]; exact r0) (by rw [u4.2.1, if_neg (fun z => absurd z.2 (by decide))]; exact r6) (by rw [u4.2.1, if_neg (fun z => absurd z.2 (by decide))]; exact r7) (by rw [u4.2.1, if_neg (fun z => n1 z.1), ef2.at t1 (by decide +kernel)]) (by rw [u4.2.1, if_neg (fun z => n7 z.1), ef2.at t7 (by decide +kernel)]) g0' g1'
  rcases p_sent hr hfb num nm mu wd with ⟨q, p9, hc, hmo⟩ | ⟨on, hc, hmo⟩
  · refine head 0 q (fun G1 => x_sl G1 tp 8 = some (.int q) ∧ x_sl G1 tp 9 = some (.int p9)) (fun G1 z => z.1) (hc _ _ _ _ _ _ _ _ _ _ _ _ _ _ (d + 99) _ hC t7) (fun G1 G4 lv hC1 z17 hI4 z0 z6 z7 z9 z5 g0 g1 => ?_)
    refine y_iln (e_136 (32, .iload_n 1, 1) (List.mem_of_getElem? (i := 16) rfl)) g1 ?_
    refine y_ifc (e_136 (33, .ifCond .ne 13, 3) (List.mem_of_getElem? (i := 17) rfl)) rfl (fun hb => absurd hb (by decide)) (fun _ => ?_)
    refine y_st (e_136 (36, .iconst (-1), 1) (List.mem_of_getElem? (i := 18) rfl)) ⟨rfl, rfl, rfl, rfl⟩ ?_
    refine y_aln (e_136 (37, .aload_n 0, 1) (List.mem_of_getElem? (i := 19) rfl)) g0 ?_
    refine y_getf hI4 tx (e_136 (38, .getfield 10, 3) (List.mem_of_getElem? (i := 20) rfl)) u_0_10 ⟨rfl, rfl⟩ z0 ?_
    refine y_getf hI4 t1 (e_136 (41, .getfield 114, 3) (List.mem_of_getElem? (i := 21) rfl)) u_0_114 ⟨rfl, rfl⟩ (z9.trans hC1.2) ?_
    refine y_st (e_136 (44, .isub, 1) (List.mem_of_getElem? (i := 22) rfl)) ⟨rfl, rfl, rfl, rfl⟩ ?_
    exact y_ret (e_136 (45, .ireturn, 1) (List.mem_of_getElem? (i := 23) rfl)) ⟨rfl, y_ri⟩ ⟨_, q, rfl, z17, fun G2 hI2 hs2 xs L J d hd => by
      obtain ⟨d, rfl⟩ : ∃ k, d = k + 3 := ⟨d - 3, by omega⟩
      exact hmo _ _ _ _ _ _ _ _ _ _ _ _ _ _ _ (hM.same hI2 hs2) ((hs2 am 10 2 ta (Or.inl rfl)).trans hm)⟩
  · refine head 1 (Int32.ofInt 0) (fun G1 => x_sl G1 tp 8 = some (.int (Int32.ofInt 0)) ∧ x_sl G1 c7 5 = some (.int (Int32.ofNat on))) (fun G1 z => z.1) (hc _ _ _ _ _ _ _ _ _ _ _ _ _ _ (d + 99) _ hC t7) (fun G1 G4 lv hC1 z17 hI4 z0 z6 z7 z9 z5 g0 g1 => ?_)
    refine y_iln (e_136 (32, .iload_n 1, 1) (List.mem_of_getElem? (i := 16) rfl)) g1 ?_
    refine y_ifc (e_136 (33, .ifCond .ne 13, 3) (List.mem_of_getElem? (i := 17) rfl)) rfl (fun _ => ?_) (fun hb => absurd hb (by decide))
    refine y_aln (e_136 (46, .aload_n 0, 1) (List.mem_of_getElem? (i := 24) rfl)) g0 ?_
    refine y_getf hI4 tx (e_136 (47, .getfield 44, 3) (List.mem_of_getElem? (i := 25) rfl)) u_0_44 ⟨rfl, rfl⟩ z6 ?_
    refine y_aln (e_136 (50, .aload_n 0, 1) (List.mem_of_getElem? (i := 26) rfl)) g0 ?_
    refine y_getf hI4 tx (e_136 (51, .getfield 48, 3) (List.mem_of_getElem? (i := 27) rfl)) u_0_48 ⟨rfl, rfl⟩ z7 ?_
    refine y_c2 (K' := _) (e_136 (54, .invokevirtual 358, 3) (List.mem_of_getElem? (i := 28) rfl)) ⟨rfl, rfl, rfl⟩ t_0_358 ⟨by decide, by decide, by decide, by decide⟩ m_145_ok rfl (by decide) (y_recv hI4 t6 ⟨rfl, rfl⟩) (Nat.le_of_ble_eq_true rfl) (Nat.le_of_ble_eq_true rfl) (s_copy (d := d + 130) hI4 t6 t7 (z5.trans hC1.2)) (fun r1 G5 hc1 => ?_)
    obtain ⟨rfl, y5, hI5, ef5⟩ := hc1
    simp only [Option.toList_some, Option.toList_none, List.cons_append, List.nil_append]
    refine y_aln (e_136 (57, .aload_n 0, 1) (List.mem_of_getElem? (i := 29) rfl)) g0 ?_
    refine y_getf hI5 tx (e_136 (58, .getfield 44, 3) (List.mem_of_getElem? (i := 30) rfl)) u_0_44 ⟨rfl, rfl⟩ (by rw [ef5.at tx (by decide +kernel)]; exact z6) ?_
    refine y_getf hI5 t6 (e_136 (61, .getfield 361, 3) (List.mem_of_getElem? (i := 31) rfl)) u_0_361 ⟨rfl, rfl⟩ y5 ?_
    exact y_ret (e_136 (64, .ireturn, 1) (List.mem_of_getElem? (i := 32) rfl)) ⟨rfl, y_ri⟩ ⟨_, _, rfl, by rw [ef5.at tx (by decide +kernel)]; exact z17, fun G2 hI2 hs2 xs L J d hd => by
      obtain ⟨d, rfl⟩ : ∃ k, d = k + 3 := ⟨d - 3, by omega⟩
      exact hmo _ _ _ _ _ _ _ _ _ _ _ _ _ _ _ (hM.same hI2 hs2) ((hs2 am 10 2 ta (Or.inl rfl)).trans hm)⟩
end S9
