theorem t_0_124 : pm_ctab.find? (fun r => r.1 == 0 && r.2.1 == 124) = some (0, 124, 1, 74, 801) := by decide +kernel
theorem t_18_43 : pm_ctab.find? (fun r => r.1 == 18 && r.2.1 == 43) = some (18, 43, 1, 183, 1559) := by decide +kernel
def d_155 : xD := [(0, .aload_n 0, 1), (1, .getfield 26, 3), (4, .iload_n 1, 1), (5, .invokevirtual 124, 3), (8, .ifCond .eq 13, 3), (11, .iload_n 2, 1), (12, .ifCond .lt 9, 3), (15, .iload_n 2, 1), (16, .bipush 7, 2), (18, .if_icmp .le 13, 3), (21, .new 127, 3), (24, .dup, 1), (25, .ldc 129, 2), (27, .invokespecial 131, 3), (30, .athrow, 1), (31, .aload_n 0, 1), (32, .getfield 26, 3), (35, .getfield 134, 3), (38, .iload_n 1, 1), (39, .aaload, 1), (40, .astore_n 3, 1), (41, .iload_n 2, 1), (42, .tableswitch 85 0 6 #[42, 47, 52, 57, 62, 67, 80], 42), (84, .aload_n 3, 1), (85, .getfield 138, 3), (88, .ireturn, 1), (89, .aload_n 3, 1), (90, .getfield 141, 3), (93, .ireturn, 1), (94, .aload_n 3, 1), (95, .getfield 144, 3), (98, .ireturn, 1), (99, .aload_n 3, 1), (100, .getfield 147, 3), (103, .ireturn, 1), (104, .aload_n 3, 1), (105, .getfield 150, 3), (108, .ireturn, 1), (109, .aload_n 3, 1), (110, .getfield 153, 3), (113, .ifCond .eq 7, 3), (116, .iconst 1, 1), (117, .goto 4, 3), (120, .iconst 0, 1), (121, .ireturn, 1), (122, .aload_n 3, 1), (123, .getfield 156, 3), (126, .ireturn, 1), (127, .aload_n 3, 1), (128, .getfield 159, 3), (131, .ireturn, 1)]
set_option maxRecDepth 100000 in
theorem d_155_ok : x_dchk 155 d_155 = true := by decide +kernel
def m_155 : pM := (⟨"BreathingHill", "thing", "(II)I"⟩, 1225, 4, some (FieldType.int), 0, 2, false, 9, 91, 1223, 1224)
set_option maxRecDepth 100000 in
theorem m_155_ok : pm_tab[155]? = some m_155 := rfl
theorem e_155 : ∀ q ∈ d_155, decode m_155.code q.1 = .ok (q.2.1, q.2.2) := y_dec d_155_ok m_155_ok
def m_74 : pM := (⟨"BreathingHill$Hill", "hasThing", "(I)Z"⟩, 804, 2, some (FieldType.boolean), 4, 1, false, 0, 96, 802, 803)
set_option maxRecDepth 100000 in
theorem m_74_ok : pm_tab[74]? = some m_74 := rfl
theorem e_74 : ∀ q ∈ d_74, decode m_74.code q.1 = .ok (q.2.1, q.2.2) := y_dec d_74_ok m_74_ok
def sg_tx31_ns : List xN := []
def sg_tx31_os : List xN := []
def sg_tx31_g : xG := ([([(1, 1)], 0), ([(1, -1)], 7), ([(2, 1)], 0), ([(2, -1)], 7)], [(0, (19, ([(0, 1)], 0))), (1, (0, ([(1, 1)], 0))), (2, (0, ([(2, 1)], 0)))], [], [], 3)
def sg_tx31_ps : List xP := [(some (0, ([(3, 1)], 0)), [], [])]
set_option maxRecDepth 100000 in
set_option maxHeartbeats 4000000 in
theorem sg_tx31_ok : x_seg x_tb [] m_155 d_155 [] 3 sg_tx31_ps sg_tx31_ns sg_tx31_os 23 false 31 sg_tx31_g = true := by decide +kernel
set_option maxRecDepth 100000 in
theorem sg_tx31_go {th : List Nat} {xs : Nat → Int32} {L J d : Nat} {K : Option Value → List pE → Prop} (hd : 0 ≤ d) {v : Nat → Int} {lv : pL} {ws : List Value} {G0 G : List pE} (hS : x_S x_tb th v sg_tx31_g lv ws G) (hE : x_eff th [] G0 G) (hK : ∀ r G', x_Post x_tb th [] sg_tx31_ps 3 v G0 r G' → K r G') (hO : ∀ n ∈ sg_tx31_os, ∀ (vn : Nat → Int) (lv : pL) (G1 : List pE), x_ag 3 v vn → x_S x_tb th vn (n.2.2.2.1, n.2.1, [], n.2.2.1, n.2.2.2.2.1) lv [] G1 → x_eff th [] G0 G1 → x_Gd xs L J (d + 1) m_155 K n.1 lv [] G1) : x_Gd xs L J (d + 1) m_155 K 31 lv ws G :=
  x_seg_ok (dm := 0) x_tb_wf ⟨rfl, rfl, rfl⟩ e_155 (fun _ h => absurd h List.not_mem_nil) hd sg_tx31_ok hS hE (fun z => by cases z) hK hO
-- ===== cells behind the pure ones =====
theorem pm_v_up (o : Om) (j : Nat) : pm_v (o.up j) = pm_v o := funext fun v => by cases v <;> rfl
theorem pm_l_up (o : Om) (j : Nat) (lv : pL) : pm_l (o.up j) lv = pm_l o lv := by
  unfold pm_l
  rw [pm_v_up]
theorem pm_e_up (o : Om) (j : Nat) (e : pE) : pm_e (o.up j) e = pm_e o e := by
  rcases e with ⟨t, n, a⟩ | ⟨c, fs⟩
  · rcases a with g | g | g | g | g <;> rfl
  · show (Sum.inr (c, fs.map (pm_v (o.up j))) : va_E) = Sum.inr (c, fs.map (pm_v o))
    rw [pm_v_up]
theorem pm_w_up (o : Om) (j : Nat) : ∀ (G : List pE) (b : Nat), pm_w (o.up j) b G = pm_w o b G
  | [], _ => rfl
  | e :: es, b => by rw [pm_w, pm_w, pm_w_up o j es, pm_e_up]
theorem pm_W.grow {o : Om} {G : List pE} {H H1 : Heap} (h : pm_W o G H) (hz : H.size ≤ H1.size) (ho : ∀ q : Nat, q < H.size → H1[q]? = H[q]?) : ∃ j, pm_W (o.up j) G H1 := by
  have h2 := h.2.1
  refine ⟨H1.size - (o.B + G.length), ?_, ?_, fun q hq => ?_, h.2.2.2⟩
  · show va_P (o.dC, o.dI) vwCl (pm_w (o.up _) o.B G) H1
    rw [pm_w_up]
    exact h.1.kept (fun k q hk => ho q.1 (h.1 k q hk).lt)
  · show H1.size = o.B + G.length + (H1.size - (o.B + G.length))
    omega
  · have hq : q < o.B := hq
    show H1[q]? = o.H0[q]?
    rw [ho q (by omega)]
    exact h.2.2.1 q hq
-- ===== what a throw needs of the tables =====
def k_ok (w : Cond) : Bool := match w with
  | .declares _ => true
  | .castable _ _ => true
  | w => goodWord w
theorem k_ok_at {args a' : Array Value} {s U : State} (hW : s.WarmedH U.vm) {w : Cond} (hg : k_ok w = true) (h : w.before args s = true) : w.before a' U = true := by
  by_cases hn : goodWord w = true
  · exact word_at hW (good_of_word hn) h
  · unfold k_ok at hg
    split at hg
    · exact va_Nw.use rfl (va_Nw.warmD hW (va_Nw.of rfl h))
    · exact va_Nw.use rfl (va_Nw.warmC hW (va_Nw.of rfl h))
    · exact absurd hg hn
def k_E : String := "java/util/NoSuchElementException"
def k_ns : List String := ["java/lang/Exception"]
def k_wX : List Cond := (k_at "BreathingHill" 131 k_E "java/lang/RuntimeException" 13 prog_22_method_4_code k_ns).filter vx_no
theorem k_wX_ok : ∀ w ∈ k_wX, k_ok w = true := by decide +kernel
theorem k_wX_ot : ∀ w ∈ Cond.classLink "BreathingHill" 127 k_E :: Cond.initialized k_E :: (k_at "BreathingHill" 131 k_E "java/lang/RuntimeException" 13 prog_22_method_4_code k_ns).filter vx_no, vx_ot w = true := by decide +kernel
theorem k_wX_in : ∀ w ∈ k_wX, w ∈ lw_tbl := by decide +kernel
theorem k_wX_c : Cond.castable k_E k_E ∈ k_wX := by decide +kernel
theorem k_in1 : Cond.classLink "BreathingHill" 127 k_E ∈ lw_tbl := by decide +kernel
theorem k_in2 : Cond.initialized k_E ∈ lw_tbl := by decide +kernel
theorem k_in3 : Cond.classLink "BreathingHillLaw" 13 k_E ∈ lw_tbl := by decide +kernel
theorem k_wd {o : Om} {s : State} (hK : pm_K o s) {w : Cond} (hi : w ∈ lw_tbl) (hg : pm_good w = true) (args : Array Value) : w.before args s = true := pm_good_at (State.WarmedH.refl s) hg (hK.1 w hi hg)
def k_X (o : Om) (U : State) : Prop := (∀ w ∈ k_wX, w.before #[] U = true) ∧ vx_Zq Bundle.tN "UNASSIGNED_STACK" Bundle.steD o.A U o.H0 ∧ vx_Zq Bundle.tN "SUPPRESSED_SENTINEL" Bundle.listD o.A U o.H0 ∧ ∃ sa, vk_R "BreathingHill" 129 "no such thing" sa U
theorem k_X.warm {o : Om} {s U : State} (hW : s.WarmedH U.vm) (h : k_X o s) : k_X o U := by
  obtain ⟨h1, h2, h3, sa, h4⟩ := h
  exact ⟨fun w hw => k_ok_at hW (k_wX_ok w hw) (h1 w hw), h2.moved hW.alike, h3.moved hW.alike, sa, h4.warm hW⟩
theorem k_X.calling {o : Om} {U : State} {g : JFrame} {mk : MethodId} {a : Array Value} (h : k_X o U) : k_X o (U.calling g mk a) := k_X.warm (s := U) (U := U.calling g mk a) (State.WarmedH.refl U) h
theorem k_X.up {o : Om} {s : State} (h : k_X o s) (j : Nat) : k_X (o.up j) s := h
def k_Pc (o : Om) (as : List Value) (G : List pE) : Array Value → State → Prop := fun a U => a = (as.map (pm_v o)).toArray ∧ pm_K o U ∧ k_X o U ∧ pm_W o G U.heap
theorem k_blind (o : Om) (as : List Value) (G : List pE) : FrameBlind (k_Pc o as G) := fun a U g mk ⟨h1, h2, hx, h3⟩ => ⟨h1, h2.calling, hx.calling, h3⟩
def k_Q (o : Om) (sz : Int32) (H : Heap) : Prop := ∃ j G', z_IN th0 0 349 G' sz sz ∧ pm_W (o.up j) G' H
def k_Qc (o : Om) (sz : Int32) : Array Value → State → Outcome → State → Prop := fun _ _ oc t => (∃ x : Int32, oc = .returned (some (.int x))) ∧ k_Q o sz t.heap
def k_XC (o : Om) (sz : Int32) : String → State → State → Prop := fun E _ t => E = k_E ∧ k_Q o sz t.heap
section KT
variable {p : Program} {l : Launch} {e : Env} {R : Room} {s : State} {m : MethodId} {args : Array Value} {below : List Frame} {meth : Method} {c : Code} {o : Om} {lv : pL} {G : List pE} {x1 x2 sz : Int32}
theorem l_getf {Q : State → Prop} {M : pM} {pc cs ss a t k : Nat} {st : List Value} {th : List Nat} {q : Nat × Nat × Nat × Nat × Nat × Nat} {v : Value} (hF : pm_Fix p s m meth c M) (hK : pm_K o s) (hR : cs ≤ R.cells ∧ ss ≤ R.slots) (hI : xI x_tb th G) (ha : th[a]? = some t) (hd : decode M.code pc = .ok (Instr.getfield k, 3)) (hq : pm_ftab.find? (fun r => r.1 == M.own && r.2.1 == k) = some q) (ht : (x_tb t).1 = 0 ∧ (x_tb t).2.1 = q.2.2.1) (hv : x_sl G a q.2.2.2.1 = some v) (kk : PW p l e R s m args below meth c Q o M (pc + 3) lv (v :: st) G cs ss) : PW p l e R s m args below meth c Q o M pc lv (.ref a :: st) G cs ss := by
  obtain ⟨e0, he, hs⟩ := (hI.2.2 a t ha).1
  obtain ⟨fs, rfl, -⟩ := x_obj hs ht.1
  have h2 := (hI.cell ha).2.1
  have hv' : fs[q.2.2.2.1]? = some v := by
    unfold x_sl at hv
    rw [he] at hv
    exact hv
  refine l_s0 hF hK hR hd ⟨rfl, ?_⟩ kk
  dsimp only [pm_step]
  rw [h2]
  rw [if_neg (by decide), hq]
  dsimp only
  rw [he]
  dsimp only
  rw [if_pos ht.2, hv']
theorem l_iln {Q : State → Prop} {M : pM} {pc cs ss : Nat} {st : List Value} {j : Fin 4} {x : Int32} (hF : pm_Fix p s m meth c M) (hK : pm_K o s) (hR : cs ≤ R.cells ∧ ss ≤ R.slots) (hd : decode M.code pc = .ok (Instr.iload_n j, 1)) (hg : pm_get lv (j : Nat) = some (.int x)) (kk : PW p l e R s m args below meth c Q o M (pc + 1) lv (.int x :: st) G cs ss) : PW p l e R s m args below meth c Q o M pc lv st G cs ss := l_s0 hF hK hR hd ⟨rfl, by dsimp only [pm_step]; rw [hg]⟩ kk
set_option maxHeartbeats 4000000 in
set_option maxRecDepth 100000 in
/-- it answers -/
theorem k_th31 (hF : pm_Fix p s m meth c m_155) (hK : pm_K o s) (hR : 319 ≤ R.frames ∧ 28 * 319 ≤ R.locals ∧ 1 ≤ R.cells ∧ 6 ≤ R.slots) (h : z_IN th0 0 349 G sz sz) (g0 : pm_get lv 0 = some (.ref 0)) (g1 : pm_get lv 1 = some (.int x1)) (g2 : pm_get lv 2 = some (.int x2)) (a1 : 0 ≤ x1.toInt ∧ x1.toInt ≤ 7) (a2 : 0 ≤ x2.toInt ∧ x2.toInt ≤ 7) : PW p l e R s m args below meth c (vx_MQ below (k_Qc o sz) (k_XC o sz) args s 1 6 (fun q => o.B ≤ q)) o m_155 31 lv [] G 0 0 := by
  have key : x_Gd o.xs o.L o.J (318 + 1) m_155 (fun r G' => (∃ y : Int32, r = some (.int y)) ∧ z_IN th0 0 349 G' sz sz) 31 lv [] G := by
    refine sg_tx31_go (th := th0) (d := 318) (Nat.zero_le _) (v := y_v [(0 : Int), x1.toInt, x2.toInt]) (G0 := G) (G := G) ⟨y_v_Bd (List.forall_mem_cons.mpr ⟨(by decide), (List.forall_mem_cons.mpr ⟨(x_i32 x1), (List.forall_mem_cons.mpr ⟨(x_i32 x2), (fun _ h => absurd h List.not_mem_nil)⟩)⟩)⟩), (List.forall_mem_cons.mpr ⟨(by simp only [xl_ev, xt_ev, y_v, List.getD_cons_succ, List.getD_cons_zero]; omega), (List.forall_mem_cons.mpr ⟨(by simp only [xl_ev, xt_ev, y_v, List.getD_cons_succ, List.getD_cons_zero]; omega), (List.forall_mem_cons.mpr ⟨(by simp only [xl_ev, xt_ev, y_v, List.getD_cons_succ, List.getD_cons_zero]; omega), (List.forall_mem_cons.mpr ⟨(by simp only [xl_ev, xt_ev, y_v, List.getD_cons_succ, List.getD_cons_zero]; omega), (fun _ h => absurd h List.not_mem_nil)⟩)⟩)⟩)⟩), (List.forall_mem_cons.mpr ⟨⟨_, g0, 0, rfl, (by simp only [xl_ev, xt_ev, y_v, List.getD_cons_succ, List.getD_cons_zero]; omega), th0_tx⟩, (List.forall_mem_cons.mpr ⟨⟨_, g1, x1, rfl, (by simp only [xl_ev, xt_ev, y_v, List.getD_cons_succ, List.getD_cons_zero]; omega)⟩, (List.forall_mem_cons.mpr ⟨⟨_, g2, x2, rfl, (by simp only [xl_ev, xt_ev, y_v, List.getD_cons_succ, List.getD_cons_zero]; omega)⟩, (fun _ h => absurd h List.not_mem_nil)⟩)⟩)⟩), trivial, (fun _ h => absurd h List.not_mem_nil), h.1⟩ x_eff.rf (fun r G' hp => ?_) (fun n hn => absurd hn List.not_mem_nil)
    obtain ⟨v', -, -, hI', ef, p, hp, -, -, pa⟩ := hp
    obtain rfl : p = _ := List.mem_singleton.mp hp
    obtain ⟨y, rfl, -⟩ := y_pI pa
    exact ⟨⟨y, rfl⟩, h.eff th0_tx th0_ta hI' ef (by decide)⟩
  obtain ⟨r, G', ⟨f0, hf0⟩, ⟨y, rfl⟩, h'⟩ := key
  have hrun : pm_run o.xs o.L o.J f0 319 m_155 31 lv [] G 1 6 = some (some (.int y), G', 1, 6) := by
    rw [pm_run_cs, hf0 f0 (Nat.le_refl _)]
    rfl
  obtain ⟨-, -, hP⟩ := pm_run_ok o f0 319 m_155 31 lv [] G 1 6 _ G' 1 6 hrun p l e R s m args below meth c hF hK hR.1 hR.2.1 hR.2.2.1 hR.2.2.2
  intro H locs ls hW hL hl
  refine W.widen (k := 1) (n := 6) (Nat.zero_le _) (Nat.zero_le _) ?_
  refine vx_ret ?_
  intro T hT X
  obtain ⟨t, a1, oc, b1, b2, ⟨b3, b4⟩, b5⟩ := hP H locs ls hW hL hl T hT X
  exact ⟨t, a1, oc, b1, b2, ⟨⟨y, b3⟩, o.J, G', h', b4⟩, b5⟩
set_option maxHeartbeats 4000000 in
set_option maxRecDepth 100000 in
/-- it throws -/
theorem k_th21 {G0 : List pE} (hls : l.stackTraces = false) (hF : pm_Fix p s m meth c m_155) (hK : pm_K o s) (hX : k_X o s) (hnt : ∀ x ∈ c.exceptionTable.toList, False) (hR : 319 ≤ R.frames ∧ 28 * 319 ≤ R.locals ∧ 1 ≤ R.cells ∧ 6 ≤ R.slots) (hW0 : pm_W o G0 s.heap) (hG0 : xI x_tb th0 G0) (h : z_IN th0 0 349 G sz sz) : PW p l e R s m args below meth c (vx_MQ below (k_Qc o sz) (k_XC o sz) args s 1 6 (fun q => o.B ≤ q)) o m_155 21 lv [] G 0 0 := by
  intro H locs ls hW hL hl
  obtain ⟨hX1, hX2, hX3, sa, hX4⟩ := hX
  have hk := fun (a : Nat) (_ : a < o.H0.size) (hA : ¬ o.A a) => hW0.2.2.1 a (Nat.not_le.mp hA)
  have hS : va_S o.A s.heap H locs := by
    refine ⟨?_, fun q hq hA => ?_, hL⟩
    · rw [hW0.2.1, hW.2.1, hG0.1, h.1.1]
      exact Nat.le_refl _
    · rw [hW.2.2.1 q (Nat.not_le.mp hA), hW0.2.2.1 q (Nat.not_le.mp hA)]
  exact k_throwS (cc := m_155.code) (pc := 21) hF.1 hF.2.1 hls (own := "BreathingHill") (cls := k_E) (text := "no such thing") (Y1 := "java/lang/RuntimeException") (names := k_ns) (ik := 127) (is := 129) (ic := 131) (index := 13) (bytes := prog_22_method_4_code) (mc := 1) (ms := 6) (sa := sa) (A := o.A) hF.2.2.2.1 (by decide +kernel) (by decide +kernel) (by decide +kernel) (by decide +kernel) (by decide +kernel) (by decide +kernel) (by decide +kernel) (k_wd hK k_in1 rfl args) (k_wd hK k_in2 rfl args) hX4 (fun w hw => k_ok_at (State.WarmedH.refl s) (k_wX_ok w hw) (hX1 w hw)) k_wX_ot (hX2.kept hk) (hX3.kept hk) hS (hl.1.trans hF.2.2.1.symm) (e_155 (21, .new 127, 3) (List.mem_of_getElem? (i := 10) rfl)) (e_155 (24, .dup, 1) (List.mem_of_getElem? (i := 11) rfl)) (e_155 (25, .ldc 129, 2) (List.mem_of_getElem? (i := 12) rfl)) (e_155 (27, .invokespecial 131, 3) (List.mem_of_getElem? (i := 13) rfl)) (e_155 (30, .athrow, 1) (List.mem_of_getElem? (i := 14) rfl)) (fun x hx => (hnt x hx).elim) (by show 5 < R.frames; omega) (by show 0 + (13 * 3 + 43) ≤ R.locals; omega) hR.2.2.1 hR.2.2.2 hF.2.2.2.2.2.1 (fun t _ hz ho => ⟨rfl, by obtain ⟨j, hj⟩ := hW.grow hz ho; exact ⟨j, G, h, hj⟩⟩) hL (Nat.le_refl _) (Nat.le_refl _)
set_option maxHeartbeats 4000000 in
set_option maxRecDepth 100000 in
theorem k_th0 (hls : l.stackTraces = false) (hF : pm_Fix p s m meth c m_155) (hK : pm_K o s) (hX : k_X o s) (hnt : ∀ x ∈ c.exceptionTable.toList, False) (hR : 319 ≤ R.frames ∧ 28 * 319 ≤ R.locals ∧ 1 ≤ R.cells ∧ 6 ≤ R.slots) (hW0 : pm_W o G s.heap) (h : z_IN th0 0 349 G sz sz) (g0 : pm_get lv 0 = some (.ref 0)) (g1 : pm_get lv 1 = some (.int x1)) (g2 : pm_get lv 2 = some (.int x2)) : PW p l e R s m args below meth c (vx_MQ below (k_Qc o sz) (k_XC o sz) args s 1 6 (fun q => o.B ≤ q)) o m_155 0 lv [] G 0 0 := by
  have hR0 : 0 ≤ R.cells ∧ 0 ≤ R.slots := ⟨Nat.zero_le _, Nat.zero_le _⟩
  have thr : ∀ G1, z_IN th0 0 349 G1 sz sz → PW p l e R s m args below meth c (vx_MQ below (k_Qc o sz) (k_XC o sz) args s 1 6 (fun q => o.B ≤ q)) o m_155 21 lv [] G1 0 0 := fun G1 h1 => k_th21 hls hF hK hX hnt hR hW0 h.1 h1
  obtain ⟨hb, f1, tb⟩ := y_fref (i := 2) (u := 0) h.1 th0_tx rfl
  refine l_aln hF hK hR0 (e_155 (0, .aload_n 0, 1) (List.mem_of_getElem? (i := 0) rfl)) g0 ?_
  refine l_getf hF hK hR0 h.1 th0_tx (e_155 (1, .getfield 26, 3) (List.mem_of_getElem? (i := 1) rfl)) u_0_26 ⟨rfl, rfl⟩ f1 ?_
  refine l_iln hF hK hR0 (e_155 (4, .iload_n 1, 1) (List.mem_of_getElem? (i := 2) rfl)) g1 ?_
  refine l_c2 (d := 318) (K' := _) hF hK hR0 ⟨hR.1, hR.2.1⟩ (e_155 (5, .invokevirtual 124, 3) (List.mem_of_getElem? (i := 3) rfl)) ⟨rfl, rfl⟩ t_0_124 ⟨by decide, by decide, by decide, by decide⟩ (by decide) m_74_ok (by decide) rfl (y_recv h.1 tb ⟨rfl, rfl⟩) (Nat.le_of_ble_eq_true rfl) (Nat.le_of_ble_eq_true rfl) ((h_45 th0 o.xs o.L o.J).gd (G := G) (d := 318) m_74_ok (by decide) (v := y_v [(hb : Int), x1.toInt]) (as := [.ref hb, .int x1]) (y_v_Bd (List.forall_mem_cons.mpr ⟨y_cellB h.1 tb, List.forall_mem_cons.mpr ⟨x_i32 x1, fun _ h => absurd h List.not_mem_nil⟩⟩)) (fun _ h => absurd h List.not_mem_nil) ⟨⟨hb, rfl, (by simp only [xl_ev, xt_ev, y_v, List.getD_cons_succ, List.getD_cons_zero]; omega), tb⟩, ⟨x1, rfl, (by simp only [xl_ev, xt_ev, y_v, List.getD_cons_succ, List.getD_cons_zero]; omega)⟩, trivial⟩ (fun q hq => absurd hq List.not_mem_nil) h.1 (fun z => by cases z)) (fun r1 G1 h1 => ?_)
  obtain ⟨v', ag, -, hI1, ef, pp, hpp, pcs, -, pa⟩ := h1
  have h_1 : z_IN th0 0 349 G1 sz sz := h.eff th0_tx th0_ta hI1 ef (by decide)
  rcases List.mem_cons.mp hpp with rfl | hpp
  · obtain ⟨y, rfl, ey⟩ := y_pI pa
    simp only [Option.toList_some, Option.toList_none, List.cons_append, List.nil_append]
    have e1 : v' 1 = x1.toInt := ag 1 (by decide)
    have q1 := pcs ([(1, 1)], 0) (List.mem_of_getElem? (i := 0) rfl)
    have q2 := pcs ([(1, -1)], 7) (List.mem_of_getElem? (i := 1) rfl)
    simp only [xl_ev, xt_ev, e1] at q1 q2
    refine l_ifc (t := 21) hF hK hR0 (e_155 (8, .ifCond .eq 13, 3) (List.mem_of_getElem? (i := 4) rfl)) rfl (fun _ => thr G1 h_1) (fun _ => ?_)
    refine l_iln hF hK hR0 (e_155 (11, .iload_n 2, 1) (List.mem_of_getElem? (i := 5) rfl)) g2 ?_
    refine l_ifc (t := 21) hF hK hR0 (e_155 (12, .ifCond .lt 9, 3) (List.mem_of_getElem? (i := 6) rfl)) rfl (fun _ => thr G1 h_1) (fun hc => ?_)
    have c1 : (0 : Int32).toInt ≤ x2.toInt := y_hI.2.2.2.2.2.2.2.2.2.1 hc
    refine l_iln hF hK hR0 (e_155 (15, .iload_n 2, 1) (List.mem_of_getElem? (i := 7) rfl)) g2 ?_
    refine l_s0 hF hK hR0 (e_155 (16, .bipush 7, 2) (List.mem_of_getElem? (i := 8) rfl)) ⟨rfl, rfl⟩ ?_
    refine l_icm (t := 31) hF hK hR0 (e_155 (18, .if_icmp .le 13, 3) (List.mem_of_getElem? (i := 9) rfl)) rfl (fun hc => ?_) (fun _ => thr G1 h_1)
    have c2 := y_hI.2.2.2.2.2.2.1 hc
    rw [show ((Int8.ofInt 7).toInt32).toInt = 7 from rfl] at c2
    rw [show (0 : Int32).toInt = 0 from rfl] at c1
    exact k_th31 hF hK hR h_1 g0 g1 g2 ⟨by omega, by omega⟩ ⟨c1, c2⟩
  · obtain rfl : pp = _ := List.mem_singleton.mp hpp
    obtain ⟨y, rfl, ey⟩ := y_pI pa
    simp only [Option.toList_some, Option.toList_none, List.cons_append, List.nil_append]
    have ey : y.toInt = 0 := ey
    refine l_ifc (t := 21) hF hK hR0 (e_155 (8, .ifCond .eq 13, 3) (List.mem_of_getElem? (i := 4) rfl)) rfl (fun _ => thr G1 h_1) (fun hc => ?_)
    have : y ≠ 0 := y_hI.2.1 hc
    exact absurd (Int32.toInt_inj.mp (by rw [ey]; rfl)) this
end KT
set_option maxHeartbeats 4000000 in
set_option maxRecDepth 100000 in
/-- BreathingHill.thing: it answers, or it throws -/
theorem k_thing {l : Launch} (hls : l.stackTraces = false) {o : Om} {G : List pE} {sz : Int32} (h : z_IN th0 0 349 G sz sz) (x1 x2 : Int32) : vx_Met l m_155.y (pm_ws m_155) (pm_rm 319 1 6) (k_Pc o [.ref 0, .int x1, .int x2] G) (k_Qc o sz) (k_XC o sz) 1 6 (fun q => o.B ≤ q) := by
  have hno : m_155.y.cls ≠ "java/lang/Object" := by decide
  obtain ⟨q1, q2, q3, q4, -⟩ := pm_M m_155_ok hno
  refine vx_ofW (cc := m_155.code) (maxL := m_155.maxL) (ret := m_155.ret) q4 rfl ?_
  intro p e s m args below meth c s₁ B hml hnt hv
  obtain ⟨rfl, hK, hX, hW⟩ := hv
  have hown : s.vm.findClass (pm_own m_155.own) = some m.cls := by rw [← q2]; exact findClass_of_methodNamed B.named
  have hF : pm_Fix p s m meth c m_155 := ⟨B.exec, B.bytes, hml, hown, B.returns, B.notSynchronized, (name_of_methodNamed B.named B.method).1⟩
  have hP := k_th0 (p := p) (l := l) (e := e) (R := (headSpec (pm_ws m_155) (pm_rm 319 1 6)).room) (below := below) (args := (([.ref 0, .int x1, .int x2] : List Value).map (pm_v o)).toArray) (lv := lv_args 0 [.ref 0, .int x1, .int x2]) (x1 := x1) (x2 := x2) hls hF hK hX hnt ⟨Nat.le_refl _, Nat.le_refl _, Nat.le_refl _, Nat.le_refl _⟩ hW h rfl rfl rfl
  have hl2 := lv_entry (([.ref 0, .int x1, .int x2] : List Value).map (pm_v o)) (n := m_155.maxL) (by rw [pm_sl_len]; exact Nat.le_of_ble_eq_true rfl)
  rw [lg_entry_eq]
  rw [pm_l_args] at hl2
  exact hP s.heap [] _ hW (fun q hq => by cases hq) hl2
