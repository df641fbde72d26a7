def m_11 : pM := (⟨"BreathingHill", "feed", "(IIIII)I"⟩, 519, 6, some (FieldType.int), 0, 5, false, 9, 91, 517, 518)
set_option maxRecDepth 100000 in
theorem m_11_ok : pm_tab[11]? = some m_11 := rfl
theorem e_11 : ∀ q ∈ d_11, decode m_11.code q.1 = .ok (q.2.1, q.2.2) := y_dec d_11_ok m_11_ok
def m_12 : pM := (⟨"BreathingHill$Tape", "hasRoomFor", "(I)Z"⟩, 523, 2, some (FieldType.boolean), 2, 1, false, 7, 92, 521, 522)
set_option maxRecDepth 100000 in
theorem m_12_ok : pm_tab[12]? = some m_12 := rfl
theorem e_12 : ∀ q ∈ d_12, decode m_12.code q.1 = .ok (q.2.1, q.2.2) := y_dec d_12_ok m_12_ok
def m_13 : pM := (⟨"BreathingHill$Tape", "addNumber", "(I)V"⟩, 527, 3, none, 2, 1, false, 7, 92, 525, 526)
set_option maxRecDepth 100000 in
theorem m_13_ok : pm_tab[13]? = some m_13 := rfl
theorem e_13 : ∀ q ∈ d_13, decode m_13.code q.1 = .ok (q.2.1, q.2.2) := y_dec d_13_ok m_13_ok
def m_156 : pM := (⟨"BreathingHillModel", "feed", "(IIIII)I"⟩, 1294, 6, some (FieldType.int), 17, 5, false, 10, 103, 1292, 1293)
set_option maxRecDepth 100000 in
theorem m_156_ok : pm_tab[156]? = some m_156 := rfl
theorem e_156 : ∀ q ∈ d_156, decode m_156.code q.1 = .ok (q.2.1, q.2.2) := y_dec d_156_ok m_156_ok
def m_157 : pM := (⟨"BreathingHillModel", "four", "(I)V"⟩, 1299, 3, none, 17, 1, false, 10, 103, 1297, 32)
set_option maxRecDepth 100000 in
theorem m_157_ok : pm_tab[157]? = some m_157 := rfl
theorem e_157 : ∀ q ∈ d_157, decode m_157.code q.1 = .ok (q.2.1, q.2.2) := y_dec d_157_ok m_157_ok
theorem u_0_101 : pm_ftab.find? (fun r => r.1 == 0 && r.2.1 == 101) = some (0, 101, 7, 1, 1, 128) := by decide +kernel
theorem t_0_93 : pm_ctab.find? (fun r => r.1 == 0 && r.2.1 == 93) = some (0, 93, 1, 12, 520) := by decide +kernel
theorem t_0_97 : pm_ctab.find? (fun r => r.1 == 0 && r.2.1 == 97) = some (0, 97, 1, 13, 524) := by decide +kernel
theorem t_17_10 : pm_ctab.find? (fun r => r.1 == 17 && r.2.1 == 10) = some (17, 10, 1, 157, 1295) := by decide +kernel
theorem t_bv (x : BitVec 32) (n : Nat) (hn : n ≤ 24) : (x >>> n).signExtend 8 = (x.sshiftRight n).signExtend 8 := by
  rw [BitVec.signExtend_eq_setWidth_of_le _ (by decide), BitVec.signExtend_eq_setWidth_of_le _ (by decide)]
  apply BitVec.eq_of_getLsbD_eq
  intro i hi
  simp only [BitVec.getLsbD_setWidth, BitVec.getLsbD_ushiftRight, BitVec.getLsbD_sshiftRight]
  have h1 : ¬ (32 ≤ i) := by omega
  have h2 : n + i < 32 := by omega
  simp [h1, h2]
/-- a byte of a number -/
def t_by (x s : Int32) : Int32 := vp_nar .byte ((x >>> (s &&& 31)).toInt8.toInt32)
theorem t_by_le (x s : Int32) : -128 ≤ (t_by x s).toInt ∧ (t_by x s).toInt ≤ 127 := by
  unfold t_by
  rw [vp_nar_byte]
  exact x_i2b_le _
theorem t_by24 (x : Int32) : vp_nar .byte ((x.toUInt32 >>> ((Int32.ofInt 24).toUInt32 &&& Int32.toUInt32 31)).toInt32.toInt8.toInt32) = t_by x (Int32.ofInt 24) := by
  unfold t_by
  have e : (x.toUInt32 >>> ((Int32.ofInt 24).toUInt32 &&& Int32.toUInt32 31)).toInt32.toInt8 = (x >>> ((Int32.ofInt 24) &&& 31)).toInt8 := by
    apply Int8.toBitVec_inj.mp
    rw [Int32.toBitVec_toInt8, Int32.toBitVec_toInt8, UInt32.toBitVec_toInt32, UInt32.toBitVec_shiftRight, Int32.toBitVec_shiftRight]
    exact t_bv x.toBitVec 24 (by decide)
  rw [e]
theorem t_by16 (x : Int32) : vp_nar .byte ((x.toUInt32 >>> ((Int32.ofInt 16).toUInt32 &&& Int32.toUInt32 31)).toInt32.toInt8.toInt32) = t_by x (Int32.ofInt 16) := by
  unfold t_by
  have e : (x.toUInt32 >>> ((Int32.ofInt 16).toUInt32 &&& Int32.toUInt32 31)).toInt32.toInt8 = (x >>> ((Int32.ofInt 16) &&& 31)).toInt8 := by
    apply Int8.toBitVec_inj.mp
    rw [Int32.toBitVec_toInt8, Int32.toBitVec_toInt8, UInt32.toBitVec_toInt32, UInt32.toBitVec_shiftRight, Int32.toBitVec_shiftRight]
    exact t_bv x.toBitVec 16 (by decide)
  rw [e]
theorem t_by8 (x : Int32) : vp_nar .byte ((x.toUInt32 >>> ((Int32.ofInt 8).toUInt32 &&& Int32.toUInt32 31)).toInt32.toInt8.toInt32) = t_by x (Int32.ofInt 8) := by
  unfold t_by
  have e : (x.toUInt32 >>> ((Int32.ofInt 8).toUInt32 &&& Int32.toUInt32 31)).toInt32.toInt8 = (x >>> ((Int32.ofInt 8) &&& 31)).toInt8 := by
    apply Int8.toBitVec_inj.mp
    rw [Int32.toBitVec_toInt8, Int32.toBitVec_toInt8, UInt32.toBitVec_toInt32, UInt32.toBitVec_shiftRight, Int32.toBitVec_shiftRight]
    exact t_bv x.toBitVec 8 (by decide)
  rw [e]
theorem t_by0 (x : Int32) : vp_nar .byte ((x.toUInt32 >>> ((Int32.ofInt 0).toUInt32 &&& Int32.toUInt32 31)).toInt32.toInt8.toInt32) = t_by x (Int32.ofInt 0) := by
  unfold t_by
  have e : (x.toUInt32 >>> ((Int32.ofInt 0).toUInt32 &&& Int32.toUInt32 31)).toInt32.toInt8 = (x >>> ((Int32.ofInt 0) &&& 31)).toInt8 := by
    apply Int8.toBitVec_inj.mp
    rw [Int32.toBitVec_toInt8, Int32.toBitVec_toInt8, UInt32.toBitVec_toInt32, UInt32.toBitVec_shiftRight, Int32.toBitVec_shiftRight]
    exact t_bv x.toBitVec 0 (by decide)
  rw [e]
def f_wr (g : Nat → Option Value) (n : Nat) (v : Int32) (i : Nat) : Option Value := if i = n then some (.int v) else g i
def f_w4 (g : Nat → Option Value) (n : Nat) (x : Int32) : Nat → Option Value := f_wr (f_wr (f_wr (f_wr g n (t_by x (Int32.ofInt 24))) (n + 1) (t_by x (Int32.ofInt 16))) (n + 2) (t_by x (Int32.ofInt 8))) (n + 3) (t_by x (Int32.ofInt 0))
def f_w20 (g : Nat → Option Value) (n : Nat) (x1 x2 x3 x4 x5 : Int32) : Nat → Option Value := f_w4 (f_w4 (f_w4 (f_w4 (f_w4 g n x1) (n + 4) x2) (n + 8) x3) (n + 12) x4) (n + 16) x5
theorem f_wr_c {g g' : Nat → Option Value} {n i : Nat} {v : Int32} (h : g i = g' i) : f_wr g n v i = f_wr g' n v i := by
  unfold f_wr
  rw [h]
theorem f_w20_c {g g' : Nat → Option Value} {n i : Nat} {x1 x2 x3 x4 x5 : Int32} (h : g i = g' i) : f_w20 g n x1 x2 x3 x4 x5 i = f_w20 g' n x1 x2 x3 x4 x5 i := by
  unfold f_w20 f_w4
  iterate 20 apply f_wr_c
  exact h
theorem t_ad {n : Int32} {k : Int} (h : 0 ≤ n.toInt ∧ n.toInt < 940) (hk : (Int32.ofInt k).toInt = k) (h0 : 0 ≤ k ∧ k ≤ 1000) : (n + Int32.ofInt k).toInt = n.toInt + k := by
  rw [Int32.toInt_add, hk, Jvm.Kit.bmod32 (by omega) (by omega)]
/-- the class's tape -/
def FC (th : List Nat) (tp b : Nat) (G0 : List pE) (n : Int32) (g : Nat → Option Value) (G : List pE) : Prop := xI x_tb th G ∧ th[tp]? = some 7 ∧ th[b]? = some 28 ∧ x_sl G tp 0 = some (.ref b) ∧ x_sl G tp 1 = some (.int n) ∧ (∀ i, x_sl G b i = g i) ∧ ∀ c i, c ≠ tp → c ≠ b → x_sl G c i = x_sl G0 c i
/-- the model's -/
def FM (th : List Nat) (am mb : Nat) (n : Int32) (g : Nat → Option Value) (G : List pE) : Prop := xI x_tb th G ∧ th[am]? = some 10 ∧ th[mb]? = some 35 ∧ x_sl G am 1 = some (.ref mb) ∧ x_sl G am 2 = some (.int n) ∧ ∀ i, x_sl G mb i = g i
section FB
variable {xs : Nat → Int32} {L J d : Nat} {M : pM} {K : Option Value → List pE → Prop} {pc : Nat} {lv : pL} {r : List Value} {th : List Nat} {G G0 G1 : List pE} {tp b am mb : Nat} {n n' : Int32} {g : Nat → Option Value}
theorem y_gpn {lv : pL} {i j : Nat} {x : Int32} {w : Value} (h : pm_get lv j = some (.int x)) (hj : j ≠ i) : pm_get (pm_put1 lv i w) j = some (.int x) := x_get_put h hj (fun z => absurd z.2 (show ¬ (1 : Nat) = 2 by decide))
theorem y_bast {a t : Nat} {j x : Int32} (hI : xI x_tb th G) (ha : th[a]? = some t) (hd : decode M.code pc = .ok (Instr.bastore, 1)) (ht : (x_tb t).1 = 1 ∧ (x_tb t).2.1 = 1) (hj : 0 ≤ j.toInt ∧ j.toInt < (x_tb t).2.2.1) (hk : ∀ G1, x_upd G G1 a j.toInt.toNat (.int (vp_nar .byte x)) → x_Gd xs L J d M K (pc + 1) lv r G1) : x_Gd xs L J d M K pc lv (.int x :: .int j :: .ref a :: r) G := by
  obtain ⟨e, he, hs⟩ := (hI.2.2 a t ha).1
  obtain ⟨f, rfl⟩ := x_arr_int hs ht.1 (by omega)
  rw [ht.2] at he
  obtain ⟨i1, i2⟩ := y_idx (n := (x_tb t).2.2.1) hj.1 hj.2
  have hu := x_upd_int (x := vp_nar .byte x) (i := j.toInt.toNat) he (by omega)
  refine y_st hd ⟨rfl, rfl, rfl, ?_⟩ (hk _ hu)
  dsimp only [pm_step]
  rw [he]
  show (if pm_bad j _ = true then none else some (pc + 1, lv, r, G.set a (.inl (1, _, .inl (upd f j.toNatClampNeg (vp_nar .byte x)))), 0, 0)) = _
  rw [i2, i1]
  rfl
theorem y_arl1 {a t : Nat} (hI : xI x_tb th G) (ha : th[a]? = some t) (hd : decode M.code pc = .ok (Instr.arraylength, 1)) (ht : (x_tb t).1 = 1 ∧ (x_tb t).2.1 = 1) (hk : x_Gd xs L J d M K (pc + 1) lv (.int (Int32.ofNat (x_tb t).2.2.1) :: r) G) : x_Gd xs L J d M K pc lv (.ref a :: r) G := by
  obtain ⟨e, he, hs⟩ := (hI.2.2 a t ha).1
  obtain ⟨f, rfl⟩ := x_arr_int hs ht.1 (by omega)
  have hlt := (List.getElem?_eq_some_iff.mp ha).1
  have hTB := hI.2.1
  have e1 : pm_TB = 1000000 := rfl
  have e2 : pm_SB = 2000000 := rfl
  have e3 : pm_KB = 3000000 := rfl
  have nS : ¬ a = pm_SB := by omega
  have nK : ¬ a = pm_KB := by omega
  refine y_st hd ⟨rfl, rfl, rfl, ?_⟩ hk
  dsimp only [pm_step]
  rw [if_neg nS, if_neg nK, he]
  dsimp only
  rw [if_pos (by omega)]
theorem FC.ub {v : Int32} (h : FC th tp b G0 n g G) {i : Nat} (u : x_upd G G1 b i (.int v)) (hi : i < 940) (hv : -128 ≤ v.toInt ∧ v.toInt ≤ 127) : FC th tp b G0 n (f_wr g i v) G1 := by
  obtain ⟨a1, a2, a3, a4, a5, a6, a7⟩ := h
  have ne : tp ≠ b := fun z => by rw [z, a3] at a2; cases a2
  refine ⟨a1.upd u a3 (y_okI (lo := -128) (hi := 127) (by rw [show (x_tb 28).2.2.2 = [(940, ((0 : Nat), (-128 : Int), (127 : Int)))] from rfl]; exact y_one hi) hv.1 hv.2), a2, a3, by rw [u.2.1, if_neg (fun z => ne z.1)]; exact a4, by rw [u.2.1, if_neg (fun z => ne z.1)]; exact a5, fun j => ?_, fun c j h1 h2 => by rw [u.2.1, if_neg (fun z => h2 z.1)]; exact a7 c j h1 h2⟩
  rw [u.2.1]
  unfold f_wr
  by_cases e : j = i
  · rw [if_pos ⟨rfl, e⟩, if_pos e]
  · rw [if_neg (fun z => e z.2), if_neg e]
    exact a6 j
theorem FC.un (h : FC th tp b G0 n g G) (u : x_upd G G1 tp 1 (.int n')) (hv : 0 ≤ n'.toInt ∧ n'.toInt ≤ 940) : FC th tp b G0 n' g G1 := by
  obtain ⟨a1, a2, a3, a4, a5, a6, a7⟩ := h
  have ne : b ≠ tp := fun z => by rw [z, a2] at a3; cases a3
  exact ⟨a1.upd u a2 (y_okI (lo := 0) (hi := 940) rfl hv.1 hv.2), a2, a3, by rw [u.2.1, if_neg (fun z => absurd z.2 (by decide))]; exact a4, by rw [u.2.1, if_pos ⟨rfl, rfl⟩], fun j => by rw [u.2.1, if_neg (fun z => ne z.1)]; exact a6 j, fun c j h1 h2 => by rw [u.2.1, if_neg (fun z => h1 z.1)]; exact a7 c j h1 h2⟩
theorem FM.ub {v : Int32} (h : FM th am mb n g G) {i : Nat} (u : x_upd G G1 mb i (.int v)) (hi : i < 940) (hv : -128 ≤ v.toInt ∧ v.toInt ≤ 127) : FM th am mb n (f_wr g i v) G1 := by
  obtain ⟨a1, a2, a3, a4, a5, a6⟩ := h
  have ne : am ≠ mb := fun z => by rw [z, a3] at a2; cases a2
  refine ⟨a1.upd u a3 (y_okI (lo := -128) (hi := 127) (by rw [show (x_tb 35).2.2.2 = [(940, ((0 : Nat), (-128 : Int), (127 : Int)))] from rfl]; exact y_one hi) hv.1 hv.2), a2, a3, by rw [u.2.1, if_neg (fun z => ne z.1)]; exact a4, by rw [u.2.1, if_neg (fun z => ne z.1)]; exact a5, fun j => ?_⟩
  rw [u.2.1]
  unfold f_wr
  by_cases e : j = i
  · rw [if_pos ⟨rfl, e⟩, if_pos e]
  · rw [if_neg (fun z => e z.2), if_neg e]
    exact a6 j
theorem FM.un (h : FM th am mb n g G) (u : x_upd G G1 am 2 (.int n')) (hv : 0 ≤ n'.toInt ∧ n'.toInt ≤ 940) : FM th am mb n' g G1 := by
  obtain ⟨a1, a2, a3, a4, a5, a6⟩ := h
  have ne : mb ≠ am := fun z => by rw [z, a2] at a3; cases a3
  exact ⟨a1.upd u a2 (y_okI (lo := 0) (hi := 940) rfl hv.1 hv.2), a2, a3, by rw [u.2.1, if_neg (fun z => absurd z.2 (by decide))]; exact a4, by rw [u.2.1, if_pos ⟨rfl, rfl⟩], fun j => by rw [u.2.1, if_neg (fun z => ne z.1)]; exact a6 j⟩
set_option maxHeartbeats 2000000 in
set_option maxRecDepth 100000 in
theorem kb_s (h : FC th tp b G0 n g G) (hn : 0 ≤ n.toInt ∧ n.toInt < 940) {s s' x : Int32} (hs : 0 ≤ s.toInt) (es : s + Int32.ofInt (-8) = s') (hb : vp_nar .byte ((x.toUInt32 >>> (s.toUInt32 &&& Int32.toUInt32 31)).toInt32.toInt8.toInt32) = t_by x s) (g0 : pm_get lv 0 = some (.ref tp)) (g1 : pm_get lv 1 = some (.int x)) (g2 : pm_get lv 2 = some (.int s)) (hk : ∀ (G1 : List pE) (lv1 : pL), FC th tp b G0 (n + Int32.ofInt 1) (f_wr g n.toInt.toNat (t_by x s)) G1 → pm_get lv1 0 = some (.ref tp) → pm_get lv1 1 = some (.int x) → pm_get lv1 2 = some (.int s') → x_Gd xs L J d m_13 K 3 lv1 [] G1) : x_Gd xs L J d m_13 K 3 lv [] G := by
  subst es
  refine y_iln (e_13 (3, .iload_n 2, 1) (List.mem_of_getElem? (i := 2) rfl)) g2 ?_
  refine y_ifc (e_13 (4, .ifCond .lt 44, 3) (List.mem_of_getElem? (i := 3) rfl)) rfl (fun hc => ?_) (fun hc => ?_)
  · have := y_hI.2.2.2.2.2.2.2.2.1 hc
    rw [show (0 : Int32).toInt = 0 from rfl] at this
    omega
  refine y_aln (e_13 (7, .aload_n 0, 1) (List.mem_of_getElem? (i := 4) rfl)) g0 ?_
  refine y_getf h.1 h.2.1 (e_13 (8, .getfield 15, 3) (List.mem_of_getElem? (i := 5) rfl)) u_2_15 ⟨rfl, rfl⟩ h.2.2.2.2.1 ?_
  refine y_aln (e_13 (11, .aload_n 0, 1) (List.mem_of_getElem? (i := 6) rfl)) g0 ?_
  refine y_getf h.1 h.2.1 (e_13 (12, .getfield 9, 3) (List.mem_of_getElem? (i := 7) rfl)) u_2_9 ⟨rfl, rfl⟩ h.2.2.2.1 ?_
  refine y_arl1 h.1 h.2.2.1 (e_13 (15, .arraylength, 1) (List.mem_of_getElem? (i := 8) rfl)) ⟨rfl, rfl⟩ ?_
  refine y_icm (e_13 (16, .if_icmp .ge 32, 3) (List.mem_of_getElem? (i := 9) rfl)) rfl (fun hc => ?_) (fun hc => ?_)
  · have := y_hI.2.2.2.2.1 hc
    rw [show (Int32.ofNat (x_tb 28).2.2.1).toInt = 940 from rfl] at this
    omega
  refine y_aln (e_13 (19, .aload_n 0, 1) (List.mem_of_getElem? (i := 10) rfl)) g0 ?_
  refine y_getf h.1 h.2.1 (e_13 (20, .getfield 9, 3) (List.mem_of_getElem? (i := 11) rfl)) u_2_9 ⟨rfl, rfl⟩ h.2.2.2.1 ?_
  refine y_aln (e_13 (23, .aload_n 0, 1) (List.mem_of_getElem? (i := 12) rfl)) g0 ?_
  refine y_getf h.1 h.2.1 (e_13 (24, .getfield 15, 3) (List.mem_of_getElem? (i := 13) rfl)) u_2_15 ⟨rfl, rfl⟩ h.2.2.2.2.1 ?_
  refine y_iln (e_13 (27, .iload_n 1, 1) (List.mem_of_getElem? (i := 14) rfl)) g1 ?_
  refine y_iln (e_13 (28, .iload_n 2, 1) (List.mem_of_getElem? (i := 15) rfl)) g2 ?_
  refine y_st (e_13 (29, .iushr, 1) (List.mem_of_getElem? (i := 16) rfl)) ⟨rfl, rfl, rfl, rfl⟩ ?_
  refine y_st (e_13 (30, .i2b, 1) (List.mem_of_getElem? (i := 17) rfl)) ⟨rfl, rfl, rfl, rfl⟩ ?_
  refine y_bast h.1 h.2.2.1 (e_13 (31, .bastore, 1) (List.mem_of_getElem? (i := 18) rfl)) ⟨rfl, rfl⟩ ⟨hn.1, by show n.toInt < 940; omega⟩ (fun G1 u1 => ?_)
  rw [hb] at u1
  have w1 := h.ub u1 (by omega) (t_by_le x s)
  have e1 := t_ad (k := 1) hn (by decide) (by decide)
  refine y_aln (e_13 (32, .aload_n 0, 1) (List.mem_of_getElem? (i := 19) rfl)) g0 ?_
  refine y_st (e_13 (33, .dup, 1) (List.mem_of_getElem? (i := 20) rfl)) ⟨rfl, rfl, rfl, rfl⟩ ?_
  refine y_getf w1.1 w1.2.1 (e_13 (34, .getfield 15, 3) (List.mem_of_getElem? (i := 21) rfl)) u_2_15 ⟨rfl, rfl⟩ w1.2.2.2.2.1 ?_
  refine y_st (e_13 (37, .iconst 1, 1) (List.mem_of_getElem? (i := 22) rfl)) ⟨rfl, rfl, rfl, rfl⟩ ?_
  refine y_st (e_13 (38, .iadd, 1) (List.mem_of_getElem? (i := 23) rfl)) ⟨rfl, rfl, rfl, rfl⟩ ?_
  refine y_putf (f := (0, 0, 940)) w1.1 w1.2.1 (e_13 (39, .putfield 15, 3) (List.mem_of_getElem? (i := 24) rfl)) u_2_15 ⟨rfl, rfl, by decide, rfl, rfl⟩ ⟨_, rfl, by dsimp only; omega, by dsimp only; omega⟩ (fun G2 u2 => ?_)
  have w2 := w1.un u2 ⟨by omega, by omega⟩
  refine y_iinc (e_13 (42, .iinc 2 (-8), 3) (List.mem_of_getElem? (i := 25) rfl)) g2 (by decide) ?_
  refine y_st (e_13 (45, .goto (-42), 3) (List.mem_of_getElem? (i := 26) rfl)) ⟨rfl, rfl, rfl, rfl⟩ ?_
  exact hk G2 _ w2 (y_gpr g0 (by decide)) (y_gpn g1 (by decide)) x_get_self
set_option maxHeartbeats 2000000 in
set_option maxRecDepth 100000 in
theorem kf_s (h : FM th am mb n g G) (hn : 0 ≤ n.toInt ∧ n.toInt < 940) {s s' x : Int32} (hs : 0 ≤ s.toInt) (es : s + Int32.ofInt (-8) = s') (g0 : pm_get lv 0 = some (.ref am)) (g1 : pm_get lv 1 = some (.int x)) (g2 : pm_get lv 2 = some (.int s)) (hk : ∀ (G1 : List pE) (lv1 : pL), FM th am mb (n + Int32.ofInt 1) (f_wr g n.toInt.toNat (t_by x s)) G1 → pm_get lv1 0 = some (.ref am) → pm_get lv1 1 = some (.int x) → pm_get lv1 2 = some (.int s') → x_Gd xs L J d m_157 K 3 lv1 [] G1) : x_Gd xs L J d m_157 K 3 lv [] G := by
  subst es
  refine y_iln (e_157 (3, .iload_n 2, 1) (List.mem_of_getElem? (i := 2) rfl)) g2 ?_
  refine y_ifc (e_157 (4, .ifCond .lt 32, 3) (List.mem_of_getElem? (i := 3) rfl)) rfl (fun hc => ?_) (fun hc => ?_)
  · have := y_hI.2.2.2.2.2.2.2.2.1 hc
    rw [show (0 : Int32).toInt = 0 from rfl] at this
    omega
  refine y_aln (e_157 (7, .aload_n 0, 1) (List.mem_of_getElem? (i := 4) rfl)) g0 ?_
  refine y_getf h.1 h.2.1 (e_157 (8, .getfield 14, 3) (List.mem_of_getElem? (i := 5) rfl)) u_17_14 ⟨rfl, rfl⟩ h.2.2.2.1 ?_
  refine y_aln (e_157 (11, .aload_n 0, 1) (List.mem_of_getElem? (i := 6) rfl)) g0 ?_
  refine y_getf h.1 h.2.1 (e_157 (12, .getfield 7, 3) (List.mem_of_getElem? (i := 7) rfl)) u_17_7 ⟨rfl, rfl⟩ h.2.2.2.2.1 ?_
  refine y_iln (e_157 (15, .iload_n 1, 1) (List.mem_of_getElem? (i := 8) rfl)) g1 ?_
  refine y_iln (e_157 (16, .iload_n 2, 1) (List.mem_of_getElem? (i := 9) rfl)) g2 ?_
  refine y_st (e_157 (17, .ishr, 1) (List.mem_of_getElem? (i := 10) rfl)) ⟨rfl, rfl, rfl, rfl⟩ ?_
  refine y_st (e_157 (18, .i2b, 1) (List.mem_of_getElem? (i := 11) rfl)) ⟨rfl, rfl, rfl, rfl⟩ ?_
  refine y_bast h.1 h.2.2.1 (e_157 (19, .bastore, 1) (List.mem_of_getElem? (i := 12) rfl)) ⟨rfl, rfl⟩ ⟨hn.1, by show n.toInt < 940; omega⟩ (fun G1 u1 => ?_)
  have w1 := h.ub (v := t_by x s) u1 (by omega) (t_by_le x s)
  have e1 := t_ad (k := 1) hn (by decide) (by decide)
  refine y_aln (e_157 (20, .aload_n 0, 1) (List.mem_of_getElem? (i := 13) rfl)) g0 ?_
  refine y_st (e_157 (21, .dup, 1) (List.mem_of_getElem? (i := 14) rfl)) ⟨rfl, rfl, rfl, rfl⟩ ?_
  refine y_getf w1.1 w1.2.1 (e_157 (22, .getfield 7, 3) (List.mem_of_getElem? (i := 15) rfl)) u_17_7 ⟨rfl, rfl⟩ w1.2.2.2.2.1 ?_
  refine y_st (e_157 (25, .iconst 1, 1) (List.mem_of_getElem? (i := 16) rfl)) ⟨rfl, rfl, rfl, rfl⟩ ?_
  refine y_st (e_157 (26, .iadd, 1) (List.mem_of_getElem? (i := 17) rfl)) ⟨rfl, rfl, rfl, rfl⟩ ?_
  refine y_putf (f := (0, 0, 940)) w1.1 w1.2.1 (e_157 (27, .putfield 7, 3) (List.mem_of_getElem? (i := 18) rfl)) u_17_7 ⟨rfl, rfl, by decide, rfl, rfl⟩ ⟨_, rfl, by dsimp only; omega, by dsimp only; omega⟩ (fun G2 u2 => ?_)
  have w2 := w1.un u2 ⟨by omega, by omega⟩
  refine y_iinc (e_157 (30, .iinc 2 (-8), 3) (List.mem_of_getElem? (i := 19) rfl)) g2 (by decide) ?_
  refine y_st (e_157 (33, .goto (-30), 3) (List.mem_of_getElem? (i := 20) rfl)) ⟨rfl, rfl, rfl, rfl⟩ ?_
  exact hk G2 _ w2 (y_gpr g0 (by decide)) (y_gpn g1 (by decide)) x_get_self
set_option maxHeartbeats 2000000 in
set_option maxRecDepth 100000 in
theorem kb_four (h : FC th tp b G0 n g G) (hn : 0 ≤ n.toInt ∧ n.toInt ≤ 936) (x : Int32) : x_Gd xs L J d m_13 (fun r G' => r = none ∧ ∃ n' : Int32, n'.toInt = n.toInt + 4 ∧ FC th tp b G0 n' (f_w4 g n.toInt.toNat x) G') 0 (lv_args 0 [.ref tp, .int x]) [] G := by
  refine y_st (e_13 (0, .bipush 24, 2) (List.mem_of_getElem? (i := 0) rfl)) ⟨rfl, rfl, rfl, rfl⟩ ?_
  refine y_isn (e_13 (2, .istore_n 2, 1) (List.mem_of_getElem? (i := 1) rfl)) (by decide) ?_
  refine kb_s (s := Int32.ofInt 24) (s' := Int32.ofInt (16)) h ⟨by omega, by omega⟩ (by decide) (by decide) (t_by24 x) (show pm_get _ 0 = some (.ref tp) from rfl) (show pm_get _ 1 = some (.int x) from rfl) (show pm_get _ 2 = some (.int (Int32.ofInt 24)) from rfl) (fun G1 l1 w1 a1 b1 c1 => ?_)
  have e1 := t_ad (n := n) (k := 1) ⟨by omega, by omega⟩ (by decide) (by decide)
  refine kb_s (s := Int32.ofInt 16) (s' := Int32.ofInt (8)) w1 ⟨by omega, by omega⟩ (by decide) (by decide) (t_by16 x) a1 b1 c1 (fun G2 l2 w2 a2 b2 c2 => ?_)
  have e2 := t_ad (n := (n + Int32.ofInt 1)) (k := 1) ⟨by omega, by omega⟩ (by decide) (by decide)
  refine kb_s (s := Int32.ofInt 8) (s' := Int32.ofInt (0)) w2 ⟨by omega, by omega⟩ (by decide) (by decide) (t_by8 x) a2 b2 c2 (fun G3 l3 w3 a3 b3 c3 => ?_)
  have e3 := t_ad (n := ((n + Int32.ofInt 1) + Int32.ofInt 1)) (k := 1) ⟨by omega, by omega⟩ (by decide) (by decide)
  refine kb_s (s := Int32.ofInt 0) (s' := Int32.ofInt (-8)) w3 ⟨by omega, by omega⟩ (by decide) (by decide) (t_by0 x) a3 b3 c3 (fun G4 l4 w4 a4 b4 c4 => ?_)
  have e4 := t_ad (n := (((n + Int32.ofInt 1) + Int32.ofInt 1) + Int32.ofInt 1)) (k := 1) ⟨by omega, by omega⟩ (by decide) (by decide)
  refine y_iln (e_13 (3, .iload_n 2, 1) (List.mem_of_getElem? (i := 2) rfl)) c4 ?_
  refine y_ifc (e_13 (4, .ifCond .lt 44, 3) (List.mem_of_getElem? (i := 3) rfl)) rfl (fun hc => ?_) (fun hc => absurd hc (by decide))
  refine y_ret (e_13 (48, .return_, 1) (List.mem_of_getElem? (i := 27) rfl)) ⟨rfl, rfl⟩ ⟨rfl, n + Int32.ofInt 1 + Int32.ofInt 1 + Int32.ofInt 1 + Int32.ofInt 1, by omega, ?_⟩
  have q1 : (n + Int32.ofInt 1).toInt.toNat = n.toInt.toNat + 1 := by omega
  have q2 : (n + Int32.ofInt 1 + Int32.ofInt 1).toInt.toNat = n.toInt.toNat + 2 := by omega
  have q3 : (n + Int32.ofInt 1 + Int32.ofInt 1 + Int32.ofInt 1).toInt.toNat = n.toInt.toNat + 3 := by omega
  rw [q1, q2, q3] at w4
  exact w4
set_option maxHeartbeats 2000000 in
set_option maxRecDepth 100000 in
theorem kf_four (h : FM th am mb n g G) (hn : 0 ≤ n.toInt ∧ n.toInt ≤ 936) (x : Int32) : x_Gd xs L J d m_157 (fun r G' => r = none ∧ ∃ n' : Int32, n'.toInt = n.toInt + 4 ∧ FM th am mb n' (f_w4 g n.toInt.toNat x) G') 0 (lv_args 0 [.ref am, .int x]) [] G := by
  refine y_st (e_157 (0, .bipush 24, 2) (List.mem_of_getElem? (i := 0) rfl)) ⟨rfl, rfl, rfl, rfl⟩ ?_
  refine y_isn (e_157 (2, .istore_n 2, 1) (List.mem_of_getElem? (i := 1) rfl)) (by decide) ?_
  refine kf_s (s := Int32.ofInt 24) (s' := Int32.ofInt (16)) h ⟨by omega, by omega⟩ (by decide) (by decide) (show pm_get _ 0 = some (.ref am) from rfl) (show pm_get _ 1 = some (.int x) from rfl) (show pm_get _ 2 = some (.int (Int32.ofInt 24)) from rfl) (fun G1 l1 w1 a1 b1 c1 => ?_)
  have e1 := t_ad (n := n) (k := 1) ⟨by omega, by omega⟩ (by decide) (by decide)
  refine kf_s (s := Int32.ofInt 16) (s' := Int32.ofInt (8)) w1 ⟨by omega, by omega⟩ (by decide) (by decide) a1 b1 c1 (fun G2 l2 w2 a2 b2 c2 => ?_)
  have e2 := t_ad (n := (n + Int32.ofInt 1)) (k := 1) ⟨by omega, by omega⟩ (by decide) (by decide)
  refine kf_s (s := Int32.ofInt 8) (s' := Int32.ofInt (0)) w2 ⟨by omega, by omega⟩ (by decide) (by decide) a2 b2 c2 (fun G3 l3 w3 a3 b3 c3 => ?_)
  have e3 := t_ad (n := ((n + Int32.ofInt 1) + Int32.ofInt 1)) (k := 1) ⟨by omega, by omega⟩ (by decide) (by decide)
  refine kf_s (s := Int32.ofInt 0) (s' := Int32.ofInt (-8)) w3 ⟨by omega, by omega⟩ (by decide) (by decide) a3 b3 c3 (fun G4 l4 w4 a4 b4 c4 => ?_)
  have e4 := t_ad (n := (((n + Int32.ofInt 1) + Int32.ofInt 1) + Int32.ofInt 1)) (k := 1) ⟨by omega, by omega⟩ (by decide) (by decide)
  refine y_iln (e_157 (3, .iload_n 2, 1) (List.mem_of_getElem? (i := 2) rfl)) c4 ?_
  refine y_ifc (e_157 (4, .ifCond .lt 32, 3) (List.mem_of_getElem? (i := 3) rfl)) rfl (fun hc => ?_) (fun hc => absurd hc (by decide))
  refine y_ret (e_157 (36, .return_, 1) (List.mem_of_getElem? (i := 21) rfl)) ⟨rfl, rfl⟩ ⟨rfl, n + Int32.ofInt 1 + Int32.ofInt 1 + Int32.ofInt 1 + Int32.ofInt 1, by omega, ?_⟩
  have q1 : (n + Int32.ofInt 1).toInt.toNat = n.toInt.toNat + 1 := by omega
  have q2 : (n + Int32.ofInt 1 + Int32.ofInt 1).toInt.toNat = n.toInt.toNat + 2 := by omega
  have q3 : (n + Int32.ofInt 1 + Int32.ofInt 1 + Int32.ofInt 1).toInt.toNat = n.toInt.toNat + 3 := by omega
  rw [q1, q2, q3] at w4
  exact w4
set_option maxHeartbeats 2000000 in
set_option maxRecDepth 100000 in
theorem kb_room (h : FC th tp b G0 n g G) (hn : 0 ≤ n.toInt ∧ n.toInt ≤ 940) : x_Gd xs L J d m_12 (fun r G' => G' = G ∧ ((n.toInt ≤ 920 ∧ r = some (.int (Int32.ofInt 1))) ∨ (921 ≤ n.toInt ∧ r = some (.int (Int32.ofInt 0))))) 0 (lv_args 0 [.ref tp, .int (Int8.ofInt 20).toInt32]) [] G := by
  have e1 : (n + (Int8.ofInt 20).toInt32).toInt = n.toInt + 20 := by
    rw [Int32.toInt_add, show ((Int8.ofInt 20).toInt32).toInt = 20 by decide, Jvm.Kit.bmod32 (by omega) (by omega)]
  refine y_aln (e_12 (0, .aload_n 0, 1) (List.mem_of_getElem? (i := 0) rfl)) rfl ?_
  refine y_getf h.1 h.2.1 (e_12 (1, .getfield 15, 3) (List.mem_of_getElem? (i := 1) rfl)) u_2_15 ⟨rfl, rfl⟩ h.2.2.2.2.1 ?_
  refine y_iln (e_12 (4, .iload_n 1, 1) (List.mem_of_getElem? (i := 2) rfl)) rfl ?_
  refine y_st (e_12 (5, .iadd, 1) (List.mem_of_getElem? (i := 3) rfl)) ⟨rfl, rfl, rfl, rfl⟩ ?_
  refine y_aln (e_12 (6, .aload_n 0, 1) (List.mem_of_getElem? (i := 4) rfl)) rfl ?_
  refine y_getf h.1 h.2.1 (e_12 (7, .getfield 9, 3) (List.mem_of_getElem? (i := 5) rfl)) u_2_9 ⟨rfl, rfl⟩ h.2.2.2.1 ?_
  refine y_arl1 h.1 h.2.2.1 (e_12 (10, .arraylength, 1) (List.mem_of_getElem? (i := 6) rfl)) ⟨rfl, rfl⟩ ?_
  refine y_icm (e_12 (11, .if_icmp .gt 7, 3) (List.mem_of_getElem? (i := 7) rfl)) rfl (fun hc => ?_) (fun hc => ?_)
  · have := y_hI.2.2.2.2.2.2.2.2.2.2.1 hc
    rw [show (Int32.ofNat (x_tb 28).2.2.1).toInt = 940 from rfl] at this
    refine y_st (e_12 (18, .iconst 0, 1) (List.mem_of_getElem? (i := 10) rfl)) ⟨rfl, rfl, rfl, rfl⟩ ?_
    exact y_ret (e_12 (19, .ireturn, 1) (List.mem_of_getElem? (i := 11) rfl)) ⟨rfl, y_rb (Or.inl rfl)⟩ ⟨rfl, Or.inr ⟨by omega, rfl⟩⟩
  · have := y_hI.2.2.2.2.2.2.2.2.2.2.2 hc
    rw [show (Int32.ofNat (x_tb 28).2.2.1).toInt = 940 from rfl] at this
    refine y_st (e_12 (14, .iconst 1, 1) (List.mem_of_getElem? (i := 8) rfl)) ⟨rfl, rfl, rfl, rfl⟩ ?_
    refine y_st (e_12 (15, .goto 4, 3) (List.mem_of_getElem? (i := 9) rfl)) ⟨rfl, rfl, rfl, rfl⟩ ?_
    exact y_ret (e_12 (19, .ireturn, 1) (List.mem_of_getElem? (i := 11) rfl)) ⟨rfl, y_rb (Or.inr rfl)⟩ ⟨rfl, Or.inl ⟨by omega, rfl⟩⟩
set_option maxHeartbeats 2000000 in
set_option maxRecDepth 100000 in
theorem kb_feed {ax : Nat} (tx : th[ax]? = some 9) (hp : x_sl G ax 0 = some (.ref tp)) (h : FC th tp b G n g G) (hn : 0 ≤ n.toInt ∧ n.toInt ≤ 940) (x1 x2 x3 x4 x5 : Int32) : x_Gd xs L J (d + 1) m_11 (fun r G' => ∀ i, x_sl G' b i = if n.toInt ≤ 920 then f_w20 g n.toInt.toNat x1 x2 x3 x4 x5 i else g i) 0 (lv_args 0 [.ref ax, .int x1, .int x2, .int x3, .int x4, .int x5]) [] G := by
  have ne1 : ax ≠ tp := fun z => by rw [z, h.2.1] at tx; cases tx
  have ne2 : ax ≠ b := fun z => by rw [z, h.2.2.1] at tx; cases tx
  refine y_aln (e_11 (0, .aload_n 0, 1) (List.mem_of_getElem? (i := 0) rfl)) rfl ?_
  refine y_getf h.1 tx (e_11 (1, .getfield 10, 3) (List.mem_of_getElem? (i := 1) rfl)) u_0_10 ⟨rfl, rfl⟩ hp ?_
  refine y_st (e_11 (4, .bipush 20, 2) (List.mem_of_getElem? (i := 2) rfl)) ⟨rfl, rfl, rfl, rfl⟩ ?_
  refine y_c2 (K' := _) (e_11 (6, .invokevirtual 93, 3) (List.mem_of_getElem? (i := 3) rfl)) ⟨rfl, rfl, rfl⟩ t_0_93 ⟨by decide, by decide, by decide, by decide⟩ m_12_ok rfl (by decide) (y_recv h.1 h.2.1 ⟨rfl, rfl⟩) (Nat.le_of_ble_eq_true rfl) (Nat.le_of_ble_eq_true rfl) (kb_room h hn) (fun r1 Ga hc1 => ?_)
  obtain ⟨rfl, hc1⟩ := hc1
  rcases hc1 with ⟨hl, rfl⟩ | ⟨hl, rfl⟩
  rotate_left
  · simp only [Option.toList_some, Option.toList_none, List.cons_append, List.nil_append]
    refine y_ifc (e_11 (9, .ifCond .ne 5, 3) (List.mem_of_getElem? (i := 4) rfl)) rfl (fun hc => absurd hc (by decide)) (fun hc => ?_)
    refine y_st (e_11 (12, .iconst (-1), 1) (List.mem_of_getElem? (i := 5) rfl)) ⟨rfl, rfl, rfl, rfl⟩ ?_
    exact y_ret (e_11 (13, .ireturn, 1) (List.mem_of_getElem? (i := 6) rfl)) ⟨rfl, y_ri⟩ (fun i => by rw [if_neg (by omega)]; exact h.2.2.2.2.2.1 i)
  simp only [Option.toList_some, Option.toList_none, List.cons_append, List.nil_append]
  refine y_ifc (e_11 (9, .ifCond .ne 5, 3) (List.mem_of_getElem? (i := 4) rfl)) rfl (fun hc => ?_) (fun hc => absurd hc (by decide))
  refine y_aln (e_11 (14, .aload_n 0, 1) (List.mem_of_getElem? (i := 7) rfl)) rfl ?_
  refine y_getf h.1 tx (e_11 (15, .getfield 10, 3) (List.mem_of_getElem? (i := 8) rfl)) u_0_10 ⟨rfl, rfl⟩ hp ?_
  refine y_iln (e_11 (18, .iload_n 1, 1) (List.mem_of_getElem? (i := 9) rfl)) rfl ?_
  refine y_c2 (K' := _) (e_11 (19, .invokevirtual 97, 3) (List.mem_of_getElem? (i := 10) rfl)) ⟨rfl, rfl, rfl⟩ t_0_97 ⟨by decide, by decide, by decide, by decide⟩ m_13_ok rfl (by decide) (y_recv h.1 h.2.1 ⟨rfl, rfl⟩) (Nat.le_of_ble_eq_true rfl) (Nat.le_of_ble_eq_true rfl) (kb_four h ⟨by omega, by omega⟩ x1) (fun r1 G1 hc1 => ?_)
  obtain ⟨rfl, n1, en1, w1⟩ := hc1
  simp only [Option.toList_some, Option.toList_none, List.cons_append, List.nil_append]
  have hp1 : x_sl G1 ax 0 = some (.ref tp) := (w1.2.2.2.2.2.2 ax 0 ne1 ne2).trans hp
  refine y_aln (e_11 (22, .aload_n 0, 1) (List.mem_of_getElem? (i := 11) rfl)) rfl ?_
  refine y_getf w1.1 tx (e_11 (23, .getfield 10, 3) (List.mem_of_getElem? (i := 12) rfl)) u_0_10 ⟨rfl, rfl⟩ hp1 ?_
  refine y_iln (e_11 (26, .iload_n 2, 1) (List.mem_of_getElem? (i := 13) rfl)) rfl ?_
  refine y_c2 (K' := _) (e_11 (27, .invokevirtual 97, 3) (List.mem_of_getElem? (i := 14) rfl)) ⟨rfl, rfl, rfl⟩ t_0_97 ⟨by decide, by decide, by decide, by decide⟩ m_13_ok rfl (by decide) (y_recv w1.1 w1.2.1 ⟨rfl, rfl⟩) (Nat.le_of_ble_eq_true rfl) (Nat.le_of_ble_eq_true rfl) (kb_four w1 ⟨by omega, by omega⟩ x2) (fun r1 G2 hc2 => ?_)
  obtain ⟨rfl, n2, en2, w2⟩ := hc2
  simp only [Option.toList_some, Option.toList_none, List.cons_append, List.nil_append]
  have hp2 : x_sl G2 ax 0 = some (.ref tp) := (w2.2.2.2.2.2.2 ax 0 ne1 ne2).trans hp
  refine y_aln (e_11 (30, .aload_n 0, 1) (List.mem_of_getElem? (i := 15) rfl)) rfl ?_
  refine y_getf w2.1 tx (e_11 (31, .getfield 10, 3) (List.mem_of_getElem? (i := 16) rfl)) u_0_10 ⟨rfl, rfl⟩ hp2 ?_
  refine y_iln (e_11 (34, .iload_n 3, 1) (List.mem_of_getElem? (i := 17) rfl)) rfl ?_
  refine y_c2 (K' := _) (e_11 (35, .invokevirtual 97, 3) (List.mem_of_getElem? (i := 18) rfl)) ⟨rfl, rfl, rfl⟩ t_0_97 ⟨by decide, by decide, by decide, by decide⟩ m_13_ok rfl (by decide) (y_recv w2.1 w2.2.1 ⟨rfl, rfl⟩) (Nat.le_of_ble_eq_true rfl) (Nat.le_of_ble_eq_true rfl) (kb_four w2 ⟨by omega, by omega⟩ x3) (fun r1 G3 hc3 => ?_)
  obtain ⟨rfl, n3, en3, w3⟩ := hc3
  simp only [Option.toList_some, Option.toList_none, List.cons_append, List.nil_append]
  have hp3 : x_sl G3 ax 0 = some (.ref tp) := (w3.2.2.2.2.2.2 ax 0 ne1 ne2).trans hp
  refine y_aln (e_11 (38, .aload_n 0, 1) (List.mem_of_getElem? (i := 19) rfl)) rfl ?_
  refine y_getf w3.1 tx (e_11 (39, .getfield 10, 3) (List.mem_of_getElem? (i := 20) rfl)) u_0_10 ⟨rfl, rfl⟩ hp3 ?_
  refine y_il (e_11 (42, .iload 4, 2) (List.mem_of_getElem? (i := 21) rfl)) rfl ?_
  refine y_c2 (K' := _) (e_11 (44, .invokevirtual 97, 3) (List.mem_of_getElem? (i := 22) rfl)) ⟨rfl, rfl, rfl⟩ t_0_97 ⟨by decide, by decide, by decide, by decide⟩ m_13_ok rfl (by decide) (y_recv w3.1 w3.2.1 ⟨rfl, rfl⟩) (Nat.le_of_ble_eq_true rfl) (Nat.le_of_ble_eq_true rfl) (kb_four w3 ⟨by omega, by omega⟩ x4) (fun r1 G4 hc4 => ?_)
  obtain ⟨rfl, n4, en4, w4⟩ := hc4
  simp only [Option.toList_some, Option.toList_none, List.cons_append, List.nil_append]
  have hp4 : x_sl G4 ax 0 = some (.ref tp) := (w4.2.2.2.2.2.2 ax 0 ne1 ne2).trans hp
  refine y_aln (e_11 (47, .aload_n 0, 1) (List.mem_of_getElem? (i := 23) rfl)) rfl ?_
  refine y_getf w4.1 tx (e_11 (48, .getfield 10, 3) (List.mem_of_getElem? (i := 24) rfl)) u_0_10 ⟨rfl, rfl⟩ hp4 ?_
  refine y_il (e_11 (51, .iload 5, 2) (List.mem_of_getElem? (i := 25) rfl)) rfl ?_
  refine y_c2 (K' := _) (e_11 (53, .invokevirtual 97, 3) (List.mem_of_getElem? (i := 26) rfl)) ⟨rfl, rfl, rfl⟩ t_0_97 ⟨by decide, by decide, by decide, by decide⟩ m_13_ok rfl (by decide) (y_recv w4.1 w4.2.1 ⟨rfl, rfl⟩) (Nat.le_of_ble_eq_true rfl) (Nat.le_of_ble_eq_true rfl) (kb_four w4 ⟨by omega, by omega⟩ x5) (fun r1 G5 hc5 => ?_)
  obtain ⟨rfl, n5, en5, w5⟩ := hc5
  simp only [Option.toList_some, Option.toList_none, List.cons_append, List.nil_append]
  have hp5 : x_sl G5 ax 0 = some (.ref tp) := (w5.2.2.2.2.2.2 ax 0 ne1 ne2).trans hp
  refine y_aln (e_11 (56, .aload_n 0, 1) (List.mem_of_getElem? (i := 27) rfl)) rfl ?_
  refine y_getf w5.1 tx (e_11 (57, .getfield 10, 3) (List.mem_of_getElem? (i := 28) rfl)) u_0_10 ⟨rfl, rfl⟩ hp5 ?_
  refine y_getf w5.1 w5.2.1 (e_11 (60, .getfield 101, 3) (List.mem_of_getElem? (i := 29) rfl)) u_0_101 ⟨rfl, rfl⟩ w5.2.2.2.2.1 ?_
  refine y_ret (e_11 (63, .ireturn, 1) (List.mem_of_getElem? (i := 30) rfl)) ⟨rfl, y_ri⟩ (fun i => ?_)
  rw [if_pos hl, w5.2.2.2.2.2.1 i]
  unfold f_w20
  rw [show n1.toInt.toNat = n.toInt.toNat + 4 by omega, show n2.toInt.toNat = n.toInt.toNat + 8 by omega, show n3.toInt.toNat = n.toInt.toNat + 12 by omega, show n4.toInt.toNat = n.toInt.toNat + 16 by omega]
set_option maxHeartbeats 2000000 in
set_option maxRecDepth 100000 in
theorem kf_feed (h : FM th am mb n g G) (hn : 0 ≤ n.toInt ∧ n.toInt ≤ 940) (x1 x2 x3 x4 x5 : Int32) : x_Gd xs L J (d + 1) m_156 (fun r G' => ∀ i, x_sl G' mb i = if n.toInt ≤ 920 then f_w20 g n.toInt.toNat x1 x2 x3 x4 x5 i else g i) 0 (lv_args 0 [.ref am, .int x1, .int x2, .int x3, .int x4, .int x5]) [] G := by
  have e1 : (n + (Int8.ofInt 20).toInt32).toInt = n.toInt + 20 := by
    rw [Int32.toInt_add, show ((Int8.ofInt 20).toInt32).toInt = 20 by decide, Jvm.Kit.bmod32 (by omega) (by omega)]
  refine y_aln (e_156 (0, .aload_n 0, 1) (List.mem_of_getElem? (i := 0) rfl)) rfl ?_
  refine y_st (e_156 (1, .iconst 0, 1) (List.mem_of_getElem? (i := 1) rfl)) ⟨rfl, rfl, rfl, rfl⟩ ?_
  refine y_putf (f := (0, -2147483648, 2147483647)) h.1 h.2.1 (e_156 (2, .putfield 1, 3) (List.mem_of_getElem? (i := 2) rfl)) u_17_1 ⟨rfl, rfl, by decide, rfl, rfl⟩ ⟨_, rfl, by decide, by decide⟩ (fun G0 u0 => ?_)
  have w0 : FM th am mb n g G0 := by
    obtain ⟨a1, a2, a3, a4, a5, a6⟩ := h
    have ne : mb ≠ am := fun z => by rw [z, a2] at a3; cases a3
    exact ⟨a1.upd u0 a2 (y_okI (lo := -2147483648) (hi := 2147483647) rfl (by decide) (by decide)), a2, a3, by rw [u0.2.1, if_neg (fun z => absurd z.2 (by decide))]; exact a4, by rw [u0.2.1, if_neg (fun z => absurd z.2 (by decide))]; exact a5, fun j => by rw [u0.2.1, if_neg (fun z => ne z.1)]; exact a6 j⟩
  refine y_aln (e_156 (5, .aload_n 0, 1) (List.mem_of_getElem? (i := 3) rfl)) rfl ?_
  refine y_getf w0.1 w0.2.1 (e_156 (6, .getfield 7, 3) (List.mem_of_getElem? (i := 4) rfl)) u_17_7 ⟨rfl, rfl⟩ w0.2.2.2.2.1 ?_
  refine y_st (e_156 (9, .bipush 20, 2) (List.mem_of_getElem? (i := 5) rfl)) ⟨rfl, rfl, rfl, rfl⟩ ?_
  refine y_st (e_156 (11, .iadd, 1) (List.mem_of_getElem? (i := 6) rfl)) ⟨rfl, rfl, rfl, rfl⟩ ?_
  refine y_st (e_156 (12, .sipush 940, 3) (List.mem_of_getElem? (i := 7) rfl)) ⟨rfl, rfl, rfl, rfl⟩ ?_
  refine y_icm (e_156 (15, .if_icmp .le 5, 3) (List.mem_of_getElem? (i := 8) rfl)) rfl (fun hc => ?_) (fun hc => ?_)
  rotate_left
  · have := y_hI.2.2.2.2.2.2.2.1 hc
    rw [show ((Int16.ofInt 940).toInt32).toInt = 940 by decide] at this
    refine y_st (e_156 (18, .iconst (-1), 1) (List.mem_of_getElem? (i := 9) rfl)) ⟨rfl, rfl, rfl, rfl⟩ ?_
    exact y_ret (e_156 (19, .ireturn, 1) (List.mem_of_getElem? (i := 10) rfl)) ⟨rfl, y_ri⟩ (fun i => by rw [if_neg (by omega)]; exact w0.2.2.2.2.2 i)
  have hl := y_hI.2.2.2.2.2.2.1 hc
  rw [show ((Int16.ofInt 940).toInt32).toInt = 940 by decide] at hl
  refine y_aln (e_156 (20, .aload_n 0, 1) (List.mem_of_getElem? (i := 11) rfl)) rfl ?_
  refine y_iln (e_156 (21, .iload_n 1, 1) (List.mem_of_getElem? (i := 12) rfl)) rfl ?_
  refine y_c2 (K' := _) (e_156 (22, .invokevirtual 10, 3) (List.mem_of_getElem? (i := 13) rfl)) ⟨rfl, rfl, rfl⟩ t_17_10 ⟨by decide, by decide, by decide, by decide⟩ m_157_ok rfl (by decide) (y_recv w0.1 w0.2.1 ⟨rfl, rfl⟩) (Nat.le_of_ble_eq_true rfl) (Nat.le_of_ble_eq_true rfl) (kf_four w0 ⟨by omega, by omega⟩ x1) (fun r1 G1 hc1 => ?_)
  obtain ⟨rfl, n1, en1, w1⟩ := hc1
  simp only [Option.toList_some, Option.toList_none, List.cons_append, List.nil_append]
  refine y_aln (e_156 (25, .aload_n 0, 1) (List.mem_of_getElem? (i := 14) rfl)) rfl ?_
  refine y_iln (e_156 (26, .iload_n 2, 1) (List.mem_of_getElem? (i := 15) rfl)) rfl ?_
  refine y_c2 (K' := _) (e_156 (27, .invokevirtual 10, 3) (List.mem_of_getElem? (i := 16) rfl)) ⟨rfl, rfl, rfl⟩ t_17_10 ⟨by decide, by decide, by decide, by decide⟩ m_157_ok rfl (by decide) (y_recv w1.1 w1.2.1 ⟨rfl, rfl⟩) (Nat.le_of_ble_eq_true rfl) (Nat.le_of_ble_eq_true rfl) (kf_four w1 ⟨by omega, by omega⟩ x2) (fun r1 G2 hc2 => ?_)
  obtain ⟨rfl, n2, en2, w2⟩ := hc2
  simp only [Option.toList_some, Option.toList_none, List.cons_append, List.nil_append]
  refine y_aln (e_156 (30, .aload_n 0, 1) (List.mem_of_getElem? (i := 17) rfl)) rfl ?_
  refine y_iln (e_156 (31, .iload_n 3, 1) (List.mem_of_getElem? (i := 18) rfl)) rfl ?_
  refine y_c2 (K' := _) (e_156 (32, .invokevirtual 10, 3) (List.mem_of_getElem? (i := 19) rfl)) ⟨rfl, rfl, rfl⟩ t_17_10 ⟨by decide, by decide, by decide, by decide⟩ m_157_ok rfl (by decide) (y_recv w2.1 w2.2.1 ⟨rfl, rfl⟩) (Nat.le_of_ble_eq_true rfl) (Nat.le_of_ble_eq_true rfl) (kf_four w2 ⟨by omega, by omega⟩ x3) (fun r1 G3 hc3 => ?_)
  obtain ⟨rfl, n3, en3, w3⟩ := hc3
  simp only [Option.toList_some, Option.toList_none, List.cons_append, List.nil_append]
  refine y_aln (e_156 (35, .aload_n 0, 1) (List.mem_of_getElem? (i := 20) rfl)) rfl ?_
  refine y_il (e_156 (36, .iload 4, 2) (List.mem_of_getElem? (i := 21) rfl)) rfl ?_
  refine y_c2 (K' := _) (e_156 (38, .invokevirtual 10, 3) (List.mem_of_getElem? (i := 22) rfl)) ⟨rfl, rfl, rfl⟩ t_17_10 ⟨by decide, by decide, by decide, by decide⟩ m_157_ok rfl (by decide) (y_recv w3.1 w3.2.1 ⟨rfl, rfl⟩) (Nat.le_of_ble_eq_true rfl) (Nat.le_of_ble_eq_true rfl) (kf_four w3 ⟨by omega, by omega⟩ x4) (fun r1 G4 hc4 => ?_)
  obtain ⟨rfl, n4, en4, w4⟩ := hc4
  simp only [Option.toList_some, Option.toList_none, List.cons_append, List.nil_append]
  refine y_aln (e_156 (41, .aload_n 0, 1) (List.mem_of_getElem? (i := 23) rfl)) rfl ?_
  refine y_il (e_156 (42, .iload 5, 2) (List.mem_of_getElem? (i := 24) rfl)) rfl ?_
  refine y_c2 (K' := _) (e_156 (44, .invokevirtual 10, 3) (List.mem_of_getElem? (i := 25) rfl)) ⟨rfl, rfl, rfl⟩ t_17_10 ⟨by decide, by decide, by decide, by decide⟩ m_157_ok rfl (by decide) (y_recv w4.1 w4.2.1 ⟨rfl, rfl⟩) (Nat.le_of_ble_eq_true rfl) (Nat.le_of_ble_eq_true rfl) (kf_four w4 ⟨by omega, by omega⟩ x5) (fun r1 G5 hc5 => ?_)
  obtain ⟨rfl, n5, en5, w5⟩ := hc5
  simp only [Option.toList_some, Option.toList_none, List.cons_append, List.nil_append]
  refine y_aln (e_156 (47, .aload_n 0, 1) (List.mem_of_getElem? (i := 26) rfl)) rfl ?_
  refine y_getf w5.1 w5.2.1 (e_156 (48, .getfield 7, 3) (List.mem_of_getElem? (i := 27) rfl)) u_17_7 ⟨rfl, rfl⟩ w5.2.2.2.2.1 ?_
  refine y_ret (e_156 (51, .ireturn, 1) (List.mem_of_getElem? (i := 28) rfl)) ⟨rfl, y_ri⟩ (fun i => ?_)
  rw [if_pos (by omega), w5.2.2.2.2.2 i]
  unfold f_w20
  rw [show n1.toInt.toNat = n.toInt.toNat + 4 by omega, show n2.toInt.toNat = n.toInt.toNat + 8 by omega, show n3.toInt.toNat = n.toInt.toNat + 12 by omega, show n4.toInt.toNat = n.toInt.toNat + 16 by omega]
end FB
