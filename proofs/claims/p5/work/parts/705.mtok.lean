theorem t_17_148 : pm_ctab.find? (fun r => r.1 == 17 && r.2.1 == 148) = some (17, 148, 2, 166, 1494) := by decide +kernel
theorem t_17_144 : pm_ctab.find? (fun r => r.1 == 17 && r.2.1 == 144) = some (17, 144, 2, 165, 1491) := by decide +kernel
theorem t_17_131 : pm_ctab.find? (fun r => r.1 == 17 && r.2.1 == 131) = some (17, 131, 1, 164, 1487) := by decide +kernel
theorem u_17_138 : pm_ftab.find? (fun r => r.1 == 17 && r.2.1 == 138) = some (17, 138, 10, 13, 0, 1351) := by decide +kernel
theorem u_17_135 : pm_ftab.find? (fun r => r.1 == 17 && r.2.1 == 135) = some (17, 135, 10, 12, 0, 1350) := by decide +kernel
theorem u_17_24 : pm_ftab.find? (fun r => r.1 == 17 && r.2.1 == 24) = some (17, 24, 10, 5, 0, 1343) := by decide +kernel
theorem u_17_21 : pm_ftab.find? (fun r => r.1 == 17 && r.2.1 == 21) = some (17, 21, 10, 4, 0, 1342) := by decide +kernel
theorem u_17_18 : pm_ftab.find? (fun r => r.1 == 17 && r.2.1 == 18) = some (17, 18, 10, 3, 0, 1341) := by decide +kernel
def m_164 : pM := (⟨"BreathingHillModel", "peek", "()I"⟩, 1490, 1, some (FieldType.int), 17, 0, false, 10, 103, 1489, 36)
set_option maxRecDepth 100000 in
theorem m_164_ok : pm_tab[164]? = some m_164 := rfl
theorem e_164 : ∀ q ∈ d_164, decode m_164.code q.1 = .ok (q.2.1, q.2.2) := y_dec d_164_ok m_164_ok
def m_165 : pM := (⟨"BreathingHillModel", "isSmall", "(I)Z"⟩, 1493, 1, some (FieldType.boolean), 17, 1, true, 10, 103, 1492, 0)
set_option maxRecDepth 100000 in
theorem m_165_ok : pm_tab[165]? = some m_165 := rfl
theorem e_165 : ∀ q ∈ d_165, decode m_165.code q.1 = .ok (q.2.1, q.2.2) := y_dec d_165_ok m_165_ok
def m_166 : pM := (⟨"BreathingHillModel", "isDigit", "(I)Z"⟩, 1496, 1, some (FieldType.boolean), 17, 1, true, 10, 103, 1495, 0)
set_option maxRecDepth 100000 in
theorem m_166_ok : pm_tab[166]? = some m_166 := rfl
theorem e_166 : ∀ q ∈ d_166, decode m_166.code q.1 = .ok (q.2.1, q.2.2) := y_dec d_166_ok m_166_ok
-- ===== the model's tape =====
def TM (th : List Nat) (am mb : Nat) (f : Nat → Int32) (G0 : List pE) (n lim p tok at9 sp num : Int32) (wd : Int64) (G : List pE) : Prop := xI x_tb th G ∧ th[am]? = some 10 ∧ th[mb]? = some 35 ∧ (∀ i, i < 940 → x_sl G mb i = some (.int (f i))) ∧ (∀ c i : Nat, (c ≠ am ∨ (i ≠ 4 ∧ i ≠ 11 ∧ i ≠ 12 ∧ i ≠ 13 ∧ i ≠ 14 ∧ i ≠ 17)) → x_sl G c i = x_sl G0 c i) ∧ x_sl G am 1 = some (.ref mb) ∧ x_sl G am 3 = some (.int n) ∧ x_sl G am 4 = some (.int p) ∧ x_sl G am 5 = some (.int lim) ∧ x_sl G am 11 = some (.int tok) ∧ x_sl G am 12 = some (.int at9) ∧ x_sl G am 13 = some (.int sp) ∧ x_sl G am 14 = some (.int num) ∧ x_sl G am 17 = some (.long wd)
section TMS
variable {th : List Nat} {xs : Nat → Int32} {L J d am mb : Nat} {K : Option Value → List pE → Prop} {f : Nat → Int32} {G0 G G1 : List pE} {n lim p tok at9 sp num : Int32} {wd : Int64} {lv : pL}
theorem TM.I (h : TM th am mb f G0 n lim p tok at9 sp num wd G) : xI x_tb th G := h.1
theorem TM.t (h : TM th am mb f G0 n lim p tok at9 sp num wd G) : th[am]? = some 10 := h.2.1
theorem TM.tb (h : TM th am mb f G0 n lim p tok at9 sp num wd G) : th[mb]? = some 35 := h.2.2.1
theorem TM.by (h : TM th am mb f G0 n lim p tok at9 sp num wd G) : ∀ i, i < 940 → x_sl G mb i = some (.int (f i)) := h.2.2.2.1
theorem TM.ot (h : TM th am mb f G0 n lim p tok at9 sp num wd G) : ∀ c i : Nat, (c ≠ am ∨ (i ≠ 4 ∧ i ≠ 11 ∧ i ≠ 12 ∧ i ≠ 13 ∧ i ≠ 14 ∧ i ≠ 17)) → x_sl G c i = x_sl G0 c i := h.2.2.2.2.1
theorem TM.s1 (h : TM th am mb f G0 n lim p tok at9 sp num wd G) : x_sl G am 1 = some (.ref mb) := h.2.2.2.2.2.1
theorem TM.s3 (h : TM th am mb f G0 n lim p tok at9 sp num wd G) : x_sl G am 3 = some (.int n) := h.2.2.2.2.2.2.1
theorem TM.s4 (h : TM th am mb f G0 n lim p tok at9 sp num wd G) : x_sl G am 4 = some (.int p) := h.2.2.2.2.2.2.2.1
theorem TM.s5 (h : TM th am mb f G0 n lim p tok at9 sp num wd G) : x_sl G am 5 = some (.int lim) := h.2.2.2.2.2.2.2.2.1
theorem TM.s11 (h : TM th am mb f G0 n lim p tok at9 sp num wd G) : x_sl G am 11 = some (.int tok) := h.2.2.2.2.2.2.2.2.2.1
theorem TM.s12 (h : TM th am mb f G0 n lim p tok at9 sp num wd G) : x_sl G am 12 = some (.int at9) := h.2.2.2.2.2.2.2.2.2.2.1
theorem TM.s13 (h : TM th am mb f G0 n lim p tok at9 sp num wd G) : x_sl G am 13 = some (.int sp) := h.2.2.2.2.2.2.2.2.2.2.2.1
theorem TM.s14 (h : TM th am mb f G0 n lim p tok at9 sp num wd G) : x_sl G am 14 = some (.int num) := h.2.2.2.2.2.2.2.2.2.2.2.2.1
theorem TM.s17 (h : TM th am mb f G0 n lim p tok at9 sp num wd G) : x_sl G am 17 = some (.long wd) := h.2.2.2.2.2.2.2.2.2.2.2.2.2
theorem TM.u4 (h : TM th am mb f G0 n lim p tok at9 sp num wd G) {v : Int32} (u : x_upd G G1 am 4 (.int v)) (hv : 0 ≤ v.toInt ∧ v.toInt ≤ 940) : TM th am mb f G0 n lim v tok at9 sp num wd G1 := by
  obtain ⟨a1, a2, a3, a4, a5, c1, c3, c4, c5, c11, c12, c13, c14, c17⟩ := h
  have ne : mb ≠ am := fun z => by rw [z, a2] at a3; cases a3
  refine ⟨a1.upd u a2 (y_okI rfl hv.1 hv.2), a2, a3, fun i hi => by rw [u.2.1, if_neg (fun z => ne z.1)]; exact a4 i hi, fun c i hc => by rw [u.2.1, if_neg (fun z => by rcases hc with hc | hc; exact hc z.1; have := z.2; omega)]; exact a5 c i hc, by rw [u.2.1, if_neg (fun z => absurd z.2 (by decide))]; exact c1, by rw [u.2.1, if_neg (fun z => absurd z.2 (by decide))]; exact c3, by rw [u.2.1, if_pos ⟨rfl, rfl⟩], by rw [u.2.1, if_neg (fun z => absurd z.2 (by decide))]; exact c5, by rw [u.2.1, if_neg (fun z => absurd z.2 (by decide))]; exact c11, by rw [u.2.1, if_neg (fun z => absurd z.2 (by decide))]; exact c12, by rw [u.2.1, if_neg (fun z => absurd z.2 (by decide))]; exact c13, by rw [u.2.1, if_neg (fun z => absurd z.2 (by decide))]; exact c14, by rw [u.2.1, if_neg (fun z => absurd z.2 (by decide))]; exact c17⟩
theorem TM.u11 (h : TM th am mb f G0 n lim p tok at9 sp num wd G) {v : Int32} (u : x_upd G G1 am 11 (.int v)) (hv : 0 ≤ v.toInt ∧ v.toInt ≤ 4) : TM th am mb f G0 n lim p v at9 sp num wd G1 := by
  obtain ⟨a1, a2, a3, a4, a5, c1, c3, c4, c5, c11, c12, c13, c14, c17⟩ := h
  have ne : mb ≠ am := fun z => by rw [z, a2] at a3; cases a3
  refine ⟨a1.upd u a2 (y_okI rfl hv.1 hv.2), a2, a3, fun i hi => by rw [u.2.1, if_neg (fun z => ne z.1)]; exact a4 i hi, fun c i hc => by rw [u.2.1, if_neg (fun z => by rcases hc with hc | hc; exact hc z.1; have := z.2; omega)]; exact a5 c i hc, by rw [u.2.1, if_neg (fun z => absurd z.2 (by decide))]; exact c1, by rw [u.2.1, if_neg (fun z => absurd z.2 (by decide))]; exact c3, by rw [u.2.1, if_neg (fun z => absurd z.2 (by decide))]; exact c4, by rw [u.2.1, if_neg (fun z => absurd z.2 (by decide))]; exact c5, by rw [u.2.1, if_pos ⟨rfl, rfl⟩], by rw [u.2.1, if_neg (fun z => absurd z.2 (by decide))]; exact c12, by rw [u.2.1, if_neg (fun z => absurd z.2 (by decide))]; exact c13, by rw [u.2.1, if_neg (fun z => absurd z.2 (by decide))]; exact c14, by rw [u.2.1, if_neg (fun z => absurd z.2 (by decide))]; exact c17⟩
theorem TM.u12 (h : TM th am mb f G0 n lim p tok at9 sp num wd G) {v : Int32} (u : x_upd G G1 am 12 (.int v)) : TM th am mb f G0 n lim p tok v sp num wd G1 := by
  obtain ⟨a1, a2, a3, a4, a5, c1, c3, c4, c5, c11, c12, c13, c14, c17⟩ := h
  have ne : mb ≠ am := fun z => by rw [z, a2] at a3; cases a3
  refine ⟨a1.upd u a2 (y_okA rfl), a2, a3, fun i hi => by rw [u.2.1, if_neg (fun z => ne z.1)]; exact a4 i hi, fun c i hc => by rw [u.2.1, if_neg (fun z => by rcases hc with hc | hc; exact hc z.1; have := z.2; omega)]; exact a5 c i hc, by rw [u.2.1, if_neg (fun z => absurd z.2 (by decide))]; exact c1, by rw [u.2.1, if_neg (fun z => absurd z.2 (by decide))]; exact c3, by rw [u.2.1, if_neg (fun z => absurd z.2 (by decide))]; exact c4, by rw [u.2.1, if_neg (fun z => absurd z.2 (by decide))]; exact c5, by rw [u.2.1, if_neg (fun z => absurd z.2 (by decide))]; exact c11, by rw [u.2.1, if_pos ⟨rfl, rfl⟩], by rw [u.2.1, if_neg (fun z => absurd z.2 (by decide))]; exact c13, by rw [u.2.1, if_neg (fun z => absurd z.2 (by decide))]; exact c14, by rw [u.2.1, if_neg (fun z => absurd z.2 (by decide))]; exact c17⟩
theorem TM.u13 (h : TM th am mb f G0 n lim p tok at9 sp num wd G) {v : Int32} (u : x_upd G G1 am 13 (.int v)) : TM th am mb f G0 n lim p tok at9 v num wd G1 := by
  obtain ⟨a1, a2, a3, a4, a5, c1, c3, c4, c5, c11, c12, c13, c14, c17⟩ := h
  have ne : mb ≠ am := fun z => by rw [z, a2] at a3; cases a3
  refine ⟨a1.upd u a2 (y_okA rfl), a2, a3, fun i hi => by rw [u.2.1, if_neg (fun z => ne z.1)]; exact a4 i hi, fun c i hc => by rw [u.2.1, if_neg (fun z => by rcases hc with hc | hc; exact hc z.1; have := z.2; omega)]; exact a5 c i hc, by rw [u.2.1, if_neg (fun z => absurd z.2 (by decide))]; exact c1, by rw [u.2.1, if_neg (fun z => absurd z.2 (by decide))]; exact c3, by rw [u.2.1, if_neg (fun z => absurd z.2 (by decide))]; exact c4, by rw [u.2.1, if_neg (fun z => absurd z.2 (by decide))]; exact c5, by rw [u.2.1, if_neg (fun z => absurd z.2 (by decide))]; exact c11, by rw [u.2.1, if_neg (fun z => absurd z.2 (by decide))]; exact c12, by rw [u.2.1, if_pos ⟨rfl, rfl⟩], by rw [u.2.1, if_neg (fun z => absurd z.2 (by decide))]; exact c14, by rw [u.2.1, if_neg (fun z => absurd z.2 (by decide))]; exact c17⟩
theorem TM.u14 (h : TM th am mb f G0 n lim p tok at9 sp num wd G) {v : Int32} (u : x_upd G G1 am 14 (.int v)) : TM th am mb f G0 n lim p tok at9 sp v wd G1 := by
  obtain ⟨a1, a2, a3, a4, a5, c1, c3, c4, c5, c11, c12, c13, c14, c17⟩ := h
  have ne : mb ≠ am := fun z => by rw [z, a2] at a3; cases a3
  refine ⟨a1.upd u a2 (y_okA rfl), a2, a3, fun i hi => by rw [u.2.1, if_neg (fun z => ne z.1)]; exact a4 i hi, fun c i hc => by rw [u.2.1, if_neg (fun z => by rcases hc with hc | hc; exact hc z.1; have := z.2; omega)]; exact a5 c i hc, by rw [u.2.1, if_neg (fun z => absurd z.2 (by decide))]; exact c1, by rw [u.2.1, if_neg (fun z => absurd z.2 (by decide))]; exact c3, by rw [u.2.1, if_neg (fun z => absurd z.2 (by decide))]; exact c4, by rw [u.2.1, if_neg (fun z => absurd z.2 (by decide))]; exact c5, by rw [u.2.1, if_neg (fun z => absurd z.2 (by decide))]; exact c11, by rw [u.2.1, if_neg (fun z => absurd z.2 (by decide))]; exact c12, by rw [u.2.1, if_neg (fun z => absurd z.2 (by decide))]; exact c13, by rw [u.2.1, if_pos ⟨rfl, rfl⟩], by rw [u.2.1, if_neg (fun z => absurd z.2 (by decide))]; exact c17⟩
theorem TM.u17 (h : TM th am mb f G0 n lim p tok at9 sp num wd G) {v : Int64} (u : x_upd G G1 am 17 (.long v)) : TM th am mb f G0 n lim p tok at9 sp num v G1 := by
  obtain ⟨a1, a2, a3, a4, a5, c1, c3, c4, c5, c11, c12, c13, c14, c17⟩ := h
  have ne : mb ≠ am := fun z => by rw [z, a2] at a3; cases a3
  refine ⟨a1.upd u a2 (y_okL rfl), a2, a3, fun i hi => by rw [u.2.1, if_neg (fun z => ne z.1)]; exact a4 i hi, fun c i hc => by rw [u.2.1, if_neg (fun z => by rcases hc with hc | hc; exact hc z.1; have := z.2; omega)]; exact a5 c i hc, by rw [u.2.1, if_neg (fun z => absurd z.2 (by decide))]; exact c1, by rw [u.2.1, if_neg (fun z => absurd z.2 (by decide))]; exact c3, by rw [u.2.1, if_neg (fun z => absurd z.2 (by decide))]; exact c4, by rw [u.2.1, if_neg (fun z => absurd z.2 (by decide))]; exact c5, by rw [u.2.1, if_neg (fun z => absurd z.2 (by decide))]; exact c11, by rw [u.2.1, if_neg (fun z => absurd z.2 (by decide))]; exact c12, by rw [u.2.1, if_neg (fun z => absurd z.2 (by decide))]; exact c13, by rw [u.2.1, if_neg (fun z => absurd z.2 (by decide))]; exact c14, by rw [u.2.1, if_pos ⟨rfl, rfl⟩]⟩
/-- a byte, and the same without its sign -/
theorem t_and {x : Int32} (h : -128 ≤ x.toInt ∧ x.toInt ≤ 127) : (x &&& 255).toInt = if 0 ≤ x.toInt then x.toInt else x.toInt + 256 := by
  obtain ⟨h1, h2⟩ := y_and255 h.1 h.2
  split
  · rename_i z
    exact h1 z
  · exact h2 (by omega)
theorem t_le_255 {x : Int32} (h : -128 ≤ x.toInt ∧ x.toInt ≤ 127) : t_le (x &&& 255) = t_le x := by
  unfold t_le
  rw [t_and h]
  split
  · rfl
  · rw [Bool.eq_iff_iff]
    simp only [Bool.and_eq_true, decide_eq_true_eq]
    omega
theorem t_di_255 {x : Int32} (h : -128 ≤ x.toInt ∧ x.toInt ≤ 127) : t_di (x &&& 255) = t_di x := by
  unfold t_di
  rw [t_and h]
  split
  · rfl
  · rw [Bool.eq_iff_iff]
    simp only [Bool.and_eq_true, decide_eq_true_eq]
    omega
theorem t_bl_255 {x : Int32} (h : -128 ≤ x.toInt ∧ x.toInt ≤ 127) : t_bl x = true ↔ (x &&& 255).toInt = 32 ∨ (x &&& 255).toInt = 10 := by
  rw [t_and h]
  have e : t_bl x = true ↔ x.toInt = 32 ∨ x.toInt = 10 := by
    unfold t_bl
    simp only [Bool.or_eq_true, beq_iff_eq]
    constructor
    · rintro (rfl | rfl)
      · exact Or.inl rfl
      · exact Or.inr rfl
    · rintro (z | z)
      · exact Or.inl (Int32.toInt_inj.mp z)
      · exact Or.inr (Int32.toInt_inj.mp z)
  rw [e]
  split <;> omega
theorem TM.fb (h : TM th am mb f G0 n lim p tok at9 sp num wd G) {i : Nat} (hi : i < 940) : -128 ≤ (f i).toInt ∧ (f i).toInt ≤ 127 := y_fie (t := 35) h.I h.tb (by rw [show (x_tb 35).2.2.2 = [(940, ((0 : Nat), (-128 : Int), (127 : Int)))] from rfl]; exact y_one hi) (h.by i hi)
/-- what peek answers -/
def t_pk (f : Nat → Int32) (n p : Int32) : Int32 := if p.toInt < n.toInt then f p.toInt.toNat &&& (Int16.ofInt 255).toInt32 else Int32.ofInt (-1)
set_option maxHeartbeats 2000000 in
set_option maxRecDepth 100000 in
theorem k_peek (h : TM th am mb f G0 n lim p tok at9 sp num wd G) (p0 : 0 ≤ p.toInt) (hn : n.toInt ≤ 940) : x_Gd xs L J d m_164 (fun r G' => r = some (.int (t_pk f n p)) ∧ G' = G) 0 (lv_args 0 [.ref am]) [] G := by
  have g0 : pm_get (lv_args 0 [.ref am]) 0 = some (.ref am) := rfl
  refine y_aln (e_164 (0, .aload_n 0, 1) (List.mem_of_getElem? (i := 0) rfl)) g0 ?_
  refine y_getf h.I h.t (e_164 (1, .getfield 21, 3) (List.mem_of_getElem? (i := 1) rfl)) u_17_21 ⟨rfl, rfl⟩ h.s4 ?_
  refine y_aln (e_164 (4, .aload_n 0, 1) (List.mem_of_getElem? (i := 2) rfl)) g0 ?_
  refine y_getf h.I h.t (e_164 (5, .getfield 18, 3) (List.mem_of_getElem? (i := 3) rfl)) u_17_18 ⟨rfl, rfl⟩ h.s3 ?_
  refine y_icm (e_164 (8, .if_icmp .ge 19, 3) (List.mem_of_getElem? (i := 4) rfl)) rfl (fun hc => ?_) (fun hc => ?_)
  · have hge := y_hI.2.2.2.2.1 hc
    refine y_st (e_164 (27, .iconst (-1), 1) (List.mem_of_getElem? (i := 13) rfl)) ⟨rfl, rfl, rfl, rfl⟩ ?_
    refine y_ret (e_164 (28, .ireturn, 1) (List.mem_of_getElem? (i := 14) rfl)) ⟨rfl, y_ri⟩ ⟨?_, rfl⟩
    unfold t_pk
    rw [if_neg (by omega)]
  · have hlt := y_hI.2.2.2.2.2.1 hc
    refine y_aln (e_164 (11, .aload_n 0, 1) (List.mem_of_getElem? (i := 5) rfl)) g0 ?_
    refine y_getf h.I h.t (e_164 (12, .getfield 14, 3) (List.mem_of_getElem? (i := 6) rfl)) u_17_14 ⟨rfl, rfl⟩ h.s1 ?_
    refine y_aln (e_164 (15, .aload_n 0, 1) (List.mem_of_getElem? (i := 7) rfl)) g0 ?_
    refine y_getf h.I h.t (e_164 (16, .getfield 21, 3) (List.mem_of_getElem? (i := 8) rfl)) u_17_21 ⟨rfl, rfl⟩ h.s4 ?_
    refine y_bald h.I h.tb (e_164 (19, .baload, 1) (List.mem_of_getElem? (i := 9) rfl)) ⟨rfl, Or.inl rfl⟩ p0 (h.by _ (by omega)) ?_
    refine y_st (e_164 (20, .sipush 255, 3) (List.mem_of_getElem? (i := 10) rfl)) ⟨rfl, rfl, rfl, rfl⟩ ?_
    refine y_st (e_164 (23, .iand, 1) (List.mem_of_getElem? (i := 11) rfl)) ⟨rfl, rfl, rfl, rfl⟩ ?_
    refine y_st (e_164 (24, .goto 4, 3) (List.mem_of_getElem? (i := 12) rfl)) ⟨rfl, rfl, rfl, rfl⟩ ?_
    refine y_ret (e_164 (28, .ireturn, 1) (List.mem_of_getElem? (i := 14) rfl)) ⟨rfl, y_ri⟩ ⟨?_, rfl⟩
    unfold t_pk
    rw [if_pos hlt]
set_option maxHeartbeats 2000000 in
set_option maxRecDepth 100000 in
theorem k_isSmall (x : Int32) : x_Gd xs L J d m_165 (fun r G' => r = some (.int (if t_le x then 1 else 0)) ∧ G' = G) 0 (lv_args 0 [.int x]) [] G := by
  have e1 : ((Int8.ofInt 97).toInt32).toInt = 97 := rfl
  have e2 : ((Int8.ofInt 122).toInt32).toInt = 122 := rfl
  have fin0 : t_le x = false → x_Gd xs L J d m_165 (fun r G' => r = some (.int (if t_le x then 1 else 0)) ∧ G' = G) 16 (lv_args 0 [.int x]) [] G := fun hx => by
    refine y_st (e_165 (16, .iconst 0, 1) (List.mem_of_getElem? (i := 8) rfl)) ⟨rfl, rfl, rfl, rfl⟩ ?_
    refine y_ret (e_165 (17, .ireturn, 1) (List.mem_of_getElem? (i := 9) rfl)) ⟨rfl, y_rb (Or.inl rfl)⟩ ⟨by rw [hx]; rfl, rfl⟩
  refine y_iln (e_165 (0, .iload_n 0, 1) (List.mem_of_getElem? (i := 0) rfl)) rfl ?_
  refine y_st (e_165 (1, .bipush 97, 2) (List.mem_of_getElem? (i := 1) rfl)) ⟨rfl, rfl, rfl, rfl⟩ ?_
  refine y_icm (e_165 (3, .if_icmp .lt 13, 3) (List.mem_of_getElem? (i := 2) rfl)) rfl (fun hb => ?_) (fun hb => ?_)
  · have n1 := y_hI.2.2.2.2.2.2.2.2.1 hb
    rw [e1] at n1
    refine fin0 ?_
    simp only [t_le, Bool.and_eq_false_iff, decide_eq_false_iff_not]
    omega
  have n1 := y_hI.2.2.2.2.2.2.2.2.2.1 hb
  rw [e1] at n1
  refine y_iln (e_165 (6, .iload_n 0, 1) (List.mem_of_getElem? (i := 3) rfl)) rfl ?_
  refine y_st (e_165 (7, .bipush 122, 2) (List.mem_of_getElem? (i := 4) rfl)) ⟨rfl, rfl, rfl, rfl⟩ ?_
  refine y_icm (e_165 (9, .if_icmp .gt 7, 3) (List.mem_of_getElem? (i := 5) rfl)) rfl (fun hb => ?_) (fun hb => ?_)
  · have n2 := y_hI.2.2.2.2.2.2.2.2.2.2.1 hb
    rw [e2] at n2
    refine fin0 ?_
    simp only [t_le, Bool.and_eq_false_iff, decide_eq_false_iff_not]
    omega
  · have n2 := y_hI.2.2.2.2.2.2.2.2.2.2.2 hb
    rw [e2] at n2
    have hx : t_le x = true := by
      simp only [t_le, Bool.and_eq_true, decide_eq_true_eq]
      omega
    refine y_st (e_165 (12, .iconst 1, 1) (List.mem_of_getElem? (i := 6) rfl)) ⟨rfl, rfl, rfl, rfl⟩ ?_
    refine y_st (e_165 (13, .goto 4, 3) (List.mem_of_getElem? (i := 7) rfl)) ⟨rfl, rfl, rfl, rfl⟩ ?_
    refine y_ret (e_165 (17, .ireturn, 1) (List.mem_of_getElem? (i := 9) rfl)) ⟨rfl, y_rb (Or.inr rfl)⟩ ⟨by rw [hx]; rfl, rfl⟩
set_option maxHeartbeats 2000000 in
set_option maxRecDepth 100000 in
theorem k_isDigit (x : Int32) : x_Gd xs L J d m_166 (fun r G' => r = some (.int (if t_di x then 1 else 0)) ∧ G' = G) 0 (lv_args 0 [.int x]) [] G := by
  have e1 : ((Int8.ofInt 48).toInt32).toInt = 48 := rfl
  have e2 : ((Int8.ofInt 57).toInt32).toInt = 57 := rfl
  have fin0 : t_di x = false → x_Gd xs L J d m_166 (fun r G' => r = some (.int (if t_di x then 1 else 0)) ∧ G' = G) 16 (lv_args 0 [.int x]) [] G := fun hx => by
    refine y_st (e_166 (16, .iconst 0, 1) (List.mem_of_getElem? (i := 8) rfl)) ⟨rfl, rfl, rfl, rfl⟩ ?_
    refine y_ret (e_166 (17, .ireturn, 1) (List.mem_of_getElem? (i := 9) rfl)) ⟨rfl, y_rb (Or.inl rfl)⟩ ⟨by rw [hx]; rfl, rfl⟩
  refine y_iln (e_166 (0, .iload_n 0, 1) (List.mem_of_getElem? (i := 0) rfl)) rfl ?_
  refine y_st (e_166 (1, .bipush 48, 2) (List.mem_of_getElem? (i := 1) rfl)) ⟨rfl, rfl, rfl, rfl⟩ ?_
  refine y_icm (e_166 (3, .if_icmp .lt 13, 3) (List.mem_of_getElem? (i := 2) rfl)) rfl (fun hb => ?_) (fun hb => ?_)
  · have n1 := y_hI.2.2.2.2.2.2.2.2.1 hb
    rw [e1] at n1
    refine fin0 ?_
    simp only [t_di, Bool.and_eq_false_iff, decide_eq_false_iff_not]
    omega
  have n1 := y_hI.2.2.2.2.2.2.2.2.2.1 hb
  rw [e1] at n1
  refine y_iln (e_166 (6, .iload_n 0, 1) (List.mem_of_getElem? (i := 3) rfl)) rfl ?_
  refine y_st (e_166 (7, .bipush 57, 2) (List.mem_of_getElem? (i := 4) rfl)) ⟨rfl, rfl, rfl, rfl⟩ ?_
  refine y_icm (e_166 (9, .if_icmp .gt 7, 3) (List.mem_of_getElem? (i := 5) rfl)) rfl (fun hb => ?_) (fun hb => ?_)
  · have n2 := y_hI.2.2.2.2.2.2.2.2.2.2.1 hb
    rw [e2] at n2
    refine fin0 ?_
    simp only [t_di, Bool.and_eq_false_iff, decide_eq_false_iff_not]
    omega
  · have n2 := y_hI.2.2.2.2.2.2.2.2.2.2.2 hb
    rw [e2] at n2
    have hx : t_di x = true := by
      simp only [t_di, Bool.and_eq_true, decide_eq_true_eq]
      omega
    refine y_st (e_166 (12, .iconst 1, 1) (List.mem_of_getElem? (i := 6) rfl)) ⟨rfl, rfl, rfl, rfl⟩ ?_
    refine y_st (e_166 (13, .goto 4, 3) (List.mem_of_getElem? (i := 7) rfl)) ⟨rfl, rfl, rfl, rfl⟩ ?_
    refine y_ret (e_166 (17, .ireturn, 1) (List.mem_of_getElem? (i := 9) rfl)) ⟨rfl, y_rb (Or.inr rfl)⟩ ⟨by rw [hx]; rfl, rfl⟩
end TMS
