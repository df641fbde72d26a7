def m_172 : pM := (⟨"BreathingHillModel", "puts", "(III)Z"⟩, 1519, 4, some (FieldType.boolean), 17, 3, false, 10, 103, 1518, 41)
set_option maxRecDepth 100000 in
theorem m_172_ok : pm_tab[172]? = some m_172 := rfl
theorem e_172 : ∀ q ∈ d_172, decode m_172.code q.1 = .ok (q.2.1, q.2.2) := y_dec d_172_ok m_172_ok
def m_173 : pM := (⟨"BreathingHillModel", "takes", "(II)Z"⟩, 1523, 3, some (FieldType.boolean), 17, 2, false, 10, 103, 1522, 42)
set_option maxRecDepth 100000 in
theorem m_173_ok : pm_tab[173]? = some m_173 := rfl
theorem e_173 : ∀ q ∈ d_173, decode m_173.code q.1 = .ok (q.2.1, q.2.2) := y_dec d_173_ok m_173_ok
theorem u_17_158 : pm_ftab.find? (fun r => r.1 == 17 && r.2.1 == 158) = some (17, 158, 10, 15, 0, 1353) := by decide +kernel
theorem u_17_192 : pm_ftab.find? (fun r => r.1 == 17 && r.2.1 == 192) = some (17, 192, 10, 20, 0, 1358) := by decide +kernel
theorem t_17_180 : pm_ctab.find? (fun r => r.1 == 17 && r.2.1 == 180) = some (17, 180, 1, 173, 1520) := by decide +kernel
theorem t_17_184 : pm_ctab.find? (fun r => r.1 == 17 && r.2.1 == 184) = some (17, 184, 1, 178, 1539) := by decide +kernel
theorem t_17_205 : pm_ctab.find? (fun r => r.1 == 17 && r.2.1 == 205) = some (17, 205, 1, 172, 1516) := by decide +kernel
-- ===== the model while it reads =====
def MSo (th : List Nat) (am mb hb nb rb : Nat) (f : Nat → Int32) (n lim p tok at9 sp num : Int32) (wd : Int64) (hf : Nat → Int32) (nf : Nat → Int64) (on : Int32) (G : List pE) : Prop := TM th am mb f G n lim p tok at9 sp num wd G ∧ th[hb]? = some 37 ∧ th[nb]? = some 39 ∧ th[rb]? = some 40 ∧ x_sl G am 7 = some (.ref hb) ∧ x_sl G am 9 = some (.ref nb) ∧ x_sl G am 10 = some (.ref rb) ∧ x_sl G am 20 = some (.int on) ∧ (∀ i, i < 81 → x_sl G hb i = some (.int (hf i))) ∧ (∀ i, i < 32 → x_sl G nb i = some (.long (nf i))) ∧ (∀ i, i < 25 → x_sl G rb i = some (.long (t_W i)))
def MS (th : List Nat) (am mb hb nb rb : Nat) (f : Nat → Int32) (n lim p tok at9 sp num : Int32) (wd : Int64) (hf : Nat → Int32) (nf : Nat → Int64) (on : Int32) (G : List pE) : Prop := TM th am mb f G n lim p tok at9 sp num wd G ∧ th[hb]? = some 37 ∧ th[nb]? = some 39 ∧ th[rb]? = some 40 ∧ x_sl G am 7 = some (.ref hb) ∧ x_sl G am 9 = some (.ref nb) ∧ x_sl G am 10 = some (.ref rb) ∧ x_sl G am 20 = some (.int on) ∧ (∀ i, i < 81 → x_sl G hb i = some (.int (hf i))) ∧ (∀ i, i < 32 → x_sl G nb i = some (.long (nf i))) ∧ ((∀ i, i < 25 → x_sl G rb i = some (.long (t_W i))) ∧ x_sl G am 15 = some (.int (Int32.ofInt 0)))
section MG
variable {th : List Nat} {xs : Nat → Int32} {L J d am mb hb nb rb : Nat} {K : Option Value → List pE → Prop} {f : Nat → Int32} {G0 G G1 G' : List pE} {n lim p tok at9 sp num : Int32} {wd : Int64} {lv : pL} {p' tok' at' sp' num' : Int32} {wd' : Int64} {hf : Nat → Int32} {nf : Nat → Int64} {on : Int32}
theorem TM.self (h : TM th am mb f G0 n lim p tok at9 sp num wd G) : TM th am mb f G n lim p tok at9 sp num wd G := by
  obtain ⟨a1, a2, a3, a4, a5, r⟩ := h
  exact ⟨a1, a2, a3, a4, fun _ _ _ => rfl, r⟩
theorem TM.other {c i : Nat} {v : Value} (h : TM th am mb f G0 n lim p tok at9 sp num wd G) (u : x_upd G G1 c i v) (h1 : c ≠ mb) (h2 : c ≠ am ∨ (i ≠ 1 ∧ i ≠ 3 ∧ i ≠ 4 ∧ i ≠ 5 ∧ i ≠ 11 ∧ i ≠ 12 ∧ i ≠ 13 ∧ i ≠ 14 ∧ i ≠ 17)) (hI : xI x_tb th G1) : TM th am mb f G1 n lim p tok at9 sp num wd G1 := by
  obtain ⟨a1, a2, a3, a4, a5, r0, r1, r2, r3, r4, r5, r6, r7, r8⟩ := h
  have e : ∀ j, (c ≠ am ∨ j ≠ i) → x_sl G1 am j = x_sl G am j := fun j hj => by rw [u.2.1, if_neg (fun z => by rcases hj with hj | hj; exact hj z.1.symm; exact hj z.2)]
  have ee : ∀ j, (j = 1 ∨ j = 3 ∨ j = 4 ∨ j = 5 ∨ j = 11 ∨ j = 12 ∨ j = 13 ∨ j = 14 ∨ j = 17) → x_sl G1 am j = x_sl G am j := fun j hj => e j (by rcases h2 with h2 | h2; exact Or.inl h2; exact Or.inr (by omega))
  exact ⟨hI, a2, a3, fun i hi => by rw [u.2.1, if_neg (fun z => h1 z.1.symm)]; exact a4 i hi, fun _ _ _ => rfl, by rw [ee _ (by omega)]; exact r0, by rw [ee _ (by omega)]; exact r1, by rw [ee _ (by omega)]; exact r2, by rw [ee _ (by omega)]; exact r3, by rw [ee _ (by omega)]; exact r4, by rw [ee _ (by omega)]; exact r5, by rw [ee _ (by omega)]; exact r6, by rw [ee _ (by omega)]; exact r7, by rw [ee _ (by omega)]; exact r8⟩
theorem MS.T (h : MS th am mb hb nb rb f n lim p tok at9 sp num wd hf nf on G) : TM th am mb f G n lim p tok at9 sp num wd G := h.1
theorem MS.nxt (h : MS th am mb hb nb rb f n lim p tok at9 sp num wd hf nf on G) (t : TM th am mb f G n lim p' tok' at' sp' num' wd' G') : MS th am mb hb nb rb f n lim p' tok' at' sp' num' wd' hf nf on G' := by
  obtain ⟨T, b1, b2, b3, c1, c2, c3, c4, d1, d2, d3⟩ := h
  have ta := T.t
  have n1 : hb ≠ am := fun z => by rw [z, ta] at b1; cases b1
  have n2 : nb ≠ am := fun z => by rw [z, ta] at b2; cases b2
  have n3 : rb ≠ am := fun z => by rw [z, ta] at b3; cases b3
  exact ⟨t.self, b1, b2, b3, by rw [t.ot _ _ (Or.inr (by decide))]; exact c1, by rw [t.ot _ _ (Or.inr (by decide))]; exact c2, by rw [t.ot _ _ (Or.inr (by decide))]; exact c3, by rw [t.ot _ _ (Or.inr (by decide))]; exact c4, fun i hi => by rw [t.ot _ _ (Or.inl n1)]; exact d1 i hi, fun i hi => by rw [t.ot _ _ (Or.inl n2)]; exact d2 i hi, fun i hi => by rw [t.ot _ _ (Or.inl n3)]; exact d3.1 i hi, by rw [t.ot _ _ (Or.inr (by decide))]; exact d3.2⟩
theorem MS.ne (h : MS th am mb hb nb rb f n lim p tok at9 sp num wd hf nf on G) : hb ≠ am ∧ nb ≠ am ∧ rb ≠ am ∧ hb ≠ mb ∧ nb ≠ mb ∧ hb ≠ nb ∧ hb ≠ rb ∧ nb ≠ rb ∧ am ≠ mb := by
  obtain ⟨T, b1, b2, b3, -⟩ := h
  have ta := T.t
  have tb := T.tb
  exact ⟨(fun z => by rw [z, ta] at b1; cases b1), (fun z => by rw [z, ta] at b2; cases b2), (fun z => by rw [z, ta] at b3; cases b3), (fun z => by rw [z, tb] at b1; cases b1), (fun z => by rw [z, tb] at b2; cases b2), (fun z => by rw [z, b2] at b1; cases b1), (fun z => by rw [z, b3] at b1; cases b1), (fun z => by rw [z, b3] at b2; cases b2), (fun z => by rw [z, tb] at ta; cases ta)⟩
/-- a slot of the model's own that the reading does not ask -/
theorem MS.oth {i : Nat} {v : Value} (h : MS th am mb hb nb rb f n lim p tok at9 sp num wd hf nf on G) (u : x_upd G G1 am i v) (hi : i = 16 ∨ i = 18) (hI : xI x_tb th G1) : MS th am mb hb nb rb f n lim p tok at9 sp num wd hf nf on G1 := by
  obtain ⟨n1, n2, n3, -, -, -, -, -, n9⟩ := h.ne
  obtain ⟨T, b1, b2, b3, c1, c2, c3, c4, d1, d2, d3⟩ := h
  exact ⟨T.other u n9 (Or.inr (by omega)) hI, b1, b2, b3, by rw [u.2.1, if_neg (fun z => by omega)]; exact c1, by rw [u.2.1, if_neg (fun z => by omega)]; exact c2, by rw [u.2.1, if_neg (fun z => by omega)]; exact c3, by rw [u.2.1, if_neg (fun z => by omega)]; exact c4, fun j hj => by rw [u.2.1, if_neg (fun z => n1 z.1)]; exact d1 j hj, fun j hj => by rw [u.2.1, if_neg (fun z => n2 z.1)]; exact d2 j hj, fun j hj => by rw [u.2.1, if_neg (fun z => n3 z.1)]; exact d3.1 j hj, by rw [u.2.1, if_neg (fun z => by omega)]; exact d3.2⟩
theorem MS.on9 {v : Int32} (h : MS th am mb hb nb rb f n lim p tok at9 sp num wd hf nf on G) (u : x_upd G G1 am 20 (.int v)) (hI : xI x_tb th G1) : MS th am mb hb nb rb f n lim p tok at9 sp num wd hf nf v G1 := by
  obtain ⟨n1, n2, n3, -, -, -, -, -, n9⟩ := h.ne
  obtain ⟨T, b1, b2, b3, c1, c2, c3, c4, d1, d2, d3⟩ := h
  exact ⟨T.other u n9 (Or.inr (by decide)) hI, b1, b2, b3, by rw [u.2.1, if_neg (fun z => by omega)]; exact c1, by rw [u.2.1, if_neg (fun z => by omega)]; exact c2, by rw [u.2.1, if_neg (fun z => by omega)]; exact c3, by rw [u.2.1, if_pos ⟨rfl, rfl⟩], fun j hj => by rw [u.2.1, if_neg (fun z => n1 z.1)]; exact d1 j hj, fun j hj => by rw [u.2.1, if_neg (fun z => n2 z.1)]; exact d2 j hj, fun j hj => by rw [u.2.1, if_neg (fun z => n3 z.1)]; exact d3.1 j hj, by rw [u.2.1, if_neg (fun z => by omega)]; exact d3.2⟩
theorem MS.put {k : Nat} {v : Int32} (h : MS th am mb hb nb rb f n lim p tok at9 sp num wd hf nf on G) (u : x_upd G G1 hb k (.int v)) (hI : xI x_tb th G1) : MS th am mb hb nb rb f n lim p tok at9 sp num wd (fun i => if i = k then v else hf i) nf on G1 := by
  obtain ⟨n1, n2, n3, n4, n5, n6, n7, n8, n9⟩ := h.ne
  obtain ⟨T, b1, b2, b3, c1, c2, c3, c4, d1, d2, d3⟩ := h
  refine ⟨T.other u n4 (Or.inl n1) hI, b1, b2, b3, by rw [u.2.1, if_neg (fun z => n1 z.1.symm)]; exact c1, by rw [u.2.1, if_neg (fun z => n1 z.1.symm)]; exact c2, by rw [u.2.1, if_neg (fun z => n1 z.1.symm)]; exact c3, by rw [u.2.1, if_neg (fun z => n1 z.1.symm)]; exact c4, fun j hj => ?_, fun j hj => by rw [u.2.1, if_neg (fun z => n6 z.1.symm)]; exact d2 j hj, fun j hj => by rw [u.2.1, if_neg (fun z => n7 z.1.symm)]; exact d3.1 j hj, by rw [u.2.1, if_neg (fun z => n1 z.1.symm)]; exact d3.2⟩
  show x_sl G1 hb j = some (.int (if j = k then v else hf j))
  rw [u.2.1]
  by_cases hjk : j = k
  · rw [if_pos ⟨rfl, hjk⟩, if_pos hjk]
  · rw [if_neg (fun z => hjk z.2), if_neg hjk]
    exact d1 j hj
theorem MS.name {k : Nat} {v : Int64} (h : MS th am mb hb nb rb f n lim p tok at9 sp num wd hf nf on G) (u : x_upd G G1 nb k (.long v)) (hI : xI x_tb th G1) : MS th am mb hb nb rb f n lim p tok at9 sp num wd hf (fun i => if i = k then v else nf i) on G1 := by
  obtain ⟨n1, n2, n3, n4, n5, n6, n7, n8, n9⟩ := h.ne
  obtain ⟨T, b1, b2, b3, c1, c2, c3, c4, d1, d2, d3⟩ := h
  refine ⟨T.other u n5 (Or.inl n2) hI, b1, b2, b3, by rw [u.2.1, if_neg (fun z => n2 z.1.symm)]; exact c1, by rw [u.2.1, if_neg (fun z => n2 z.1.symm)]; exact c2, by rw [u.2.1, if_neg (fun z => n2 z.1.symm)]; exact c3, by rw [u.2.1, if_neg (fun z => n2 z.1.symm)]; exact c4, fun j hj => by rw [u.2.1, if_neg (fun z => n6 z.1)]; exact d1 j hj, fun j hj => ?_, fun j hj => by rw [u.2.1, if_neg (fun z => n8 z.1.symm)]; exact d3.1 j hj, by rw [u.2.1, if_neg (fun z => n2 z.1.symm)]; exact d3.2⟩
  show x_sl G1 nb j = some (.long (if j = k then v else nf j))
  rw [u.2.1]
  by_cases hjk : j = k
  · rw [if_pos ⟨rfl, hjk⟩, if_pos hjk]
  · rw [if_neg (fun z => hjk z.2), if_neg hjk]
    exact d2 j hj
set_option maxHeartbeats 2000000 in
set_option maxRecDepth 100000 in
theorem k_bad (h : MS th am mb hb nb rb f n lim p tok at9 sp num wd hf nf on G) (q : Int32) : x_Gd xs L J d m_171 (fun r G' => r = some (.int 0) ∧ x_sl G' am 16 = some (.int at9) ∧ x_sl G' am 15 = some (.int q)) 0 (lv_args 0 [.ref am, .int q]) [] G := by
  have g0 : pm_get (lv_args 0 [.ref am, .int q]) 0 = some (.ref am) := rfl
  refine y_aln (e_171 (0, .aload_n 0, 1) (List.mem_of_getElem? (i := 0) rfl)) g0 ?_
  refine y_iln (e_171 (1, .iload_n 1, 1) (List.mem_of_getElem? (i := 1) rfl)) rfl ?_
  refine y_putf (f := (0, -2147483648, 2147483647)) h.T.I h.T.t (e_171 (2, .putfield 158, 3) (List.mem_of_getElem? (i := 2) rfl)) u_17_158 ⟨rfl, rfl, by decide, rfl, rfl⟩ ⟨_, rfl, (x_i32 _).1, (x_i32 _).2⟩ (fun G1 u1 => ?_)
  have h1 := h.T.other u1 h.ne.2.2.2.2.2.2.2.2 (Or.inr (by decide)) (h.T.I.upd u1 h.T.t (y_okA rfl))
  refine y_aln (e_171 (5, .aload_n 0, 1) (List.mem_of_getElem? (i := 3) rfl)) g0 ?_
  refine y_aln (e_171 (6, .aload_n 0, 1) (List.mem_of_getElem? (i := 4) rfl)) g0 ?_
  refine y_getf h1.I h1.t (e_171 (7, .getfield 135, 3) (List.mem_of_getElem? (i := 5) rfl)) u_17_135 ⟨rfl, rfl⟩ h1.s12 ?_
  refine y_putf (f := (0, -2147483648, 2147483647)) h1.I h1.t (e_171 (10, .putfield 161, 3) (List.mem_of_getElem? (i := 6) rfl)) u_17_161 ⟨rfl, rfl, by decide, rfl, rfl⟩ ⟨_, rfl, (x_i32 _).1, (x_i32 _).2⟩ (fun G2 u2 => ?_)
  refine y_st (e_171 (13, .iconst 0, 1) (List.mem_of_getElem? (i := 7) rfl)) ⟨rfl, rfl, rfl, rfl⟩ ?_
  exact y_ret (e_171 (14, .ireturn, 1) (List.mem_of_getElem? (i := 8) rfl)) ⟨rfl, y_rb (Or.inl rfl)⟩ ⟨rfl, by rw [u2.2.1, if_pos ⟨rfl, rfl⟩], by rw [u2.2.1, if_neg (fun z => absurd z.2 (by decide)), u1.2.1, if_pos ⟨rfl, rfl⟩]⟩
set_option maxHeartbeats 2000000 in
set_option maxRecDepth 100000 in
theorem k_isIn (x lo hi : Int32) : x_Gd xs L J d m_174 (fun r G' => r = some (.int (if lo.toInt ≤ x.toInt ∧ x.toInt ≤ hi.toInt then 1 else 0)) ∧ G' = G) 0 (lv_args 0 [.int x, .int lo, .int hi]) [] G := by
  have fin0 : ¬ (lo.toInt ≤ x.toInt ∧ x.toInt ≤ hi.toInt) → x_Gd xs L J d m_174 (fun r G' => r = some (.int (if lo.toInt ≤ x.toInt ∧ x.toInt ≤ hi.toInt then 1 else 0)) ∧ G' = G) 14 (lv_args 0 [.int x, .int lo, .int hi]) [] G := fun hx => by
    refine y_st (e_174 (14, .iconst 0, 1) (List.mem_of_getElem? (i := 8) rfl)) ⟨rfl, rfl, rfl, rfl⟩ ?_
    refine y_ret (e_174 (15, .ireturn, 1) (List.mem_of_getElem? (i := 9) rfl)) ⟨rfl, y_rb (Or.inl rfl)⟩ ⟨by rw [if_neg hx]; rfl, rfl⟩
  refine y_iln (e_174 (0, .iload_n 0, 1) (List.mem_of_getElem? (i := 0) rfl)) rfl ?_
  refine y_iln (e_174 (1, .iload_n 1, 1) (List.mem_of_getElem? (i := 1) rfl)) rfl ?_
  refine y_icm (e_174 (2, .if_icmp .lt 12, 3) (List.mem_of_getElem? (i := 2) rfl)) rfl (fun hc => ?_) (fun hc => ?_)
  · have := y_hI.2.2.2.2.2.2.2.2.1 hc
    exact fin0 (fun z => by omega)
  have c1 := y_hI.2.2.2.2.2.2.2.2.2.1 hc
  refine y_iln (e_174 (5, .iload_n 0, 1) (List.mem_of_getElem? (i := 3) rfl)) rfl ?_
  refine y_iln (e_174 (6, .iload_n 2, 1) (List.mem_of_getElem? (i := 4) rfl)) rfl ?_
  refine y_icm (e_174 (7, .if_icmp .gt 7, 3) (List.mem_of_getElem? (i := 5) rfl)) rfl (fun hc => ?_) (fun hc => ?_)
  · have := y_hI.2.2.2.2.2.2.2.2.2.2.1 hc
    exact fin0 (fun z => by omega)
  have c2 := y_hI.2.2.2.2.2.2.2.2.2.2.2 hc
  refine y_st (e_174 (10, .iconst 1, 1) (List.mem_of_getElem? (i := 6) rfl)) ⟨rfl, rfl, rfl, rfl⟩ ?_
  refine y_st (e_174 (11, .goto 4, 3) (List.mem_of_getElem? (i := 7) rfl)) ⟨rfl, rfl, rfl, rfl⟩ ?_
  refine y_ret (e_174 (15, .ireturn, 1) (List.mem_of_getElem? (i := 9) rfl)) ⟨rfl, y_rb (Or.inr rfl)⟩ ⟨by rw [if_pos ⟨c1, c2⟩]; rfl, rfl⟩
set_option maxHeartbeats 2000000 in
set_option maxRecDepth 100000 in
theorem k_takes_no {lo hi : Int32} (h : MS th am mb hb nb rb f n lim p tok at9 sp num wd hf nf on G) (hno : tok ≠ Int32.ofInt 2 ∨ num.toInt < lo.toInt ∨ hi.toInt < num.toInt) : x_Gd xs L J (d + 1) m_173 (fun r G' => r = some (.int 0) ∧ x_sl G' am 16 = some (.int at9) ∧ x_sl G' am 15 = some (.int (t_km tok))) 0 (lv_args 0 [.ref am, .int lo, .int hi]) [] G := by
  have g0 : pm_get (lv_args 0 [.ref am, .int lo, .int hi]) 0 = some (.ref am) := rfl
  refine y_aln (e_173 (0, .aload_n 0, 1) (List.mem_of_getElem? (i := 0) rfl)) g0 ?_
  refine y_getf h.T.I h.T.t (e_173 (1, .getfield 141, 3) (List.mem_of_getElem? (i := 1) rfl)) u_17_141 ⟨rfl, rfl⟩ h.T.s11 ?_
  refine y_st (e_173 (4, .iconst 2, 1) (List.mem_of_getElem? (i := 2) rfl)) ⟨rfl, rfl, rfl, rfl⟩ ?_
  refine y_icm (e_173 (5, .if_icmp .eq 9, 3) (List.mem_of_getElem? (i := 3) rfl)) rfl (fun hc => ?_) (fun hc => ?_)
  rotate_left
  · skip
    refine y_aln (e_173 (8, .aload_n 0, 1) (List.mem_of_getElem? (i := 4) rfl)) g0 ?_
    refine y_st (e_173 (9, .iconst 1, 1) (List.mem_of_getElem? (i := 5) rfl)) ⟨rfl, rfl, rfl, rfl⟩ ?_
    refine y_c2 (K' := _) (e_173 (10, .invokevirtual 167, 3) (List.mem_of_getElem? (i := 6) rfl)) ⟨rfl, rfl, rfl⟩ t_17_167 ⟨by decide, by decide, by decide, by decide⟩ m_171_ok rfl (by decide) (y_recv h.T.I h.T.t ⟨rfl, rfl⟩) (Nat.le_of_ble_eq_true rfl) (Nat.le_of_ble_eq_true rfl) (k_bad h _) (fun r1 Gc hc1 => ?_)
    obtain ⟨rfl, hc2⟩ := hc1
    simp only [Option.toList_some, Option.toList_none, List.cons_append, List.nil_append]
    exact y_ret (e_173 (13, .ireturn, 1) (List.mem_of_getElem? (i := 7) rfl)) ⟨rfl, y_rb (Or.inl rfl)⟩ ⟨rfl, hc2.1, by unfold t_km; rw [if_neg (y_hI.2.1 hc)]; exact hc2.2⟩
  have ztk := y_hI.1 hc
  have hno := hno.resolve_left (fun z => z (y_hI.1 hc))
  refine y_aln (e_173 (14, .aload_n 0, 1) (List.mem_of_getElem? (i := 8) rfl)) g0 ?_
  refine y_getf h.T.I h.T.t (e_173 (15, .getfield 151, 3) (List.mem_of_getElem? (i := 9) rfl)) u_17_151 ⟨rfl, rfl⟩ h.T.s14 ?_
  refine y_iln (e_173 (18, .iload_n 1, 1) (List.mem_of_getElem? (i := 10) rfl)) rfl ?_
  refine y_iln (e_173 (19, .iload_n 2, 1) (List.mem_of_getElem? (i := 11) rfl)) rfl ?_
  refine y_c3 (K' := _) (e_173 (20, .invokestatic 173, 3) (List.mem_of_getElem? (i := 12) rfl)) ⟨rfl, rfl, rfl⟩ t_17_173 ⟨by decide, by decide, by decide, by decide⟩ m_174_ok rfl (by decide) rfl (Nat.le_of_ble_eq_true rfl) (Nat.le_of_ble_eq_true rfl) (k_isIn _ _ _) (fun r1 Gc hc1 => ?_)
  obtain ⟨rfl, rfl⟩ := hc1
  simp only [Option.toList_some, Option.toList_none, List.cons_append, List.nil_append]
  rw [if_neg (fun z => by omega)]
  refine y_ifc (e_173 (23, .ifCond .ne 9, 3) (List.mem_of_getElem? (i := 13) rfl)) rfl (fun hc => absurd hc (by decide)) (fun _ => ?_)
  refine y_aln (e_173 (26, .aload_n 0, 1) (List.mem_of_getElem? (i := 14) rfl)) g0 ?_
  refine y_st (e_173 (27, .iconst 2, 1) (List.mem_of_getElem? (i := 15) rfl)) ⟨rfl, rfl, rfl, rfl⟩ ?_
  refine y_c2 (K' := _) (e_173 (28, .invokevirtual 167, 3) (List.mem_of_getElem? (i := 16) rfl)) ⟨rfl, rfl, rfl⟩ t_17_167 ⟨by decide, by decide, by decide, by decide⟩ m_171_ok rfl (by decide) (y_recv h.T.I h.T.t ⟨rfl, rfl⟩) (Nat.le_of_ble_eq_true rfl) (Nat.le_of_ble_eq_true rfl) (k_bad h _) (fun r1 Gc hc1 => ?_)
  obtain ⟨rfl, hc2⟩ := hc1
  simp only [Option.toList_some, Option.toList_none, List.cons_append, List.nil_append]
  exact y_ret (e_173 (31, .ireturn, 1) (List.mem_of_getElem? (i := 17) rfl)) ⟨rfl, y_rb (Or.inl rfl)⟩ ⟨rfl, hc2.1, by unfold t_km; rw [if_pos ztk]; exact hc2.2⟩
set_option maxHeartbeats 2000000 in
set_option maxRecDepth 100000 in
theorem k_takes_yes {lo hi : Int32} (h : MS th am mb hb nb rb f n lim p tok at9 sp num wd hf nf on G) (htk : tok = Int32.ofInt 2) (h1 : lo.toInt ≤ num.toInt) (h2 : num.toInt ≤ hi.toInt) (hN : NXm f n lim p num wd p' tok' at' sp' num' wd') : x_Gd xs L J (d + 2) m_173 (fun r G' => r = some (.int 1) ∧ MS th am mb hb nb rb f n lim p' tok' at' sp' num' wd' hf nf on G' ∧ x_sl G' am 18 = some (.int num)) 0 (lv_args 0 [.ref am, .int lo, .int hi]) [] G := by
  have g0 : pm_get (lv_args 0 [.ref am, .int lo, .int hi]) 0 = some (.ref am) := rfl
  refine y_aln (e_173 (0, .aload_n 0, 1) (List.mem_of_getElem? (i := 0) rfl)) g0 ?_
  refine y_getf h.T.I h.T.t (e_173 (1, .getfield 141, 3) (List.mem_of_getElem? (i := 1) rfl)) u_17_141 ⟨rfl, rfl⟩ h.T.s11 ?_
  refine y_st (e_173 (4, .iconst 2, 1) (List.mem_of_getElem? (i := 2) rfl)) ⟨rfl, rfl, rfl, rfl⟩ ?_
  refine y_icm (e_173 (5, .if_icmp .eq 9, 3) (List.mem_of_getElem? (i := 3) rfl)) rfl (fun _ => ?_) (fun hc => absurd htk (y_hI.2.1 hc))
  refine y_aln (e_173 (14, .aload_n 0, 1) (List.mem_of_getElem? (i := 8) rfl)) g0 ?_
  refine y_getf h.T.I h.T.t (e_173 (15, .getfield 151, 3) (List.mem_of_getElem? (i := 9) rfl)) u_17_151 ⟨rfl, rfl⟩ h.T.s14 ?_
  refine y_iln (e_173 (18, .iload_n 1, 1) (List.mem_of_getElem? (i := 10) rfl)) rfl ?_
  refine y_iln (e_173 (19, .iload_n 2, 1) (List.mem_of_getElem? (i := 11) rfl)) rfl ?_
  refine y_c3 (K' := _) (e_173 (20, .invokestatic 173, 3) (List.mem_of_getElem? (i := 12) rfl)) ⟨rfl, rfl, rfl⟩ t_17_173 ⟨by decide, by decide, by decide, by decide⟩ m_174_ok rfl (by decide) rfl (Nat.le_of_ble_eq_true rfl) (Nat.le_of_ble_eq_true rfl) (k_isIn _ _ _) (fun r1 Gc hc1 => ?_)
  obtain ⟨rfl, rfl⟩ := hc1
  simp only [Option.toList_some, Option.toList_none, List.cons_append, List.nil_append]
  rw [if_pos ⟨h1, h2⟩]
  refine y_ifc (e_173 (23, .ifCond .ne 9, 3) (List.mem_of_getElem? (i := 13) rfl)) rfl (fun _ => ?_) (fun hc => absurd hc (by decide))
  refine y_aln (e_173 (32, .aload_n 0, 1) (List.mem_of_getElem? (i := 18) rfl)) g0 ?_
  refine y_aln (e_173 (33, .aload_n 0, 1) (List.mem_of_getElem? (i := 19) rfl)) g0 ?_
  refine y_getf h.T.I h.T.t (e_173 (34, .getfield 151, 3) (List.mem_of_getElem? (i := 20) rfl)) u_17_151 ⟨rfl, rfl⟩ h.T.s14 ?_
  refine y_putf (f := (0, -2147483648, 2147483647)) h.T.I h.T.t (e_173 (37, .putfield 177, 3) (List.mem_of_getElem? (i := 21) rfl)) u_17_177 ⟨rfl, rfl, by decide, rfl, rfl⟩ ⟨_, rfl, (x_i32 _).1, (x_i32 _).2⟩ (fun G1 u1 => ?_)
  have h3 := h.oth u1 (Or.inr rfl) (h.T.I.upd u1 h.T.t (y_okA rfl))
  refine y_aln (e_173 (40, .aload_n 0, 1) (List.mem_of_getElem? (i := 22) rfl)) g0 ?_
  refine y_c1 (K' := _) (e_173 (41, .invokevirtual 170, 3) (List.mem_of_getElem? (i := 23) rfl)) ⟨rfl, rfl, rfl⟩ t_17_170 ⟨by decide, by decide, by decide, by decide⟩ m_163_ok rfl (by decide) (y_recv h3.T.I h3.T.t ⟨rfl, rfl⟩) (Nat.le_of_ble_eq_true rfl) (Nat.le_of_ble_eq_true rfl) (hN _ _ _ _ _ _ _ _ _ _ _ _ h3.T) (fun r1 Gc hc1 => ?_)
  obtain ⟨rfl, hc2⟩ := hc1
  simp only [Option.toList_some, Option.toList_none, List.cons_append, List.nil_append]
  have hc3 := h3.nxt hc2
  refine y_st (e_173 (44, .iconst 1, 1) (List.mem_of_getElem? (i := 24) rfl)) ⟨rfl, rfl, rfl, rfl⟩ ?_
  exact y_ret (e_173 (45, .ireturn, 1) (List.mem_of_getElem? (i := 25) rfl)) ⟨rfl, y_rb (Or.inr rfl)⟩ ⟨rfl, hc3, by rw [hc2.ot _ _ (Or.inr (by decide)), u1.2.1, if_pos ⟨rfl, rfl⟩]⟩
set_option maxHeartbeats 2000000 in
set_option maxRecDepth 100000 in
theorem k_puts_no {to lo hi : Int32} (h : MS th am mb hb nb rb f n lim p tok at9 sp num wd hf nf on G) (hno : tok ≠ Int32.ofInt 2 ∨ num.toInt < lo.toInt ∨ hi.toInt < num.toInt) : x_Gd xs L J (d + 2) m_172 (fun r G' => r = some (.int 0) ∧ x_sl G' am 16 = some (.int at9) ∧ x_sl G' am 15 = some (.int (t_km tok))) 0 (lv_args 0 [.ref am, .int to, .int lo, .int hi]) [] G := by
  have g0 : pm_get (lv_args 0 [.ref am, .int to, .int lo, .int hi]) 0 = some (.ref am) := rfl
  refine y_aln (e_172 (0, .aload_n 0, 1) (List.mem_of_getElem? (i := 0) rfl)) g0 ?_
  refine y_iln (e_172 (1, .iload_n 2, 1) (List.mem_of_getElem? (i := 1) rfl)) rfl ?_
  refine y_iln (e_172 (2, .iload_n 3, 1) (List.mem_of_getElem? (i := 2) rfl)) rfl ?_
  refine y_c3 (K' := _) (e_172 (3, .invokevirtual 180, 3) (List.mem_of_getElem? (i := 3) rfl)) ⟨rfl, rfl, rfl⟩ t_17_180 ⟨by decide, by decide, by decide, by decide⟩ m_173_ok rfl (by decide) (y_recv h.T.I h.T.t ⟨rfl, rfl⟩) (Nat.le_of_ble_eq_true rfl) (Nat.le_of_ble_eq_true rfl) (k_takes_no h hno) (fun r1 Gc hc1 => ?_)
  obtain ⟨rfl, hc2⟩ := hc1
  simp only [Option.toList_some, Option.toList_none, List.cons_append, List.nil_append]
  refine y_ifc (e_172 (6, .ifCond .ne 5, 3) (List.mem_of_getElem? (i := 4) rfl)) rfl (fun hc => absurd hc (by decide)) (fun _ => ?_)
  refine y_st (e_172 (9, .iconst 0, 1) (List.mem_of_getElem? (i := 5) rfl)) ⟨rfl, rfl, rfl, rfl⟩ ?_
  exact y_ret (e_172 (10, .ireturn, 1) (List.mem_of_getElem? (i := 6) rfl)) ⟨rfl, y_rb (Or.inl rfl)⟩ ⟨rfl, hc2⟩
set_option maxHeartbeats 2000000 in
set_option maxRecDepth 100000 in
theorem k_puts_yes {to lo hi : Int32} (h : MS th am mb hb nb rb f n lim p tok at9 sp num wd hf nf on G) (htk : tok = Int32.ofInt 2) (h1 : lo.toInt ≤ num.toInt) (h2 : num.toInt ≤ hi.toInt) (hto : 0 ≤ to.toInt ∧ to.toInt < 81) (hv : ∀ f', x_at (x_tb 37).2.2.2 to.toInt.toNat = some f' → xf_ok th f' (.int num)) (hN : NXm f n lim p num wd p' tok' at' sp' num' wd') : x_Gd xs L J (d + 3) m_172 (fun r G' => r = some (.int 1) ∧ MS th am mb hb nb rb f n lim p' tok' at' sp' num' wd' (fun i => if i = to.toInt.toNat then num else hf i) nf on G') 0 (lv_args 0 [.ref am, .int to, .int lo, .int hi]) [] G := by
  have g0 : pm_get (lv_args 0 [.ref am, .int to, .int lo, .int hi]) 0 = some (.ref am) := rfl
  refine y_aln (e_172 (0, .aload_n 0, 1) (List.mem_of_getElem? (i := 0) rfl)) g0 ?_
  refine y_iln (e_172 (1, .iload_n 2, 1) (List.mem_of_getElem? (i := 1) rfl)) rfl ?_
  refine y_iln (e_172 (2, .iload_n 3, 1) (List.mem_of_getElem? (i := 2) rfl)) rfl ?_
  refine y_c3 (K' := _) (e_172 (3, .invokevirtual 180, 3) (List.mem_of_getElem? (i := 3) rfl)) ⟨rfl, rfl, rfl⟩ t_17_180 ⟨by decide, by decide, by decide, by decide⟩ m_173_ok rfl (by decide) (y_recv h.T.I h.T.t ⟨rfl, rfl⟩) (Nat.le_of_ble_eq_true rfl) (Nat.le_of_ble_eq_true rfl) (k_takes_yes h htk h1 h2 hN) (fun r1 Gc hc1 => ?_)
  obtain ⟨rfl, hc2, hc4⟩ := hc1
  simp only [Option.toList_some, Option.toList_none, List.cons_append, List.nil_append]
  refine y_ifc (e_172 (6, .ifCond .ne 5, 3) (List.mem_of_getElem? (i := 4) rfl)) rfl (fun _ => ?_) (fun hc => absurd hc (by decide))
  obtain ⟨T, b1, b2, b3, c1, c2, c3, c4, d1, d2, d3⟩ := id hc2
  refine y_aln (e_172 (11, .aload_n 0, 1) (List.mem_of_getElem? (i := 7) rfl)) g0 ?_
  refine y_getf T.I T.t (e_172 (12, .getfield 37, 3) (List.mem_of_getElem? (i := 8) rfl)) u_17_37 ⟨rfl, rfl⟩ c1 ?_
  refine y_iln (e_172 (15, .iload_n 1, 1) (List.mem_of_getElem? (i := 9) rfl)) rfl ?_
  refine y_aln (e_172 (16, .aload_n 0, 1) (List.mem_of_getElem? (i := 10) rfl)) g0 ?_
  refine y_getf T.I T.t (e_172 (17, .getfield 177, 3) (List.mem_of_getElem? (i := 11) rfl)) u_17_177 ⟨rfl, rfl⟩ hc4 ?_
  refine y_iast T.I b1 (e_172 (20, .iastore, 1) (List.mem_of_getElem? (i := 12) rfl)) ⟨rfl, rfl⟩ ⟨hto.1, by show to.toInt < 81; exact hto.2⟩ (fun G2 u2 => ?_)
  have h4 := hc2.put u2 (T.I.upd u2 b1 hv)
  refine y_st (e_172 (21, .iconst 1, 1) (List.mem_of_getElem? (i := 13) rfl)) ⟨rfl, rfl, rfl, rfl⟩ ?_
  exact y_ret (e_172 (22, .ireturn, 1) (List.mem_of_getElem? (i := 14) rfl)) ⟨rfl, y_rb (Or.inr rfl)⟩ ⟨rfl, h4⟩
end MG
