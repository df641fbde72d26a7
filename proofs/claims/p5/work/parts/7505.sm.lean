def m_253 : pM := (⟨"BreathingHillModel", "leafOf", "()I"⟩, 1841, 1, some (FieldType.int), 17, 0, false, 10, 103, 1840, 87)
set_option maxRecDepth 100000 in
theorem m_253_ok : pm_tab[253]? = some m_253 := rfl
theorem e_253 : ∀ q ∈ d_253, decode m_253.code q.1 = .ok (q.2.1, q.2.2) := y_dec d_253_ok m_253_ok
-- ===== the model while it reads a SENTENCE =====
/-- the stack: its top first -/
def s_sk (s : Nat → Option Value) : List Nat → Prop
  | [] => True
  | v :: r => s r.length = some (.int (Int32.ofNat v)) ∧ s_sk s r
theorem s_sk.c {s s' : Nat → Option Value} : ∀ {st : List Nat}, (∀ i, i < st.length → s' i = s i) → s_sk s st → s_sk s' st
  | [], _, _ => trivial
  | v :: r, h, k => ⟨by rw [h _ (by simp)]; exact k.1, s_sk.c (fun i hi => h i (by rw [List.length_cons]; omega)) k.2⟩
def SM (th : List Nat) (am mb sb : Nat) (f : Nat → Int32) (n lim p tok at9 sp num : Int32) (wd : Int64) (cd on dp wh : Nat) (st : List Nat) (qf : Int32) (G : List pE) : Prop := TM th am mb f G n lim p tok at9 sp num wd G ∧ th[sb]? = some 45 ∧ x_sl G am 35 = some (.ref sb) ∧ x_sl G am 36 = some (.int (Int32.ofNat cd)) ∧ x_sl G am 37 = some (.int (Int32.ofNat on)) ∧ x_sl G am 38 = some (.int (Int32.ofNat st.length)) ∧ x_sl G am 39 = some (.int (Int32.ofNat dp)) ∧ x_sl G am 40 = some (.int (Int32.ofNat wh)) ∧ x_sl G am 15 = some (.int qf) ∧ s_sk (x_sl G sb) st
section S5
variable {th : List Nat} {xs : Nat → Int32} {L J d am mb sb : Nat} {K : Option Value → List pE → Prop} {f : Nat → Int32} {G0 G G1 G' : List pE} {n lim p tok at9 sp num : Int32} {wd : Int64} {lv : pL} {p' tok' at' sp' num' : Int32} {wd' : Int64} {cd on dp wh k v : Nat} {st : List Nat} {qf : Int32}
theorem SM.s35 (h : SM th am mb sb f n lim p tok at9 sp num wd cd on dp wh st qf G) : x_sl G am 35 = some (.ref sb) := h.2.2.1
theorem SM.s36 (h : SM th am mb sb f n lim p tok at9 sp num wd cd on dp wh st qf G) : x_sl G am 36 = some (.int (Int32.ofNat cd)) := h.2.2.2.1
theorem SM.s37 (h : SM th am mb sb f n lim p tok at9 sp num wd cd on dp wh st qf G) : x_sl G am 37 = some (.int (Int32.ofNat on)) := h.2.2.2.2.1
theorem SM.s38 (h : SM th am mb sb f n lim p tok at9 sp num wd cd on dp wh st qf G) : x_sl G am 38 = some (.int (Int32.ofNat st.length)) := h.2.2.2.2.2.1
theorem SM.s39 (h : SM th am mb sb f n lim p tok at9 sp num wd cd on dp wh st qf G) : x_sl G am 39 = some (.int (Int32.ofNat dp)) := h.2.2.2.2.2.2.1
theorem SM.s40 (h : SM th am mb sb f n lim p tok at9 sp num wd cd on dp wh st qf G) : x_sl G am 40 = some (.int (Int32.ofNat wh)) := h.2.2.2.2.2.2.2.1
theorem SM.tsb (h : SM th am mb sb f n lim p tok at9 sp num wd cd on dp wh st qf G) : th[sb]? = some 45 := h.2.1
theorem SM.ne (h : SM th am mb sb f n lim p tok at9 sp num wd cd on dp wh st qf G) : sb ≠ am ∧ sb ≠ mb ∧ am ≠ mb := by
  have t1 := h.1.t
  have t2 := h.1.tb
  have t3 := h.tsb
  exact ⟨(fun z => by rw [z, t1] at t3; cases t3), (fun z => by rw [z, t2] at t3; cases t3), (fun z => by rw [z, t2] at t1; cases t1)⟩
theorem SM.nxt (h : SM th am mb sb f n lim p tok at9 sp num wd cd on dp wh st qf G) (t : TM th am mb f G n lim p' tok' at' sp' num' wd' G') : SM th am mb sb f n lim p' tok' at' sp' num' wd' cd on dp wh st qf G' := by
  obtain ⟨n1, n2, n3⟩ := h.ne
  obtain ⟨T, b1, c1, c2, c3, c4, c5, c6, c7, c8⟩ := h
  exact ⟨t.self, b1, by rw [t.ot _ _ (Or.inr (by decide))]; exact c1, by rw [t.ot _ _ (Or.inr (by decide))]; exact c2, by rw [t.ot _ _ (Or.inr (by decide))]; exact c3, by rw [t.ot _ _ (Or.inr (by decide))]; exact c4, by rw [t.ot _ _ (Or.inr (by decide))]; exact c5, by rw [t.ot _ _ (Or.inr (by decide))]; exact c6, by rw [t.ot _ _ (Or.inr (by decide))]; exact c7, c8.c (fun i _ => t.ot _ _ (Or.inl n1))⟩
theorem SM.ucd (h : SM th am mb sb f n lim p tok at9 sp num wd cd on dp wh st qf G) (hk : k ≤ 45) (u : x_upd G G1 am 36 (.int (Int32.ofNat k))) : SM th am mb sb f n lim p tok at9 sp num wd k on dp wh st qf G1 := by
  obtain ⟨n1, n2, n3⟩ := h.ne
  obtain ⟨T, b1, c1, c2, c3, c4, c5, c6, c7, c8⟩ := h
  have e := s_toI (a := k) (by omega)
  exact ⟨T.other u n3 (Or.inr (by decide)) (T.I.upd u T.t (y_okI (lo := 0) (hi := 45) rfl (by omega) (by omega))), b1, by rw [u.2.1, if_neg (fun z => absurd z.2 (by decide))]; exact c1, (u.2.1 _ _).trans (if_pos ⟨rfl, rfl⟩), by rw [u.2.1, if_neg (fun z => absurd z.2 (by decide))]; exact c3, by rw [u.2.1, if_neg (fun z => absurd z.2 (by decide))]; exact c4, by rw [u.2.1, if_neg (fun z => absurd z.2 (by decide))]; exact c5, by rw [u.2.1, if_neg (fun z => absurd z.2 (by decide))]; exact c6, by rw [u.2.1, if_neg (fun z => absurd z.2 (by decide))]; exact c7, c8.c (fun i _ => by rw [u.2.1, if_neg (fun z => n1 z.1)])⟩
theorem SM.uon (h : SM th am mb sb f n lim p tok at9 sp num wd cd on dp wh st qf G) (u : x_upd G G1 am 37 (.int (Int32.ofNat k))) : SM th am mb sb f n lim p tok at9 sp num wd cd k dp wh st qf G1 := by
  obtain ⟨n1, n2, n3⟩ := h.ne
  obtain ⟨T, b1, c1, c2, c3, c4, c5, c6, c7, c8⟩ := h
  exact ⟨T.other u n3 (Or.inr (by decide)) (T.I.upd u T.t (y_okA rfl)), b1, by rw [u.2.1, if_neg (fun z => absurd z.2 (by decide))]; exact c1, by rw [u.2.1, if_neg (fun z => absurd z.2 (by decide))]; exact c2, (u.2.1 _ _).trans (if_pos ⟨rfl, rfl⟩), by rw [u.2.1, if_neg (fun z => absurd z.2 (by decide))]; exact c4, by rw [u.2.1, if_neg (fun z => absurd z.2 (by decide))]; exact c5, by rw [u.2.1, if_neg (fun z => absurd z.2 (by decide))]; exact c6, by rw [u.2.1, if_neg (fun z => absurd z.2 (by decide))]; exact c7, c8.c (fun i _ => by rw [u.2.1, if_neg (fun z => n1 z.1)])⟩
theorem SM.udp (h : SM th am mb sb f n lim p tok at9 sp num wd cd on dp wh st qf G) (u : x_upd G G1 am 39 (.int (Int32.ofNat k))) : SM th am mb sb f n lim p tok at9 sp num wd cd on k wh st qf G1 := by
  obtain ⟨n1, n2, n3⟩ := h.ne
  obtain ⟨T, b1, c1, c2, c3, c4, c5, c6, c7, c8⟩ := h
  exact ⟨T.other u n3 (Or.inr (by decide)) (T.I.upd u T.t (y_okA rfl)), b1, by rw [u.2.1, if_neg (fun z => absurd z.2 (by decide))]; exact c1, by rw [u.2.1, if_neg (fun z => absurd z.2 (by decide))]; exact c2, by rw [u.2.1, if_neg (fun z => absurd z.2 (by decide))]; exact c3, by rw [u.2.1, if_neg (fun z => absurd z.2 (by decide))]; exact c4, (u.2.1 _ _).trans (if_pos ⟨rfl, rfl⟩), by rw [u.2.1, if_neg (fun z => absurd z.2 (by decide))]; exact c6, by rw [u.2.1, if_neg (fun z => absurd z.2 (by decide))]; exact c7, c8.c (fun i _ => by rw [u.2.1, if_neg (fun z => n1 z.1)])⟩
theorem SM.uwh (h : SM th am mb sb f n lim p tok at9 sp num wd cd on dp wh st qf G) (hk : k ≤ 1) (u : x_upd G G1 am 40 (.int (Int32.ofNat k))) : SM th am mb sb f n lim p tok at9 sp num wd cd on dp k st qf G1 := by
  obtain ⟨n1, n2, n3⟩ := h.ne
  obtain ⟨T, b1, c1, c2, c3, c4, c5, c6, c7, c8⟩ := h
  have e := s_toI (a := k) (by omega)
  exact ⟨T.other u n3 (Or.inr (by decide)) (T.I.upd u T.t (y_okI (lo := 0) (hi := 1) rfl (by omega) (by omega))), b1, by rw [u.2.1, if_neg (fun z => absurd z.2 (by decide))]; exact c1, by rw [u.2.1, if_neg (fun z => absurd z.2 (by decide))]; exact c2, by rw [u.2.1, if_neg (fun z => absurd z.2 (by decide))]; exact c3, by rw [u.2.1, if_neg (fun z => absurd z.2 (by decide))]; exact c4, by rw [u.2.1, if_neg (fun z => absurd z.2 (by decide))]; exact c5, (u.2.1 _ _).trans (if_pos ⟨rfl, rfl⟩), by rw [u.2.1, if_neg (fun z => absurd z.2 (by decide))]; exact c7, c8.c (fun i _ => by rw [u.2.1, if_neg (fun z => n1 z.1)])⟩
theorem SM.uqf {x : Int32} (h : SM th am mb sb f n lim p tok at9 sp num wd cd on dp wh st qf G) (u : x_upd G G1 am 15 (.int x)) : SM th am mb sb f n lim p tok at9 sp num wd cd on dp wh st x G1 := by
  obtain ⟨n1, n2, n3⟩ := h.ne
  obtain ⟨T, b1, c1, c2, c3, c4, c5, c6, c7, c8⟩ := h
  exact ⟨T.other u n3 (Or.inr (by decide)) (T.I.upd u T.t (y_okA rfl)), b1, by rw [u.2.1, if_neg (fun z => absurd z.2 (by decide))]; exact c1, by rw [u.2.1, if_neg (fun z => absurd z.2 (by decide))]; exact c2, by rw [u.2.1, if_neg (fun z => absurd z.2 (by decide))]; exact c3, by rw [u.2.1, if_neg (fun z => absurd z.2 (by decide))]; exact c4, by rw [u.2.1, if_neg (fun z => absurd z.2 (by decide))]; exact c5, by rw [u.2.1, if_neg (fun z => absurd z.2 (by decide))]; exact c6, (u.2.1 _ _).trans (if_pos ⟨rfl, rfl⟩), c8.c (fun i _ => by rw [u.2.1, if_neg (fun z => n1 z.1)])⟩
theorem SM.pop (h : SM th am mb sb f n lim p tok at9 sp num wd cd on dp wh (v :: st) qf G) (hs : st.length ≤ 45) (u : x_upd G G1 am 38 (.int (Int32.ofNat st.length))) : SM th am mb sb f n lim p tok at9 sp num wd cd on dp wh st qf G1 := by
  obtain ⟨n1, n2, n3⟩ := h.ne
  obtain ⟨T, b1, c1, c2, c3, c4, c5, c6, c7, c8⟩ := h
  have e := s_toI (a := st.length) (by omega)
  exact ⟨T.other u n3 (Or.inr (by decide)) (T.I.upd u T.t (y_okI (lo := 0) (hi := 45) rfl (by omega) (by omega))), b1, by rw [u.2.1, if_neg (fun z => absurd z.2 (by decide))]; exact c1, by rw [u.2.1, if_neg (fun z => absurd z.2 (by decide))]; exact c2, by rw [u.2.1, if_neg (fun z => absurd z.2 (by decide))]; exact c3, (u.2.1 _ _).trans (if_pos ⟨rfl, rfl⟩), by rw [u.2.1, if_neg (fun z => absurd z.2 (by decide))]; exact c5, by rw [u.2.1, if_neg (fun z => absurd z.2 (by decide))]; exact c6, by rw [u.2.1, if_neg (fun z => absurd z.2 (by decide))]; exact c7, (c8.2).c (fun i _ => by rw [u.2.1, if_neg (fun z => n1 z.1)])⟩
theorem SM.push (h : SM th am mb sb f n lim p tok at9 sp num wd cd on dp wh st qf G) (hv : x_sl G sb st.length = some (.int (Int32.ofNat v))) (hs : st.length + 1 ≤ 45) (u : x_upd G G1 am 38 (.int (Int32.ofNat (st.length + 1)))) : SM th am mb sb f n lim p tok at9 sp num wd cd on dp wh (v :: st) qf G1 := by
  obtain ⟨n1, n2, n3⟩ := h.ne
  obtain ⟨T, b1, c1, c2, c3, c4, c5, c6, c7, c8⟩ := h
  have e := s_toI (a := st.length + 1) (by omega)
  exact ⟨T.other u n3 (Or.inr (by decide)) (T.I.upd u T.t (y_okI (lo := 0) (hi := 45) rfl (by omega) (by omega))), b1, by rw [u.2.1, if_neg (fun z => absurd z.2 (by decide))]; exact c1, by rw [u.2.1, if_neg (fun z => absurd z.2 (by decide))]; exact c2, by rw [u.2.1, if_neg (fun z => absurd z.2 (by decide))]; exact c3, (u.2.1 _ _).trans (if_pos ⟨rfl, rfl⟩), by rw [u.2.1, if_neg (fun z => absurd z.2 (by decide))]; exact c5, by rw [u.2.1, if_neg (fun z => absurd z.2 (by decide))]; exact c6, by rw [u.2.1, if_neg (fun z => absurd z.2 (by decide))]; exact c7, ⟨by rw [u.2.1, if_neg (fun z => n1 z.1)]; exact hv, c8.c (fun i _ => by rw [u.2.1, if_neg (fun z => n1 z.1)])⟩⟩
/-- above the top -/
theorem SM.stk {x : Value} (h : SM th am mb sb f n lim p tok at9 sp num wd cd on dp wh st qf G) (u : x_upd G G1 sb k x) (hI : xI x_tb th G1) (hk : st.length ≤ k) : SM th am mb sb f n lim p tok at9 sp num wd cd on dp wh st qf G1 := by
  obtain ⟨n1, n2, n3⟩ := h.ne
  obtain ⟨T, b1, c1, c2, c3, c4, c5, c6, c7, c8⟩ := h
  have e : ∀ j, x_sl G1 am j = x_sl G am j := fun j => by rw [u.2.1, if_neg (fun z => n1 z.1.symm)]
  exact ⟨T.other u n2 (Or.inl n1) hI, b1, by rw [e]; exact c1, by rw [e]; exact c2, by rw [e]; exact c3, by rw [e]; exact c4, by rw [e]; exact c5, by rw [e]; exact c6, by rw [e]; exact c7, c8.c (fun i hi => by rw [u.2.1, if_neg (fun z => by omega)])⟩
/-- a slot of a cell of another type -/
theorem SM.row {c i t : Nat} {x : Value} (h : SM th am mb sb f n lim p tok at9 sp num wd cd on dp wh st qf G) (u : x_upd G G1 c i x) (tc : th[c]? = some t) (ht : t ≠ 10 ∧ t ≠ 35 ∧ t ≠ 45) (hI : xI x_tb th G1) : SM th am mb sb f n lim p tok at9 sp num wd cd on dp wh st qf G1 := by
  obtain ⟨n1, n2, n3⟩ := h.ne
  have m1 : c ≠ am := fun z => by rw [z, h.1.t] at tc; exact ht.1 (Option.some.inj tc).symm
  have m2 : c ≠ mb := fun z => by rw [z, h.1.tb] at tc; exact ht.2.1 (Option.some.inj tc).symm
  have m3 : c ≠ sb := fun z => by rw [z, h.tsb] at tc; exact ht.2.2 (Option.some.inj tc).symm
  obtain ⟨T, b1, c1, c2, c3, c4, c5, c6, c7, c8⟩ := h
  have e : ∀ j, x_sl G1 am j = x_sl G am j := fun j => by rw [u.2.1, if_neg (fun z => m1 z.1.symm)]
  exact ⟨T.other u m2 (Or.inl m1) hI, b1, by rw [e]; exact c1, by rw [e]; exact c2, by rw [e]; exact c3, by rw [e]; exact c4, by rw [e]; exact c5, by rw [e]; exact c6, by rw [e]; exact c7, c8.c (fun i hi => by rw [u.2.1, if_neg (fun z => m3 z.1.symm)])⟩
theorem s_r38 : (x_tb 38).2.2.2 = [(135, ((0 : Nat), (-2147483648 : Int), (2147483647 : Int)))] := rfl
theorem s_r45 : (x_tb 45).2.2.2 = [(45, ((0 : Nat), (-2147483648 : Int), (2147483647 : Int)))] := rfl
set_option maxHeartbeats 2000000 in
set_option maxRecDepth 100000 in
theorem s_code (h : SM th am mb sb f n lim p tok at9 sp num wd cd on dp wh st qf G) (hcd : cd < 45) (x y z : Int32) : x_Gd xs L J d m_249 (fun r G' => r = none ∧ SM th am mb sb f n lim p tok at9 sp num wd (cd + 1) on dp wh st qf G') 0 (lv_args 0 [.ref am, .int x, .int y, .int z]) [] G := by
  have g0 : pm_get (lv_args 0 [.ref am, .int x, .int y, .int z]) 0 = some (.ref am) := rfl
  have g1 : pm_get (lv_args 0 [.ref am, .int x, .int y, .int z]) 1 = some (.int x) := rfl
  have g2 : pm_get (lv_args 0 [.ref am, .int x, .int y, .int z]) 2 = some (.int y) := rfl
  have g3 : pm_get (lv_args 0 [.ref am, .int x, .int y, .int z]) 3 = some (.int z) := rfl
  generalize lv_args 0 [.ref am, .int x, .int y, .int z] = lv at g0 g1 g2 g3 ⊢
  have e := s_toI (a := cd) (by omega)
  have e3 : (Int32.ofInt 3 * Int32.ofNat cd).toInt = 3 * cd := by rw [y_mul3 (by omega) (by omega), e]
  have e31 : (Int32.ofInt 3 * Int32.ofNat cd + Int32.ofInt 1).toInt = 3 * cd + 1 := by rw [y_add1 (by omega), e3]
  have z2 : (Int32.ofInt 2).toInt = 2 := rfl
  have e32 : (Int32.ofInt 3 * Int32.ofNat cd + Int32.ofInt 2).toInt = 3 * cd + 2 := by rw [y_add (by omega) (by omega), e3, z2]
  obtain ⟨rb, k1, t1⟩ := y_fref (i := 8) (u := 38) h.1.I h.1.t rfl
  have n1 : rb ≠ am := fun z => by rw [z, h.1.t] at t1; cases t1
  refine y_aln (e_249 (0, .aload_n 0, 1) (List.mem_of_getElem? (i := 0) rfl)) g0 ?_
  refine y_getf h.1.I h.1.t (e_249 (1, .getfield 40, 3) (List.mem_of_getElem? (i := 1) rfl)) u_17_40 ⟨rfl, rfl⟩ k1 ?_
  refine y_st (e_249 (4, .iconst 3, 1) (List.mem_of_getElem? (i := 2) rfl)) ⟨rfl, rfl, rfl, rfl⟩ ?_
  refine y_aln (e_249 (5, .aload_n 0, 1) (List.mem_of_getElem? (i := 3) rfl)) g0 ?_
  refine y_getf h.1.I h.1.t (e_249 (6, .getfield 368, 3) (List.mem_of_getElem? (i := 4) rfl)) u_17_368 ⟨rfl, rfl⟩ h.s36 ?_
  refine y_st (e_249 (9, .imul, 1) (List.mem_of_getElem? (i := 5) rfl)) ⟨rfl, rfl, rfl, rfl⟩ ?_
  refine y_iln (e_249 (10, .iload_n 1, 1) (List.mem_of_getElem? (i := 6) rfl)) g1 ?_
  refine y_iast h.1.I t1 (e_249 (11, .iastore, 1) (List.mem_of_getElem? (i := 7) rfl)) ⟨rfl, rfl⟩ ⟨by omega, by show _ < (135 : Int); omega⟩ (fun G1 u1 => ?_)
  have h1 := h.row u1 t1 ⟨by decide, by decide, by decide⟩ (h.1.I.upd u1 t1 (y_okA (by rw [s_r38]; exact y_one (by omega))))
  have k2 : x_sl G1 am 8 = some (.ref rb) := by rw [u1.2.1, if_neg (fun z => n1 z.1.symm)]; exact k1
  refine y_aln (e_249 (12, .aload_n 0, 1) (List.mem_of_getElem? (i := 8) rfl)) g0 ?_
  refine y_getf h1.1.I h1.1.t (e_249 (13, .getfield 40, 3) (List.mem_of_getElem? (i := 9) rfl)) u_17_40 ⟨rfl, rfl⟩ k2 ?_
  refine y_st (e_249 (16, .iconst 3, 1) (List.mem_of_getElem? (i := 10) rfl)) ⟨rfl, rfl, rfl, rfl⟩ ?_
  refine y_aln (e_249 (17, .aload_n 0, 1) (List.mem_of_getElem? (i := 11) rfl)) g0 ?_
  refine y_getf h1.1.I h1.1.t (e_249 (18, .getfield 368, 3) (List.mem_of_getElem? (i := 12) rfl)) u_17_368 ⟨rfl, rfl⟩ h1.s36 ?_
  refine y_st (e_249 (21, .imul, 1) (List.mem_of_getElem? (i := 13) rfl)) ⟨rfl, rfl, rfl, rfl⟩ ?_
  refine y_st (e_249 (22, .iconst 1, 1) (List.mem_of_getElem? (i := 14) rfl)) ⟨rfl, rfl, rfl, rfl⟩ ?_
  refine y_st (e_249 (23, .iadd, 1) (List.mem_of_getElem? (i := 15) rfl)) ⟨rfl, rfl, rfl, rfl⟩ ?_
  refine y_iln (e_249 (24, .iload_n 2, 1) (List.mem_of_getElem? (i := 16) rfl)) g2 ?_
  refine y_iast h1.1.I t1 (e_249 (25, .iastore, 1) (List.mem_of_getElem? (i := 17) rfl)) ⟨rfl, rfl⟩ ⟨by omega, by show _ < (135 : Int); omega⟩ (fun G2 u2 => ?_)
  have h2 := h1.row u2 t1 ⟨by decide, by decide, by decide⟩ (h1.1.I.upd u2 t1 (y_okA (by rw [s_r38]; exact y_one (by omega))))
  have k3 : x_sl G2 am 8 = some (.ref rb) := by rw [u2.2.1, if_neg (fun z => n1 z.1.symm)]; exact k2
  refine y_aln (e_249 (26, .aload_n 0, 1) (List.mem_of_getElem? (i := 18) rfl)) g0 ?_
  refine y_getf h2.1.I h2.1.t (e_249 (27, .getfield 40, 3) (List.mem_of_getElem? (i := 19) rfl)) u_17_40 ⟨rfl, rfl⟩ k3 ?_
  refine y_st (e_249 (30, .iconst 3, 1) (List.mem_of_getElem? (i := 20) rfl)) ⟨rfl, rfl, rfl, rfl⟩ ?_
  refine y_aln (e_249 (31, .aload_n 0, 1) (List.mem_of_getElem? (i := 21) rfl)) g0 ?_
  refine y_getf h2.1.I h2.1.t (e_249 (32, .getfield 368, 3) (List.mem_of_getElem? (i := 22) rfl)) u_17_368 ⟨rfl, rfl⟩ h2.s36 ?_
  refine y_st (e_249 (35, .imul, 1) (List.mem_of_getElem? (i := 23) rfl)) ⟨rfl, rfl, rfl, rfl⟩ ?_
  refine y_st (e_249 (36, .iconst 2, 1) (List.mem_of_getElem? (i := 24) rfl)) ⟨rfl, rfl, rfl, rfl⟩ ?_
  refine y_st (e_249 (37, .iadd, 1) (List.mem_of_getElem? (i := 25) rfl)) ⟨rfl, rfl, rfl, rfl⟩ ?_
  refine y_iln (e_249 (38, .iload_n 3, 1) (List.mem_of_getElem? (i := 26) rfl)) g3 ?_
  refine y_iast h2.1.I t1 (e_249 (39, .iastore, 1) (List.mem_of_getElem? (i := 27) rfl)) ⟨rfl, rfl⟩ ⟨by omega, by show _ < (135 : Int); omega⟩ (fun G3 u3 => ?_)
  have h3 := h2.row u3 t1 ⟨by decide, by decide, by decide⟩ (h2.1.I.upd u3 t1 (y_okA (by rw [s_r38]; exact y_one (by omega))))
  refine y_aln (e_249 (40, .aload_n 0, 1) (List.mem_of_getElem? (i := 28) rfl)) g0 ?_
  refine y_st (e_249 (41, .dup, 1) (List.mem_of_getElem? (i := 29) rfl)) ⟨rfl, rfl, rfl, rfl⟩ ?_
  refine y_getf h3.1.I h3.1.t (e_249 (42, .getfield 368, 3) (List.mem_of_getElem? (i := 30) rfl)) u_17_368 ⟨rfl, rfl⟩ h3.s36 ?_
  refine y_st (e_249 (45, .iconst 1, 1) (List.mem_of_getElem? (i := 31) rfl)) ⟨rfl, rfl, rfl, rfl⟩ ?_
  refine y_st (e_249 (46, .iadd, 1) (List.mem_of_getElem? (i := 32) rfl)) ⟨rfl, rfl, rfl, rfl⟩ ?_
  rw [s_inc]
  have e1 := s_toI (a := cd + 1) (by omega)
  refine y_putf (f := (0, 0, 45)) h3.1.I h3.1.t (e_249 (47, .putfield 368, 3) (List.mem_of_getElem? (i := 33) rfl)) u_17_368 ⟨rfl, rfl, by decide, rfl, rfl⟩ ⟨_, rfl, by show (0 : Int) ≤ _; omega, by show _ ≤ (45 : Int); omega⟩ (fun G1 u1 => ?_)
  exact y_ret (e_249 (50, .return_, 1) (List.mem_of_getElem? (i := 34) rfl)) ⟨rfl, rfl⟩ ⟨rfl, h3.ucd (by omega) u1⟩

theorem s_rep (j : Nat) (rest : List Nat) : List.replicate (j + 1) 20 ++ rest = 20 :: (List.replicate j 20 ++ rest) := rfl
set_option maxHeartbeats 2000000 in
set_option maxRecDepth 100000 in
/-- nots(): the NOTs that stand on top go out -/
theorem s_nots {rest : List Nat} (hr : rest.head? ≠ some 20) (hlt : ∀ v ∈ rest, v < 100) : ∀ (j : Nat) (lv : pL) (cd dp : Nat) (G : List pE), SM th am mb sb f n lim p tok at9 sp num wd cd on (dp + j) wh (List.replicate j 20 ++ rest) qf G → j + rest.length ≤ 45 → cd + j ≤ 45 → pm_get lv 0 = some (.ref am) → x_Gd xs L J (d + 1) m_248 (fun r G' => r = none ∧ SM th am mb sb f n lim p tok at9 sp num wd (cd + j) on dp wh rest qf G') 0 lv [] G := by
  intro j
  induction j with
  | zero =>
    intro lv cd dp G h hl hc g0
    change SM th am mb sb f n lim p tok at9 sp num wd cd on dp wh rest qf G at h
    have e := s_toI (a := rest.length) (by omega)
    refine y_aln (e_248 (0, .aload_n 0, 1) (List.mem_of_getElem? (i := 0) rfl)) g0 ?_
    refine y_getf h.1.I h.1.t (e_248 (1, .getfield 371, 3) (List.mem_of_getElem? (i := 1) rfl)) u_17_371 ⟨rfl, rfl⟩ h.s38 ?_
    cases rest with
    | nil =>
      refine y_ifc (e_248 (4, .ifCond .le 50, 3) (List.mem_of_getElem? (i := 2) rfl)) rfl (fun _ => ?_) (fun hb => ?_)
      · exact y_ret (e_248 (54, .return_, 1) (List.mem_of_getElem? (i := 30) rfl)) ⟨rfl, rfl⟩ ⟨rfl, h⟩
      · exact absurd hb (by decide)
    | cons v r =>
      have hv : v ≠ 20 := fun z => hr (by rw [z]; rfl)
      have hv2 := hlt v List.mem_cons_self
      rw [List.length_cons] at e hl
      have er := s_toI (a := r.length) (by omega)
      have ev := s_toI (a := v) (by omega)
      have e20 : ((Int8.ofInt 20).toInt32).toInt = 20 := rfl
      have z0 : (0 : Int32).toInt = 0 := rfl
      refine y_ifc (e_248 (4, .ifCond .le 50, 3) (List.mem_of_getElem? (i := 2) rfl)) rfl (fun hb => ?_) (fun _ => ?_)
      · have := y_hI.2.2.2.2.2.2.1 hb
        rw [List.length_cons] at this
        omega
      refine y_aln (e_248 (7, .aload_n 0, 1) (List.mem_of_getElem? (i := 3) rfl)) g0 ?_
      refine y_getf h.1.I h.1.t (e_248 (8, .getfield 62, 3) (List.mem_of_getElem? (i := 4) rfl)) u_17_62 ⟨rfl, rfl⟩ h.s35 ?_
      refine y_aln (e_248 (11, .aload_n 0, 1) (List.mem_of_getElem? (i := 5) rfl)) g0 ?_
      refine y_getf h.1.I h.1.t (e_248 (12, .getfield 371, 3) (List.mem_of_getElem? (i := 6) rfl)) u_17_371 ⟨rfl, rfl⟩ h.s38 ?_
      refine y_st (e_248 (15, .iconst 1, 1) (List.mem_of_getElem? (i := 7) rfl)) ⟨rfl, rfl, rfl, rfl⟩ ?_
      refine y_st (e_248 (16, .isub, 1) (List.mem_of_getElem? (i := 8) rfl)) ⟨rfl, rfl, rfl, rfl⟩ ?_
      rw [List.length_cons, s_dec]
      refine y_iald h.1.I h.tsb (e_248 (17, .iaload, 1) (List.mem_of_getElem? (i := 9) rfl)) ⟨rfl, rfl⟩ (by omega) (by rw [er]; exact h.2.2.2.2.2.2.2.2.2.1) ?_
      refine y_st (e_248 (18, .bipush 20, 2) (List.mem_of_getElem? (i := 10) rfl)) ⟨rfl, rfl, rfl, rfl⟩ ?_
      refine y_icm (e_248 (20, .if_icmp .ne 34, 3) (List.mem_of_getElem? (i := 11) rfl)) rfl (fun _ => ?_) (fun hb => ?_)
      · exact y_ret (e_248 (54, .return_, 1) (List.mem_of_getElem? (i := 30) rfl)) ⟨rfl, rfl⟩ ⟨rfl, h⟩
      · have := y_hI.2.2.2.1 hb
        exact absurd (congrArg Int32.toInt this) (by omega)
  | succ j ih =>
    intro lv cd dp G h hl hc g0
    rw [s_rep] at h
    have hL : (List.replicate j 20 ++ rest).length = j + rest.length := by rw [List.length_append, List.length_replicate]
    have er := s_toI (a := (List.replicate j 20 ++ rest).length) (by omega)
    have z0 : (0 : Int32).toInt = 0 := rfl
    have e20 : ((Int8.ofInt 20).toInt32) = Int32.ofNat 20 := rfl
    refine y_aln (e_248 (0, .aload_n 0, 1) (List.mem_of_getElem? (i := 0) rfl)) g0 ?_
    refine y_getf h.1.I h.1.t (e_248 (1, .getfield 371, 3) (List.mem_of_getElem? (i := 1) rfl)) u_17_371 ⟨rfl, rfl⟩ h.s38 ?_
    refine y_ifc (e_248 (4, .ifCond .le 50, 3) (List.mem_of_getElem? (i := 2) rfl)) rfl (fun hb => ?_) (fun _ => ?_)
    · have := y_hI.2.2.2.2.2.2.1 hb
      rw [List.length_cons, ← s_inc, y_add1 (by omega)] at this
      omega
    refine y_aln (e_248 (7, .aload_n 0, 1) (List.mem_of_getElem? (i := 3) rfl)) g0 ?_
    refine y_getf h.1.I h.1.t (e_248 (8, .getfield 62, 3) (List.mem_of_getElem? (i := 4) rfl)) u_17_62 ⟨rfl, rfl⟩ h.s35 ?_
    refine y_aln (e_248 (11, .aload_n 0, 1) (List.mem_of_getElem? (i := 5) rfl)) g0 ?_
    refine y_getf h.1.I h.1.t (e_248 (12, .getfield 371, 3) (List.mem_of_getElem? (i := 6) rfl)) u_17_371 ⟨rfl, rfl⟩ h.s38 ?_
    refine y_st (e_248 (15, .iconst 1, 1) (List.mem_of_getElem? (i := 7) rfl)) ⟨rfl, rfl, rfl, rfl⟩ ?_
    refine y_st (e_248 (16, .isub, 1) (List.mem_of_getElem? (i := 8) rfl)) ⟨rfl, rfl, rfl, rfl⟩ ?_
    rw [List.length_cons, s_dec]
    refine y_iald h.1.I h.tsb (e_248 (17, .iaload, 1) (List.mem_of_getElem? (i := 9) rfl)) ⟨rfl, rfl⟩ (by omega) (by rw [er]; exact h.2.2.2.2.2.2.2.2.2.1) ?_
    refine y_st (e_248 (18, .bipush 20, 2) (List.mem_of_getElem? (i := 10) rfl)) ⟨rfl, rfl, rfl, rfl⟩ ?_
    refine y_icm (e_248 (20, .if_icmp .ne 34, 3) (List.mem_of_getElem? (i := 11) rfl)) rfl (fun hb => ?_) (fun _ => ?_)
    · exact absurd e20.symm (y_hI.2.2.1 hb)
    refine y_aln (e_248 (23, .aload_n 0, 1) (List.mem_of_getElem? (i := 12) rfl)) g0 ?_
    refine y_st (e_248 (24, .dup, 1) (List.mem_of_getElem? (i := 13) rfl)) ⟨rfl, rfl, rfl, rfl⟩ ?_
    refine y_getf h.1.I h.1.t (e_248 (25, .getfield 371, 3) (List.mem_of_getElem? (i := 14) rfl)) u_17_371 ⟨rfl, rfl⟩ h.s38 ?_
    refine y_st (e_248 (28, .iconst 1, 1) (List.mem_of_getElem? (i := 15) rfl)) ⟨rfl, rfl, rfl, rfl⟩ ?_
    refine y_st (e_248 (29, .isub, 1) (List.mem_of_getElem? (i := 16) rfl)) ⟨rfl, rfl, rfl, rfl⟩ ?_
    rw [List.length_cons, s_dec]
    refine y_putf (f := (0, 0, 45)) h.1.I h.1.t (e_248 (30, .putfield 371, 3) (List.mem_of_getElem? (i := 17) rfl)) u_17_371 ⟨rfl, rfl, by decide, rfl, rfl⟩ ⟨_, rfl, by show (0 : Int) ≤ _; omega, by show _ ≤ (45 : Int); omega⟩ (fun G1 u1 => ?_)
    have h1 := h.pop (by omega) u1
    refine y_aln (e_248 (33, .aload_n 0, 1) (List.mem_of_getElem? (i := 18) rfl)) g0 ?_
    refine y_st (e_248 (34, .dup, 1) (List.mem_of_getElem? (i := 19) rfl)) ⟨rfl, rfl, rfl, rfl⟩ ?_
    refine y_getf h1.1.I h1.1.t (e_248 (35, .getfield 378, 3) (List.mem_of_getElem? (i := 20) rfl)) u_17_378 ⟨rfl, rfl⟩ h1.s39 ?_
    refine y_st (e_248 (38, .iconst 1, 1) (List.mem_of_getElem? (i := 21) rfl)) ⟨rfl, rfl, rfl, rfl⟩ ?_
    refine y_st (e_248 (39, .isub, 1) (List.mem_of_getElem? (i := 22) rfl)) ⟨rfl, rfl, rfl, rfl⟩ ?_
    rw [show dp + (j + 1) = dp + j + 1 by omega, s_dec]
    refine y_putf (f := (0, -2147483648, 2147483647)) h1.1.I h1.1.t (e_248 (40, .putfield 378, 3) (List.mem_of_getElem? (i := 23) rfl)) u_17_378 ⟨rfl, rfl, by decide, rfl, rfl⟩ ⟨_, rfl, (x_i32 _).1, (x_i32 _).2⟩ (fun G2 u2 => ?_)
    have h2 := h1.udp u2
    refine y_aln (e_248 (43, .aload_n 0, 1) (List.mem_of_getElem? (i := 24) rfl)) g0 ?_
    refine y_st (e_248 (44, .bipush 20, 2) (List.mem_of_getElem? (i := 25) rfl)) ⟨rfl, rfl, rfl, rfl⟩ ?_
    refine y_st (e_248 (46, .iconst 0, 1) (List.mem_of_getElem? (i := 26) rfl)) ⟨rfl, rfl, rfl, rfl⟩ ?_
    refine y_st (e_248 (47, .iconst 0, 1) (List.mem_of_getElem? (i := 27) rfl)) ⟨rfl, rfl, rfl, rfl⟩ ?_
    refine y_c4 (K' := _) (e_248 (48, .invokevirtual 374, 3) (List.mem_of_getElem? (i := 28) rfl)) ⟨rfl, rfl, rfl⟩ t_17_374 ⟨by decide, by decide, by decide, by decide⟩ m_249_ok rfl (by decide) (y_recv h2.1.I h2.1.t ⟨rfl, rfl⟩) (Nat.le_of_ble_eq_true rfl) (Nat.le_of_ble_eq_true rfl) (s_code h2 (by omega) _ _ _) (fun r1 Gc hc1 => ?_)
    obtain ⟨rfl, h3⟩ := hc1
    simp only [Option.toList_some, Option.toList_none, List.cons_append, List.nil_append]
    refine y_st (e_248 (51, .goto (-51), 3) (List.mem_of_getElem? (i := 29) rfl)) ⟨rfl, rfl, rfl, rfl⟩ ?_
    rw [show cd + (j + 1) = cd + 1 + j by omega]
    exact ih lv (cd + 1) dp _ h3 (by omega) (by omega) g0

def s_pj (t : Nat) : List Nat → List Nat
  | [] => []
  | v :: r => if v = 21 ∨ (v = 22 ∧ t = 22) then s_pj t r else v :: r
theorem s_pj_len (t : Nat) : ∀ st, (s_pj t st).length ≤ st.length
  | [] => Nat.le_refl _
  | v :: r => by
    unfold s_pj
    split
    · have := s_pj_len t r
      rw [List.length_cons]
      omega
    · exact Nat.le_refl _
set_option maxHeartbeats 2000000 in
set_option maxRecDepth 100000 in
/-- joins(): what binds as much goes out -/
theorem s_joins {t : Nat} (ht : t = 21 ∨ t = 22) : ∀ (st : List Nat) (lv : pL) (cd : Nat) (G : List pE), (∀ v ∈ st, v < 100) → SM th am mb sb f n lim p tok at9 sp num wd cd on dp wh st qf G → st.length ≤ 45 → cd + st.length ≤ 45 → pm_get lv 0 = some (.ref am) → pm_get lv 1 = some (.int (Int32.ofNat t)) → x_Gd xs L J (d + 1) m_250 (fun r G' => r = none ∧ SM th am mb sb f n lim p tok at9 sp num wd (cd + st.length - (s_pj t st).length) on dp wh (s_pj t st) qf G') 0 lv [] G := by
  intro st
  induction st with
  | nil =>
    intro lv cd G hlt h hl hc g0 g1
    refine y_aln (e_250 (0, .aload_n 0, 1) (List.mem_of_getElem? (i := 0) rfl)) g0 ?_
    refine y_getf h.1.I h.1.t (e_250 (1, .getfield 371, 3) (List.mem_of_getElem? (i := 1) rfl)) u_17_371 ⟨rfl, rfl⟩ h.s38 ?_
    refine y_ifc (e_250 (4, .ifCond .le 69, 3) (List.mem_of_getElem? (i := 2) rfl)) rfl (fun _ => ?_) (fun hb => ?_)
    · exact y_ret (e_250 (73, .return_, 1) (List.mem_of_getElem? (i := 40) rfl)) ⟨rfl, rfl⟩ ⟨rfl, h⟩
    · exact absurd hb (by decide)
  | cons v r ih =>
    intro lv cd G hlt h hl hc g0 g1
    have hv2 := hlt v List.mem_cons_self
    have hr2 : ∀ v ∈ r, v < 100 := fun x hx => hlt x (List.mem_cons_of_mem _ hx)
    rw [List.length_cons] at hl hc
    have pl := s_pj_len t r
    have er := s_toI (a := r.length) (by omega)
    have e1 := s_toI (a := r.length + 1) (by omega)
    have ev := s_toI (a := v) (by omega)
    have et := s_toI (a := t) (by omega)
    have e21 : ((Int8.ofInt 21).toInt32).toInt = 21 := rfl
    have e22 : ((Int8.ofInt 22).toInt32).toInt = 22 := rfl
    have z0 : (0 : Int32).toInt = 0 := rfl
    have hv := h.2.2.2.2.2.2.2.2.2.1
    have stay : ¬ (v = 21 ∨ (v = 22 ∧ t = 22)) → x_Gd xs L J (d + 1) m_250 (fun r1 G' => r1 = none ∧ SM th am mb sb f n lim p tok at9 sp num wd (cd + (v :: r).length - (s_pj t (v :: r)).length) on dp wh (s_pj t (v :: r)) qf G') 73 lv [] G := fun hno => by
      have e : s_pj t (v :: r) = v :: r := by unfold s_pj; rw [if_neg hno]
      rw [e, Nat.add_sub_cancel]
      exact y_ret (e_250 (73, .return_, 1) (List.mem_of_getElem? (i := 40) rfl)) ⟨rfl, rfl⟩ ⟨rfl, h⟩
    have go : (v = 21 ∨ (v = 22 ∧ t = 22)) → x_Gd xs L J (d + 1) m_250 (fun r1 G' => r1 = none ∧ SM th am mb sb f n lim p tok at9 sp num wd (cd + (v :: r).length - (s_pj t (v :: r)).length) on dp wh (s_pj t (v :: r)) qf G') 45 lv [] G := fun hy => by
      have e : s_pj t (v :: r) = s_pj t r := by show (if _ then _ else _) = _; rw [if_pos hy]
      rw [e, show cd + (v :: r).length - (s_pj t r).length = cd + 1 + r.length - (s_pj t r).length by rw [List.length_cons]; omega]
      refine y_aln (e_250 (45, .aload_n 0, 1) (List.mem_of_getElem? (i := 24) rfl)) g0 ?_
      refine y_st (e_250 (46, .dup, 1) (List.mem_of_getElem? (i := 25) rfl)) ⟨rfl, rfl, rfl, rfl⟩ ?_
      refine y_getf h.1.I h.1.t (e_250 (47, .getfield 371, 3) (List.mem_of_getElem? (i := 26) rfl)) u_17_371 ⟨rfl, rfl⟩ h.s38 ?_
      refine y_st (e_250 (50, .iconst 1, 1) (List.mem_of_getElem? (i := 27) rfl)) ⟨rfl, rfl, rfl, rfl⟩ ?_
      refine y_st (e_250 (51, .isub, 1) (List.mem_of_getElem? (i := 28) rfl)) ⟨rfl, rfl, rfl, rfl⟩ ?_
      rw [List.length_cons, s_dec]
      refine y_putf (f := (0, 0, 45)) h.1.I h.1.t (e_250 (52, .putfield 371, 3) (List.mem_of_getElem? (i := 29) rfl)) u_17_371 ⟨rfl, rfl, by decide, rfl, rfl⟩ ⟨_, rfl, by show (0 : Int) ≤ _; omega, by show _ ≤ (45 : Int); omega⟩ (fun G1 u1 => ?_)
      have n1 := h.ne.1
      have h1 := h.pop (by omega) u1
      refine y_aln (e_250 (55, .aload_n 0, 1) (List.mem_of_getElem? (i := 30) rfl)) g0 ?_
      refine y_aln (e_250 (56, .aload_n 0, 1) (List.mem_of_getElem? (i := 31) rfl)) g0 ?_
      refine y_getf h1.1.I h1.1.t (e_250 (57, .getfield 62, 3) (List.mem_of_getElem? (i := 32) rfl)) u_17_62 ⟨rfl, rfl⟩ h1.s35 ?_
      refine y_aln (e_250 (60, .aload_n 0, 1) (List.mem_of_getElem? (i := 33) rfl)) g0 ?_
      refine y_getf h1.1.I h1.1.t (e_250 (61, .getfield 371, 3) (List.mem_of_getElem? (i := 34) rfl)) u_17_371 ⟨rfl, rfl⟩ h1.s38 ?_
      refine y_iald h1.1.I h1.tsb (e_250 (64, .iaload, 1) (List.mem_of_getElem? (i := 35) rfl)) ⟨rfl, rfl⟩ (by omega) (by rw [er, u1.2.1, if_neg (fun z => n1 z.1)]; exact hv) ?_
      refine y_st (e_250 (65, .iconst 0, 1) (List.mem_of_getElem? (i := 36) rfl)) ⟨rfl, rfl, rfl, rfl⟩ ?_
      refine y_st (e_250 (66, .iconst 0, 1) (List.mem_of_getElem? (i := 37) rfl)) ⟨rfl, rfl, rfl, rfl⟩ ?_
      refine y_c4 (K' := _) (e_250 (67, .invokevirtual 374, 3) (List.mem_of_getElem? (i := 38) rfl)) ⟨rfl, rfl, rfl⟩ t_17_374 ⟨by decide, by decide, by decide, by decide⟩ m_249_ok rfl (by decide) (y_recv h1.1.I h1.1.t ⟨rfl, rfl⟩) (Nat.le_of_ble_eq_true rfl) (Nat.le_of_ble_eq_true rfl) (s_code h1 (by omega) _ _ _) (fun r1 Gc hc1 => ?_)
      obtain ⟨rfl, h3⟩ := hc1
      simp only [Option.toList_some, Option.toList_none, List.cons_append, List.nil_append]
      refine y_st (e_250 (70, .goto (-70), 3) (List.mem_of_getElem? (i := 39) rfl)) ⟨rfl, rfl, rfl, rfl⟩ ?_
      exact ih lv (cd + 1) _ hr2 h3 (by omega) (by omega) g0 g1
    refine y_aln (e_250 (0, .aload_n 0, 1) (List.mem_of_getElem? (i := 0) rfl)) g0 ?_
    refine y_getf h.1.I h.1.t (e_250 (1, .getfield 371, 3) (List.mem_of_getElem? (i := 1) rfl)) u_17_371 ⟨rfl, rfl⟩ h.s38 ?_
    refine y_ifc (e_250 (4, .ifCond .le 69, 3) (List.mem_of_getElem? (i := 2) rfl)) rfl (fun hb => ?_) (fun _ => ?_)
    · have := y_hI.2.2.2.2.2.2.1 hb
      rw [List.length_cons] at this
      omega
    refine y_aln (e_250 (7, .aload_n 0, 1) (List.mem_of_getElem? (i := 3) rfl)) g0 ?_
    refine y_getf h.1.I h.1.t (e_250 (8, .getfield 62, 3) (List.mem_of_getElem? (i := 4) rfl)) u_17_62 ⟨rfl, rfl⟩ h.s35 ?_
    refine y_aln (e_250 (11, .aload_n 0, 1) (List.mem_of_getElem? (i := 5) rfl)) g0 ?_
    refine y_getf h.1.I h.1.t (e_250 (12, .getfield 371, 3) (List.mem_of_getElem? (i := 6) rfl)) u_17_371 ⟨rfl, rfl⟩ h.s38 ?_
    refine y_st (e_250 (15, .iconst 1, 1) (List.mem_of_getElem? (i := 7) rfl)) ⟨rfl, rfl, rfl, rfl⟩ ?_
    refine y_st (e_250 (16, .isub, 1) (List.mem_of_getElem? (i := 8) rfl)) ⟨rfl, rfl, rfl, rfl⟩ ?_
    rw [List.length_cons, s_dec]
    refine y_iald h.1.I h.tsb (e_250 (17, .iaload, 1) (List.mem_of_getElem? (i := 9) rfl)) ⟨rfl, rfl⟩ (by omega) (by rw [er]; exact hv) ?_
    refine y_st (e_250 (18, .bipush 21, 2) (List.mem_of_getElem? (i := 10) rfl)) ⟨rfl, rfl, rfl, rfl⟩ ?_
    refine y_icm (e_250 (20, .if_icmp .eq 25, 3) (List.mem_of_getElem? (i := 11) rfl)) rfl (fun hb => go (Or.inl ?_)) (fun hb => ?_)
    · have := congrArg Int32.toInt (y_hI.1 hb)
      omega
    have n21 : v ≠ 21 := fun z => y_hI.2.1 hb (by rw [z]; rfl)
    refine y_aln (e_250 (23, .aload_n 0, 1) (List.mem_of_getElem? (i := 12) rfl)) g0 ?_
    refine y_getf h.1.I h.1.t (e_250 (24, .getfield 62, 3) (List.mem_of_getElem? (i := 13) rfl)) u_17_62 ⟨rfl, rfl⟩ h.s35 ?_
    refine y_aln (e_250 (27, .aload_n 0, 1) (List.mem_of_getElem? (i := 14) rfl)) g0 ?_
    refine y_getf h.1.I h.1.t (e_250 (28, .getfield 371, 3) (List.mem_of_getElem? (i := 15) rfl)) u_17_371 ⟨rfl, rfl⟩ h.s38 ?_
    refine y_st (e_250 (31, .iconst 1, 1) (List.mem_of_getElem? (i := 16) rfl)) ⟨rfl, rfl, rfl, rfl⟩ ?_
    refine y_st (e_250 (32, .isub, 1) (List.mem_of_getElem? (i := 17) rfl)) ⟨rfl, rfl, rfl, rfl⟩ ?_
    rw [List.length_cons, s_dec]
    refine y_iald h.1.I h.tsb (e_250 (33, .iaload, 1) (List.mem_of_getElem? (i := 18) rfl)) ⟨rfl, rfl⟩ (by omega) (by rw [er]; exact hv) ?_
    refine y_st (e_250 (34, .bipush 22, 2) (List.mem_of_getElem? (i := 19) rfl)) ⟨rfl, rfl, rfl, rfl⟩ ?_
    refine y_icm (e_250 (36, .if_icmp .ne 37, 3) (List.mem_of_getElem? (i := 20) rfl)) rfl (fun hb => stay ?_) (fun hb => ?_)
    · have n22 : v ≠ 22 := fun z => y_hI.2.2.1 hb (by rw [z]; rfl)
      omega
    have y22 : v = 22 := by
      have := congrArg Int32.toInt (y_hI.2.2.2.1 hb)
      omega
    refine y_iln (e_250 (39, .iload_n 1, 1) (List.mem_of_getElem? (i := 21) rfl)) g1 ?_
    refine y_st (e_250 (40, .bipush 22, 2) (List.mem_of_getElem? (i := 22) rfl)) ⟨rfl, rfl, rfl, rfl⟩ ?_
    refine y_icm (e_250 (42, .if_icmp .ne 31, 3) (List.mem_of_getElem? (i := 23) rfl)) rfl (fun hb => stay ?_) (fun hb => go (Or.inr ⟨y22, ?_⟩))
    · have nt : t ≠ 22 := fun z => y_hI.2.2.1 hb (by rw [z]; rfl)
      omega
    · have := congrArg Int32.toInt (y_hI.2.2.2.1 hb)
      omega

def s_lf (k : Nat) : Int := if k = 17 then 0 else if k = 28 then 1 else if k = 29 then 2 else if k = 30 then 3 else if k = 31 then 4 else if k = 32 then 5 else if k = 33 then 6 else if k = 34 then 7 else -1
set_option maxHeartbeats 2000000 in
set_option maxRecDepth 100000 in
theorem s_leafOf (h : SM th am mb sb f n lim p tok at9 sp num wd cd on dp wh st qf G) {tk : Nat} {n9 : Int32} {nm : Int64} (hT : TR tk n9 nm tok num wd) : x_Gd xs L J (d + 1) m_253 (fun r G' => r = some (.int (Int32.ofInt (s_lf tk))) ∧ G' = G) 0 (lv_args 0 [.ref am]) [] G := by
  have g0 : pm_get (lv_args 0 [.ref am]) 0 = some (.ref am) := rfl
  generalize lv_args 0 [.ref am] = lv at g0 ⊢
  refine y_aln (e_253 (0, .aload_n 0, 1) (List.mem_of_getElem? (i := 0) rfl)) g0 ?_
  refine y_st (e_253 (1, .ldc2_w 92, 3) (List.mem_of_getElem? (i := 1) rfl)) ⟨rfl, rfl, rfl, rfl⟩ ?_
  refine y_c2 (K' := _) (e_253 (4, .invokevirtual 198, 3) (List.mem_of_getElem? (i := 2) rfl)) ⟨rfl, rfl, rfl⟩ t_17_198 ⟨by decide, by decide, by decide, by decide⟩ m_168_ok rfl (by decide) (y_recv h.1.I h.1.t ⟨rfl, rfl⟩) (Nat.le_of_ble_eq_true rfl) (Nat.le_of_ble_eq_true rfl) (s_isWord (d := d) h.1 (t_W 7)) (fun r1 Gc hc1 => ?_)
  obtain ⟨rfl, rfl⟩ := hc1
  simp only [Option.toList_some, Option.toList_none, List.cons_append, List.nil_append]
  by_cases z0 : tk = 17
  · rw [if_pos ((hT.word (x := 7) (by decide)).mp z0)]
    refine y_ifc (e_253 (7, .ifCond .eq 7, 3) (List.mem_of_getElem? (i := 3) rfl)) rfl (fun hb => absurd hb (by decide)) (fun _ => ?_)
    refine y_st (e_253 (10, .iconst 0, 1) (List.mem_of_getElem? (i := 4) rfl)) ⟨rfl, rfl, rfl, rfl⟩ ?_
    refine y_st (e_253 (11, .goto 104, 3) (List.mem_of_getElem? (i := 5) rfl)) ⟨rfl, rfl, rfl, rfl⟩ ?_
    rw [z0]
    exact y_ret (e_253 (115, .ireturn, 1) (List.mem_of_getElem? (i := 49) rfl)) ⟨rfl, y_ri⟩ ⟨rfl, rfl⟩
  rw [if_neg (fun z => z0 ((hT.word (x := 7) (by decide)).mpr z))]
  refine y_ifc (e_253 (7, .ifCond .eq 7, 3) (List.mem_of_getElem? (i := 3) rfl)) rfl (fun _ => ?_) (fun hb => absurd hb (by decide))
  refine y_aln (e_253 (14, .aload_n 0, 1) (List.mem_of_getElem? (i := 6) rfl)) g0 ?_
  refine y_st (e_253 (15, .ldc2_w 114, 3) (List.mem_of_getElem? (i := 7) rfl)) ⟨rfl, rfl, rfl, rfl⟩ ?_
  refine y_c2 (K' := _) (e_253 (18, .invokevirtual 198, 3) (List.mem_of_getElem? (i := 8) rfl)) ⟨rfl, rfl, rfl⟩ t_17_198 ⟨by decide, by decide, by decide, by decide⟩ m_168_ok rfl (by decide) (y_recv h.1.I h.1.t ⟨rfl, rfl⟩) (Nat.le_of_ble_eq_true rfl) (Nat.le_of_ble_eq_true rfl) (s_isWord (d := d) h.1 (t_W 18)) (fun r1 Gc hc1 => ?_)
  obtain ⟨rfl, rfl⟩ := hc1
  simp only [Option.toList_some, Option.toList_none, List.cons_append, List.nil_append]
  by_cases z1 : tk = 28
  · rw [if_pos ((hT.word (x := 18) (by decide)).mp z1)]
    refine y_ifc (e_253 (21, .ifCond .eq 7, 3) (List.mem_of_getElem? (i := 9) rfl)) rfl (fun hb => absurd hb (by decide)) (fun _ => ?_)
    refine y_st (e_253 (24, .iconst 1, 1) (List.mem_of_getElem? (i := 10) rfl)) ⟨rfl, rfl, rfl, rfl⟩ ?_
    refine y_st (e_253 (25, .goto 90, 3) (List.mem_of_getElem? (i := 11) rfl)) ⟨rfl, rfl, rfl, rfl⟩ ?_
    rw [z1]
    exact y_ret (e_253 (115, .ireturn, 1) (List.mem_of_getElem? (i := 49) rfl)) ⟨rfl, y_ri⟩ ⟨rfl, rfl⟩
  rw [if_neg (fun z => z1 ((hT.word (x := 18) (by decide)).mpr z))]
  refine y_ifc (e_253 (21, .ifCond .eq 7, 3) (List.mem_of_getElem? (i := 9) rfl)) rfl (fun _ => ?_) (fun hb => absurd hb (by decide))
  refine y_aln (e_253 (28, .aload_n 0, 1) (List.mem_of_getElem? (i := 12) rfl)) g0 ?_
  refine y_st (e_253 (29, .ldc2_w 116, 3) (List.mem_of_getElem? (i := 13) rfl)) ⟨rfl, rfl, rfl, rfl⟩ ?_
  refine y_c2 (K' := _) (e_253 (32, .invokevirtual 198, 3) (List.mem_of_getElem? (i := 14) rfl)) ⟨rfl, rfl, rfl⟩ t_17_198 ⟨by decide, by decide, by decide, by decide⟩ m_168_ok rfl (by decide) (y_recv h.1.I h.1.t ⟨rfl, rfl⟩) (Nat.le_of_ble_eq_true rfl) (Nat.le_of_ble_eq_true rfl) (s_isWord (d := d) h.1 (t_W 19)) (fun r1 Gc hc1 => ?_)
  obtain ⟨rfl, rfl⟩ := hc1
  simp only [Option.toList_some, Option.toList_none, List.cons_append, List.nil_append]
  by_cases z2 : tk = 29
  · rw [if_pos ((hT.word (x := 19) (by decide)).mp z2)]
    refine y_ifc (e_253 (35, .ifCond .eq 7, 3) (List.mem_of_getElem? (i := 15) rfl)) rfl (fun hb => absurd hb (by decide)) (fun _ => ?_)
    refine y_st (e_253 (38, .iconst 2, 1) (List.mem_of_getElem? (i := 16) rfl)) ⟨rfl, rfl, rfl, rfl⟩ ?_
    refine y_st (e_253 (39, .goto 76, 3) (List.mem_of_getElem? (i := 17) rfl)) ⟨rfl, rfl, rfl, rfl⟩ ?_
    rw [z2]
    exact y_ret (e_253 (115, .ireturn, 1) (List.mem_of_getElem? (i := 49) rfl)) ⟨rfl, y_ri⟩ ⟨rfl, rfl⟩
  rw [if_neg (fun z => z2 ((hT.word (x := 19) (by decide)).mpr z))]
  refine y_ifc (e_253 (35, .ifCond .eq 7, 3) (List.mem_of_getElem? (i := 15) rfl)) rfl (fun _ => ?_) (fun hb => absurd hb (by decide))
  refine y_aln (e_253 (42, .aload_n 0, 1) (List.mem_of_getElem? (i := 18) rfl)) g0 ?_
  refine y_st (e_253 (43, .ldc2_w 118, 3) (List.mem_of_getElem? (i := 19) rfl)) ⟨rfl, rfl, rfl, rfl⟩ ?_
  refine y_c2 (K' := _) (e_253 (46, .invokevirtual 198, 3) (List.mem_of_getElem? (i := 20) rfl)) ⟨rfl, rfl, rfl⟩ t_17_198 ⟨by decide, by decide, by decide, by decide⟩ m_168_ok rfl (by decide) (y_recv h.1.I h.1.t ⟨rfl, rfl⟩) (Nat.le_of_ble_eq_true rfl) (Nat.le_of_ble_eq_true rfl) (s_isWord (d := d) h.1 (t_W 20)) (fun r1 Gc hc1 => ?_)
  obtain ⟨rfl, rfl⟩ := hc1
  simp only [Option.toList_some, Option.toList_none, List.cons_append, List.nil_append]
  by_cases z3 : tk = 30
  · rw [if_pos ((hT.word (x := 20) (by decide)).mp z3)]
    refine y_ifc (e_253 (49, .ifCond .eq 7, 3) (List.mem_of_getElem? (i := 21) rfl)) rfl (fun hb => absurd hb (by decide)) (fun _ => ?_)
    refine y_st (e_253 (52, .iconst 3, 1) (List.mem_of_getElem? (i := 22) rfl)) ⟨rfl, rfl, rfl, rfl⟩ ?_
    refine y_st (e_253 (53, .goto 62, 3) (List.mem_of_getElem? (i := 23) rfl)) ⟨rfl, rfl, rfl, rfl⟩ ?_
    rw [z3]
    exact y_ret (e_253 (115, .ireturn, 1) (List.mem_of_getElem? (i := 49) rfl)) ⟨rfl, y_ri⟩ ⟨rfl, rfl⟩
  rw [if_neg (fun z => z3 ((hT.word (x := 20) (by decide)).mpr z))]
  refine y_ifc (e_253 (49, .ifCond .eq 7, 3) (List.mem_of_getElem? (i := 21) rfl)) rfl (fun _ => ?_) (fun hb => absurd hb (by decide))
  refine y_aln (e_253 (56, .aload_n 0, 1) (List.mem_of_getElem? (i := 24) rfl)) g0 ?_
  refine y_st (e_253 (57, .ldc2_w 120, 3) (List.mem_of_getElem? (i := 25) rfl)) ⟨rfl, rfl, rfl, rfl⟩ ?_
  refine y_c2 (K' := _) (e_253 (60, .invokevirtual 198, 3) (List.mem_of_getElem? (i := 26) rfl)) ⟨rfl, rfl, rfl⟩ t_17_198 ⟨by decide, by decide, by decide, by decide⟩ m_168_ok rfl (by decide) (y_recv h.1.I h.1.t ⟨rfl, rfl⟩) (Nat.le_of_ble_eq_true rfl) (Nat.le_of_ble_eq_true rfl) (s_isWord (d := d) h.1 (t_W 21)) (fun r1 Gc hc1 => ?_)
  obtain ⟨rfl, rfl⟩ := hc1
  simp only [Option.toList_some, Option.toList_none, List.cons_append, List.nil_append]
  by_cases z4 : tk = 31
  · rw [if_pos ((hT.word (x := 21) (by decide)).mp z4)]
    refine y_ifc (e_253 (63, .ifCond .eq 7, 3) (List.mem_of_getElem? (i := 27) rfl)) rfl (fun hb => absurd hb (by decide)) (fun _ => ?_)
    refine y_st (e_253 (66, .iconst 4, 1) (List.mem_of_getElem? (i := 28) rfl)) ⟨rfl, rfl, rfl, rfl⟩ ?_
    refine y_st (e_253 (67, .goto 48, 3) (List.mem_of_getElem? (i := 29) rfl)) ⟨rfl, rfl, rfl, rfl⟩ ?_
    rw [z4]
    exact y_ret (e_253 (115, .ireturn, 1) (List.mem_of_getElem? (i := 49) rfl)) ⟨rfl, y_ri⟩ ⟨rfl, rfl⟩
  rw [if_neg (fun z => z4 ((hT.word (x := 21) (by decide)).mpr z))]
  refine y_ifc (e_253 (63, .ifCond .eq 7, 3) (List.mem_of_getElem? (i := 27) rfl)) rfl (fun _ => ?_) (fun hb => absurd hb (by decide))
  refine y_aln (e_253 (70, .aload_n 0, 1) (List.mem_of_getElem? (i := 30) rfl)) g0 ?_
  refine y_st (e_253 (71, .ldc2_w 122, 3) (List.mem_of_getElem? (i := 31) rfl)) ⟨rfl, rfl, rfl, rfl⟩ ?_
  refine y_c2 (K' := _) (e_253 (74, .invokevirtual 198, 3) (List.mem_of_getElem? (i := 32) rfl)) ⟨rfl, rfl, rfl⟩ t_17_198 ⟨by decide, by decide, by decide, by decide⟩ m_168_ok rfl (by decide) (y_recv h.1.I h.1.t ⟨rfl, rfl⟩) (Nat.le_of_ble_eq_true rfl) (Nat.le_of_ble_eq_true rfl) (s_isWord (d := d) h.1 (t_W 22)) (fun r1 Gc hc1 => ?_)
  obtain ⟨rfl, rfl⟩ := hc1
  simp only [Option.toList_some, Option.toList_none, List.cons_append, List.nil_append]
  by_cases z5 : tk = 32
  · rw [if_pos ((hT.word (x := 22) (by decide)).mp z5)]
    refine y_ifc (e_253 (77, .ifCond .eq 7, 3) (List.mem_of_getElem? (i := 33) rfl)) rfl (fun hb => absurd hb (by decide)) (fun _ => ?_)
    refine y_st (e_253 (80, .iconst 5, 1) (List.mem_of_getElem? (i := 34) rfl)) ⟨rfl, rfl, rfl, rfl⟩ ?_
    refine y_st (e_253 (81, .goto 34, 3) (List.mem_of_getElem? (i := 35) rfl)) ⟨rfl, rfl, rfl, rfl⟩ ?_
    rw [z5]
    exact y_ret (e_253 (115, .ireturn, 1) (List.mem_of_getElem? (i := 49) rfl)) ⟨rfl, y_ri⟩ ⟨rfl, rfl⟩
  rw [if_neg (fun z => z5 ((hT.word (x := 22) (by decide)).mpr z))]
  refine y_ifc (e_253 (77, .ifCond .eq 7, 3) (List.mem_of_getElem? (i := 33) rfl)) rfl (fun _ => ?_) (fun hb => absurd hb (by decide))
  refine y_aln (e_253 (84, .aload_n 0, 1) (List.mem_of_getElem? (i := 36) rfl)) g0 ?_
  refine y_st (e_253 (85, .ldc2_w 124, 3) (List.mem_of_getElem? (i := 37) rfl)) ⟨rfl, rfl, rfl, rfl⟩ ?_
  refine y_c2 (K' := _) (e_253 (88, .invokevirtual 198, 3) (List.mem_of_getElem? (i := 38) rfl)) ⟨rfl, rfl, rfl⟩ t_17_198 ⟨by decide, by decide, by decide, by decide⟩ m_168_ok rfl (by decide) (y_recv h.1.I h.1.t ⟨rfl, rfl⟩) (Nat.le_of_ble_eq_true rfl) (Nat.le_of_ble_eq_true rfl) (s_isWord (d := d) h.1 (t_W 23)) (fun r1 Gc hc1 => ?_)
  obtain ⟨rfl, rfl⟩ := hc1
  simp only [Option.toList_some, Option.toList_none, List.cons_append, List.nil_append]
  by_cases z6 : tk = 33
  · rw [if_pos ((hT.word (x := 23) (by decide)).mp z6)]
    refine y_ifc (e_253 (91, .ifCond .eq 8, 3) (List.mem_of_getElem? (i := 39) rfl)) rfl (fun hb => absurd hb (by decide)) (fun _ => ?_)
    refine y_st (e_253 (94, .bipush 6, 2) (List.mem_of_getElem? (i := 40) rfl)) ⟨rfl, rfl, rfl, rfl⟩ ?_
    refine y_st (e_253 (96, .goto 19, 3) (List.mem_of_getElem? (i := 41) rfl)) ⟨rfl, rfl, rfl, rfl⟩ ?_
    rw [z6]
    exact y_ret (e_253 (115, .ireturn, 1) (List.mem_of_getElem? (i := 49) rfl)) ⟨rfl, y_ri⟩ ⟨rfl, rfl⟩
  rw [if_neg (fun z => z6 ((hT.word (x := 23) (by decide)).mpr z))]
  refine y_ifc (e_253 (91, .ifCond .eq 8, 3) (List.mem_of_getElem? (i := 39) rfl)) rfl (fun _ => ?_) (fun hb => absurd hb (by decide))
  refine y_aln (e_253 (99, .aload_n 0, 1) (List.mem_of_getElem? (i := 42) rfl)) g0 ?_
  refine y_st (e_253 (100, .ldc2_w 126, 3) (List.mem_of_getElem? (i := 43) rfl)) ⟨rfl, rfl, rfl, rfl⟩ ?_
  refine y_c2 (K' := _) (e_253 (103, .invokevirtual 198, 3) (List.mem_of_getElem? (i := 44) rfl)) ⟨rfl, rfl, rfl⟩ t_17_198 ⟨by decide, by decide, by decide, by decide⟩ m_168_ok rfl (by decide) (y_recv h.1.I h.1.t ⟨rfl, rfl⟩) (Nat.le_of_ble_eq_true rfl) (Nat.le_of_ble_eq_true rfl) (s_isWord (d := d) h.1 (t_W 24)) (fun r1 Gc hc1 => ?_)
  obtain ⟨rfl, rfl⟩ := hc1
  simp only [Option.toList_some, Option.toList_none, List.cons_append, List.nil_append]
  by_cases z7 : tk = 34
  · rw [if_pos ((hT.word (x := 24) (by decide)).mp z7)]
    refine y_ifc (e_253 (106, .ifCond .eq 8, 3) (List.mem_of_getElem? (i := 45) rfl)) rfl (fun hb => absurd hb (by decide)) (fun _ => ?_)
    refine y_st (e_253 (109, .bipush 7, 2) (List.mem_of_getElem? (i := 46) rfl)) ⟨rfl, rfl, rfl, rfl⟩ ?_
    refine y_st (e_253 (111, .goto 4, 3) (List.mem_of_getElem? (i := 47) rfl)) ⟨rfl, rfl, rfl, rfl⟩ ?_
    rw [z7]
    exact y_ret (e_253 (115, .ireturn, 1) (List.mem_of_getElem? (i := 49) rfl)) ⟨rfl, y_ri⟩ ⟨rfl, rfl⟩
  rw [if_neg (fun z => z7 ((hT.word (x := 24) (by decide)).mpr z))]
  refine y_ifc (e_253 (106, .ifCond .eq 8, 3) (List.mem_of_getElem? (i := 45) rfl)) rfl (fun _ => ?_) (fun hb => absurd hb (by decide))
  refine y_st (e_253 (114, .iconst (-1), 1) (List.mem_of_getElem? (i := 48) rfl)) ⟨rfl, rfl, rfl, rfl⟩ ?_
  have e : s_lf tk = -1 := by
    unfold s_lf
    rw [if_neg z0, if_neg z1, if_neg z2, if_neg z3, if_neg z4, if_neg z5, if_neg z6, if_neg z7]
  rw [e]
  exact y_ret (e_253 (115, .ireturn, 1) (List.mem_of_getElem? (i := 49) rfl)) ⟨rfl, y_ri⟩ ⟨rfl, rfl⟩
end S5
