def m_18 : pM := (⟨"BreathingHill$Hill", "makeEmpty", "()V"⟩, 547, 1, none, 4, 0, false, 0, 96, 545, 546)
set_option maxRecDepth 100000 in
theorem m_18_ok : pm_tab[18]? = some m_18 := rfl
theorem e_18 : ∀ q ∈ d_18, decode m_18.code q.1 = .ok (q.2.1, q.2.2) := y_dec d_18_ok m_18_ok
def m_19 : pM := (⟨"BreathingHill$Land", "makeEmpty", "()V"⟩, 551, 1, none, 5, 0, false, 1, 97, 549, 550)
set_option maxRecDepth 100000 in
theorem m_19_ok : pm_tab[19]? = some m_19 := rfl
theorem e_19 : ∀ q ∈ d_19, decode m_19.code q.1 = .ok (q.2.1, q.2.2) := y_dec d_19_ok m_19_ok
theorem t_4_52 : pm_ctab.find? (fun r => r.1 == 4 && r.2.1 == 52) = some (4, 52, 1, 19, 548) := by decide +kernel
/-- the class ahead of a LAND: as CS, but for the count of what was told once -/
def t_m0 (G : List pE) (c i : Nat) : Option Value := if c = 3 ∧ i = 2 then some (.int (Int32.ofInt 0)) else x_sl G c i
def CZ (f : Nat → Int32) (n lim nx : Int32) (tk : Nat) (pl num : Int32) (nm : Int64) (ft fp : Int32) (cc : Nat → Int32) (np nt nl nn : Int32) (ot : Nat → Nat) (tn ln mn : Nat → Int64) (G : List pE) : Prop := TC th0 1 2 f G n lim nx tk pl num nm ft fp G ∧ CSd (t_m0 G) cc np nt nl nn (Int32.ofInt 0) ot tn ln mn
section CA2
variable {xs : Nat → Int32} {L J d : Nat} {K : Option Value → List pE → Prop} {f : Nat → Int32} {G G1 G' : List pE} {n lim ft fp : Int32} {lv : pL} {cc : Nat → Int32} {np nt nl nn oc : Int32} {ot : Nat → Nat} {tn ln mn : Nat → Int64} {nx0 pl0 num0 : Int32} {tk0 : Nat} {nm0 : Int64} {nx1 pl1 num1 : Int32} {tk1 : Nat} {nm1 : Int64} {nx2 pl2 num2 : Int32} {tk2 : Nat} {nm2 : Int64} {nx3 pl3 num3 : Int32} {tk3 : Nat} {nm3 : Int64} {nx4 pl4 num4 : Int32} {tk4 : Nat} {nm4 : Int64} {nx5 pl5 num5 : Int32} {tk5 : Nat} {nm5 : Int64} {nx6 pl6 num6 : Int32} {tk6 : Nat} {nm6 : Int64} {nx7 pl7 num7 : Int32} {tk7 : Nat} {nm7 : Int64} {nx8 pl8 num8 : Int32} {tk8 : Nat} {nm8 : Int64}
theorem t_m0_upd {c i : Nat} {v : Value} (u : x_upd G G1 c i v) (hne : ¬ (c = 3 ∧ i = 2)) : ∀ c' i', t_m0 G1 c' i' = if c' = c ∧ i' = i then some v else t_m0 G c' i' := by
  intro c' i'
  unfold t_m0
  by_cases e : c' = 3 ∧ i' = 2
  · rw [if_pos e, if_pos e, if_neg (show ¬ (c' = c ∧ i' = i) from fun z => hne ⟨z.1.symm.trans e.1, z.2.symm.trans e.2⟩)]
  · rw [if_neg e, if_neg e, u.2.1]
theorem CZ.oth {c i : Nat} {v : Value} (h : CZ f n lim nx0 tk0 pl0 num0 nm0 ft fp cc np nt nl nn ot tn ln mn G) (u : x_upd G G1 c i v) (hI : xI x_tb th0 G1) (h1 : c ≠ 1) (h2 : c ≠ 2) (ht : t_trk c i = false) : CZ f n lim nx0 tk0 pl0 num0 nm0 ft fp cc np nt nl nn ot tn ln mn G1 :=
  ⟨h.1.other u h1 h2 hI, h.2.ext (fun c' i' t => by rw [t_m0_upd u (fun z => by rw [z.1, z.2] at ht; exact absurd ht (by decide)), if_neg (fun z => by rw [z.1, z.2, ht] at t; cases t)])⟩
theorem CZ.ccu {k : Nat} {v : Int32} (h : CZ f n lim nx0 tk0 pl0 num0 nm0 ft fp cc np nt nl nn ot tn ln mn G) (hk2 : k < 2) (u : x_upd G G1 34 k (.int v)) (hI : xI x_tb th0 G1) : CZ f n lim nx0 tk0 pl0 num0 nm0 ft fp (fun j => if j = k then v else cc j) np nt nl nn ot tn ln mn G1 := ⟨h.1.other u (by decide) (by decide) hI, h.2.ucc hk2 (fun c' i' => t_m0_upd u (by omega) c' i')⟩
theorem CZ.bru {k : Nat} {v : Int32} (h : CZ f n lim nx0 tk0 pl0 num0 nm0 ft fp cc np nt nl nn ot tn ln mn G) (hk2 : k < 4) (u : x_upd G G1 35 k (.int v)) (hI : xI x_tb th0 G1) : CZ f n lim nx0 tk0 pl0 num0 nm0 ft fp (fun j => if j = 6 + k then v else cc j) np nt nl nn ot tn ln mn G1 := ⟨h.1.other u (by decide) (by decide) hI, h.2.ubr hk2 (fun c' i' => t_m0_upd u (by omega) c' i')⟩
theorem CZ.lau2 {k : Nat} {v : Int32} (h : CZ f n lim nx0 tk0 pl0 num0 nm0 ft fp cc np nt nl nn ot tn ln mn G) (u : x_upd G G1 33 2 (.int v)) (hI : xI x_tb th0 G1) : CZ f n lim nx0 tk0 pl0 num0 nm0 ft fp (fun j => if j = 10 then v else cc j) np nt nl nn ot tn ln mn G1 := ⟨h.1.other u (by decide) (by decide) hI, h.2.u33_2 (fun c' i' => t_m0_upd u (by omega) c' i')⟩
theorem CZ.lau3 {k : Nat} {v : Int32} (h : CZ f n lim nx0 tk0 pl0 num0 nm0 ft fp cc np nt nl nn ot tn ln mn G) (u : x_upd G G1 33 3 (.int v)) (hI : xI x_tb th0 G1) : CZ f n lim nx0 tk0 pl0 num0 nm0 ft fp (fun j => if j = 11 then v else cc j) np nt nl nn ot tn ln mn G1 := ⟨h.1.other u (by decide) (by decide) hI, h.2.u33_3 (fun c' i' => t_m0_upd u (by omega) c' i')⟩
theorem CZ.lau4 {k : Nat} {v : Int32} (h : CZ f n lim nx0 tk0 pl0 num0 nm0 ft fp cc np nt nl nn ot tn ln mn G) (u : x_upd G G1 33 4 (.int v)) (hI : xI x_tb th0 G1) : CZ f n lim nx0 tk0 pl0 num0 nm0 ft fp (fun j => if j = 12 then v else cc j) np nt nl nn ot tn ln mn G1 := ⟨h.1.other u (by decide) (by decide) hI, h.2.u33_4 (fun c' i' => t_m0_upd u (by omega) c' i')⟩
theorem CZ.npu {k : Nat} {v : Int32} (h : CZ f n lim nx0 tk0 pl0 num0 nm0 ft fp cc np nt nl nn ot tn ln mn G) (u : x_upd G G1 33 5 (.int v)) (hI : xI x_tb th0 G1) : CZ f n lim nx0 tk0 pl0 num0 nm0 ft fp cc v nt nl nn ot tn ln mn G1 := ⟨h.1.other u (by decide) (by decide) hI, h.2.unp (fun c' i' => t_m0_upd u (by omega) c' i')⟩
theorem CZ.ntu {k : Nat} {v : Int32} (h : CZ f n lim nx0 tk0 pl0 num0 nm0 ft fp cc np nt nl nn ot tn ln mn G) (u : x_upd G G1 32 4 (.int v)) (hI : xI x_tb th0 G1) : CZ f n lim nx0 tk0 pl0 num0 nm0 ft fp cc np v nl nn ot tn ln mn G1 := ⟨h.1.other u (by decide) (by decide) hI, h.2.unt (fun c' i' => t_m0_upd u (by omega) c' i')⟩
theorem CZ.nlu {k : Nat} {v : Int32} (h : CZ f n lim nx0 tk0 pl0 num0 nm0 ft fp cc np nt nl nn ot tn ln mn G) (u : x_upd G G1 32 5 (.int v)) (hI : xI x_tb th0 G1) : CZ f n lim nx0 tk0 pl0 num0 nm0 ft fp cc np nt v nn ot tn ln mn G1 := ⟨h.1.other u (by decide) (by decide) hI, h.2.unl (fun c' i' => t_m0_upd u (by omega) c' i')⟩
theorem CZ.nnu {k : Nat} {v : Int32} (h : CZ f n lim nx0 tk0 pl0 num0 nm0 ft fp cc np nt nl nn ot tn ln mn G) (u : x_upd G G1 32 6 (.int v)) (hI : xI x_tb th0 G1) : CZ f n lim nx0 tk0 pl0 num0 nm0 ft fp cc np nt nl v ot tn ln mn G1 := ⟨h.1.other u (by decide) (by decide) hI, h.2.unn (fun c' i' => t_m0_upd u (by omega) c' i')⟩
set_option maxHeartbeats 2000000 in
set_option maxRecDepth 100000 in
theorem k_mkE19 (h : CZ f n lim nx0 tk0 pl0 num0 nm0 ft fp cc np nt nl nn ot tn ln mn G) : x_Gd xs L J d m_19 (fun r G' => r = none ∧ CZ f n lim nx0 tk0 pl0 num0 nm0 ft fp (fun j => if j = 12 then Int32.ofInt (-1) else (fun j => if j = 11 then (Int8.ofInt 20).toInt32 else (fun j => if j = 10 then Int32.ofInt 4 else (fun j => if j = 6 + 3 then Int32.ofInt 1 else (fun j => if j = 6 + 2 then Int32.ofInt 5 else (fun j => if j = 6 + 1 then Int32.ofInt 1 else (fun j => if j = 6 + 0 then Int32.ofInt 5 else (fun j => if j = 1 then (Int8.ofInt 10).toInt32 else (fun j => if j = 0 then (Int8.ofInt 10).toInt32 else cc j) j) j) j) j) j) j) j) j) (Int32.ofInt 0) nt nl nn ot tn ln mn G') 0 (lv_args 0 [.ref 33]) [] G := by
  have g0 : pm_get (lv_args 0 [.ref 33]) 0 = some (.ref 33) := rfl
  generalize lv_args 0 [.ref 33] = lv at g0 ⊢
  refine y_aln (e_19 (0, .aload_n 0, 1) (List.mem_of_getElem? (i := 0) rfl)) g0 ?_
  refine y_getf h.1.I th0_p.2.2.2.2.2.2.1 (e_19 (1, .getfield 9, 3) (List.mem_of_getElem? (i := 1) rfl)) u_5_9 ⟨rfl, rfl⟩ h.2.a33_0 ?_
  refine y_st (e_19 (4, .iconst 0, 1) (List.mem_of_getElem? (i := 2) rfl)) ⟨rfl, rfl, rfl, rfl⟩ ?_
  refine y_st (e_19 (5, .bipush 10, 2) (List.mem_of_getElem? (i := 3) rfl)) ⟨rfl, rfl, rfl, rfl⟩ ?_
  refine y_iast h.1.I th0_p.2.2.2.2.2.2.2.1 (e_19 (7, .iastore, 1) (List.mem_of_getElem? (i := 4) rfl)) ⟨rfl, rfl⟩ ⟨by decide, by decide⟩ (fun Gw1 uw1 => ?_)
  have w1 := h.ccu (k := 0) (by decide) uw1 (h.1.I.upd uw1 th0_p.2.2.2.2.2.2.2.1 (y_okA (by rw [show (x_tb 14).2.2.2 = [(2, ((0 : Nat), (-2147483648 : Int), (2147483647 : Int)))] from rfl]; exact y_one (by decide))))
  refine y_aln (e_19 (8, .aload_n 0, 1) (List.mem_of_getElem? (i := 5) rfl)) g0 ?_
  refine y_getf w1.1.I th0_p.2.2.2.2.2.2.1 (e_19 (9, .getfield 9, 3) (List.mem_of_getElem? (i := 6) rfl)) u_5_9 ⟨rfl, rfl⟩ w1.2.a33_0 ?_
  refine y_st (e_19 (12, .iconst 1, 1) (List.mem_of_getElem? (i := 7) rfl)) ⟨rfl, rfl, rfl, rfl⟩ ?_
  refine y_st (e_19 (13, .bipush 10, 2) (List.mem_of_getElem? (i := 8) rfl)) ⟨rfl, rfl, rfl, rfl⟩ ?_
  refine y_iast w1.1.I th0_p.2.2.2.2.2.2.2.1 (e_19 (15, .iastore, 1) (List.mem_of_getElem? (i := 9) rfl)) ⟨rfl, rfl⟩ ⟨by decide, by decide⟩ (fun Gw2 uw2 => ?_)
  have w2 := w1.ccu (k := 1) (by decide) uw2 (w1.1.I.upd uw2 th0_p.2.2.2.2.2.2.2.1 (y_okA (by rw [show (x_tb 14).2.2.2 = [(2, ((0 : Nat), (-2147483648 : Int), (2147483647 : Int)))] from rfl]; exact y_one (by decide))))
  refine y_aln (e_19 (16, .aload_n 0, 1) (List.mem_of_getElem? (i := 10) rfl)) g0 ?_
  refine y_getf w2.1.I th0_p.2.2.2.2.2.2.1 (e_19 (17, .getfield 15, 3) (List.mem_of_getElem? (i := 11) rfl)) u_5_15 ⟨rfl, rfl⟩ w2.2.a33_1 ?_
  refine y_st (e_19 (20, .iconst 0, 1) (List.mem_of_getElem? (i := 12) rfl)) ⟨rfl, rfl, rfl, rfl⟩ ?_
  refine y_st (e_19 (21, .iconst 5, 1) (List.mem_of_getElem? (i := 13) rfl)) ⟨rfl, rfl, rfl, rfl⟩ ?_
  refine y_iast w2.1.I th0_p.2.2.2.2.2.2.2.2.1 (e_19 (22, .iastore, 1) (List.mem_of_getElem? (i := 14) rfl)) ⟨rfl, rfl⟩ ⟨by decide, by decide⟩ (fun Gw3 uw3 => ?_)
  have w3 := w2.bru (k := 0) (by decide) uw3 (w2.1.I.upd uw3 th0_p.2.2.2.2.2.2.2.2.1 (y_okA (by rw [show (x_tb 15).2.2.2 = [(4, ((0 : Nat), (-2147483648 : Int), (2147483647 : Int)))] from rfl]; exact y_one (by decide))))
  refine y_aln (e_19 (23, .aload_n 0, 1) (List.mem_of_getElem? (i := 15) rfl)) g0 ?_
  refine y_getf w3.1.I th0_p.2.2.2.2.2.2.1 (e_19 (24, .getfield 15, 3) (List.mem_of_getElem? (i := 16) rfl)) u_5_15 ⟨rfl, rfl⟩ w3.2.a33_1 ?_
  refine y_st (e_19 (27, .iconst 1, 1) (List.mem_of_getElem? (i := 17) rfl)) ⟨rfl, rfl, rfl, rfl⟩ ?_
  refine y_st (e_19 (28, .iconst 1, 1) (List.mem_of_getElem? (i := 18) rfl)) ⟨rfl, rfl, rfl, rfl⟩ ?_
  refine y_iast w3.1.I th0_p.2.2.2.2.2.2.2.2.1 (e_19 (29, .iastore, 1) (List.mem_of_getElem? (i := 19) rfl)) ⟨rfl, rfl⟩ ⟨by decide, by decide⟩ (fun Gw4 uw4 => ?_)
  have w4 := w3.bru (k := 1) (by decide) uw4 (w3.1.I.upd uw4 th0_p.2.2.2.2.2.2.2.2.1 (y_okA (by rw [show (x_tb 15).2.2.2 = [(4, ((0 : Nat), (-2147483648 : Int), (2147483647 : Int)))] from rfl]; exact y_one (by decide))))
  refine y_aln (e_19 (30, .aload_n 0, 1) (List.mem_of_getElem? (i := 20) rfl)) g0 ?_
  refine y_getf w4.1.I th0_p.2.2.2.2.2.2.1 (e_19 (31, .getfield 15, 3) (List.mem_of_getElem? (i := 21) rfl)) u_5_15 ⟨rfl, rfl⟩ w4.2.a33_1 ?_
  refine y_st (e_19 (34, .iconst 2, 1) (List.mem_of_getElem? (i := 22) rfl)) ⟨rfl, rfl, rfl, rfl⟩ ?_
  refine y_st (e_19 (35, .iconst 5, 1) (List.mem_of_getElem? (i := 23) rfl)) ⟨rfl, rfl, rfl, rfl⟩ ?_
  refine y_iast w4.1.I th0_p.2.2.2.2.2.2.2.2.1 (e_19 (36, .iastore, 1) (List.mem_of_getElem? (i := 24) rfl)) ⟨rfl, rfl⟩ ⟨by decide, by decide⟩ (fun Gw5 uw5 => ?_)
  have w5 := w4.bru (k := 2) (by decide) uw5 (w4.1.I.upd uw5 th0_p.2.2.2.2.2.2.2.2.1 (y_okA (by rw [show (x_tb 15).2.2.2 = [(4, ((0 : Nat), (-2147483648 : Int), (2147483647 : Int)))] from rfl]; exact y_one (by decide))))
  refine y_aln (e_19 (37, .aload_n 0, 1) (List.mem_of_getElem? (i := 25) rfl)) g0 ?_
  refine y_getf w5.1.I th0_p.2.2.2.2.2.2.1 (e_19 (38, .getfield 15, 3) (List.mem_of_getElem? (i := 26) rfl)) u_5_15 ⟨rfl, rfl⟩ w5.2.a33_1 ?_
  refine y_st (e_19 (41, .iconst 3, 1) (List.mem_of_getElem? (i := 27) rfl)) ⟨rfl, rfl, rfl, rfl⟩ ?_
  refine y_st (e_19 (42, .iconst 1, 1) (List.mem_of_getElem? (i := 28) rfl)) ⟨rfl, rfl, rfl, rfl⟩ ?_
  refine y_iast w5.1.I th0_p.2.2.2.2.2.2.2.2.1 (e_19 (43, .iastore, 1) (List.mem_of_getElem? (i := 29) rfl)) ⟨rfl, rfl⟩ ⟨by decide, by decide⟩ (fun Gw6 uw6 => ?_)
  have w6 := w5.bru (k := 3) (by decide) uw6 (w5.1.I.upd uw6 th0_p.2.2.2.2.2.2.2.2.1 (y_okA (by rw [show (x_tb 15).2.2.2 = [(4, ((0 : Nat), (-2147483648 : Int), (2147483647 : Int)))] from rfl]; exact y_one (by decide))))
  refine y_aln (e_19 (44, .aload_n 0, 1) (List.mem_of_getElem? (i := 30) rfl)) g0 ?_
  refine y_st (e_19 (45, .iconst 4, 1) (List.mem_of_getElem? (i := 31) rfl)) ⟨rfl, rfl, rfl, rfl⟩ ?_
  refine y_putf (f := (0, -2147483648, 2147483647)) w6.1.I th0_p.2.2.2.2.2.2.1 (e_19 (46, .putfield 18, 3) (List.mem_of_getElem? (i := 32) rfl)) u_5_18 ⟨rfl, rfl, by decide, rfl, rfl⟩ ⟨_, rfl, (x_i32 _).1, (x_i32 _).2⟩ (fun Gw7 uw7 => ?_)
  have w7 := w6.lau2 (k := 0) uw7 (w6.1.I.upd uw7 th0_p.2.2.2.2.2.2.1 (y_okA rfl))
  refine y_aln (e_19 (49, .aload_n 0, 1) (List.mem_of_getElem? (i := 33) rfl)) g0 ?_
  refine y_st (e_19 (50, .bipush 20, 2) (List.mem_of_getElem? (i := 34) rfl)) ⟨rfl, rfl, rfl, rfl⟩ ?_
  refine y_putf (f := (0, -2147483648, 2147483647)) w7.1.I th0_p.2.2.2.2.2.2.1 (e_19 (52, .putfield 22, 3) (List.mem_of_getElem? (i := 35) rfl)) u_5_22 ⟨rfl, rfl, by decide, rfl, rfl⟩ ⟨_, rfl, (x_i32 _).1, (x_i32 _).2⟩ (fun Gw8 uw8 => ?_)
  have w8 := w7.lau3 (k := 0) uw8 (w7.1.I.upd uw8 th0_p.2.2.2.2.2.2.1 (y_okA rfl))
  refine y_aln (e_19 (55, .aload_n 0, 1) (List.mem_of_getElem? (i := 36) rfl)) g0 ?_
  refine y_st (e_19 (56, .iconst (-1), 1) (List.mem_of_getElem? (i := 37) rfl)) ⟨rfl, rfl, rfl, rfl⟩ ?_
  refine y_putf (f := (0, -2147483648, 2147483647)) w8.1.I th0_p.2.2.2.2.2.2.1 (e_19 (57, .putfield 25, 3) (List.mem_of_getElem? (i := 38) rfl)) u_5_25 ⟨rfl, rfl, by decide, rfl, rfl⟩ ⟨_, rfl, (x_i32 _).1, (x_i32 _).2⟩ (fun Gw9 uw9 => ?_)
  have w9 := w8.lau4 (k := 0) uw9 (w8.1.I.upd uw9 th0_p.2.2.2.2.2.2.1 (y_okA rfl))
  refine y_aln (e_19 (60, .aload_n 0, 1) (List.mem_of_getElem? (i := 39) rfl)) g0 ?_
  refine y_st (e_19 (61, .iconst 0, 1) (List.mem_of_getElem? (i := 40) rfl)) ⟨rfl, rfl, rfl, rfl⟩ ?_
  refine y_putf (f := (0, 0, 4)) w9.1.I th0_p.2.2.2.2.2.2.1 (e_19 (62, .putfield 28, 3) (List.mem_of_getElem? (i := 41) rfl)) u_5_28 ⟨rfl, rfl, by decide, rfl, rfl⟩ ⟨_, rfl, by decide, by decide⟩ (fun Gz uz => ?_)
  have wz := w9.npu (k := 0) uz (w9.1.I.upd uz th0_p.2.2.2.2.2.2.1 (y_okI rfl (by decide) (by decide)))
  exact y_ret (e_19 (65, .return_, 1) (List.mem_of_getElem? (i := 42) rfl)) ⟨rfl, rfl⟩ ⟨rfl, wz⟩
set_option maxHeartbeats 2000000 in
set_option maxRecDepth 100000 in
theorem k_mkE18 (h : CZ f n lim nx0 tk0 pl0 num0 nm0 ft fp cc np nt nl nn ot tn ln mn G) : x_Gd xs L J (d + 1) m_18 (fun r G' => r = none ∧ CZ f n lim nx0 tk0 pl0 num0 nm0 ft fp (fun j => if j = 12 then Int32.ofInt (-1) else (fun j => if j = 11 then (Int8.ofInt 20).toInt32 else (fun j => if j = 10 then Int32.ofInt 4 else (fun j => if j = 6 + 3 then Int32.ofInt 1 else (fun j => if j = 6 + 2 then Int32.ofInt 5 else (fun j => if j = 6 + 1 then Int32.ofInt 1 else (fun j => if j = 6 + 0 then Int32.ofInt 5 else (fun j => if j = 1 then (Int8.ofInt 10).toInt32 else (fun j => if j = 0 then (Int8.ofInt 10).toInt32 else cc j) j) j) j) j) j) j) j) j) (Int32.ofInt 0) (Int32.ofInt 0) (Int32.ofInt 0) (Int32.ofInt 0) ot tn ln mn G') 0 (lv_args 0 [.ref 32]) [] G := by
  have g0 : pm_get (lv_args 0 [.ref 32]) 0 = some (.ref 32) := rfl
  generalize lv_args 0 [.ref 32] = lv at g0 ⊢
  refine y_aln (e_18 (0, .aload_n 0, 1) (List.mem_of_getElem? (i := 0) rfl)) g0 ?_
  refine y_getf h.1.I th0_p.2.2.2.2.2.1 (e_18 (1, .getfield 12, 3) (List.mem_of_getElem? (i := 1) rfl)) u_4_12 ⟨rfl, rfl⟩ h.2.a32_0 ?_
  refine y_c1 (K' := _) (e_18 (4, .invokevirtual 52, 3) (List.mem_of_getElem? (i := 2) rfl)) ⟨rfl, rfl, rfl⟩ t_4_52 ⟨by decide, by decide, by decide, by decide⟩ m_19_ok rfl (by decide) (y_recv h.1.I th0_p.2.2.2.2.2.2.1 ⟨rfl, rfl⟩) (Nat.le_of_ble_eq_true rfl) (Nat.le_of_ble_eq_true rfl) (k_mkE19 h) (fun r1 Gc hc1 => ?_)
  obtain ⟨rfl, w0⟩ := hc1
  simp only [Option.toList_some, Option.toList_none, List.cons_append, List.nil_append]
  refine y_aln (e_18 (7, .aload_n 0, 1) (List.mem_of_getElem? (i := 3) rfl)) g0 ?_
  refine y_st (e_18 (8, .iconst 0, 1) (List.mem_of_getElem? (i := 4) rfl)) ⟨rfl, rfl, rfl, rfl⟩ ?_
  refine y_putf (f := (0, 0, 8)) w0.1.I th0_p.2.2.2.2.2.1 (e_18 (9, .putfield 36, 3) (List.mem_of_getElem? (i := 5) rfl)) u_4_36 ⟨rfl, rfl, by decide, rfl, rfl⟩ ⟨_, rfl, by decide, by decide⟩ (fun G1 u1 => ?_)
  have w1 := w0.ntu (k := 0) u1 (w0.1.I.upd u1 th0_p.2.2.2.2.2.1 (y_okI rfl (by decide) (by decide)))
  refine y_aln (e_18 (12, .aload_n 0, 1) (List.mem_of_getElem? (i := 6) rfl)) g0 ?_
  refine y_st (e_18 (13, .iconst 0, 1) (List.mem_of_getElem? (i := 7) rfl)) ⟨rfl, rfl, rfl, rfl⟩ ?_
  refine y_putf (f := (0, 0, 4)) w1.1.I th0_p.2.2.2.2.2.1 (e_18 (14, .putfield 40, 3) (List.mem_of_getElem? (i := 8) rfl)) u_4_40 ⟨rfl, rfl, by decide, rfl, rfl⟩ ⟨_, rfl, by decide, by decide⟩ (fun G2 u2 => ?_)
  have w2 := w1.nlu (k := 0) u2 (w1.1.I.upd u2 th0_p.2.2.2.2.2.1 (y_okI rfl (by decide) (by decide)))
  refine y_aln (e_18 (17, .aload_n 0, 1) (List.mem_of_getElem? (i := 9) rfl)) g0 ?_
  refine y_st (e_18 (18, .iconst 0, 1) (List.mem_of_getElem? (i := 10) rfl)) ⟨rfl, rfl, rfl, rfl⟩ ?_
  refine y_putf (f := (0, 0, 4)) w2.1.I th0_p.2.2.2.2.2.1 (e_18 (19, .putfield 43, 3) (List.mem_of_getElem? (i := 11) rfl)) u_4_43 ⟨rfl, rfl, by decide, rfl, rfl⟩ ⟨_, rfl, by decide, by decide⟩ (fun G3 u3 => ?_)
  have w3 := w2.nnu (k := 0) u3 (w2.1.I.upd u3 th0_p.2.2.2.2.2.1 (y_okI rfl (by decide) (by decide)))
  refine y_aln (e_18 (22, .aload_n 0, 1) (List.mem_of_getElem? (i := 12) rfl)) g0 ?_
  refine y_st (e_18 (23, .iconst 0, 1) (List.mem_of_getElem? (i := 13) rfl)) ⟨rfl, rfl, rfl, rfl⟩ ?_
  refine y_putf (f := (0, -2147483648, 2147483647)) w3.1.I th0_p.2.2.2.2.2.1 (e_18 (24, .putfield 46, 3) (List.mem_of_getElem? (i := 14) rfl)) u_4_46 ⟨rfl, rfl, by decide, rfl, rfl⟩ ⟨_, rfl, (x_i32 _).1, (x_i32 _).2⟩ (fun G4 u4 => ?_)
  have w4 := w3.oth u4 (w3.1.I.upd u4 th0_p.2.2.2.2.2.1 (y_okA rfl)) (by decide) (by decide) rfl
  exact y_ret (e_18 (27, .return_, 1) (List.mem_of_getElem? (i := 15) rfl)) ⟨rfl, rfl⟩ ⟨rfl, w4⟩
end CA2
