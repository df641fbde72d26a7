def m_143 : pM := (⟨"BreathingHill$Sentence", "addStep", "(LBreathingHill$Token;LBreathingHill$Token;)Z"⟩, 1165, 3, some (FieldType.boolean), 9, 2, false, 6, 101, 1164, 29)
set_option maxRecDepth 100000 in
theorem m_143_ok : pm_tab[143]? = some m_143 := rfl
theorem e_143 : ∀ q ∈ d_143, decode m_143.code q.1 = .ok (q.2.1, q.2.2) := y_dec d_143_ok m_143_ok
def m_141 : pM := (⟨"BreathingHill$Sentence", "isPlain", "(LBreathingHill$Token;)Z"⟩, 1137, 1, some (FieldType.boolean), 9, 1, true, 6, 101, 1136, 0)
set_option maxRecDepth 100000 in
theorem m_141_ok : pm_tab[141]? = some m_141 := rfl
theorem e_141 : ∀ q ∈ d_141, decode m_141.code q.1 = .ok (q.2.1, q.2.2) := y_dec d_141_ok m_141_ok
def m_142 : pM := (⟨"BreathingHill$Sentence", "isCompared", "(LBreathingHill$Token;)Z"⟩, 1147, 1, some (FieldType.boolean), 9, 1, true, 6, 101, 1146, 0)
set_option maxRecDepth 100000 in
theorem m_142_ok : pm_tab[142]? = some m_142 := rfl
theorem e_142 : ∀ q ∈ d_142, decode m_142.code q.1 = .ok (q.2.1, q.2.2) := y_dec d_142_ok m_142_ok
def m_144 : pM := (⟨"BreathingHill$Sentence", "readCompared", "(LBreathingHill$Tape;LBreathingHill$Token;)Z"⟩, 1169, 4, some (FieldType.boolean), 9, 2, false, 6, 101, 1168, 30)
set_option maxRecDepth 100000 in
theorem m_144_ok : pm_tab[144]? = some m_144 := rfl
theorem e_144 : ∀ q ∈ d_144, decode m_144.code q.1 = .ok (q.2.1, q.2.2) := y_dec d_144_ok m_144_ok
theorem w_9_113 : pm_stab.find? (fun r => r.1 == 9 && r.2.1 == 113) = some (9, 113, 17, 1138) := by decide +kernel
theorem w_9_116 : pm_stab.find? (fun r => r.1 == 9 && r.2.1 == 116) = some (9, 116, 28, 1139) := by decide +kernel
theorem w_9_119 : pm_stab.find? (fun r => r.1 == 9 && r.2.1 == 119) = some (9, 119, 29, 1141) := by decide +kernel
theorem w_9_122 : pm_stab.find? (fun r => r.1 == 9 && r.2.1 == 122) = some (9, 122, 30, 1143) := by decide +kernel
theorem w_9_125 : pm_stab.find? (fun r => r.1 == 9 && r.2.1 == 125) = some (9, 125, 31, 1148) := by decide +kernel
theorem w_9_128 : pm_stab.find? (fun r => r.1 == 9 && r.2.1 == 128) = some (9, 128, 32, 1150) := by decide +kernel
theorem w_9_131 : pm_stab.find? (fun r => r.1 == 9 && r.2.1 == 131) = some (9, 131, 33, 1152) := by decide +kernel
theorem w_9_134 : pm_stab.find? (fun r => r.1 == 9 && r.2.1 == 134) = some (9, 134, 34, 1154) := by decide +kernel
theorem u_9_47 : pm_ftab.find? (fun r => r.1 == 9 && r.2.1 == 47) = some (9, 47, 7, 4, 1, 134) := by decide +kernel
theorem w_9_100 : pm_stab.find? (fun r => r.1 == 9 && r.2.1 == 100) = some (9, 100, 5, 1170) := by decide +kernel
theorem w_9_103 : pm_stab.find? (fun r => r.1 == 9 && r.2.1 == 103) = some (9, 103, 6, 1172) := by decide +kernel
theorem w_9_106 : pm_stab.find? (fun r => r.1 == 9 && r.2.1 == 106) = some (9, 106, 7, 1174) := by decide +kernel
theorem t_9_54 : pm_ctab.find? (fun r => r.1 == 9 && r.2.1 == 54) = some (9, 54, 1, 27, 1156) := by decide +kernel
theorem t_9_64 : pm_ctab.find? (fun r => r.1 == 9 && r.2.1 == 64) = some (9, 64, 1, 21, 1157) := by decide +kernel
theorem t_9_109 : pm_ctab.find? (fun r => r.1 == 9 && r.2.1 == 109) = some (9, 109, 1, 28, 1176) := by decide +kernel
theorem t_9_67 : pm_ctab.find? (fun r => r.1 == 9 && r.2.1 == 67) = some (9, 67, 1, 143, 1162) := by decide +kernel
-- ===== the class while it reads a SENTENCE =====
def SC (th : List Nat) (tp b sc : Nat) (f : Nat → Int32) (n lim nx : Int32) (tk : Nat) (pl num : Int32) (nm : Int64) (ft fp : Int32) (sz on : Nat) (G : List pE) : Prop := TC th tp b f G n lim nx tk pl num nm ft fp G ∧ th[sc]? = some 6 ∧ x_sl G sc 4 = some (.int (Int32.ofNat sz)) ∧ x_sl G sc 5 = some (.int (Int32.ofNat on))
theorem s_inc (a : Nat) : Int32.ofNat a + Int32.ofInt 1 = Int32.ofNat (a + 1) := by
  show Int32.ofNat a + Int32.ofNat 1 = _
  rw [← Int32.ofNat_add]
theorem s_dec (a : Nat) : Int32.ofNat (a + 1) - Int32.ofInt 1 = Int32.ofNat a := by
  rw [← s_inc, Int32.add_sub_cancel]
theorem s_toI {a : Nat} (h : a ≤ 1000) : (Int32.ofNat a).toInt = a := nI_toInt (by omega)
theorem s_okT {th : List Nat} {R : List (Nat × xF)} {i k : Nat} (e : x_at R i = some (4, 0, 0)) (hk : k < 35) : ∀ f', x_at R i = some f' → xf_ok th f' (.ref (pm_TB + k)) := by
  intro f' h
  rw [e] at h
  cases h
  exact Or.inr ⟨_, rfl, by unfold pm_isTok; simp [hk]⟩
section S2
variable {th : List Nat} {xs : Nat → Int32} {L J d tp b sc : Nat} {K : Option Value → List pE → Prop} {f : Nat → Int32} {G0 G G1 G' : List pE} {n lim nx pl num ft fp : Int32} {tk : Nat} {nm : Int64} {lv : pL} {nx' pl' num' : Int32} {tk' : Nat} {nm' : Int64} {sz on : Nat} {nx2 pl2 num2 : Int32} {tk2 : Nat} {nm2 : Int64} {nx3 pl3 num3 : Int32} {tk3 : Nat} {nm3 : Int64}
theorem SC.ts (h : SC th tp b sc f n lim nx tk pl num nm ft fp sz on G) : th[sc]? = some 6 := h.2.1
theorem SC.ssz (h : SC th tp b sc f n lim nx tk pl num nm ft fp sz on G) : x_sl G sc 4 = some (.int (Int32.ofNat sz)) := h.2.2.1
theorem SC.son (h : SC th tp b sc f n lim nx tk pl num nm ft fp sz on G) : x_sl G sc 5 = some (.int (Int32.ofNat on)) := h.2.2.2
theorem SC.ne (h : SC th tp b sc f n lim nx tk pl num nm ft fp sz on G) : sc ≠ tp ∧ sc ≠ b := by
  have t1 := h.1.t
  have t2 := h.1.tb
  have t3 := h.ts
  exact ⟨(fun z => by rw [z, t1] at t3; cases t3), (fun z => by rw [z, t2] at t3; cases t3)⟩
theorem SC.nxt (h : SC th tp b sc f n lim nx tk pl num nm ft fp sz on G) {ft' fp' : Int32} (t : TC th tp b f G n lim nx' tk' pl' num' nm' ft' fp' G') : SC th tp b sc f n lim nx' tk' pl' num' nm' ft' fp' sz on G' := by
  have ne := h.ne.1
  exact ⟨t.self, h.2.1, by rw [t.ot _ _ ne]; exact h.2.2.1, by rw [t.ot _ _ ne]; exact h.2.2.2⟩
theorem SC.usz {k : Nat} (h : SC th tp b sc f n lim nx tk pl num nm ft fp sz on G) (u : x_upd G G1 sc 4 (.int (Int32.ofNat k))) (hk : k ≤ 40) : SC th tp b sc f n lim nx tk pl num nm ft fp k on G1 := by
  obtain ⟨n1, n2⟩ := h.ne
  have e := s_toI (a := k) (by omega)
  exact ⟨h.1.other u n1 n2 (h.1.I.upd u h.ts (y_okI (lo := 0) (hi := 40) rfl (by omega) (by omega))), h.ts, by rw [u.2.1, if_pos ⟨rfl, rfl⟩], by rw [u.2.1, if_neg (fun z => absurd z.2 (by decide))]; exact h.son⟩
theorem SC.uon {k : Nat} (h : SC th tp b sc f n lim nx tk pl num nm ft fp sz on G) (u : x_upd G G1 sc 5 (.int (Int32.ofNat k))) : SC th tp b sc f n lim nx tk pl num nm ft fp sz k G1 := by
  obtain ⟨n1, n2⟩ := h.ne
  exact ⟨h.1.other u n1 n2 (h.1.I.upd u h.ts (y_okA rfl)), h.ts, by rw [u.2.1, if_neg (fun z => absurd z.2 (by decide))]; exact h.ssz, by rw [u.2.1, if_pos ⟨rfl, rfl⟩]⟩
/-- a slot of a row of the SENTENCE's -/
theorem SC.row {c i t : Nat} {v : Value} (h : SC th tp b sc f n lim nx tk pl num nm ft fp sz on G) (u : x_upd G G1 c i v) (tc : th[c]? = some t) (ht : t ≠ 6 ∧ t ≠ 7 ∧ t ≠ 28) (hI : xI x_tb th G1) : SC th tp b sc f n lim nx tk pl num nm ft fp sz on G1 := by
  have n1 : c ≠ tp := fun z => by rw [z, h.1.t] at tc; exact ht.2.1 (Option.some.inj tc).symm
  have n2 : c ≠ b := fun z => by rw [z, h.1.tb] at tc; exact ht.2.2 (Option.some.inj tc).symm
  have n3 : sc ≠ c := fun z => by rw [← z, h.ts] at tc; exact ht.1 (Option.some.inj tc).symm
  exact ⟨h.1.other u n1 n2 hI, h.ts, by rw [u.2.1, if_neg (fun z => n3 z.1)]; exact h.ssz, by rw [u.2.1, if_neg (fun z => n3 z.1)]; exact h.son⟩
theorem s_r40 : ∀ t, (t = 24 ∨ t = 25) → (x_tb t).2.2.2 = [(40, ((4 : Nat), (0 : Int), (0 : Int)))] := by
  intro t ht
  rcases ht with rfl | rfl <;> rfl
set_option maxHeartbeats 2000000 in
set_option maxRecDepth 100000 in
theorem s_addStep (h : SC th tp b sc f n lim nx tk pl num nm ft fp sz on G) (hsz : sz < 40) {a c : Nat} (ha : a < 35) (hc : c < 35) : x_Gd xs L J d m_143 (fun r G' => r = some (.int 1) ∧ SC th tp b sc f n lim nx tk pl num nm ft fp (sz + 1) on G') 0 (lv_args 0 [.ref sc, .ref (pm_TB + a), .ref (pm_TB + c)]) [] G := by
  have g0 : pm_get (lv_args 0 [.ref sc, .ref (pm_TB + a), .ref (pm_TB + c)]) 0 = some (.ref sc) := rfl
  have g1 : pm_get (lv_args 0 [.ref sc, .ref (pm_TB + a), .ref (pm_TB + c)]) 1 = some (.ref (pm_TB + a)) := rfl
  have g2 : pm_get (lv_args 0 [.ref sc, .ref (pm_TB + a), .ref (pm_TB + c)]) 2 = some (.ref (pm_TB + c)) := rfl
  generalize lv_args 0 [.ref sc, .ref (pm_TB + a), .ref (pm_TB + c)] = lv at g0 g1 g2 ⊢
  have e := s_toI (a := sz) (by omega)
  have e40 : ((Int8.ofInt 40).toInt32).toInt = 40 := rfl
  obtain ⟨b1, k1, t1⟩ := y_fref (i := 0) (u := 24) h.1.I h.ts rfl
  obtain ⟨b2, k2, t2⟩ := y_fref (i := 1) (u := 25) h.1.I h.ts rfl
  refine y_aln (e_143 (0, .aload_n 0, 1) (List.mem_of_getElem? (i := 0) rfl)) g0 ?_
  refine y_getf h.1.I h.ts (e_143 (1, .getfield 27, 3) (List.mem_of_getElem? (i := 1) rfl)) u_9_27 ⟨rfl, rfl⟩ h.ssz ?_
  refine y_st (e_143 (4, .bipush 40, 2) (List.mem_of_getElem? (i := 2) rfl)) ⟨rfl, rfl, rfl, rfl⟩ ?_
  refine y_icm (e_143 (6, .if_icmp .lt 5, 3) (List.mem_of_getElem? (i := 3) rfl)) rfl (fun _ => ?_) (fun hb => ?_)
  rotate_left
  · have := y_hI.2.2.2.2.2.2.2.2.2.1 hb
    omega
  refine y_aln (e_143 (11, .aload_n 0, 1) (List.mem_of_getElem? (i := 6) rfl)) g0 ?_
  refine y_getf h.1.I h.ts (e_143 (12, .getfield 13, 3) (List.mem_of_getElem? (i := 7) rfl)) u_9_13 ⟨rfl, rfl⟩ k1 ?_
  refine y_aln (e_143 (15, .aload_n 0, 1) (List.mem_of_getElem? (i := 8) rfl)) g0 ?_
  refine y_getf h.1.I h.ts (e_143 (16, .getfield 27, 3) (List.mem_of_getElem? (i := 9) rfl)) u_9_27 ⟨rfl, rfl⟩ h.ssz ?_
  refine y_aln (e_143 (19, .aload_n 1, 1) (List.mem_of_getElem? (i := 10) rfl)) g1 ?_
  refine y_aast h.1.I t1 (e_143 (20, .aastore, 1) (List.mem_of_getElem? (i := 11) rfl)) ⟨rfl, rfl⟩ ⟨by omega, by show _ < (40 : Int); omega⟩ ha (fun G1 u1 => ?_)
  have h1 := h.row u1 t1 ⟨by decide, by decide, by decide⟩ (h.1.I.upd u1 t1 (s_okT (by rw [s_r40 _ (Or.inl rfl)]; exact y_one (by omega)) ha))
  have n1 : sc ≠ b1 := fun z => by rw [← z, h.ts] at t1; cases t1
  refine y_aln (e_143 (21, .aload_n 0, 1) (List.mem_of_getElem? (i := 12) rfl)) g0 ?_
  refine y_getf h1.1.I h1.ts (e_143 (22, .getfield 17, 3) (List.mem_of_getElem? (i := 13) rfl)) u_9_17 ⟨rfl, rfl⟩ (by rw [u1.2.1, if_neg (fun z => n1 z.1)]; exact k2) ?_
  refine y_aln (e_143 (25, .aload_n 0, 1) (List.mem_of_getElem? (i := 14) rfl)) g0 ?_
  refine y_getf h1.1.I h1.ts (e_143 (26, .getfield 27, 3) (List.mem_of_getElem? (i := 15) rfl)) u_9_27 ⟨rfl, rfl⟩ h1.ssz ?_
  refine y_aln (e_143 (29, .aload_n 2, 1) (List.mem_of_getElem? (i := 16) rfl)) g2 ?_
  refine y_aast h1.1.I t2 (e_143 (30, .aastore, 1) (List.mem_of_getElem? (i := 17) rfl)) ⟨rfl, rfl⟩ ⟨by omega, by show _ < (40 : Int); omega⟩ hc (fun G2 u2 => ?_)
  have h2 := h1.row u2 t2 ⟨by decide, by decide, by decide⟩ (h1.1.I.upd u2 t2 (s_okT (by rw [s_r40 _ (Or.inr rfl)]; exact y_one (by omega)) hc))
  have e1 := s_toI (a := sz + 1) (by omega)
  refine y_aln (e_143 (31, .aload_n 0, 1) (List.mem_of_getElem? (i := 18) rfl)) g0 ?_
  refine y_st (e_143 (32, .dup, 1) (List.mem_of_getElem? (i := 19) rfl)) ⟨rfl, rfl, rfl, rfl⟩ ?_
  refine y_getf h2.1.I h2.ts (e_143 (33, .getfield 27, 3) (List.mem_of_getElem? (i := 20) rfl)) u_9_27 ⟨rfl, rfl⟩ h2.ssz ?_
  refine y_st (e_143 (36, .iconst 1, 1) (List.mem_of_getElem? (i := 21) rfl)) ⟨rfl, rfl, rfl, rfl⟩ ?_
  refine y_st (e_143 (37, .iadd, 1) (List.mem_of_getElem? (i := 22) rfl)) ⟨rfl, rfl, rfl, rfl⟩ ?_
  rw [s_inc]
  refine y_putf (f := (0, 0, 40)) h2.1.I h2.ts (e_143 (38, .putfield 27, 3) (List.mem_of_getElem? (i := 23) rfl)) u_9_27 ⟨rfl, rfl, by decide, rfl, rfl⟩ ⟨_, rfl, by show (0 : Int) ≤ _; omega, by show _ ≤ (40 : Int); omega⟩ (fun G1 u1 => ?_)
  have h3 := h2.usz u1 (by omega)
  refine y_st (e_143 (41, .iconst 1, 1) (List.mem_of_getElem? (i := 24) rfl)) ⟨rfl, rfl, rfl, rfl⟩ ?_
  exact y_ret (e_143 (42, .ireturn, 1) (List.mem_of_getElem? (i := 25) rfl)) ⟨rfl, y_rb (Or.inr rfl)⟩ ⟨rfl, h3⟩
def s_pln (k : Nat) : Bool := k == 17 || k == 28 || k == 29 || k == 30
def s_cmp (k : Nat) : Bool := k == 31 || k == 32 || k == 33 || k == 34
set_option maxHeartbeats 2000000 in
set_option maxRecDepth 100000 in
theorem s_isPlain {a : Nat} (ha : a < 35) : x_Gd xs L J d m_141 (fun r G' => r = some (.int (if s_pln a then 1 else 0)) ∧ G' = G) 0 (lv_args 0 [.ref (pm_TB + a)]) [] G := by
  have g0 : pm_get (lv_args 0 [.ref (pm_TB + a)]) 0 = some (.ref (pm_TB + a)) := rfl
  generalize lv_args 0 [.ref (pm_TB + a)] = lv at g0 ⊢
  have yes : s_pln a = true → x_Gd xs L J d m_141 (fun r G' => r = some (.int (if s_pln a then 1 else 0)) ∧ G' = G) 28 lv [] G := fun z => by
    rw [z]
    refine y_st (e_141 (28, .iconst 1, 1) (List.mem_of_getElem? (i := 12) rfl)) ⟨rfl, rfl, rfl, rfl⟩ ?_
    refine y_st (e_141 (29, .goto 4, 3) (List.mem_of_getElem? (i := 13) rfl)) ⟨rfl, rfl, rfl, rfl⟩ ?_
    exact y_ret (e_141 (33, .ireturn, 1) (List.mem_of_getElem? (i := 15) rfl)) ⟨rfl, y_rb (Or.inr rfl)⟩ ⟨rfl, rfl⟩
  have no : s_pln a = false → x_Gd xs L J d m_141 (fun r G' => r = some (.int (if s_pln a then 1 else 0)) ∧ G' = G) 32 lv [] G := fun z => by
    rw [z]
    refine y_st (e_141 (32, .iconst 0, 1) (List.mem_of_getElem? (i := 14) rfl)) ⟨rfl, rfl, rfl, rfl⟩ ?_
    exact y_ret (e_141 (33, .ireturn, 1) (List.mem_of_getElem? (i := 15) rfl)) ⟨rfl, y_rb (Or.inl rfl)⟩ ⟨rfl, rfl⟩
  refine y_aln (e_141 (0, .aload_n 0, 1) (List.mem_of_getElem? (i := 0) rfl)) g0 ?_
  refine y_gst (a := pm_TB + 17) (e_141 (1, .getstatic 113, 3) (List.mem_of_getElem? (i := 1) rfl)) w_9_113 rfl ?_
  refine y_acm (e_141 (4, .if_acmp .eq 24, 3) (List.mem_of_getElem? (i := 2) rfl)) rfl ha (by decide) (fun z => yes (by rw [z]; rfl)) (fun z1 => ?_)
  refine y_aln (e_141 (7, .aload_n 0, 1) (List.mem_of_getElem? (i := 3) rfl)) g0 ?_
  refine y_gst (a := pm_TB + 28) (e_141 (8, .getstatic 116, 3) (List.mem_of_getElem? (i := 4) rfl)) w_9_116 rfl ?_
  refine y_acm (e_141 (11, .if_acmp .eq 17, 3) (List.mem_of_getElem? (i := 5) rfl)) rfl ha (by decide) (fun z => yes (by rw [z]; rfl)) (fun z2 => ?_)
  refine y_aln (e_141 (14, .aload_n 0, 1) (List.mem_of_getElem? (i := 6) rfl)) g0 ?_
  refine y_gst (a := pm_TB + 29) (e_141 (15, .getstatic 119, 3) (List.mem_of_getElem? (i := 7) rfl)) w_9_119 rfl ?_
  refine y_acm (e_141 (18, .if_acmp .eq 10, 3) (List.mem_of_getElem? (i := 8) rfl)) rfl ha (by decide) (fun z => yes (by rw [z]; rfl)) (fun z3 => ?_)
  refine y_aln (e_141 (21, .aload_n 0, 1) (List.mem_of_getElem? (i := 9) rfl)) g0 ?_
  refine y_gst (a := pm_TB + 30) (e_141 (22, .getstatic 122, 3) (List.mem_of_getElem? (i := 10) rfl)) w_9_122 rfl ?_
  refine y_acmN (e_141 (25, .if_acmp .ne 7, 3) (List.mem_of_getElem? (i := 11) rfl)) rfl ha (by decide) (fun z4 => no ?_) (fun z => yes (by rw [z]; rfl))
  unfold s_pln
  simp [z1, z2, z3, z4]
set_option maxHeartbeats 2000000 in
set_option maxRecDepth 100000 in
theorem s_isCompared {a : Nat} (ha : a < 35) : x_Gd xs L J d m_142 (fun r G' => r = some (.int (if s_cmp a then 1 else 0)) ∧ G' = G) 0 (lv_args 0 [.ref (pm_TB + a)]) [] G := by
  have g0 : pm_get (lv_args 0 [.ref (pm_TB + a)]) 0 = some (.ref (pm_TB + a)) := rfl
  generalize lv_args 0 [.ref (pm_TB + a)] = lv at g0 ⊢
  have yes : s_cmp a = true → x_Gd xs L J d m_142 (fun r G' => r = some (.int (if s_cmp a then 1 else 0)) ∧ G' = G) 28 lv [] G := fun z => by
    rw [z]
    refine y_st (e_142 (28, .iconst 1, 1) (List.mem_of_getElem? (i := 12) rfl)) ⟨rfl, rfl, rfl, rfl⟩ ?_
    refine y_st (e_142 (29, .goto 4, 3) (List.mem_of_getElem? (i := 13) rfl)) ⟨rfl, rfl, rfl, rfl⟩ ?_
    exact y_ret (e_142 (33, .ireturn, 1) (List.mem_of_getElem? (i := 15) rfl)) ⟨rfl, y_rb (Or.inr rfl)⟩ ⟨rfl, rfl⟩
  have no : s_cmp a = false → x_Gd xs L J d m_142 (fun r G' => r = some (.int (if s_cmp a then 1 else 0)) ∧ G' = G) 32 lv [] G := fun z => by
    rw [z]
    refine y_st (e_142 (32, .iconst 0, 1) (List.mem_of_getElem? (i := 14) rfl)) ⟨rfl, rfl, rfl, rfl⟩ ?_
    exact y_ret (e_142 (33, .ireturn, 1) (List.mem_of_getElem? (i := 15) rfl)) ⟨rfl, y_rb (Or.inl rfl)⟩ ⟨rfl, rfl⟩
  refine y_aln (e_142 (0, .aload_n 0, 1) (List.mem_of_getElem? (i := 0) rfl)) g0 ?_
  refine y_gst (a := pm_TB + 31) (e_142 (1, .getstatic 125, 3) (List.mem_of_getElem? (i := 1) rfl)) w_9_125 rfl ?_
  refine y_acm (e_142 (4, .if_acmp .eq 24, 3) (List.mem_of_getElem? (i := 2) rfl)) rfl ha (by decide) (fun z => yes (by rw [z]; rfl)) (fun z1 => ?_)
  refine y_aln (e_142 (7, .aload_n 0, 1) (List.mem_of_getElem? (i := 3) rfl)) g0 ?_
  refine y_gst (a := pm_TB + 32) (e_142 (8, .getstatic 128, 3) (List.mem_of_getElem? (i := 4) rfl)) w_9_128 rfl ?_
  refine y_acm (e_142 (11, .if_acmp .eq 17, 3) (List.mem_of_getElem? (i := 5) rfl)) rfl ha (by decide) (fun z => yes (by rw [z]; rfl)) (fun z2 => ?_)
  refine y_aln (e_142 (14, .aload_n 0, 1) (List.mem_of_getElem? (i := 6) rfl)) g0 ?_
  refine y_gst (a := pm_TB + 33) (e_142 (15, .getstatic 131, 3) (List.mem_of_getElem? (i := 7) rfl)) w_9_131 rfl ?_
  refine y_acm (e_142 (18, .if_acmp .eq 10, 3) (List.mem_of_getElem? (i := 8) rfl)) rfl ha (by decide) (fun z => yes (by rw [z]; rfl)) (fun z3 => ?_)
  refine y_aln (e_142 (21, .aload_n 0, 1) (List.mem_of_getElem? (i := 9) rfl)) g0 ?_
  refine y_gst (a := pm_TB + 34) (e_142 (22, .getstatic 134, 3) (List.mem_of_getElem? (i := 10) rfl)) w_9_134 rfl ?_
  refine y_acmN (e_142 (25, .if_acmp .ne 7, 3) (List.mem_of_getElem? (i := 11) rfl)) rfl ha (by decide) (fun z4 => no ?_) (fun z => yes (by rw [z]; rfl))
  unfold s_cmp
  simp [z1, z2, z3, z4]

set_option maxHeartbeats 2000000 in
set_option maxRecDepth 100000 in
/-- behind what is compared comes no SIGN -/
theorem s_cmp_a (h : SC th tp b sc f n lim nx tk pl num nm ft fp sz on G) {a : Nat} (hno : tk ≠ 5 ∧ tk ≠ 6 ∧ tk ≠ 7) : x_Gd xs L J (d + 1) m_144 (fun r G' => r = some (.int 0) ∧ x_sl G' tp 8 = some (.int (Int32.ofInt 1)) ∧ x_sl G' tp 9 = some (.int pl)) 0 (lv_args 0 [.ref sc, .ref tp, .ref (pm_TB + a)]) [] G := by
  have g0 : pm_get (lv_args 0 [.ref sc, .ref tp, .ref (pm_TB + a)]) 0 = some (.ref sc) := rfl
  have g1 : pm_get (lv_args 0 [.ref sc, .ref tp, .ref (pm_TB + a)]) 1 = some (.ref tp) := rfl
  have g2 : pm_get (lv_args 0 [.ref sc, .ref tp, .ref (pm_TB + a)]) 2 = some (.ref (pm_TB + a)) := rfl
  generalize lv_args 0 [.ref sc, .ref tp, .ref (pm_TB + a)] = lv at g0 g1 g2 ⊢
  refine y_aln (e_144 (0, .aload_n 1, 1) (List.mem_of_getElem? (i := 0) rfl)) g1 ?_
  refine y_getf h.1.I h.1.t (e_144 (1, .getfield 47, 3) (List.mem_of_getElem? (i := 1) rfl)) u_9_47 ⟨rfl, rfl⟩ h.1.s4 ?_
  refine y_asn (e_144 (4, .astore_n 3, 1) (List.mem_of_getElem? (i := 2) rfl)) (by decide) ?_
  have g0 : pm_get (pm_put1 lv 3 (.ref (pm_TB + tk))) 0 = some (.ref sc) := y_gpr g0 (by decide)
  have g1 : pm_get (pm_put1 lv 3 (.ref (pm_TB + tk))) 1 = some (.ref tp) := y_gpr g1 (by decide)
  have g3 : pm_get (pm_put1 lv 3 (.ref (pm_TB + tk))) 3 = some (.ref (pm_TB + tk)) := x_get_self
  change x_Gd _ _ _ _ _ _ _ (pm_put1 lv 3 (.ref (pm_TB + tk))) _ _
  generalize pm_put1 lv 3 (.ref (pm_TB + tk)) = lv at g0 g1 g3 ⊢
  refine y_aln (e_144 (5, .aload_n 3, 1) (List.mem_of_getElem? (i := 3) rfl)) g3 ?_
  refine y_gst (a := pm_TB + 5) (e_144 (6, .getstatic 100, 3) (List.mem_of_getElem? (i := 4) rfl)) w_9_100 rfl ?_
  refine y_acm (e_144 (9, .if_acmp .eq 23, 3) (List.mem_of_getElem? (i := 5) rfl)) rfl h.1.tk35 (by decide) (fun z => absurd z hno.1) (fun _ => ?_)
  refine y_aln (e_144 (12, .aload_n 3, 1) (List.mem_of_getElem? (i := 6) rfl)) g3 ?_
  refine y_gst (a := pm_TB + 6) (e_144 (13, .getstatic 103, 3) (List.mem_of_getElem? (i := 7) rfl)) w_9_103 rfl ?_
  refine y_acm (e_144 (16, .if_acmp .eq 16, 3) (List.mem_of_getElem? (i := 8) rfl)) rfl h.1.tk35 (by decide) (fun z => absurd z hno.2.1) (fun _ => ?_)
  refine y_aln (e_144 (19, .aload_n 3, 1) (List.mem_of_getElem? (i := 9) rfl)) g3 ?_
  refine y_gst (a := pm_TB + 7) (e_144 (20, .getstatic 106, 3) (List.mem_of_getElem? (i := 10) rfl)) w_9_106 rfl ?_
  refine y_acm (e_144 (23, .if_acmp .eq 9, 3) (List.mem_of_getElem? (i := 11) rfl)) rfl h.1.tk35 (by decide) (fun z => absurd z hno.2.2) (fun _ => ?_)
  refine y_aln (e_144 (26, .aload_n 1, 1) (List.mem_of_getElem? (i := 12) rfl)) g1 ?_
  refine y_st (e_144 (27, .iconst 1, 1) (List.mem_of_getElem? (i := 13) rfl)) ⟨rfl, rfl, rfl, rfl⟩ ?_
  refine y_c2 (K' := _) (e_144 (28, .invokevirtual 54, 3) (List.mem_of_getElem? (i := 14) rfl)) ⟨rfl, rfl, rfl⟩ t_9_54 ⟨by decide, by decide, by decide, by decide⟩ m_27_ok rfl (by decide) (y_recv h.1.I h.1.t ⟨rfl, rfl⟩) (Nat.le_of_ble_eq_true rfl) (Nat.le_of_ble_eq_true rfl) (k_refuse h.1 _) (fun r1 Gc hc1 => ?_)
  obtain ⟨rfl, hc2⟩ := hc1
  simp only [Option.toList_some, Option.toList_none, List.cons_append, List.nil_append]
  exact y_ret (e_144 (31, .ireturn, 1) (List.mem_of_getElem? (i := 15) rfl)) ⟨rfl, y_rb (Or.inl rfl)⟩ ⟨rfl, hc2.s8, hc2.s9⟩
/-- a SIGN: from there on -/
theorem s_cmp_h (h : SC th tp b sc f n lim nx tk pl num nm ft fp sz on G) {a : Nat} (hs : tk = 5 ∨ tk = 6 ∨ tk = 7) (hN : NXc f n lim nx num nm nx2 tk2 pl2 num2 nm2) {K : Option Value → List pE → Prop} (hk : ∀ (G1 : List pE) (lv : pL), SC th tp b sc f n lim nx2 tk2 pl2 num2 nm2 ft fp sz on G1 → pm_get lv 0 = some (.ref sc) → pm_get lv 1 = some (.ref tp) → pm_get lv 2 = some (.ref (pm_TB + a)) → pm_get lv 3 = some (.ref (pm_TB + tk)) → x_Gd xs L J (d + 2) m_144 K 36 lv [] G1) : x_Gd xs L J (d + 2) m_144 K 0 (lv_args 0 [.ref sc, .ref tp, .ref (pm_TB + a)]) [] G := by
  have g0 : pm_get (lv_args 0 [.ref sc, .ref tp, .ref (pm_TB + a)]) 0 = some (.ref sc) := rfl
  have g1 : pm_get (lv_args 0 [.ref sc, .ref tp, .ref (pm_TB + a)]) 1 = some (.ref tp) := rfl
  have g2 : pm_get (lv_args 0 [.ref sc, .ref tp, .ref (pm_TB + a)]) 2 = some (.ref (pm_TB + a)) := rfl
  generalize lv_args 0 [.ref sc, .ref tp, .ref (pm_TB + a)] = lv at g0 g1 g2 ⊢
  refine y_aln (e_144 (0, .aload_n 1, 1) (List.mem_of_getElem? (i := 0) rfl)) g1 ?_
  refine y_getf h.1.I h.1.t (e_144 (1, .getfield 47, 3) (List.mem_of_getElem? (i := 1) rfl)) u_9_47 ⟨rfl, rfl⟩ h.1.s4 ?_
  refine y_asn (e_144 (4, .astore_n 3, 1) (List.mem_of_getElem? (i := 2) rfl)) (by decide) ?_
  have g0 : pm_get (pm_put1 lv 3 (.ref (pm_TB + tk))) 0 = some (.ref sc) := y_gpr g0 (by decide)
  have g1 : pm_get (pm_put1 lv 3 (.ref (pm_TB + tk))) 1 = some (.ref tp) := y_gpr g1 (by decide)
  have g2 : pm_get (pm_put1 lv 3 (.ref (pm_TB + tk))) 2 = some (.ref (pm_TB + a)) := y_gpr g2 (by decide)
  have g3 : pm_get (pm_put1 lv 3 (.ref (pm_TB + tk))) 3 = some (.ref (pm_TB + tk)) := x_get_self
  change x_Gd _ _ _ _ _ _ _ (pm_put1 lv 3 (.ref (pm_TB + tk))) _ _
  generalize pm_put1 lv 3 (.ref (pm_TB + tk)) = lv at g0 g1 g2 g3 ⊢
  have at32 : x_Gd xs L J (d + 2) m_144 K 32 lv [] G := by
    refine y_aln (e_144 (32, .aload_n 1, 1) (List.mem_of_getElem? (i := 16) rfl)) g1 ?_
    refine y_c1 (K' := _) (e_144 (33, .invokevirtual 64, 3) (List.mem_of_getElem? (i := 17) rfl)) ⟨rfl, rfl, rfl⟩ t_9_64 ⟨by decide, by decide, by decide, by decide⟩ m_21_ok rfl (by decide) (y_recv h.1.I h.1.t ⟨rfl, rfl⟩) (Nat.le_of_ble_eq_true rfl) (Nat.le_of_ble_eq_true rfl) (hN _ _ _ _ _ _ _ _ _ _ _ _ _ h.1) (fun r1 Gc hc1 => ?_)
    obtain ⟨rfl, hc2⟩ := hc1
    simp only [Option.toList_some, Option.toList_none, List.cons_append, List.nil_append]
    have h1 := h.nxt hc2
    exact hk _ _ h1 g0 g1 g2 g3
  refine y_aln (e_144 (5, .aload_n 3, 1) (List.mem_of_getElem? (i := 3) rfl)) g3 ?_
  refine y_gst (a := pm_TB + 5) (e_144 (6, .getstatic 100, 3) (List.mem_of_getElem? (i := 4) rfl)) w_9_100 rfl ?_
  refine y_acm (e_144 (9, .if_acmp .eq 23, 3) (List.mem_of_getElem? (i := 5) rfl)) rfl h.1.tk35 (by decide) (fun _ => at32) (fun z1 => ?_)
  refine y_aln (e_144 (12, .aload_n 3, 1) (List.mem_of_getElem? (i := 6) rfl)) g3 ?_
  refine y_gst (a := pm_TB + 6) (e_144 (13, .getstatic 103, 3) (List.mem_of_getElem? (i := 7) rfl)) w_9_103 rfl ?_
  refine y_acm (e_144 (16, .if_acmp .eq 16, 3) (List.mem_of_getElem? (i := 8) rfl)) rfl h.1.tk35 (by decide) (fun _ => at32) (fun z2 => ?_)
  refine y_aln (e_144 (19, .aload_n 3, 1) (List.mem_of_getElem? (i := 9) rfl)) g3 ?_
  refine y_gst (a := pm_TB + 7) (e_144 (20, .getstatic 106, 3) (List.mem_of_getElem? (i := 10) rfl)) w_9_106 rfl ?_
  exact y_acm (e_144 (23, .if_acmp .eq 9, 3) (List.mem_of_getElem? (i := 11) rfl)) rfl h.1.tk35 (by decide) (fun _ => at32) (fun z3 => absurd hs (by omega))
set_option maxHeartbeats 2000000 in
set_option maxRecDepth 100000 in
/-- no NUMBER behind it -/
theorem s_cmp_b (h : SC th tp b sc f n lim nx tk pl num nm ft fp sz on G) {a : Nat} (hs : tk = 5 ∨ tk = 6 ∨ tk = 7) (hN : NXc f n lim nx num nm nx2 tk2 pl2 num2 nm2) (hno : tk2 ≠ 2) : x_Gd xs L J (d + 2) m_144 (fun r G' => r = some (.int 0) ∧ x_sl G' tp 8 = some (.int (Int32.ofInt 1)) ∧ x_sl G' tp 9 = some (.int pl2)) 0 (lv_args 0 [.ref sc, .ref tp, .ref (pm_TB + a)]) [] G := by
  refine s_cmp_h h hs hN (fun G1 lv h1 g0 g1 g2 g3 => ?_)
  obtain ⟨b3, k3, t3⟩ := y_fref (i := 2) (u := 26) h1.1.I h1.ts rfl
  refine y_aln (e_144 (36, .aload_n 1, 1) (List.mem_of_getElem? (i := 18) rfl)) g1 ?_
  refine y_st (e_144 (37, .iconst 0, 1) (List.mem_of_getElem? (i := 19) rfl)) ⟨rfl, rfl, rfl, rfl⟩ ?_
  refine y_st (e_144 (38, .sipush 999, 3) (List.mem_of_getElem? (i := 20) rfl)) ⟨rfl, rfl, rfl, rfl⟩ ?_
  refine y_aln (e_144 (41, .aload_n 0, 1) (List.mem_of_getElem? (i := 21) rfl)) g0 ?_
  refine y_getf h1.1.I h1.ts (e_144 (42, .getfield 20, 3) (List.mem_of_getElem? (i := 22) rfl)) u_9_20 ⟨rfl, rfl⟩ k3 ?_
  refine y_aln (e_144 (45, .aload_n 0, 1) (List.mem_of_getElem? (i := 23) rfl)) g0 ?_
  refine y_getf h1.1.I h1.ts (e_144 (46, .getfield 27, 3) (List.mem_of_getElem? (i := 24) rfl)) u_9_27 ⟨rfl, rfl⟩ h1.ssz ?_
  refine y_c5 (K' := _) (e_144 (49, .invokevirtual 109, 3) (List.mem_of_getElem? (i := 25) rfl)) ⟨rfl, rfl, rfl⟩ t_9_109 ⟨by decide, by decide, by decide, by decide⟩ m_28_ok rfl (by decide) (y_recv h1.1.I h1.1.t ⟨rfl, rfl⟩) (Nat.le_of_ble_eq_true rfl) (Nat.le_of_ble_eq_true rfl) (s_takeN_no (d := d) h1.1 (Or.inl hno)) (fun r1 Gc hc1 => ?_)
  obtain ⟨rfl, hc2⟩ := hc1
  simp only [Option.toList_some, Option.toList_none, List.cons_append, List.nil_append]
  rw [if_neg hno] at hc2
  refine y_ifc (e_144 (52, .ifCond .eq 16, 3) (List.mem_of_getElem? (i := 26) rfl)) rfl (fun _ => ?_) (fun hb => absurd hb (by decide))
  refine y_st (e_144 (68, .iconst 0, 1) (List.mem_of_getElem? (i := 34) rfl)) ⟨rfl, rfl, rfl, rfl⟩ ?_
  exact y_ret (e_144 (69, .ireturn, 1) (List.mem_of_getElem? (i := 35) rfl)) ⟨rfl, y_rb (Or.inl rfl)⟩ ⟨rfl, hc2.s8, hc2.s9⟩
set_option maxHeartbeats 2000000 in
set_option maxRecDepth 100000 in
/-- all as told -/
theorem s_cmp_c (h : SC th tp b sc f n lim nx tk pl num nm ft fp sz on G) {a : Nat} (ha : a < 35) (hsz : sz < 40) (hs : tk = 5 ∨ tk = 6 ∨ tk = 7) (hN : NXc f n lim nx num nm nx2 tk2 pl2 num2 nm2) (h2 : tk2 = 2) (hn : 0 ≤ num2.toInt ∧ num2.toInt ≤ 999) (hN2 : NXc f n lim nx2 num2 nm2 nx3 tk3 pl3 num3 nm3) : x_Gd xs L J (d + 3) m_144 (fun r G' => r = some (.int 1) ∧ SC th tp b sc f n lim nx3 tk3 pl3 num3 nm3 ft fp (sz + 1) on G') 0 (lv_args 0 [.ref sc, .ref tp, .ref (pm_TB + a)]) [] G := by
  have htk : tk < 35 := h.1.tk35
  refine s_cmp_h (d := d + 1) h hs hN (fun G1 lv h1 g0 g1 g2 g3 => ?_)
  obtain ⟨b3, k3, t3⟩ := y_fref (i := 2) (u := 26) h1.1.I h1.ts rfl
  have e := s_toI (a := sz) (by omega)
  have n1 : b3 ≠ tp := fun z => by rw [z, h1.1.t] at t3; cases t3
  have n2 : b3 ≠ b := fun z => by rw [z, h1.1.tb] at t3; cases t3
  have e0 : (Int32.ofInt 0).toInt = 0 := rfl
  have e999 : ((Int16.ofInt 999).toInt32).toInt = 999 := rfl
  have r26 : (x_tb 26).2.2.2 = [(40, ((0 : Nat), (-2147483648 : Int), (2147483647 : Int)))] := rfl
  refine y_aln (e_144 (36, .aload_n 1, 1) (List.mem_of_getElem? (i := 18) rfl)) g1 ?_
  refine y_st (e_144 (37, .iconst 0, 1) (List.mem_of_getElem? (i := 19) rfl)) ⟨rfl, rfl, rfl, rfl⟩ ?_
  refine y_st (e_144 (38, .sipush 999, 3) (List.mem_of_getElem? (i := 20) rfl)) ⟨rfl, rfl, rfl, rfl⟩ ?_
  refine y_aln (e_144 (41, .aload_n 0, 1) (List.mem_of_getElem? (i := 21) rfl)) g0 ?_
  refine y_getf h1.1.I h1.ts (e_144 (42, .getfield 20, 3) (List.mem_of_getElem? (i := 22) rfl)) u_9_20 ⟨rfl, rfl⟩ k3 ?_
  refine y_aln (e_144 (45, .aload_n 0, 1) (List.mem_of_getElem? (i := 23) rfl)) g0 ?_
  refine y_getf h1.1.I h1.ts (e_144 (46, .getfield 27, 3) (List.mem_of_getElem? (i := 24) rfl)) u_9_27 ⟨rfl, rfl⟩ h1.ssz ?_
  refine y_c5 (K' := _) (e_144 (49, .invokevirtual 109, 3) (List.mem_of_getElem? (i := 25) rfl)) ⟨rfl, rfl, rfl⟩ t_9_109 ⟨by decide, by decide, by decide, by decide⟩ m_28_ok rfl (by decide) (y_recv h1.1.I h1.1.t ⟨rfl, rfl⟩) (Nat.le_of_ble_eq_true rfl) (Nat.le_of_ble_eq_true rfl) (k_takeN_yes (d := d) (t := 26) h1.1 h2 (by omega) (by omega) t3 ⟨rfl, rfl⟩ (by decide) ⟨by omega, by show _ < (40 : Int); omega⟩ (y_okA (by rw [r26]; exact y_one (by omega))) n1 n2 hN2) (fun r1 Gc hc1 => ?_)
  obtain ⟨rfl, G2, u2, hc2⟩ := hc1
  simp only [Option.toList_some, Option.toList_none, List.cons_append, List.nil_append]
  have h3 := h1.row u2 t3 ⟨by decide, by decide, by decide⟩ (h1.1.I.upd u2 t3 (y_okA (by rw [r26]; exact y_one (by omega))))
  have h4 := h3.nxt hc2
  refine y_ifc (e_144 (52, .ifCond .eq 16, 3) (List.mem_of_getElem? (i := 26) rfl)) rfl (fun hb => absurd hb (by decide)) (fun _ => ?_)
  refine y_aln (e_144 (55, .aload_n 0, 1) (List.mem_of_getElem? (i := 27) rfl)) g0 ?_
  refine y_aln (e_144 (56, .aload_n 2, 1) (List.mem_of_getElem? (i := 28) rfl)) g2 ?_
  refine y_aln (e_144 (57, .aload_n 3, 1) (List.mem_of_getElem? (i := 29) rfl)) g3 ?_
  refine y_c3 (K' := _) (e_144 (58, .invokevirtual 67, 3) (List.mem_of_getElem? (i := 30) rfl)) ⟨rfl, rfl, rfl⟩ t_9_67 ⟨by decide, by decide, by decide, by decide⟩ m_143_ok rfl (by decide) (y_recv h4.1.I h4.ts ⟨rfl, rfl⟩) (Nat.le_of_ble_eq_true rfl) (Nat.le_of_ble_eq_true rfl) (s_addStep h4 hsz ha htk) (fun r1 Gc hc1 => ?_)
  obtain ⟨rfl, h5⟩ := hc1
  simp only [Option.toList_some, Option.toList_none, List.cons_append, List.nil_append]
  refine y_ifc (e_144 (61, .ifCond .eq 7, 3) (List.mem_of_getElem? (i := 31) rfl)) rfl (fun hb => absurd hb (by decide)) (fun _ => ?_)
  refine y_st (e_144 (64, .iconst 1, 1) (List.mem_of_getElem? (i := 32) rfl)) ⟨rfl, rfl, rfl, rfl⟩ ?_
  refine y_st (e_144 (65, .goto 4, 3) (List.mem_of_getElem? (i := 33) rfl)) ⟨rfl, rfl, rfl, rfl⟩ ?_
  exact y_ret (e_144 (69, .ireturn, 1) (List.mem_of_getElem? (i := 35) rfl)) ⟨rfl, y_rb (Or.inr rfl)⟩ ⟨rfl, h5⟩
end S2
