def m_31 : pM := (⟨"BreathingHill$Hill", "isTold", "(J)Z"⟩, 613, 4, some (FieldType.boolean), 4, 1, false, 0, 96, 611, 612)
set_option maxRecDepth 100000 in
theorem m_31_ok : pm_tab[31]? = some m_31 := rfl
theorem e_31 : ∀ q ∈ d_31, decode m_31.code q.1 = .ok (q.2.1, q.2.2) := y_dec d_31_ok m_31_ok
def m_32 : pM := (⟨"BreathingHill$Hill", "thingNamed", "(J)I"⟩, 617, 4, some (FieldType.int), 4, 1, false, 0, 96, 615, 616)
set_option maxRecDepth 100000 in
theorem m_32_ok : pm_tab[32]? = some m_32 := rfl
theorem e_32 : ∀ q ∈ d_32, decode m_32.code q.1 = .ok (q.2.1, q.2.2) := y_dec d_32_ok m_32_ok
def m_33 : pM := (⟨"BreathingHill$Hill", "manNamed", "(J)I"⟩, 621, 4, some (FieldType.int), 4, 1, false, 0, 96, 619, 620)
set_option maxRecDepth 100000 in
theorem m_33_ok : pm_tab[33]? = some m_33 := rfl
theorem e_33 : ∀ q ∈ d_33, decode m_33.code q.1 = .ok (q.2.1, q.2.2) := y_dec d_33_ok m_33_ok
def m_34 : pM := (⟨"BreathingHill$Land", "cellsOf", "(I)I"⟩, 625, 2, some (FieldType.int), 5, 1, false, 1, 97, 623, 624)
set_option maxRecDepth 100000 in
theorem m_34_ok : pm_tab[34]? = some m_34 := rfl
theorem e_34 : ∀ q ∈ d_34, decode m_34.code q.1 = .ok (q.2.1, q.2.2) := y_dec d_34_ok m_34_ok
theorem u_4_79 : pm_ftab.find? (fun r => r.1 == 4 && r.2.1 == 79) = some (4, 79, 8, 0, 1, 253) := by decide +kernel
theorem u_4_84 : pm_ftab.find? (fun r => r.1 == 4 && r.2.1 == 84) = some (4, 84, 5, 0, 1, 309) := by decide +kernel
theorem u_4_83 : pm_ftab.find? (fun r => r.1 == 4 && r.2.1 == 83) = some (4, 83, 4, 0, 1, 335) := by decide +kernel
theorem t_4_85 : pm_ctab.find? (fun r => r.1 == 4 && r.2.1 == 85) = some (4, 85, 1, 32, 614) := by decide +kernel
theorem t_4_89 : pm_ctab.find? (fun r => r.1 == 4 && r.2.1 == 89) = some (4, 89, 1, 33, 618) := by decide +kernel
theorem th0_p : th0[1]? = some 7 ∧ th0[2]? = some 28 ∧ th0[3]? = some 2 ∧ th0[4]? = some 19 ∧ th0[5]? = some 20 ∧ th0[32]? = some 0 ∧ th0[33]? = some 1 ∧ th0[34]? = some 14 ∧ th0[35]? = some 15 ∧ th0[36]? = some 16 ∧ th0[37]? = some 17 ∧ th0[38]? = some 18 ∧ th0[39]? = some 11 ∧ th0[40]? = some 12 ∧ th0[41]? = some 13 := by decide +kernel
theorem th0_n : (∀ i, i < 8 → th0[42 + i]? = some 8) ∧ (∀ i, i < 4 → th0[50 + i]? = some 5) ∧ (∀ i, i < 4 → th0[54 + i]? = some 4) := by decide +kernel
/-- the class while it reads -/
def CS (f : Nat → Int32) (n lim nx : Int32) (tk : Nat) (pl num : Int32) (nm : Int64) (ft fp : Int32) (cc : Nat → Int32) (np nt nl nn oc : Int32) (ot : Nat → Nat) (tn ln mn : Nat → Int64) (G : List pE) : Prop := TC th0 1 2 f G n lim nx tk pl num nm ft fp G ∧ CSd (x_sl G) cc np nt nl nn oc ot tn ln mn
section CS2
variable {xs : Nat → Int32} {L J d : Nat} {K : Option Value → List pE → Prop} {f : Nat → Int32} {G G1 G' : List pE} {n lim nx pl num ft fp : Int32} {tk : Nat} {nm : Int64} {lv : pL} {nx' pl' num' : Int32} {tk' : Nat} {nm' : Int64} {cc : Nat → Int32} {np nt nl nn oc : Int32} {ot : Nat → Nat} {tn ln mn : Nat → Int64}
theorem t_trk1 {i : Nat} : t_trk 1 i = false := by
  unfold t_trk
  simp
theorem CS.nxt {ft' fp' : Int32} (h : CS f n lim nx tk pl num nm ft fp cc np nt nl nn oc ot tn ln mn G) (t : TC th0 1 2 f G n lim nx' tk' pl' num' nm' ft' fp' G') : CS f n lim nx' tk' pl' num' nm' ft' fp' cc np nt nl nn oc ot tn ln mn G' :=
  ⟨t.self, h.2.ext (fun c i hc => t.ot c i (fun z => by rw [z, t_trk1] at hc; cases hc))⟩
/-- a slot that is not asked -/
theorem CS.oth {c i : Nat} {v : Value} (h : CS f n lim nx tk pl num nm ft fp cc np nt nl nn oc ot tn ln mn G) (u : x_upd G G1 c i v) (hI : xI x_tb th0 G1) (h1 : c ≠ 1) (h2 : c ≠ 2) (ht : t_trk c i = false) : CS f n lim nx tk pl num nm ft fp cc np nt nl nn oc ot tn ln mn G1 :=
  ⟨h.1.other u h1 h2 hI, h.2.ext (fun c' i' hc => by rw [u.2.1, if_neg (fun z => by rw [z.1, z.2, ht] at hc; cases hc)])⟩
theorem y_aald {th : List Nat} {M : pM} {pc a t b : Nat} {r : List Value} {j : Int32} (hI : xI x_tb th G) (ha : th[a]? = some t) (hd : decode M.code pc = .ok (Instr.aaload, 1)) (ht : (x_tb t).1 = 1 ∧ 4 ≤ (x_tb t).2.1) (hj : 0 ≤ j.toInt ∧ j.toInt < (x_tb t).2.2.1) (hv : x_sl G a j.toInt.toNat = some (.ref b)) (hk : x_Gd xs L J d M K (pc + 1) lv (.ref b :: r) G) : x_Gd xs L J d M K pc lv (.int j :: .ref a :: r) G := by
  obtain ⟨e, he, hs⟩ := (hI.2.2 a t ha).1
  obtain ⟨h9, g, rfl⟩ := x_arr_ref hs ht.1 ht.2
  obtain ⟨i1, i2⟩ := y_idx (n := (x_tb t).2.2.1) hj.1 hj.2
  have hlt := (List.getElem?_eq_some_iff.mp ha).1
  have hTB := hI.2.1
  have e1 : pm_TB = 1000000 := rfl
  have e3 : pm_KB = 3000000 := rfl
  have nK : ¬ a = pm_KB := by omega
  unfold x_sl at hv
  rw [he] at hv
  have hv : (if j.toInt.toNat < (x_tb t).2.2.1 then some (va_rf (g j.toInt.toNat)) else none) = some (.ref b) := hv
  rw [if_pos (by omega)] at hv
  refine y_st hd ⟨rfl, rfl, rfl, ?_⟩ hk
  dsimp only [pm_step]
  rw [if_neg nK, he]
  dsimp only
  rw [if_neg (by rw [i2]; intro z; rcases z with z | z | z; cases z; omega; omega), i1, Option.some.inj hv]
set_option maxHeartbeats 2000000 in
set_option maxRecDepth 100000 in
theorem k_thingNamed_l (h : CS f n lim nx tk pl num nm ft fp cc np nt nl nn oc ot tn ln mn G) {v : Int64} (c0 : 0 ≤ nt.toInt) (c1 : nt.toInt ≤ 8) : ∀ (m : Nat) (lv : pL) (k : Int32), pm_get lv 0 = some (.ref 32) → pm_get lv 1 = some (.long v) → pm_get lv 3 = some (.int k) → 0 ≤ k.toInt → (nt.toInt - k.toInt).toNat ≤ m → (∀ i : Nat, (i : Int) < k.toInt → tn i ≠ v) → x_Gd xs L J d m_32 (fun r G' => G' = G ∧ ∃ y : Int32, r = some (.int y) ∧ (y = Int32.ofInt (-1) ↔ ¬ ∃ i : Nat, (i : Int) < nt.toInt ∧ tn i = v)) 2 lv [] G := by
  intro m
  induction m with
  | zero =>
    intro lv k g0 g1 g3 k0 hm hne
    refine y_iln (e_32 (2, .iload_n 3, 1) (List.mem_of_getElem? (i := 2) rfl)) g3 ?_
    refine y_aln (e_32 (3, .aload_n 0, 1) (List.mem_of_getElem? (i := 3) rfl)) g0 ?_
    refine y_getf h.1.I th0_p.2.2.2.2.2.1 (e_32 (4, .getfield 36, 3) (List.mem_of_getElem? (i := 4) rfl)) u_4_36 ⟨rfl, rfl⟩ h.2.a32_4 ?_
    refine y_icm (e_32 (7, .if_icmp .ge 25, 3) (List.mem_of_getElem? (i := 5) rfl)) rfl (fun hc => ?_) (fun hc => ?_)
    · refine y_st (e_32 (32, .iconst (-1), 1) (List.mem_of_getElem? (i := 18) rfl)) ⟨rfl, rfl, rfl, rfl⟩ ?_
      refine y_ret (e_32 (33, .ireturn, 1) (List.mem_of_getElem? (i := 19) rfl)) ⟨rfl, y_ri⟩ ⟨rfl, _, rfl, fun _ z => ?_, fun _ => rfl⟩
      obtain ⟨i, i1, i2⟩ := z
      exact hne i (by omega) i2
    · have := y_hI.2.2.2.2.2.1 hc
      omega
  | succ m ih =>
    intro lv k g0 g1 g3 k0 hm hne
    refine y_iln (e_32 (2, .iload_n 3, 1) (List.mem_of_getElem? (i := 2) rfl)) g3 ?_
    refine y_aln (e_32 (3, .aload_n 0, 1) (List.mem_of_getElem? (i := 3) rfl)) g0 ?_
    refine y_getf h.1.I th0_p.2.2.2.2.2.1 (e_32 (4, .getfield 36, 3) (List.mem_of_getElem? (i := 4) rfl)) u_4_36 ⟨rfl, rfl⟩ h.2.a32_4 ?_
    refine y_icm (e_32 (7, .if_icmp .ge 25, 3) (List.mem_of_getElem? (i := 5) rfl)) rfl (fun hc => ?_) (fun hc => ?_)
    · have := y_hI.2.2.2.2.1 hc
      refine y_st (e_32 (32, .iconst (-1), 1) (List.mem_of_getElem? (i := 18) rfl)) ⟨rfl, rfl, rfl, rfl⟩ ?_
      refine y_ret (e_32 (33, .ireturn, 1) (List.mem_of_getElem? (i := 19) rfl)) ⟨rfl, y_ri⟩ ⟨rfl, _, rfl, fun _ z => ?_, fun _ => rfl⟩
      obtain ⟨i, i1, i2⟩ := z
      exact hne i (by omega) i2
    have hlt := y_hI.2.2.2.2.2.1 hc
    have e1 := y_add1 (t := k) (by omega)
    refine y_aln (e_32 (10, .aload_n 0, 1) (List.mem_of_getElem? (i := 6) rfl)) g0 ?_
    refine y_getf h.1.I th0_p.2.2.2.2.2.1 (e_32 (11, .getfield 20, 3) (List.mem_of_getElem? (i := 7) rfl)) u_4_20 ⟨rfl, rfl⟩ h.2.a32_1 ?_
    refine y_iln (e_32 (14, .iload_n 3, 1) (List.mem_of_getElem? (i := 8) rfl)) g3 ?_
    refine y_aald h.1.I th0_p.2.2.2.2.2.2.2.2.2.2.2.2.1 (e_32 (15, .aaload, 1) (List.mem_of_getElem? (i := 9) rfl)) ⟨rfl, by decide⟩ ⟨k0, by show k.toInt < 8; omega⟩ (h.2.fta k.toInt.toNat (by omega)) ?_
    refine y_getf h.1.I (th0_n.1 k.toInt.toNat (by omega)) (e_32 (16, .getfield 79, 3) (List.mem_of_getElem? (i := 10) rfl)) u_4_79 ⟨rfl, rfl⟩ (h.2.ftn k.toInt.toNat (by omega)) ?_
    refine y_lln (e_32 (19, .lload_n 1, 1) (List.mem_of_getElem? (i := 11) rfl)) g1 ?_
    refine y_st (e_32 (20, .lcmp, 1) (List.mem_of_getElem? (i := 12) rfl)) ⟨rfl, rfl, rfl, rfl⟩ ?_
    refine y_ifc (e_32 (21, .ifCond .ne 5, 3) (List.mem_of_getElem? (i := 13) rfl)) rfl (fun hc => ?_) (fun hc => ?_)
    · have c := y_cmp.1 hc
      refine y_iinc (e_32 (26, .iinc 3 1, 3) (List.mem_of_getElem? (i := 16) rfl)) g3 (by decide) ?_
      refine y_st (e_32 (29, .goto (-27), 3) (List.mem_of_getElem? (i := 17) rfl)) ⟨rfl, rfl, rfl, rfl⟩ ?_
      refine ih _ _ (y_gpr g0 (by decide)) (x_get_put g1 (by decide) (fun z => absurd z.1 (by decide))) x_get_self (by omega) (by omega) (fun i hi => ?_)
      by_cases hik : i = k.toInt.toNat
      · rw [hik]; exact c
      · exact hne i (by omega)
    · have c := y_cmp.2 hc
      refine y_iln (e_32 (24, .iload_n 3, 1) (List.mem_of_getElem? (i := 14) rfl)) g3 ?_
      refine y_ret (e_32 (25, .ireturn, 1) (List.mem_of_getElem? (i := 15) rfl)) ⟨rfl, y_ri⟩ ⟨rfl, k, rfl, fun z => ?_, fun z => absurd ⟨k.toInt.toNat, by omega, c⟩ z⟩
      rw [z] at k0
      exact absurd k0 (by decide)
theorem k_thingNamed (h : CS f n lim nx tk pl num nm ft fp cc np nt nl nn oc ot tn ln mn G) (v : Int64) (c0 : 0 ≤ nt.toInt) (c1 : nt.toInt ≤ 8) : x_Gd xs L J d m_32 (fun r G' => G' = G ∧ ∃ y : Int32, r = some (.int y) ∧ (y = Int32.ofInt (-1) ↔ ¬ ∃ i : Nat, (i : Int) < nt.toInt ∧ tn i = v)) 0 (lv_args 0 [.ref 32, .long v]) [] G := by
  refine y_st (e_32 (0, .iconst 0, 1) (List.mem_of_getElem? (i := 0) rfl)) ⟨rfl, rfl, rfl, rfl⟩ ?_
  refine y_isn (e_32 (1, .istore_n 3, 1) (List.mem_of_getElem? (i := 1) rfl)) (by decide) ?_
  exact k_thingNamed_l h c0 c1 _ _ 0 rfl rfl rfl (by decide) (Nat.le_refl _) (fun i hi => absurd hi (by show ¬ (i : Int) < 0; omega))
set_option maxHeartbeats 2000000 in
set_option maxRecDepth 100000 in
theorem k_manNamed_l (h : CS f n lim nx tk pl num nm ft fp cc np nt nl nn oc ot tn ln mn G) {v : Int64} (c0 : 0 ≤ nn.toInt) (c1 : nn.toInt ≤ 4) : ∀ (m : Nat) (lv : pL) (k : Int32), pm_get lv 0 = some (.ref 32) → pm_get lv 1 = some (.long v) → pm_get lv 3 = some (.int k) → 0 ≤ k.toInt → (nn.toInt - k.toInt).toNat ≤ m → (∀ i : Nat, (i : Int) < k.toInt → mn i ≠ v) → x_Gd xs L J d m_33 (fun r G' => G' = G ∧ ∃ y : Int32, r = some (.int y) ∧ (y = Int32.ofInt (-1) ↔ ¬ ∃ i : Nat, (i : Int) < nn.toInt ∧ mn i = v)) 2 lv [] G := by
  intro m
  induction m with
  | zero =>
    intro lv k g0 g1 g3 k0 hm hne
    refine y_iln (e_33 (2, .iload_n 3, 1) (List.mem_of_getElem? (i := 2) rfl)) g3 ?_
    refine y_aln (e_33 (3, .aload_n 0, 1) (List.mem_of_getElem? (i := 3) rfl)) g0 ?_
    refine y_getf h.1.I th0_p.2.2.2.2.2.1 (e_33 (4, .getfield 43, 3) (List.mem_of_getElem? (i := 4) rfl)) u_4_43 ⟨rfl, rfl⟩ h.2.a32_6 ?_
    refine y_icm (e_33 (7, .if_icmp .ge 25, 3) (List.mem_of_getElem? (i := 5) rfl)) rfl (fun hc => ?_) (fun hc => ?_)
    · refine y_st (e_33 (32, .iconst (-1), 1) (List.mem_of_getElem? (i := 18) rfl)) ⟨rfl, rfl, rfl, rfl⟩ ?_
      refine y_ret (e_33 (33, .ireturn, 1) (List.mem_of_getElem? (i := 19) rfl)) ⟨rfl, y_ri⟩ ⟨rfl, _, rfl, fun _ z => ?_, fun _ => rfl⟩
      obtain ⟨i, i1, i2⟩ := z
      exact hne i (by omega) i2
    · have := y_hI.2.2.2.2.2.1 hc
      omega
  | succ m ih =>
    intro lv k g0 g1 g3 k0 hm hne
    refine y_iln (e_33 (2, .iload_n 3, 1) (List.mem_of_getElem? (i := 2) rfl)) g3 ?_
    refine y_aln (e_33 (3, .aload_n 0, 1) (List.mem_of_getElem? (i := 3) rfl)) g0 ?_
    refine y_getf h.1.I th0_p.2.2.2.2.2.1 (e_33 (4, .getfield 43, 3) (List.mem_of_getElem? (i := 4) rfl)) u_4_43 ⟨rfl, rfl⟩ h.2.a32_6 ?_
    refine y_icm (e_33 (7, .if_icmp .ge 25, 3) (List.mem_of_getElem? (i := 5) rfl)) rfl (fun hc => ?_) (fun hc => ?_)
    · have := y_hI.2.2.2.2.1 hc
      refine y_st (e_33 (32, .iconst (-1), 1) (List.mem_of_getElem? (i := 18) rfl)) ⟨rfl, rfl, rfl, rfl⟩ ?_
      refine y_ret (e_33 (33, .ireturn, 1) (List.mem_of_getElem? (i := 19) rfl)) ⟨rfl, y_ri⟩ ⟨rfl, _, rfl, fun _ z => ?_, fun _ => rfl⟩
      obtain ⟨i, i1, i2⟩ := z
      exact hne i (by omega) i2
    have hlt := y_hI.2.2.2.2.2.1 hc
    have e1 := y_add1 (t := k) (by omega)
    refine y_aln (e_33 (10, .aload_n 0, 1) (List.mem_of_getElem? (i := 6) rfl)) g0 ?_
    refine y_getf h.1.I th0_p.2.2.2.2.2.1 (e_33 (11, .getfield 32, 3) (List.mem_of_getElem? (i := 7) rfl)) u_4_32 ⟨rfl, rfl⟩ h.2.a32_3 ?_
    refine y_iln (e_33 (14, .iload_n 3, 1) (List.mem_of_getElem? (i := 8) rfl)) g3 ?_
    refine y_aald h.1.I th0_p.2.2.2.2.2.2.2.2.2.2.2.2.2.2 (e_33 (15, .aaload, 1) (List.mem_of_getElem? (i := 9) rfl)) ⟨rfl, by decide⟩ ⟨k0, by show k.toInt < 4; omega⟩ (h.2.fma k.toInt.toNat (by omega)) ?_
    refine y_getf h.1.I (th0_n.2.2 k.toInt.toNat (by omega)) (e_33 (16, .getfield 83, 3) (List.mem_of_getElem? (i := 10) rfl)) u_4_83 ⟨rfl, rfl⟩ (h.2.fmn k.toInt.toNat (by omega)) ?_
    refine y_lln (e_33 (19, .lload_n 1, 1) (List.mem_of_getElem? (i := 11) rfl)) g1 ?_
    refine y_st (e_33 (20, .lcmp, 1) (List.mem_of_getElem? (i := 12) rfl)) ⟨rfl, rfl, rfl, rfl⟩ ?_
    refine y_ifc (e_33 (21, .ifCond .ne 5, 3) (List.mem_of_getElem? (i := 13) rfl)) rfl (fun hc => ?_) (fun hc => ?_)
    · have c := y_cmp.1 hc
      refine y_iinc (e_33 (26, .iinc 3 1, 3) (List.mem_of_getElem? (i := 16) rfl)) g3 (by decide) ?_
      refine y_st (e_33 (29, .goto (-27), 3) (List.mem_of_getElem? (i := 17) rfl)) ⟨rfl, rfl, rfl, rfl⟩ ?_
      refine ih _ _ (y_gpr g0 (by decide)) (x_get_put g1 (by decide) (fun z => absurd z.1 (by decide))) x_get_self (by omega) (by omega) (fun i hi => ?_)
      by_cases hik : i = k.toInt.toNat
      · rw [hik]; exact c
      · exact hne i (by omega)
    · have c := y_cmp.2 hc
      refine y_iln (e_33 (24, .iload_n 3, 1) (List.mem_of_getElem? (i := 14) rfl)) g3 ?_
      refine y_ret (e_33 (25, .ireturn, 1) (List.mem_of_getElem? (i := 15) rfl)) ⟨rfl, y_ri⟩ ⟨rfl, k, rfl, fun z => ?_, fun z => absurd ⟨k.toInt.toNat, by omega, c⟩ z⟩
      rw [z] at k0
      exact absurd k0 (by decide)
theorem k_manNamed (h : CS f n lim nx tk pl num nm ft fp cc np nt nl nn oc ot tn ln mn G) (v : Int64) (c0 : 0 ≤ nn.toInt) (c1 : nn.toInt ≤ 4) : x_Gd xs L J d m_33 (fun r G' => G' = G ∧ ∃ y : Int32, r = some (.int y) ∧ (y = Int32.ofInt (-1) ↔ ¬ ∃ i : Nat, (i : Int) < nn.toInt ∧ mn i = v)) 0 (lv_args 0 [.ref 32, .long v]) [] G := by
  refine y_st (e_33 (0, .iconst 0, 1) (List.mem_of_getElem? (i := 0) rfl)) ⟨rfl, rfl, rfl, rfl⟩ ?_
  refine y_isn (e_33 (1, .istore_n 3, 1) (List.mem_of_getElem? (i := 1) rfl)) (by decide) ?_
  exact k_manNamed_l h c0 c1 _ _ 0 rfl rfl rfl (by decide) (Nat.le_refl _) (fun i hi => absurd hi (by show ¬ (i : Int) < 0; omega))
end CS2
