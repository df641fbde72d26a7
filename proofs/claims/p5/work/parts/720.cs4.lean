def m_30 : pM := (⟨"BreathingHill$LandReader", "readNameAndCell", "(LBreathingHill$Tape;LBreathingHill$Hill;)Z"⟩, 608, 3, some (FieldType.boolean), 3, 2, false, 2, 95, 607, 3)
set_option maxRecDepth 100000 in
theorem m_30_ok : pm_tab[30]? = some m_30 := rfl
theorem e_30 : ∀ q ∈ d_30, decode m_30.code q.1 = .ok (q.2.1, q.2.2) := y_dec d_30_ok m_30_ok
theorem u_3_173 : pm_ftab.find? (fun r => r.1 == 3 && r.2.1 == 173) = some (3, 173, 7, 7, 1, 139) := by decide +kernel
theorem u_3_57 : pm_ftab.find? (fun r => r.1 == 3 && r.2.1 == 57) = some (3, 57, 0, 0, 1, 358) := by decide +kernel
theorem t_3_228 : pm_ctab.find? (fun r => r.1 == 3 && r.2.1 == 228) = some (3, 228, 1, 31, 610) := by decide +kernel
theorem t_3_141 : pm_ctab.find? (fun r => r.1 == 3 && r.2.1 == 141) = some (3, 141, 1, 28, 594) := by decide +kernel
theorem t_3_232 : pm_ctab.find? (fun r => r.1 == 3 && r.2.1 == 232) = some (3, 232, 1, 34, 622) := by decide +kernel
theorem w_3_225 : pm_stab.find? (fun r => r.1 == 3 && r.2.1 == 225) = some (3, 225, 3, 609) := by decide +kernel
section CS4
variable {xs : Nat → Int32} {L J d : Nat} {K : Option Value → List pE → Prop} {f : Nat → Int32} {G G1 G' : List pE} {n lim nx pl num ft fp : Int32} {tk : Nat} {nm : Int64} {lv : pL} {nx' pl' num' : Int32} {tk' : Nat} {nm' : Int64} {cc : Nat → Int32} {np nt nl nn oc : Int32} {ot : Nat → Nat} {tn ln mn : Nat → Int64}
theorem y_arl2 {th : List Nat} {M : pM} {pc a t : Nat} {r : List Value} (hI : xI x_tb th G) (ha : th[a]? = some t) (hd : decode M.code pc = .ok (Instr.arraylength, 1)) (ht : (x_tb t).1 = 1 ∧ 4 ≤ (x_tb t).2.1) (hk : x_Gd xs L J d M K (pc + 1) lv (.int (Int32.ofNat (x_tb t).2.2.1) :: r) G) : x_Gd xs L J d M K pc lv (.ref a :: r) G := by
  obtain ⟨e, he, hs⟩ := (hI.2.2 a t ha).1
  obtain ⟨h9, g, rfl⟩ := x_arr_ref hs ht.1 ht.2
  have hlt := (List.getElem?_eq_some_iff.mp ha).1
  have hTB := hI.2.1
  have e1 : pm_TB = 1000000 := rfl
  have e2 : pm_SB = 2000000 := rfl
  have e3 : pm_KB = 3000000 := rfl
  have nS : ¬ a = pm_SB := by omega
  have nK : ¬ a = pm_KB := by omega
  refine y_st hd ⟨rfl, rfl, rfl, ?_⟩ hk
  dsimp only [pm_step]
  rw [if_neg nS, if_neg nK, he]
  dsimp only
  rw [if_pos (by omega)]
theorem y_aast {th : List Nat} {M : pM} {pc a t v : Nat} {r : List Value} {j : Int32} (hI : xI x_tb th G) (ha : th[a]? = some t) (hd : decode M.code pc = .ok (Instr.aastore, 1)) (ht : (x_tb t).1 = 1 ∧ (x_tb t).2.1 = 4) (hj : 0 ≤ j.toInt ∧ j.toInt < (x_tb t).2.2.1) (hv : v < 35) (hk : ∀ G1, x_upd G G1 a j.toInt.toNat (.ref (pm_TB + v)) → x_Gd xs L J d M K (pc + 1) lv r G1) : x_Gd xs L J d M K pc lv (.ref (pm_TB + v) :: .int j :: .ref a :: r) G := by
  obtain ⟨e, he, hs⟩ := (hI.2.2 a t ha).1
  obtain ⟨h9, g, rfl⟩ := x_arr_ref hs ht.1 (by omega)
  obtain ⟨i1, i2⟩ := y_idx (n := (x_tb t).2.2.1) hj.1 hj.2
  have hu := x_upd_ref (x := some (pm_TB + v)) (i := j.toInt.toNat) he (by omega)
  refine y_st hd ⟨rfl, rfl, rfl, ?_⟩ (hk _ hu)
  dsimp only [pm_step]
  rw [he]
  dsimp only
  rw [if_neg (by rw [i2]; intro z; rcases z with z | z | z; cases z; omega; omega), y_isT hv]
  simp only [if_true]
  rw [if_pos ht.2, i1]
theorem y_acmN {M : pM} {pc t : Nat} {o : Int} {r : List Value} {x y : Nat} (hd : decode M.code pc = .ok (Instr.if_acmp .ne o, 3)) (ht : pm_tgt pc o = some t) (hx : x < 35) (hy : y < 35) (h1 : x ≠ y → x_Gd xs L J d M K t lv r G) (h2 : x = y → x_Gd xs L J d M K (pc + 3) lv r G) : x_Gd xs L J d M K pc lv (.ref (pm_TB + y) :: .ref (pm_TB + x) :: r) G := by
  by_cases h : x = y
  · refine y_st hd ⟨rfl, rfl, rfl, ?_⟩ (h2 h)
    dsimp only [pm_step]
    rw [y_isT hx, y_isT hy, h]
    dsimp only [pm_if]
    rw [ht]
    simp
  · refine y_st hd ⟨rfl, rfl, rfl, ?_⟩ (h1 h)
    dsimp only [pm_step]
    rw [y_isT hx, y_isT hy]
    dsimp only [pm_if]
    rw [ht]
    simp [h]
theorem CSd.uonce {s t : Nat → Nat → Option Value} {k q : Nat} {oc' : Int32} (h : CSd s cc np nt nl nn oc ot tn ln mn) (hq : q < 35) (hk : (k : Int) = oc.toInt) (hk5 : k < 5) (ho : oc'.toInt = oc.toInt + 1) (u : ∀ c i, t c i = if c = 3 ∧ i = 2 then some (.int oc') else if c = 5 ∧ i = k then some (.ref (pm_TB + q)) else s c i) : CSd t cc np nt nl nn oc' (fun j => if j = k then q else ot j) tn ln mn := by
  obtain ⟨a3_0, a3_1, a3_2, a32_0, a32_1, a32_2, a32_3, a32_4, a32_5, a32_6, a33_0, a33_1, a33_2, a33_3, a33_4, a33_5, a33_6, a33_7, a33_8, fcc, fbr, fle, fwd, fal, fta, fla, fma, fot, ftn, fln, fmn⟩ := h
  have n3 : ∀ c i, c ≠ 3 → c ≠ 5 → t c i = s c i := fun c i h1 h2 => by rw [u, if_neg (fun z => h1 z.1), if_neg (fun z => h2 z.1)]
  exact ⟨by rw [u, if_neg (by omega), if_neg (by omega)]; exact a3_0, by rw [u, if_neg (by omega), if_neg (by omega)]; exact a3_1, by rw [u, if_pos ⟨rfl, rfl⟩], by rw [n3 _ _ (by decide) (by decide)]; exact a32_0, by rw [n3 _ _ (by decide) (by decide)]; exact a32_1, by rw [n3 _ _ (by decide) (by decide)]; exact a32_2, by rw [n3 _ _ (by decide) (by decide)]; exact a32_3, by rw [n3 _ _ (by decide) (by decide)]; exact a32_4, by rw [n3 _ _ (by decide) (by decide)]; exact a32_5, by rw [n3 _ _ (by decide) (by decide)]; exact a32_6, by rw [n3 _ _ (by decide) (by decide)]; exact a33_0, by rw [n3 _ _ (by decide) (by decide)]; exact a33_1, by rw [n3 _ _ (by decide) (by decide)]; exact a33_2, by rw [n3 _ _ (by decide) (by decide)]; exact a33_3, by rw [n3 _ _ (by decide) (by decide)]; exact a33_4, by rw [n3 _ _ (by decide) (by decide)]; exact a33_5, by rw [n3 _ _ (by decide) (by decide)]; exact a33_6, by rw [n3 _ _ (by decide) (by decide)]; exact a33_7, by rw [n3 _ _ (by decide) (by decide)]; exact a33_8, fun i hi => by rw [n3 _ _ (by decide) (by decide)]; exact fcc i hi, fun i hi => by rw [n3 _ _ (by decide) (by decide)]; exact fbr i hi, fun i hi => by rw [n3 _ _ (by decide) (by decide)]; exact fle i hi, fun i hi => by rw [n3 _ _ (by decide) (by decide)]; exact fwd i hi, fun i hi => by rw [n3 _ _ (by decide) (by decide)]; exact fal i hi, fun i hi => by rw [n3 _ _ (by decide) (by decide)]; exact fta i hi, fun i hi => by rw [n3 _ _ (by decide) (by decide)]; exact fla i hi, fun i hi => by rw [n3 _ _ (by decide) (by decide)]; exact fma i hi, fun i hi h2 => by
    dsimp only
    by_cases hik : i = k
    · rw [if_pos hik, u, if_neg (by omega), if_pos ⟨rfl, hik⟩]
      exact ⟨hq, rfl⟩
    · rw [if_neg hik, u, if_neg (by omega), if_neg (fun z => hik z.2)]
      exact fot i hi (by omega), fun i hi => by rw [n3 _ _ (by omega) (by omega)]; exact ftn i hi, fun i hi => by rw [n3 _ _ (by omega) (by omega)]; exact fln i hi, fun i hi => by rw [n3 _ _ (by omega) (by omega)]; exact fmn i hi⟩
set_option maxHeartbeats 2000000 in
set_option maxRecDepth 100000 in
theorem k_once_l (h : CS f n lim nx tk pl num nm ft fp cc np nt nl nn oc ot tn ln mn G) (hno : ∃ i : Nat, (i : Int) < oc.toInt ∧ ot i = tk) : ∀ (m : Nat) (lv : pL) (k : Int32), pm_get lv 0 = some (.ref 3) → pm_get lv 1 = some (.ref 1) → pm_get lv 2 = some (.int k) → 0 ≤ k.toInt → (oc.toInt - k.toInt).toNat ≤ m → (∀ i : Nat, (i : Int) < k.toInt → ot i ≠ tk) → x_Gd xs L J (d + 1) m_40 (fun r G' => r = some (.int 0) ∧ x_sl G' 1 9 = some (.int pl) ∧ x_sl G' 1 8 = some (.int (Int32.ofInt 3))) 2 lv [] G := by
  obtain ⟨-, -, -, -, o0, o1⟩ := h.cn
  intro m
  induction m with
  | zero =>
    intro lv k g0 g1 g2 k0 hm hne
    obtain ⟨i, i1, i2⟩ := hno
    exact absurd i2 (hne i (by omega))
  | succ m ih =>
    intro lv k g0 g1 g2 k0 hm hne
    refine y_iln (e_40 (2, .iload_n 2, 1) (List.mem_of_getElem? (i := 2) rfl)) g2 ?_
    refine y_aln (e_40 (3, .aload_n 0, 1) (List.mem_of_getElem? (i := 3) rfl)) g0 ?_
    refine y_getf h.1.I th0_p.2.2.1 (e_40 (4, .getfield 21, 3) (List.mem_of_getElem? (i := 4) rfl)) u_3_21 ⟨rfl, rfl⟩ h.2.a3_2 ?_
    refine y_icm (e_40 (7, .if_icmp .ge 28, 3) (List.mem_of_getElem? (i := 5) rfl)) rfl (fun hc => ?_) (fun hc => ?_)
    · have := y_hI.2.2.2.2.1 hc
      obtain ⟨i, i1, i2⟩ := hno
      exact absurd i2 (hne i (by omega))
    have hlt := y_hI.2.2.2.2.2.1 hc
    have e1 := y_add1 (t := k) (by omega)
    obtain ⟨q1, q2⟩ := h.2.fot k.toInt.toNat (by omega) (by omega)
    refine y_aln (e_40 (10, .aload_n 0, 1) (List.mem_of_getElem? (i := 6) rfl)) g0 ?_
    refine y_getf h.1.I th0_p.2.2.1 (e_40 (11, .getfield 17, 3) (List.mem_of_getElem? (i := 7) rfl)) u_3_17 ⟨rfl, rfl⟩ h.2.a3_1 ?_
    refine y_iln (e_40 (14, .iload_n 2, 1) (List.mem_of_getElem? (i := 8) rfl)) g2 ?_
    refine y_aald h.1.I th0_p.2.2.2.2.1 (e_40 (15, .aaload, 1) (List.mem_of_getElem? (i := 9) rfl)) ⟨rfl, by decide⟩ ⟨k0, by show k.toInt < 5; omega⟩ q2 ?_
    refine y_aln (e_40 (16, .aload_n 1, 1) (List.mem_of_getElem? (i := 10) rfl)) g1 ?_
    refine y_getf h.1.I h.1.t (e_40 (17, .getfield 36, 3) (List.mem_of_getElem? (i := 11) rfl)) u_3_36 ⟨rfl, rfl⟩ h.1.s4 ?_
    refine y_acmN (e_40 (20, .if_acmp .ne 9, 3) (List.mem_of_getElem? (i := 12) rfl)) rfl q1 h.1.tk35 (fun hz => ?_) (fun hz => ?_)
    · refine y_iinc (e_40 (29, .iinc 2 1, 3) (List.mem_of_getElem? (i := 17) rfl)) g2 (by decide) ?_
      refine y_st (e_40 (32, .goto (-30), 3) (List.mem_of_getElem? (i := 18) rfl)) ⟨rfl, rfl, rfl, rfl⟩ ?_
      refine ih _ _ (y_gpr g0 (by decide)) (y_gpr g1 (by decide)) x_get_self (by omega) (by omega) (fun i hi => ?_)
      by_cases hik : i = k.toInt.toNat
      · rw [hik]; exact hz
      · exact hne i (by omega)
    · skip
      refine y_aln (e_40 (23, .aload_n 1, 1) (List.mem_of_getElem? (i := 13) rfl)) g1 ?_
      refine y_st (e_40 (24, .iconst 3, 1) (List.mem_of_getElem? (i := 14) rfl)) ⟨rfl, rfl, rfl, rfl⟩ ?_
      refine y_c2 (K' := _) (e_40 (25, .invokevirtual 116, 3) (List.mem_of_getElem? (i := 15) rfl)) ⟨rfl, rfl, rfl⟩ t_3_116 ⟨by decide, by decide, by decide, by decide⟩ m_27_ok rfl (by decide) (y_recv h.1.I h.1.t ⟨rfl, rfl⟩) (Nat.le_of_ble_eq_true rfl) (Nat.le_of_ble_eq_true rfl) (k_refuse h.1 _) (fun r1 Gc hc1 => ?_)
      obtain ⟨rfl, hc2⟩ := hc1
      simp only [Option.toList_some, Option.toList_none, List.cons_append, List.nil_append]
      exact y_ret (e_40 (28, .ireturn, 1) (List.mem_of_getElem? (i := 16) rfl)) ⟨rfl, y_rb (Or.inl rfl)⟩ ⟨rfl, hc2.s9, hc2.s8⟩
theorem k_once_no (h : CS f n lim nx tk pl num nm ft fp cc np nt nl nn oc ot tn ln mn G) (hno : ∃ i : Nat, (i : Int) < oc.toInt ∧ ot i = tk) : x_Gd xs L J (d + 1) m_40 (fun r G' => r = some (.int 0) ∧ x_sl G' 1 9 = some (.int pl) ∧ x_sl G' 1 8 = some (.int (Int32.ofInt 3))) 0 (lv_args 0 [.ref 3, .ref 1]) [] G := by
  refine y_st (e_40 (0, .iconst 0, 1) (List.mem_of_getElem? (i := 0) rfl)) ⟨rfl, rfl, rfl, rfl⟩ ?_
  refine y_isn (e_40 (1, .istore_n 2, 1) (List.mem_of_getElem? (i := 1) rfl)) (by decide) ?_
  exact k_once_l h hno _ _ 0 rfl rfl rfl (by decide) (Nat.le_refl _) (fun i hi => absurd hi (by show ¬ (i : Int) < 0; omega))
set_option maxHeartbeats 2000000 in
set_option maxRecDepth 100000 in
theorem k_once_yl (h : CS f n lim nx tk pl num nm ft fp cc np nt nl nn oc ot tn ln mn G) (hno : ∀ i : Nat, (i : Int) < oc.toInt → ot i ≠ tk) (h5 : oc.toInt < 5) (hN : NXc f n lim nx num nm nx' tk' pl' num' nm') : ∀ (m : Nat) (lv : pL) (k : Int32), pm_get lv 0 = some (.ref 3) → pm_get lv 1 = some (.ref 1) → pm_get lv 2 = some (.int k) → 0 ≤ k.toInt → k.toInt ≤ oc.toInt → (oc.toInt - k.toInt).toNat ≤ m → x_Gd xs L J (d + 2) m_40 (fun r G' => r = some (.int 1) ∧ CS f n lim nx' tk' pl' num' nm' ft fp cc np nt nl nn (oc + Int32.ofInt 1) (fun j => if j = oc.toInt.toNat then tk else ot j) tn ln mn G') 2 lv [] G := by
  obtain ⟨-, -, -, -, o0, o1⟩ := h.cn
  have at35 : ∀ lv : pL, pm_get lv 0 = some (.ref 3) → pm_get lv 1 = some (.ref 1) → x_Gd xs L J (d + 2) m_40 (fun r G' => r = some (.int 1) ∧ CS f n lim nx' tk' pl' num' nm' ft fp cc np nt nl nn (oc + Int32.ofInt 1) (fun j => if j = oc.toInt.toNat then tk else ot j) tn ln mn G') 35 lv [] G := fun lv g0 g1 => by
    have eo := y_add1 (t := oc) (by omega)
    refine y_aln (e_40 (35, .aload_n 0, 1) (List.mem_of_getElem? (i := 19) rfl)) g0 ?_
    refine y_getf h.1.I th0_p.2.2.1 (e_40 (36, .getfield 21, 3) (List.mem_of_getElem? (i := 20) rfl)) u_3_21 ⟨rfl, rfl⟩ h.2.a3_2 ?_
    refine y_aln (e_40 (39, .aload_n 0, 1) (List.mem_of_getElem? (i := 21) rfl)) g0 ?_
    refine y_getf h.1.I th0_p.2.2.1 (e_40 (40, .getfield 17, 3) (List.mem_of_getElem? (i := 22) rfl)) u_3_17 ⟨rfl, rfl⟩ h.2.a3_1 ?_
    refine y_arl2 h.1.I th0_p.2.2.2.2.1 (e_40 (43, .arraylength, 1) (List.mem_of_getElem? (i := 23) rfl)) ⟨rfl, by decide⟩ ?_
    refine y_icm (e_40 (44, .if_icmp .ge 26, 3) (List.mem_of_getElem? (i := 24) rfl)) rfl (fun hc => ?_) (fun _ => ?_)
    · have := y_hI.2.2.2.2.1 hc
      rw [show (Int32.ofNat (x_tb 20).2.2.1).toInt = 5 from rfl] at this
      omega
    refine y_aln (e_40 (47, .aload_n 0, 1) (List.mem_of_getElem? (i := 25) rfl)) g0 ?_
    refine y_getf h.1.I th0_p.2.2.1 (e_40 (48, .getfield 17, 3) (List.mem_of_getElem? (i := 26) rfl)) u_3_17 ⟨rfl, rfl⟩ h.2.a3_1 ?_
    refine y_aln (e_40 (51, .aload_n 0, 1) (List.mem_of_getElem? (i := 27) rfl)) g0 ?_
    refine y_getf h.1.I th0_p.2.2.1 (e_40 (52, .getfield 21, 3) (List.mem_of_getElem? (i := 28) rfl)) u_3_21 ⟨rfl, rfl⟩ h.2.a3_2 ?_
    refine y_aln (e_40 (55, .aload_n 1, 1) (List.mem_of_getElem? (i := 29) rfl)) g1 ?_
    refine y_getf h.1.I h.1.t (e_40 (56, .getfield 36, 3) (List.mem_of_getElem? (i := 30) rfl)) u_3_36 ⟨rfl, rfl⟩ h.1.s4 ?_
    refine y_aast h.1.I th0_p.2.2.2.2.1 (e_40 (59, .aastore, 1) (List.mem_of_getElem? (i := 31) rfl)) ⟨rfl, rfl⟩ ⟨o0, by show oc.toInt < 5; exact h5⟩ h.1.tk35 (fun G1 u1 => ?_)
    have I1 := h.1.I.upd u1 th0_p.2.2.2.2.1 (fun f' hf' => by
      have e : x_at (x_tb 20).2.2.2 oc.toInt.toNat = some ((4 : Nat), (0 : Int), (0 : Int)) := by rw [show (x_tb 20).2.2.2 = [(5, ((4 : Nat), (0 : Int), (0 : Int)))] from rfl]; exact y_one (by omega)
      rw [e] at hf'
      cases hf'
      exact Or.inr ⟨_, rfl, y_isT h.1.tk35⟩)
    have c1 : x_sl G1 3 2 = some (.int oc) := by rw [u1.2.1, if_neg (by omega)]; exact h.2.a3_2
    refine y_aln (e_40 (60, .aload_n 0, 1) (List.mem_of_getElem? (i := 32) rfl)) g0 ?_
    refine y_st (e_40 (61, .dup, 1) (List.mem_of_getElem? (i := 33) rfl)) ⟨rfl, rfl, rfl, rfl⟩ ?_
    refine y_getf I1 th0_p.2.2.1 (e_40 (62, .getfield 21, 3) (List.mem_of_getElem? (i := 34) rfl)) u_3_21 ⟨rfl, rfl⟩ c1 ?_
    refine y_st (e_40 (65, .iconst 1, 1) (List.mem_of_getElem? (i := 35) rfl)) ⟨rfl, rfl, rfl, rfl⟩ ?_
    refine y_st (e_40 (66, .iadd, 1) (List.mem_of_getElem? (i := 36) rfl)) ⟨rfl, rfl, rfl, rfl⟩ ?_
    refine y_putf (f := (0, 0, 5)) I1 th0_p.2.2.1 (e_40 (67, .putfield 21, 3) (List.mem_of_getElem? (i := 37) rfl)) u_3_21 ⟨rfl, rfl, by decide, rfl, rfl⟩ ⟨_, rfl, by show (0 : Int) ≤ _; omega, by show _ ≤ (5 : Int); omega⟩ (fun G2 u2 => ?_)
    have I2 := I1.upd u2 th0_p.2.2.1 (y_okI rfl (by show (0 : Int) ≤ _; omega) (by show _ ≤ (5 : Int); omega))
    have h2 : CS f n lim nx tk pl num nm ft fp cc np nt nl nn (oc + Int32.ofInt 1) (fun j => if j = oc.toInt.toNat then tk else ot j) tn ln mn G2 := ⟨(h.1.other u1 (by decide) (by decide) I1).other u2 (by decide) (by decide) I2, h.2.uonce (k := oc.toInt.toNat) h.1.tk35 (by omega) (by omega) eo (fun c i => by rw [u2.2.1, u1.2.1])⟩
    refine y_aln (e_40 (70, .aload_n 1, 1) (List.mem_of_getElem? (i := 38) rfl)) g1 ?_
    refine y_c1 (K' := _) (e_40 (71, .invokevirtual 120, 3) (List.mem_of_getElem? (i := 39) rfl)) ⟨rfl, rfl, rfl⟩ t_3_120 ⟨by decide, by decide, by decide, by decide⟩ m_21_ok rfl (by decide) (y_recv h2.1.I h2.1.t ⟨rfl, rfl⟩) (Nat.le_of_ble_eq_true rfl) (Nat.le_of_ble_eq_true rfl) (hN _ _ _ _ _ _ _ _ _ _ _ _ _ h2.1) (fun r1 Gc hc1 => ?_)
    obtain ⟨rfl, hc2⟩ := hc1
    simp only [Option.toList_some, Option.toList_none, List.cons_append, List.nil_append]
    have hn := h2.nxt hc2
    refine y_st (e_40 (74, .iconst 1, 1) (List.mem_of_getElem? (i := 40) rfl)) ⟨rfl, rfl, rfl, rfl⟩ ?_
    exact y_ret (e_40 (75, .ireturn, 1) (List.mem_of_getElem? (i := 41) rfl)) ⟨rfl, y_rb (Or.inr rfl)⟩ ⟨rfl, hn⟩
  intro m
  induction m with
  | zero =>
    intro lv k g0 g1 g2 k0 k1 hm
    refine y_iln (e_40 (2, .iload_n 2, 1) (List.mem_of_getElem? (i := 2) rfl)) g2 ?_
    refine y_aln (e_40 (3, .aload_n 0, 1) (List.mem_of_getElem? (i := 3) rfl)) g0 ?_
    refine y_getf h.1.I th0_p.2.2.1 (e_40 (4, .getfield 21, 3) (List.mem_of_getElem? (i := 4) rfl)) u_3_21 ⟨rfl, rfl⟩ h.2.a3_2 ?_
    refine y_icm (e_40 (7, .if_icmp .ge 28, 3) (List.mem_of_getElem? (i := 5) rfl)) rfl (fun hc => at35 lv g0 g1) (fun hc => ?_)
    have := y_hI.2.2.2.2.2.1 hc
    omega
  | succ m ih =>
    intro lv k g0 g1 g2 k0 k1 hm
    refine y_iln (e_40 (2, .iload_n 2, 1) (List.mem_of_getElem? (i := 2) rfl)) g2 ?_
    refine y_aln (e_40 (3, .aload_n 0, 1) (List.mem_of_getElem? (i := 3) rfl)) g0 ?_
    refine y_getf h.1.I th0_p.2.2.1 (e_40 (4, .getfield 21, 3) (List.mem_of_getElem? (i := 4) rfl)) u_3_21 ⟨rfl, rfl⟩ h.2.a3_2 ?_
    refine y_icm (e_40 (7, .if_icmp .ge 28, 3) (List.mem_of_getElem? (i := 5) rfl)) rfl (fun hc => at35 lv g0 g1) (fun hc => ?_)
    have hlt := y_hI.2.2.2.2.2.1 hc
    have e1 := y_add1 (t := k) (by omega)
    obtain ⟨q1, q2⟩ := h.2.fot k.toInt.toNat (by omega) (by omega)
    refine y_aln (e_40 (10, .aload_n 0, 1) (List.mem_of_getElem? (i := 6) rfl)) g0 ?_
    refine y_getf h.1.I th0_p.2.2.1 (e_40 (11, .getfield 17, 3) (List.mem_of_getElem? (i := 7) rfl)) u_3_17 ⟨rfl, rfl⟩ h.2.a3_1 ?_
    refine y_iln (e_40 (14, .iload_n 2, 1) (List.mem_of_getElem? (i := 8) rfl)) g2 ?_
    refine y_aald h.1.I th0_p.2.2.2.2.1 (e_40 (15, .aaload, 1) (List.mem_of_getElem? (i := 9) rfl)) ⟨rfl, by decide⟩ ⟨k0, by show k.toInt < 5; omega⟩ q2 ?_
    refine y_aln (e_40 (16, .aload_n 1, 1) (List.mem_of_getElem? (i := 10) rfl)) g1 ?_
    refine y_getf h.1.I h.1.t (e_40 (17, .getfield 36, 3) (List.mem_of_getElem? (i := 11) rfl)) u_3_36 ⟨rfl, rfl⟩ h.1.s4 ?_
    refine y_acmN (e_40 (20, .if_acmp .ne 9, 3) (List.mem_of_getElem? (i := 12) rfl)) rfl q1 h.1.tk35 (fun hz => ?_) (fun hz => absurd hz (hno k.toInt.toNat (by omega)))
    refine y_iinc (e_40 (29, .iinc 2 1, 3) (List.mem_of_getElem? (i := 17) rfl)) g2 (by decide) ?_
    refine y_st (e_40 (32, .goto (-30), 3) (List.mem_of_getElem? (i := 18) rfl)) ⟨rfl, rfl, rfl, rfl⟩ ?_
    exact ih _ _ (y_gpr g0 (by decide)) (y_gpr g1 (by decide)) x_get_self (by omega) (by omega) (by omega)
theorem k_once_yes (h : CS f n lim nx tk pl num nm ft fp cc np nt nl nn oc ot tn ln mn G) (hno : ∀ i : Nat, (i : Int) < oc.toInt → ot i ≠ tk) (h5 : oc.toInt < 5) (hN : NXc f n lim nx num nm nx' tk' pl' num' nm') : x_Gd xs L J (d + 2) m_40 (fun r G' => r = some (.int 1) ∧ CS f n lim nx' tk' pl' num' nm' ft fp cc np nt nl nn (oc + Int32.ofInt 1) (fun j => if j = oc.toInt.toNat then tk else ot j) tn ln mn G') 0 (lv_args 0 [.ref 3, .ref 1]) [] G := by
  obtain ⟨-, -, -, -, o0, o1⟩ := h.cn
  refine y_st (e_40 (0, .iconst 0, 1) (List.mem_of_getElem? (i := 0) rfl)) ⟨rfl, rfl, rfl, rfl⟩ ?_
  refine y_isn (e_40 (1, .istore_n 2, 1) (List.mem_of_getElem? (i := 1) rfl)) (by decide) ?_
  exact k_once_yl h hno h5 hN _ _ 0 rfl rfl rfl (by decide) (by show (0 : Int) ≤ _; exact o0) (Nat.le_refl _)
end CS4
