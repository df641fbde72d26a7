-- ===== tokens once more: a NUMBER is below 1000; the kinds of FAULTS =====
theorem s_num3 {f : Nat → Int32} {p : Nat} : ∀ k, k ≤ 3 → t_D f p k → 0 ≤ (t_num f p k).toInt ∧ (t_num f p k).toInt < 10 ^ k
  | 0, _, _ => ⟨by unfold t_num; decide, by unfold t_num; decide⟩
  | k + 1, hk, h => by
    have ih := s_num3 k (by omega) (fun i hi => h i (by omega))
    have hd := h k (by omega)
    unfold t_di at hd
    simp only [Bool.and_eq_true, decide_eq_true_eq] at hd
    have hp : (10 : Int) ^ k ≤ 100 := by
      have : ∀ k : Nat, k ≤ 2 → (10 : Int) ^ k ≤ 100 := by decide
      exact this k (by omega)
    have e10 : ((Int8.ofInt 10).toInt32).toInt = 10 := rfl
    have e48 : ((Int8.ofInt 48).toInt32).toInt = 48 := rfl
    have e1 : (t_num f p k * (Int8.ofInt 10).toInt32).toInt = (t_num f p k).toInt * 10 := by rw [Int32.toInt_mul, e10, Jvm.Kit.bmod32 (by omega) (by omega)]
    have e2 : (t_num f p k * (Int8.ofInt 10).toInt32 + f (p + k)).toInt = (t_num f p k).toInt * 10 + (f (p + k)).toInt := by rw [y_add (by omega) (by omega), e1]
    have e3 : (t_num f p (k + 1)).toInt = (t_num f p k).toInt * 10 + (f (p + k)).toInt - 48 := by
      rw [t_num, Int32.toInt_sub, e2, e48, Jvm.Kit.bmod32 (by omega) (by omega)]
    rw [e3, Int.pow_succ]
    omega
theorem s_num999 {f : Nat → Int32} {p k : Nat} (hk : 0 < k) (h : t_LD f p k) (h2 : t_tk f p k = 2) : 0 ≤ (t_num f p k).toInt ∧ (t_num f p k).toInt ≤ 999 := by
  have d0 := t_dg0 k h
  have dk := t_dgk k h
  unfold t_tk at h2
  rw [if_neg (by omega)] at h2
  by_cases c1 : t_dg f p k = 0 ∧ k ≤ 7
  · rw [if_pos c1] at h2
    have hN : NR (t_nm f p k) (t_wd f p k) := ⟨f, p, k, hk, c1.2, d0.mp c1.1, rfl, rfl⟩
    rcases hN.tok with ⟨x, x1, x2, x3⟩ | ⟨x1, x2⟩ <;> omega
  rw [if_neg c1] at h2
  by_cases c2 : t_dg f p k = k ∧ k ≤ 3
  · have z := s_num3 k c2.2 (dk.mp c2.1)
    have hp : (10 : Int) ^ k ≤ 1000 := by
      have : ∀ k : Nat, k ≤ 3 → (10 : Int) ^ k ≤ 1000 := by decide
      exact this k c2.2
    omega
  · rw [if_neg c2] at h2
    omega
theorem s_tok {f : Nat → Int32} {n lim P : Int32} (hn : n.toInt ≤ 940) (hP : 0 ≤ P.toInt) (hPn : P.toInt ≤ n.toInt) (hfb : ∀ i, i < 940 → -128 ≤ (f i).toInt ∧ (f i).toInt ≤ 127) (num : Int32) (nm : Int64) (mn : Int32) (wd : Int64) :
    ∃ (nx : Int32) (tk : Nat) (pl num' : Int32) (nm' : Int64) (tok mn' sp' : Int32) (wd' : Int64), 0 ≤ nx.toInt ∧ nx.toInt ≤ n.toInt ∧ (P.toInt < nx.toInt ∨ (P.toInt ≤ nx.toInt ∧ (tk = 0 ∨ tk = 1))) ∧ TR tk num' nm' tok mn' wd' ∧ (tk = 2 → 0 ≤ num'.toInt ∧ num'.toInt ≤ 999) ∧
      (∀ (th : List Nat) (xs : Nat → Int32) (L J d tp b : Nat) (G0 G : List pE) (tk0 : Nat) (pl0 ft fp : Int32), TC th tp b f G0 n lim P tk0 pl0 num nm ft fp G → x_Gd xs L J (d + 1) m_21 (fun r G' => r = none ∧ TC th tp b f G0 n lim nx tk pl num' nm' ft fp G') 0 (lv_args 0 [.ref tp]) [] G) ∧
      (∀ (th : List Nat) (xs : Nat → Int32) (L J d am mb : Nat) (G0 G : List pE) (tok0 at0 sp0 : Int32), TM th am mb f G0 n lim P tok0 at0 sp0 mn wd G → x_Gd xs L J (d + 1) m_163 (fun r G' => r = none ∧ TM th am mb f G0 n lim nx tok pl sp' mn' wd' G') 0 (lv_args 0 [.ref am]) [] G) := by
  obtain ⟨q1, hq1⟩ := t_End.ex t_bl f n.toInt.toNat _ P.toInt.toNat (by omega) rfl
  obtain ⟨v, hv⟩ : ∃ v : Int32, v.toInt = q1 := ⟨Int32.ofNat q1, nI_toInt (by have := hq1.2.1; omega)⟩
  have v0 : 0 ≤ v.toInt := by omega
  have hq : t_End t_bl f n.toInt.toNat P.toInt.toNat v.toInt.toNat := by rw [show v.toInt.toNat = q1 by omega]; exact hq1
  have v1 : v.toInt ≤ n.toInt := by have := hq.2.1; omega
  have same : ∀ w : Int32, 0 ≤ w.toInt → t_End t_bl f n.toInt.toNat P.toInt.toNat w.toInt.toNat → w = v := fun w w0 hw => t_pos w0 v0 (hw.one hq)
  by_cases c1 : lim.toInt < n.toInt ∧ lim.toInt ≤ v.toInt
  · refine ⟨v, 1, lim, num, nm, Int32.ofInt 4, mn, Int32.ofInt 0, wd, v0, v1, Or.inr ⟨by have := hq.1; omega, Or.inr rfl⟩, Or.inr (Or.inl ⟨rfl, rfl⟩), fun z => absurd z (by decide), fun th xs L J d tp b G0 G tk0 pl0 ft fp h => ?_, fun th xs L J d am mb G0 G tok0 at0 sp0 h => ?_⟩
    · refine (k_readToken hn h hP hPn).mono (fun r G' h' => ?_)
      obtain ⟨rfl, w, w0, hw, ht⟩ := h'
      obtain rfl := same w w0 hw
      rcases ht with ⟨-, -, t⟩ | ⟨t, -⟩ | ⟨t, -⟩
      · exact ⟨rfl, t⟩
      · exact absurd c1 t
      · exact absurd c1 t
    · refine (k_next hn h hP hPn).mono (fun r G' h' => ?_)
      obtain ⟨rfl, w, w0, hw, ht⟩ := h'
      obtain rfl := same w w0 hw
      rcases ht with ⟨-, -, t⟩ | ⟨t, -⟩ | ⟨t, -⟩ | ⟨t, -⟩
      · exact ⟨rfl, t⟩
      · exact absurd c1 t
      · exact absurd c1 t
      · exact absurd c1 t
  by_cases c2 : n.toInt ≤ v.toInt
  · refine ⟨v, 0, v, num, nm, Int32.ofInt 0, mn, Int32.ofInt 0, wd, v0, v1, Or.inr ⟨by have := hq.1; omega, Or.inl rfl⟩, Or.inl ⟨rfl, rfl⟩, fun z => absurd z (by decide), fun th xs L J d tp b G0 G tk0 pl0 ft fp h => ?_, fun th xs L J d am mb G0 G tok0 at0 sp0 h => ?_⟩
    · refine (k_readToken hn h hP hPn).mono (fun r G' h' => ?_)
      obtain ⟨rfl, w, w0, hw, ht⟩ := h'
      obtain rfl := same w w0 hw
      rcases ht with ⟨t1, t2, -⟩ | ⟨-, -, t⟩ | ⟨-, t, -⟩
      · exact absurd ⟨t1, t2⟩ c1
      · exact ⟨rfl, t⟩
      · omega
    · refine (k_next hn h hP hPn).mono (fun r G' h' => ?_)
      obtain ⟨rfl, w, w0, hw, ht⟩ := h'
      obtain rfl := same w w0 hw
      rcases ht with ⟨t1, t2, -⟩ | ⟨-, -, t⟩ | ⟨-, t, -⟩ | ⟨-, t, -⟩
      · exact absurd ⟨t1, t2⟩ c1
      · exact ⟨rfl, t⟩
      · omega
      · omega
  obtain ⟨q2, hq2⟩ := t_End.ex t_ld f n.toInt.toNat _ v.toInt.toNat (by omega) rfl
  obtain ⟨k, rfl⟩ : ∃ k, q2 = v.toInt.toNat + k := ⟨q2 - v.toInt.toNat, by have := hq2.1; omega⟩
  have hk9 := hq2.2.1
  have hLD : t_LD f v.toInt.toNat k := fun i hi => hq2.2.2.1 _ (by omega) (by omega)
  rcases Nat.eq_zero_or_pos k with k0 | k0
  · subst k0
    have hnl : t_ld (f v.toInt.toNat) = false := by have := hq2.2.2.2 (by omega); rwa [Nat.add_zero] at this
    have e1 : (v + Int32.ofInt 1).toInt = v.toInt + 1 := y_add1 (t := v) (by omega)
    refine ⟨v + Int32.ofInt 1, t_tk f v.toInt.toNat 0, v, t_num f v.toInt.toNat 0, t_nm f v.toInt.toNat 0, if t_sg (f v.toInt.toNat &&& 255) then Int32.ofInt 3 else Int32.ofInt 4, f v.toInt.toNat &&& 255, Int32.ofInt 0, wd, by omega, by omega, Or.inl (by have := hq.1; omega), ?_, ?_, fun th xs L J d tp b G0 G tk0 pl0 ft fp h => ?_, fun th xs L J d am mb G0 G tok0 at0 sp0 h => ?_⟩
    · unfold t_tk
      rw [if_pos rfl]
      rcases t_sign (hfb v.toInt.toNat (by omega)) hnl with ⟨z1, z2⟩ | ⟨z1, j, z2, z3, z4⟩
      · rw [z1, z2]
        exact Or.inr (Or.inl ⟨rfl, rfl⟩)
      · rw [z1, z3]
        exact Or.inr (Or.inr (Or.inr (Or.inl ⟨j, z2, rfl, rfl, z4⟩)))
    · intro w
      unfold t_tk at w
      rw [if_pos rfl] at w
      rcases t_sign (hfb v.toInt.toNat (by omega)) hnl with ⟨z1, z2⟩ | ⟨z1, j, z2, z3, z4⟩ <;> omega
    · refine (k_readToken hn h hP hPn).mono (fun r G' h' => ?_)
      obtain ⟨rfl, w, w0, hw, ht⟩ := h'
      obtain rfl := same w w0 hw
      rcases ht with ⟨t1, t2, -⟩ | ⟨-, t, -⟩ | ⟨-, -, k', p2, t1, t2, t3⟩
      · exact absurd ⟨t1, t2⟩ c1
      · omega
      · have := t1.one hq2
        obtain rfl : k' = 0 := by omega
        rw [if_pos rfl] at t2
        obtain rfl : p2 = w + Int32.ofInt 1 := Int32.toInt_inj.mp (by omega)
        exact ⟨rfl, t3⟩
    · refine (k_next hn h hP hPn).mono (fun r G' h' => ?_)
      obtain ⟨rfl, w, w0, hw, ht⟩ := h'
      obtain rfl := same w w0 hw
      rcases ht with ⟨t1, t2, -⟩ | ⟨-, t, -⟩ | ⟨-, -, -, p2, t2, t3⟩ | ⟨-, -, k', p2, sp, t0, t1, -, -⟩
      · exact absurd ⟨t1, t2⟩ c1
      · omega
      · obtain rfl : p2 = w + Int32.ofInt 1 := Int32.toInt_inj.mp (by omega)
        exact ⟨rfl, t3⟩
      · have := t1.one hq2
        omega
  · obtain ⟨p2, hp2⟩ : ∃ p2 : Int32, p2.toInt = v.toInt + k := ⟨Int32.ofNat (v.toInt.toNat + k), by rw [show (Int32.ofNat (v.toInt.toNat + k)).toInt = ((v.toInt.toNat + k : Nat) : Int) from nI_toInt (by omega)]; omega⟩
    obtain ⟨sp, hsp⟩ : ∃ sp : Int32, sp.toInt = k := ⟨Int32.ofNat k, nI_toInt (by omega)⟩
    refine ⟨p2, t_tk f v.toInt.toNat k, v, t_num f v.toInt.toNat k, t_nm f v.toInt.toNat k, t_mt f v.toInt.toNat k, t_mn f v.toInt.toNat k, sp, t_wd f v.toInt.toNat k, by omega, by omega, Or.inl (by have := hq.1; omega), t_run k0 hLD, s_num999 k0 hLD, fun th xs L J d tp b G0 G tk0 pl0 ft fp h => ?_, fun th xs L J d am mb G0 G tok0 at0 sp0 h => ?_⟩
    · refine (k_readToken hn h hP hPn).mono (fun r G' h' => ?_)
      obtain ⟨rfl, w, w0, hw, ht⟩ := h'
      obtain rfl := same w w0 hw
      rcases ht with ⟨t1, t2, -⟩ | ⟨-, t, -⟩ | ⟨-, -, k', p2', t1, t2, t3⟩
      · exact absurd ⟨t1, t2⟩ c1
      · omega
      · have := t1.one hq2
        obtain rfl : k' = k := by omega
        rw [if_neg (by omega)] at t2
        obtain rfl : p2' = p2 := Int32.toInt_inj.mp (by omega)
        exact ⟨rfl, t3⟩
    · refine (k_next hn h hP hPn).mono (fun r G' h' => ?_)
      obtain ⟨rfl, w, w0, hw, ht⟩ := h'
      obtain rfl := same w w0 hw
      rcases ht with ⟨t1, t2, -⟩ | ⟨-, t, -⟩ | ⟨-, -, t1, -⟩ | ⟨-, -, k', p2', sp', t0, t1, t2, t4, t3⟩
      · exact absurd ⟨t1, t2⟩ c1
      · omega
      · have := hLD 0 k0
        rw [Nat.add_zero, t1] at this
        cases this
      · have := t1.one hq2
        obtain rfl : k' = k := by omega
        obtain rfl : p2' = p2 := Int32.toInt_inj.mp (by omega)
        obtain rfl : sp' = sp := Int32.toInt_inj.mp (by omega)
        exact ⟨rfl, t3⟩

theorem s_nx {f : Nat → Int32} {n lim P : Int32} (hn : n.toInt ≤ 940) (hP : 0 ≤ P.toInt ∧ P.toInt ≤ n.toInt) (hfb : ∀ i, i < 940 → -128 ≤ (f i).toInt ∧ (f i).toInt ≤ 127) (num : Int32) (nm : Int64) (mn : Int32) (wd : Int64) :
    ∃ (nx : Int32) (tk : Nat) (pl num' : Int32) (nm' : Int64) (tok mn' sp' : Int32) (wd' : Int64), (0 ≤ nx.toInt ∧ nx.toInt ≤ n.toInt) ∧ (P.toInt < nx.toInt ∨ (P.toInt ≤ nx.toInt ∧ (tk = 0 ∨ tk = 1))) ∧ TR tk num' nm' tok mn' wd' ∧ (tk = 2 → 0 ≤ num'.toInt ∧ num'.toInt ≤ 999) ∧ NXc f n lim P num nm nx tk pl num' nm' ∧ NXm f n lim P mn wd nx tok pl sp' mn' wd' := by
  obtain ⟨nx, tk, pl, num', nm', tok, mn', sp', wd', h1, h2, h3, h4, h7, h5, h6⟩ := s_tok (lim := lim) hn hP.1 hP.2 hfb num nm mn wd
  exact ⟨nx, tk, pl, num', nm', tok, mn', sp', wd', ⟨h1, h2⟩, h3, h4, h7, h5, h6⟩
section S1C
variable {th : List Nat} {xs : Nat → Int32} {L J d tp b : Nat} {K : Option Value → List pE → Prop} {f : Nat → Int32} {G0 G G1 : List pE} {n lim nx pl num ft fp : Int32} {tk : Nat} {nm : Int64} {lv : pL} {nx' pl' num' : Int32} {tk' : Nat} {nm' : Int64}
set_option maxHeartbeats 2000000 in
set_option maxRecDepth 100000 in
theorem s_take_no {q : Nat} (h : TC th tp b f G0 n lim nx tk pl num nm ft fp G) (hq : q < 35) (hne : tk ≠ q) : x_Gd xs L J (d + 1) m_46 (fun r G' => r = some (.int 0) ∧ TC th tp b f G0 n lim nx tk pl num nm (Int32.ofInt 1) pl G') 0 (lv_args 0 [.ref tp, .ref (pm_TB + q)]) [] G := by
  have g0 : pm_get (lv_args 0 [.ref tp, .ref (pm_TB + q)]) 0 = some (.ref tp) := rfl
  refine y_aln (e_46 (0, .aload_n 0, 1) (List.mem_of_getElem? (i := 0) rfl)) g0 ?_
  refine y_getf h.I h.t (e_46 (1, .getfield 31, 3) (List.mem_of_getElem? (i := 1) rfl)) u_2_31 ⟨rfl, rfl⟩ h.s4 ?_
  refine y_aln (e_46 (4, .aload_n 1, 1) (List.mem_of_getElem? (i := 2) rfl)) (x := pm_TB + q) rfl ?_
  refine y_acm (e_46 (5, .if_acmp .eq 9, 3) (List.mem_of_getElem? (i := 3) rfl)) rfl h.tk35 hq (fun z => absurd z hne) (fun _ => ?_)
  refine y_aln (e_46 (8, .aload_n 0, 1) (List.mem_of_getElem? (i := 4) rfl)) g0 ?_
  refine y_st (e_46 (9, .iconst 1, 1) (List.mem_of_getElem? (i := 5) rfl)) ⟨rfl, rfl, rfl, rfl⟩ ?_
  refine y_c2 (K' := _) (e_46 (10, .invokevirtual 82, 3) (List.mem_of_getElem? (i := 6) rfl)) ⟨rfl, rfl, rfl⟩ t_2_82 ⟨by decide, by decide, by decide, by decide⟩ m_27_ok rfl (by decide) (y_recv h.I h.t ⟨rfl, rfl⟩) (Nat.le_of_ble_eq_true rfl) (Nat.le_of_ble_eq_true rfl) (k_refuse h _) (fun r1 Gc hc1 => ?_)
  obtain ⟨rfl, hc2⟩ := hc1
  simp only [Option.toList_some, Option.toList_none, List.cons_append, List.nil_append]
  exact y_ret (e_46 (13, .ireturn, 1) (List.mem_of_getElem? (i := 7) rfl)) ⟨rfl, y_rb (Or.inl rfl)⟩ ⟨rfl, hc2⟩
set_option maxHeartbeats 2000000 in
set_option maxRecDepth 100000 in
theorem s_takeN_no {lo hi k : Int32} {ra : Nat} (h : TC th tp b f G0 n lim nx tk pl num nm ft fp G) (hno : tk ≠ 2 ∨ num.toInt < lo.toInt ∨ hi.toInt < num.toInt) : x_Gd xs L J (d + 1) m_28 (fun r G' => r = some (.int 0) ∧ TC th tp b f G0 n lim nx tk pl num nm (if tk = 2 then Int32.ofInt 2 else Int32.ofInt 1) pl G') 0 (lv_args 0 [.ref tp, .int lo, .int hi, .ref ra, .int k]) [] G := by
  have g0 : pm_get (lv_args 0 [.ref tp, .int lo, .int hi, .ref ra, .int k]) 0 = some (.ref tp) := rfl
  have g1 : pm_get (lv_args 0 [.ref tp, .int lo, .int hi, .ref ra, .int k]) 1 = some (.int lo) := rfl
  have g2 : pm_get (lv_args 0 [.ref tp, .int lo, .int hi, .ref ra, .int k]) 2 = some (.int hi) := rfl
  generalize lv_args 0 [.ref tp, .int lo, .int hi, .ref ra, .int k] = lv at g0 g1 g2 ⊢
  have at32 : tk = 2 → x_Gd xs L J (d + 1) m_28 (fun r G' => r = some (.int 0) ∧ TC th tp b f G0 n lim nx tk pl num nm (if tk = 2 then Int32.ofInt 2 else Int32.ofInt 1) pl G') 32 lv [] G := fun z2 => by
    rw [if_pos z2]
    refine y_aln (e_28 (32, .aload_n 0, 1) (List.mem_of_getElem? (i := 16) rfl)) g0 ?_
    refine y_st (e_28 (33, .iconst 2, 1) (List.mem_of_getElem? (i := 17) rfl)) ⟨rfl, rfl, rfl, rfl⟩ ?_
    refine y_c2 (K' := _) (e_28 (34, .invokevirtual 82, 3) (List.mem_of_getElem? (i := 18) rfl)) ⟨rfl, rfl, rfl⟩ t_2_82 ⟨by decide, by decide, by decide, by decide⟩ m_27_ok rfl (by decide) (y_recv h.I h.t ⟨rfl, rfl⟩) (Nat.le_of_ble_eq_true rfl) (Nat.le_of_ble_eq_true rfl) (k_refuse h _) (fun r1 Gc hc1 => ?_)
    obtain ⟨rfl, hc2⟩ := hc1
    simp only [Option.toList_some, Option.toList_none, List.cons_append, List.nil_append]
    exact y_ret (e_28 (37, .ireturn, 1) (List.mem_of_getElem? (i := 19) rfl)) ⟨rfl, y_rb (Or.inl rfl)⟩ ⟨rfl, hc2⟩
  refine y_aln (e_28 (0, .aload_n 0, 1) (List.mem_of_getElem? (i := 0) rfl)) g0 ?_
  refine y_getf h.I h.t (e_28 (1, .getfield 31, 3) (List.mem_of_getElem? (i := 1) rfl)) u_2_31 ⟨rfl, rfl⟩ h.s4 ?_
  refine y_gst (a := pm_TB + 2) (e_28 (4, .getstatic 72, 3) (List.mem_of_getElem? (i := 2) rfl)) w_2_72 rfl ?_
  refine y_acm (e_28 (7, .if_acmp .eq 9, 3) (List.mem_of_getElem? (i := 3) rfl)) rfl h.tk35 (by decide) (fun z => ?_) (fun z1 => ?_)
  rotate_left
  · rw [if_neg z1]
    refine y_aln (e_28 (10, .aload_n 0, 1) (List.mem_of_getElem? (i := 4) rfl)) g0 ?_
    refine y_st (e_28 (11, .iconst 1, 1) (List.mem_of_getElem? (i := 5) rfl)) ⟨rfl, rfl, rfl, rfl⟩ ?_
    refine y_c2 (K' := _) (e_28 (12, .invokevirtual 82, 3) (List.mem_of_getElem? (i := 6) rfl)) ⟨rfl, rfl, rfl⟩ t_2_82 ⟨by decide, by decide, by decide, by decide⟩ m_27_ok rfl (by decide) (y_recv h.I h.t ⟨rfl, rfl⟩) (Nat.le_of_ble_eq_true rfl) (Nat.le_of_ble_eq_true rfl) (k_refuse h _) (fun r1 Gc hc1 => ?_)
    obtain ⟨rfl, hc2⟩ := hc1
    simp only [Option.toList_some, Option.toList_none, List.cons_append, List.nil_append]
    exact y_ret (e_28 (15, .ireturn, 1) (List.mem_of_getElem? (i := 7) rfl)) ⟨rfl, y_rb (Or.inl rfl)⟩ ⟨rfl, hc2⟩
  have hno : num.toInt < lo.toInt ∨ hi.toInt < num.toInt := hno.resolve_left (fun y => y z)
  refine y_aln (e_28 (16, .aload_n 0, 1) (List.mem_of_getElem? (i := 8) rfl)) g0 ?_
  refine y_getf h.I h.t (e_28 (17, .getfield 37, 3) (List.mem_of_getElem? (i := 9) rfl)) u_2_37 ⟨rfl, rfl⟩ h.s6 ?_
  refine y_iln (e_28 (20, .iload_n 1, 1) (List.mem_of_getElem? (i := 10) rfl)) g1 ?_
  refine y_icm (e_28 (21, .if_icmp .lt 11, 3) (List.mem_of_getElem? (i := 11) rfl)) rfl (fun _ => at32 z) (fun hc => ?_)
  have c1 := y_hI.2.2.2.2.2.2.2.2.2.1 hc
  refine y_aln (e_28 (24, .aload_n 0, 1) (List.mem_of_getElem? (i := 12) rfl)) g0 ?_
  refine y_getf h.I h.t (e_28 (25, .getfield 37, 3) (List.mem_of_getElem? (i := 13) rfl)) u_2_37 ⟨rfl, rfl⟩ h.s6 ?_
  refine y_iln (e_28 (28, .iload_n 2, 1) (List.mem_of_getElem? (i := 14) rfl)) g2 ?_
  refine y_icm (e_28 (29, .if_icmp .le 9, 3) (List.mem_of_getElem? (i := 15) rfl)) rfl (fun hc => ?_) (fun _ => at32 z)
  have c2 := y_hI.2.2.2.2.2.2.1 hc
  omega
end S1C
section S1M
variable {th : List Nat} {xs : Nat → Int32} {L J d am mb : Nat} {K : Option Value → List pE → Prop} {f : Nat → Int32} {G0 G G1 : List pE} {n lim p tok at9 sp num : Int32} {wd : Int64} {lv : pL} {p' tok' at' sp' num' : Int32} {wd' : Int64}
set_option maxHeartbeats 2000000 in
set_option maxRecDepth 100000 in
theorem s_isWord (h : TM th am mb f G0 n lim p tok at9 sp num wd G) (w : Int64) : x_Gd xs L J d m_168 (fun r G' => r = some (.int (if tok = Int32.ofInt 1 ∧ wd = w then 1 else 0)) ∧ G' = G) 0 (lv_args 0 [.ref am, .long w]) [] G := by
  have g0 : pm_get (lv_args 0 [.ref am, .long w]) 0 = some (.ref am) := rfl
  have fin0 : ¬ (tok = Int32.ofInt 1 ∧ wd = w) → x_Gd xs L J d m_168 (fun r G' => r = some (.int (if tok = Int32.ofInt 1 ∧ wd = w then 1 else 0)) ∧ G' = G) 21 (lv_args 0 [.ref am, .long w]) [] G := fun hx => by
    refine y_st (e_168 (21, .iconst 0, 1) (List.mem_of_getElem? (i := 11) rfl)) ⟨rfl, rfl, rfl, rfl⟩ ?_
    exact y_ret (e_168 (22, .ireturn, 1) (List.mem_of_getElem? (i := 12) rfl)) ⟨rfl, y_rb (Or.inl rfl)⟩ ⟨by rw [if_neg hx]; rfl, rfl⟩
  refine y_aln (e_168 (0, .aload_n 0, 1) (List.mem_of_getElem? (i := 0) rfl)) g0 ?_
  refine y_getf h.I h.t (e_168 (1, .getfield 141, 3) (List.mem_of_getElem? (i := 1) rfl)) u_17_141 ⟨rfl, rfl⟩ h.s11 ?_
  refine y_st (e_168 (4, .iconst 1, 1) (List.mem_of_getElem? (i := 2) rfl)) ⟨rfl, rfl, rfl, rfl⟩ ?_
  refine y_icm (e_168 (5, .if_icmp .ne 16, 3) (List.mem_of_getElem? (i := 3) rfl)) rfl (fun hc => fin0 (fun z => y_hI.2.2.1 hc z.1)) (fun hc => ?_)
  have c1 := y_hI.2.2.2.1 hc
  refine y_aln (e_168 (8, .aload_n 0, 1) (List.mem_of_getElem? (i := 4) rfl)) g0 ?_
  refine y_getf h.I h.t (e_168 (9, .getfield 154, 3) (List.mem_of_getElem? (i := 5) rfl)) u_17_154 ⟨rfl, rfl⟩ h.s17 ?_
  refine y_lln (e_168 (12, .lload_n 1, 1) (List.mem_of_getElem? (i := 6) rfl)) rfl ?_
  refine y_st (e_168 (13, .lcmp, 1) (List.mem_of_getElem? (i := 7) rfl)) ⟨rfl, rfl, rfl, rfl⟩ ?_
  refine y_ifc (e_168 (14, .ifCond .ne 7, 3) (List.mem_of_getElem? (i := 8) rfl)) rfl (fun hc => fin0 (fun z => y_cmp.1 hc z.2)) (fun hc => ?_)
  have c2 := y_cmp.2 hc
  refine y_st (e_168 (17, .iconst 1, 1) (List.mem_of_getElem? (i := 9) rfl)) ⟨rfl, rfl, rfl, rfl⟩ ?_
  refine y_st (e_168 (18, .goto 4, 3) (List.mem_of_getElem? (i := 10) rfl)) ⟨rfl, rfl, rfl, rfl⟩ ?_
  exact y_ret (e_168 (22, .ireturn, 1) (List.mem_of_getElem? (i := 12) rfl)) ⟨rfl, y_rb (Or.inr rfl)⟩ ⟨by rw [if_pos ⟨c1, c2⟩]; rfl, rfl⟩
set_option maxHeartbeats 2000000 in
set_option maxRecDepth 100000 in
theorem s_isSign (h : TM th am mb f G0 n lim p tok at9 sp num wd G) (w : Int32) : x_Gd xs L J d m_181 (fun r G' => r = some (.int (if tok = Int32.ofInt 3 ∧ num = w then 1 else 0)) ∧ G' = G) 0 (lv_args 0 [.ref am, .int w]) [] G := by
  have g0 : pm_get (lv_args 0 [.ref am, .int w]) 0 = some (.ref am) := rfl
  have fin0 : ¬ (tok = Int32.ofInt 3 ∧ num = w) → x_Gd xs L J d m_181 (fun r G' => r = some (.int (if tok = Int32.ofInt 3 ∧ num = w then 1 else 0)) ∧ G' = G) 20 (lv_args 0 [.ref am, .int w]) [] G := fun hx => by
    refine y_st (e_181 (20, .iconst 0, 1) (List.mem_of_getElem? (i := 10) rfl)) ⟨rfl, rfl, rfl, rfl⟩ ?_
    exact y_ret (e_181 (21, .ireturn, 1) (List.mem_of_getElem? (i := 11) rfl)) ⟨rfl, y_rb (Or.inl rfl)⟩ ⟨by rw [if_neg hx]; rfl, rfl⟩
  refine y_aln (e_181 (0, .aload_n 0, 1) (List.mem_of_getElem? (i := 0) rfl)) g0 ?_
  refine y_getf h.I h.t (e_181 (1, .getfield 141, 3) (List.mem_of_getElem? (i := 1) rfl)) u_17_141 ⟨rfl, rfl⟩ h.s11 ?_
  refine y_st (e_181 (4, .iconst 3, 1) (List.mem_of_getElem? (i := 2) rfl)) ⟨rfl, rfl, rfl, rfl⟩ ?_
  refine y_icm (e_181 (5, .if_icmp .ne 15, 3) (List.mem_of_getElem? (i := 3) rfl)) rfl (fun hc => fin0 (fun z => y_hI.2.2.1 hc z.1)) (fun hc => ?_)
  have c1 := y_hI.2.2.2.1 hc
  refine y_aln (e_181 (8, .aload_n 0, 1) (List.mem_of_getElem? (i := 4) rfl)) g0 ?_
  refine y_getf h.I h.t (e_181 (9, .getfield 151, 3) (List.mem_of_getElem? (i := 5) rfl)) u_17_151 ⟨rfl, rfl⟩ h.s14 ?_
  refine y_iln (e_181 (12, .iload_n 1, 1) (List.mem_of_getElem? (i := 6) rfl)) rfl ?_
  refine y_icm (e_181 (13, .if_icmp .ne 7, 3) (List.mem_of_getElem? (i := 7) rfl)) rfl (fun hc => fin0 (fun z => y_hI.2.2.1 hc z.2)) (fun hc => ?_)
  have c2 := y_hI.2.2.2.1 hc
  refine y_st (e_181 (16, .iconst 1, 1) (List.mem_of_getElem? (i := 8) rfl)) ⟨rfl, rfl, rfl, rfl⟩ ?_
  refine y_st (e_181 (17, .goto 4, 3) (List.mem_of_getElem? (i := 9) rfl)) ⟨rfl, rfl, rfl, rfl⟩ ?_
  exact y_ret (e_181 (21, .ireturn, 1) (List.mem_of_getElem? (i := 11) rfl)) ⟨rfl, y_rb (Or.inr rfl)⟩ ⟨by rw [if_pos ⟨c1, c2⟩]; rfl, rfl⟩
set_option maxHeartbeats 2000000 in
set_option maxRecDepth 100000 in
theorem s_bad (h : TM th am mb f G0 n lim p tok at9 sp num wd G) (q : Int32) : x_Gd xs L J d m_171 (fun r G' => r = some (.int 0) ∧ x_sl G' am 16 = some (.int at9) ∧ x_sl G' am 15 = some (.int q) ∧ xI x_tb th G') 0 (lv_args 0 [.ref am, .int q]) [] G := by
  have g0 : pm_get (lv_args 0 [.ref am, .int q]) 0 = some (.ref am) := rfl
  refine y_aln (e_171 (0, .aload_n 0, 1) (List.mem_of_getElem? (i := 0) rfl)) g0 ?_
  refine y_iln (e_171 (1, .iload_n 1, 1) (List.mem_of_getElem? (i := 1) rfl)) rfl ?_
  refine y_putf (f := (0, -2147483648, 2147483647)) h.I h.t (e_171 (2, .putfield 158, 3) (List.mem_of_getElem? (i := 2) rfl)) u_17_158 ⟨rfl, rfl, by decide, rfl, rfl⟩ ⟨_, rfl, (x_i32 _).1, (x_i32 _).2⟩ (fun G1 u1 => ?_)
  have hI1 := h.I.upd u1 h.t (y_okA rfl)
  refine y_aln (e_171 (5, .aload_n 0, 1) (List.mem_of_getElem? (i := 3) rfl)) g0 ?_
  refine y_aln (e_171 (6, .aload_n 0, 1) (List.mem_of_getElem? (i := 4) rfl)) g0 ?_
  refine y_getf hI1 h.t (e_171 (7, .getfield 135, 3) (List.mem_of_getElem? (i := 5) rfl)) u_17_135 ⟨rfl, rfl⟩ (by rw [u1.2.1, if_neg (fun z => absurd z.2 (by decide))]; exact h.s12) ?_
  refine y_putf (f := (0, -2147483648, 2147483647)) hI1 h.t (e_171 (10, .putfield 161, 3) (List.mem_of_getElem? (i := 6) rfl)) u_17_161 ⟨rfl, rfl, by decide, rfl, rfl⟩ ⟨_, rfl, (x_i32 _).1, (x_i32 _).2⟩ (fun G2 u2 => ?_)
  refine y_st (e_171 (13, .iconst 0, 1) (List.mem_of_getElem? (i := 7) rfl)) ⟨rfl, rfl, rfl, rfl⟩ ?_
  exact y_ret (e_171 (14, .ireturn, 1) (List.mem_of_getElem? (i := 8) rfl)) ⟨rfl, y_rb (Or.inl rfl)⟩ ⟨rfl, by rw [u2.2.1, if_pos ⟨rfl, rfl⟩], by rw [u2.2.1, if_neg (fun z => absurd z.2 (by decide)), u1.2.1, if_pos ⟨rfl, rfl⟩], hI1.upd u2 h.t (y_okA rfl)⟩
end S1M
