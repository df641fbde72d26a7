def m_27 : pM := (⟨"BreathingHill$Tape", "refuse", "(I)Z"⟩, 592, 2, some (FieldType.boolean), 2, 1, false, 7, 92, 590, 591)
set_option maxRecDepth 100000 in
theorem m_27_ok : pm_tab[27]? = some m_27 := rfl
theorem e_27 : ∀ q ∈ d_27, decode m_27.code q.1 = .ok (q.2.1, q.2.2) := y_dec d_27_ok m_27_ok
def m_28 : pM := (⟨"BreathingHill$Tape", "takeNumber", "(II[II)Z"⟩, 597, 5, some (FieldType.boolean), 2, 4, false, 7, 92, 595, 596)
set_option maxRecDepth 100000 in
theorem m_28_ok : pm_tab[28]? = some m_28 := rfl
theorem e_28 : ∀ q ∈ d_28, decode m_28.code q.1 = .ok (q.2.1, q.2.2) := y_dec d_28_ok m_28_ok
def m_46 : pM := (⟨"BreathingHill$Tape", "take", "(LBreathingHill$Token;)Z"⟩, 691, 2, some (FieldType.boolean), 2, 1, false, 7, 92, 689, 690)
set_option maxRecDepth 100000 in
theorem m_46_ok : pm_tab[46]? = some m_46 := rfl
theorem e_46 : ∀ q ∈ d_46, decode m_46.code q.1 = .ok (q.2.1, q.2.2) := y_dec d_46_ok m_46_ok
theorem t_2_82 : pm_ctab.find? (fun r => r.1 == 2 && r.2.1 == 82) = some (2, 82, 1, 27, 598) := by decide +kernel
theorem t_2_50 : pm_ctab.find? (fun r => r.1 == 2 && r.2.1 == 50) = some (2, 50, 1, 21, 556) := by decide +kernel
/-- the kinds of FAULTS: no NUMBER, or none as told; no NAME, or told; in the class's words and in the model's -/
def t_kd (tk : Nat) : Int32 := if tk = 2 then Int32.ofInt 2 else Int32.ofInt 1
def t_kn (tk : Nat) : Int32 := if tk = 3 then Int32.ofInt 3 else Int32.ofInt 1
def t_km (tok : Int32) : Int32 := if tok = Int32.ofInt 2 then Int32.ofInt 2 else Int32.ofInt 1
def t_kf (tok : Int32) (wd : Int64) : Int32 := if tok = Int32.ofInt 1 ∧ ∀ x : Nat, x < 25 → wd ≠ t_W x then Int32.ofInt 3 else Int32.ofInt 1
def NXc (f : Nat → Int32) (n lim P num : Int32) (nm : Int64) (nx : Int32) (tk : Nat) (pl num' : Int32) (nm' : Int64) : Prop := ∀ (th : List Nat) (xs : Nat → Int32) (L J d tp b : Nat) (G0 G : List pE) (tk0 : Nat) (pl0 ft fp : Int32), TC th tp b f G0 n lim P tk0 pl0 num nm ft fp G → x_Gd xs L J (d + 1) m_21 (fun r G' => r = none ∧ TC th tp b f G0 n lim nx tk pl num' nm' ft fp G') 0 (lv_args 0 [.ref tp]) [] G
def NXm (f : Nat → Int32) (n lim P mn : Int32) (wd : Int64) (nx tok pl sp' mn' : Int32) (wd' : Int64) : Prop := ∀ (th : List Nat) (xs : Nat → Int32) (L J d am mb : Nat) (G0 G : List pE) (tok0 at0 sp0 : Int32), TM th am mb f G0 n lim P tok0 at0 sp0 mn wd G → x_Gd xs L J (d + 1) m_163 (fun r G' => r = none ∧ TM th am mb f G0 n lim nx tok pl sp' mn' wd' G') 0 (lv_args 0 [.ref am]) [] G
section CG
variable {th : List Nat} {xs : Nat → Int32} {L J d tp b : Nat} {K : Option Value → List pE → Prop} {f : Nat → Int32} {G0 G G1 : List pE} {n lim nx pl num ft fp : Int32} {tk : Nat} {nm : Int64} {lv : pL} {nx' pl' num' : Int32} {tk' : Nat} {nm' : Int64}
theorem TC.self (h : TC th tp b f G0 n lim nx tk pl num nm ft fp G) : TC th tp b f G n lim nx tk pl num nm ft fp G := by
  obtain ⟨a1, a2, a3, a4, a5, r⟩ := h
  exact ⟨a1, a2, a3, a4, fun _ _ _ => rfl, r⟩
theorem TC.other {c i : Nat} {v : Value} (h : TC th tp b f G0 n lim nx tk pl num nm ft fp G) (u : x_upd G G1 c i v) (h1 : c ≠ tp) (h2 : c ≠ b) (hI : xI x_tb th G1) : TC th tp b f G1 n lim nx tk pl num nm ft fp G1 := by
  obtain ⟨a1, a2, a3, a4, a5, r0, r1, r2, r3, r4, r5, r6, r7, r8, r9⟩ := h
  have e : ∀ j, x_sl G1 tp j = x_sl G tp j := fun j => by rw [u.2.1, if_neg (fun z => h1 z.1.symm)]
  exact ⟨hI, a2, a3, fun i hi => by rw [u.2.1, if_neg (fun z => h2 z.1.symm)]; exact a4 i hi, fun _ _ _ => rfl, by rw [e]; exact r0, by rw [e]; exact r1, by rw [e]; exact r2, by rw [e]; exact r3, by rw [e]; exact r4, by rw [e]; exact r5, by rw [e]; exact r6, by rw [e]; exact r7, by rw [e]; exact r8, by rw [e]; exact r9⟩
theorem y_acm {M : pM} {pc t : Nat} {o : Int} {r : List Value} {x y : Nat} (hd : decode M.code pc = .ok (Instr.if_acmp .eq o, 3)) (ht : pm_tgt pc o = some t) (hx : x < 35) (hy : y < 35) (h1 : x = y → x_Gd xs L J d M K t lv r G) (h2 : x ≠ y → x_Gd xs L J d M K (pc + 3) lv r G) : x_Gd xs L J d M K pc lv (.ref (pm_TB + y) :: .ref (pm_TB + x) :: r) G := by
  by_cases h : x = y
  · refine y_st hd ⟨rfl, rfl, rfl, ?_⟩ (h1 h)
    dsimp only [pm_step]
    rw [y_isT hx, y_isT hy, h]
    dsimp only [pm_if]
    rw [ht]
    simp
  · refine y_st hd ⟨rfl, rfl, rfl, ?_⟩ (h2 h)
    dsimp only [pm_step]
    rw [y_isT hx, y_isT hy]
    dsimp only [pm_if]
    rw [ht]
    simp [h]
theorem TC.tk35 (h : TC th tp b f G0 n lim nx tk pl num nm ft fp G) : tk < 35 := by
  obtain ⟨v, h1, h2⟩ := (h.I.2.2 tp 7 h.t).2 4 (3, 0, 0) rfl
  rw [h.s4] at h1
  cases h1
  obtain ⟨k, h3, h4⟩ := h2
  cases h3
  unfold pm_isTok at h4
  simp only [Bool.and_eq_true, decide_eq_true_eq] at h4
  omega
set_option maxHeartbeats 2000000 in
set_option maxRecDepth 100000 in
theorem k_refuse (h : TC th tp b f G0 n lim nx tk pl num nm ft fp G) (q : Int32) : x_Gd xs L J d m_27 (fun r G' => r = some (.int 0) ∧ TC th tp b f G0 n lim nx tk pl num nm q pl G') 0 (lv_args 0 [.ref tp, .int q]) [] G := by
  have g0 : pm_get (lv_args 0 [.ref tp, .int q]) 0 = some (.ref tp) := rfl
  refine y_aln (e_27 (0, .aload_n 0, 1) (List.mem_of_getElem? (i := 0) rfl)) g0 ?_
  refine y_iln (e_27 (1, .iload_n 1, 1) (List.mem_of_getElem? (i := 1) rfl)) rfl ?_
  refine y_putf (f := (0, -2147483648, 2147483647)) h.I h.t (e_27 (2, .putfield 44, 3) (List.mem_of_getElem? (i := 2) rfl)) u_2_44 ⟨rfl, rfl, by decide, rfl, rfl⟩ ⟨_, rfl, (x_i32 _).1, (x_i32 _).2⟩ (fun Ga1 ua1 => ?_)
  have ha1 := h.u8 ua1
  refine y_aln (e_27 (5, .aload_n 0, 1) (List.mem_of_getElem? (i := 3) rfl)) g0 ?_
  refine y_aln (e_27 (6, .aload_n 0, 1) (List.mem_of_getElem? (i := 4) rfl)) g0 ?_
  refine y_getf ha1.I ha1.t (e_27 (7, .getfield 34, 3) (List.mem_of_getElem? (i := 5) rfl)) u_2_34 ⟨rfl, rfl⟩ ha1.s5 ?_
  refine y_putf (f := (0, -2147483648, 2147483647)) ha1.I ha1.t (e_27 (10, .putfield 47, 3) (List.mem_of_getElem? (i := 6) rfl)) u_2_47 ⟨rfl, rfl, by decide, rfl, rfl⟩ ⟨_, rfl, (x_i32 _).1, (x_i32 _).2⟩ (fun Ga2 ua2 => ?_)
  have ha2 := ha1.u9 ua2
  refine y_st (e_27 (13, .iconst 0, 1) (List.mem_of_getElem? (i := 7) rfl)) ⟨rfl, rfl, rfl, rfl⟩ ?_
  exact y_ret (e_27 (14, .ireturn, 1) (List.mem_of_getElem? (i := 8) rfl)) ⟨rfl, y_rb (Or.inl rfl)⟩ ⟨rfl, ha2⟩
set_option maxHeartbeats 2000000 in
set_option maxRecDepth 100000 in
theorem k_take_no {q : Nat} (h : TC th tp b f G0 n lim nx tk pl num nm ft fp G) (hq : q < 35) (hne : tk ≠ q) : x_Gd xs L J (d + 1) m_46 (fun r G' => r = some (.int 0) ∧ TC th tp b f G0 n lim nx tk pl num nm (Int32.ofInt 1) pl G') 0 (lv_args 0 [.ref tp, .ref (pm_TB + q)]) [] G := by
  have g0 : pm_get (lv_args 0 [.ref tp, .ref (pm_TB + q)]) 0 = some (.ref tp) := rfl
  refine y_aln (e_46 (0, .aload_n 0, 1) (List.mem_of_getElem? (i := 0) rfl)) g0 ?_
  refine y_getf h.I h.t (e_46 (1, .getfield 31, 3) (List.mem_of_getElem? (i := 1) rfl)) u_2_31 ⟨rfl, rfl⟩ h.s4 ?_
  refine y_aln (e_46 (4, .aload_n 1, 1) (List.mem_of_getElem? (i := 2) rfl)) (x := pm_TB + q) rfl ?_
  refine y_acm (e_46 (5, .if_acmp .eq 9, 3) (List.mem_of_getElem? (i := 3) rfl)) rfl h.tk35 hq (fun z => absurd z hne) (fun _ => ?_)
  refine y_aln (e_46 (8, .aload_n 0, 1) (List.mem_of_getElem? (i := 4) rfl)) g0 ?_
  refine y_st (e_46 (9, .iconst 1, 1) (List.mem_of_getElem? (i := 5) rfl)) ⟨rfl, rfl, rfl, rfl⟩ ?_
  refine y_c2 (K' := _) (e_46 (10, .invokevirtual 82, 3) (List.mem_of_getElem? (i := 6) rfl)) ⟨rfl, rfl, rfl⟩ t_2_82 ⟨by decide, by decide, by decide, by decide⟩ m_27_ok rfl (by decide) (y_recv h.I h.t ⟨rfl, rfl⟩) (Nat.le_of_ble_eq_true rfl) (Nat.le_of_ble_eq_true rfl) (k_refuse h _) (fun r1 Gc hc1 => ?_)
  obtain ⟨rfl, hc2⟩ := hc1
  simp only [Option.toList_some, Option.toList_none, List.cons_append, List.nil_append]
  exact y_ret (e_46 (13, .ireturn, 1) (List.mem_of_getElem? (i := 7) rfl)) ⟨rfl, y_rb (Or.inl rfl)⟩ ⟨rfl, hc2⟩
set_option maxHeartbeats 2000000 in
set_option maxRecDepth 100000 in
theorem k_take_yes {q : Nat} (h : TC th tp b f G0 n lim nx tk pl num nm ft fp G) (hq : q < 35) (heq : tk = q) (hN : NXc f n lim nx num nm nx' tk' pl' num' nm') : x_Gd xs L J (d + 2) m_46 (fun r G' => r = some (.int 1) ∧ TC th tp b f G0 n lim nx' tk' pl' num' nm' ft fp G') 0 (lv_args 0 [.ref tp, .ref (pm_TB + q)]) [] G := by
  have g0 : pm_get (lv_args 0 [.ref tp, .ref (pm_TB + q)]) 0 = some (.ref tp) := rfl
  refine y_aln (e_46 (0, .aload_n 0, 1) (List.mem_of_getElem? (i := 0) rfl)) g0 ?_
  refine y_getf h.I h.t (e_46 (1, .getfield 31, 3) (List.mem_of_getElem? (i := 1) rfl)) u_2_31 ⟨rfl, rfl⟩ h.s4 ?_
  refine y_aln (e_46 (4, .aload_n 1, 1) (List.mem_of_getElem? (i := 2) rfl)) (x := pm_TB + q) rfl ?_
  refine y_acm (e_46 (5, .if_acmp .eq 9, 3) (List.mem_of_getElem? (i := 3) rfl)) rfl h.tk35 hq (fun _ => ?_) (fun z => absurd heq z)
  refine y_aln (e_46 (14, .aload_n 0, 1) (List.mem_of_getElem? (i := 8) rfl)) g0 ?_
  refine y_c1 (K' := _) (e_46 (15, .invokevirtual 50, 3) (List.mem_of_getElem? (i := 9) rfl)) ⟨rfl, rfl, rfl⟩ t_2_50 ⟨by decide, by decide, by decide, by decide⟩ m_21_ok rfl (by decide) (y_recv h.I h.t ⟨rfl, rfl⟩) (Nat.le_of_ble_eq_true rfl) (Nat.le_of_ble_eq_true rfl) (hN _ _ _ _ _ _ _ _ _ _ _ _ _ h) (fun r1 Gc hc1 => ?_)
  obtain ⟨rfl, hc2⟩ := hc1
  simp only [Option.toList_some, Option.toList_none, List.cons_append, List.nil_append]
  refine y_st (e_46 (18, .iconst 1, 1) (List.mem_of_getElem? (i := 10) rfl)) ⟨rfl, rfl, rfl, rfl⟩ ?_
  exact y_ret (e_46 (19, .ireturn, 1) (List.mem_of_getElem? (i := 11) rfl)) ⟨rfl, y_rb (Or.inr rfl)⟩ ⟨rfl, hc2⟩
theorem y_arl {M : pM} {pc a t : Nat} {r : List Value} (hI : xI x_tb th G) (ha : th[a]? = some t) (hd : decode M.code pc = .ok (Instr.arraylength, 1)) (ht : (x_tb t).1 = 1 ∧ (x_tb t).2.1 = 0) (hk : x_Gd xs L J d M K (pc + 1) lv (.int (Int32.ofNat (x_tb t).2.2.1) :: r) G) : x_Gd xs L J d M K pc lv (.ref a :: r) G := by
  obtain ⟨e, he, hs⟩ := (hI.2.2 a t ha).1
  obtain ⟨f, rfl⟩ := x_arr_int hs ht.1 (by omega)
  have hlt := (List.getElem?_eq_some_iff.mp ha).1
  have hTB := hI.2.1
  have e1 : pm_TB = 1000000 := rfl
  have e2 : pm_SB = 2000000 := rfl
  have e3 : pm_KB = 3000000 := rfl
  have nS : ¬ a = pm_SB := by omega
  have nK : ¬ a = pm_KB := by omega
  refine y_st hd ⟨rfl, rfl, rfl, ?_⟩ hk
  dsimp only [pm_step]
  rw [if_neg nS, if_neg nK, he]
  dsimp only
  rw [if_pos (by omega)]
set_option maxHeartbeats 2000000 in
set_option maxRecDepth 100000 in
theorem k_takeN_no {lo hi k : Int32} {ra : Nat} (h : TC th tp b f G0 n lim nx tk pl num nm ft fp G) (hno : tk ≠ 2 ∨ num.toInt < lo.toInt ∨ hi.toInt < num.toInt) : x_Gd xs L J (d + 1) m_28 (fun r G' => r = some (.int 0) ∧ TC th tp b f G0 n lim nx tk pl num nm (t_kd tk) pl G') 0 (lv_args 0 [.ref tp, .int lo, .int hi, .ref ra, .int k]) [] G := by
  have g0 : pm_get (lv_args 0 [.ref tp, .int lo, .int hi, .ref ra, .int k]) 0 = some (.ref tp) := rfl
  have g1 : pm_get (lv_args 0 [.ref tp, .int lo, .int hi, .ref ra, .int k]) 1 = some (.int lo) := rfl
  have g2 : pm_get (lv_args 0 [.ref tp, .int lo, .int hi, .ref ra, .int k]) 2 = some (.int hi) := rfl
  generalize lv_args 0 [.ref tp, .int lo, .int hi, .ref ra, .int k] = lv at g0 g1 g2 ⊢
  have at32 : tk = 2 → x_Gd xs L J (d + 1) m_28 (fun r G' => r = some (.int 0) ∧ TC th tp b f G0 n lim nx tk pl num nm (t_kd tk) pl G') 32 lv [] G := fun z2 => by
    unfold t_kd
    rw [if_pos z2]
    refine y_aln (e_28 (32, .aload_n 0, 1) (List.mem_of_getElem? (i := 16) rfl)) g0 ?_
    refine y_st (e_28 (33, .iconst 2, 1) (List.mem_of_getElem? (i := 17) rfl)) ⟨rfl, rfl, rfl, rfl⟩ ?_
    refine y_c2 (K' := _) (e_28 (34, .invokevirtual 82, 3) (List.mem_of_getElem? (i := 18) rfl)) ⟨rfl, rfl, rfl⟩ t_2_82 ⟨by decide, by decide, by decide, by decide⟩ m_27_ok rfl (by decide) (y_recv h.I h.t ⟨rfl, rfl⟩) (Nat.le_of_ble_eq_true rfl) (Nat.le_of_ble_eq_true rfl) (k_refuse h _) (fun r1 Gc hc1 => ?_)
    obtain ⟨rfl, hc2⟩ := hc1
    simp only [Option.toList_some, Option.toList_none, List.cons_append, List.nil_append]
    exact y_ret (e_28 (37, .ireturn, 1) (List.mem_of_getElem? (i := 19) rfl)) ⟨rfl, y_rb (Or.inl rfl)⟩ ⟨rfl, hc2⟩
  refine y_aln (e_28 (0, .aload_n 0, 1) (List.mem_of_getElem? (i := 0) rfl)) g0 ?_
  refine y_getf h.I h.t (e_28 (1, .getfield 31, 3) (List.mem_of_getElem? (i := 1) rfl)) u_2_31 ⟨rfl, rfl⟩ h.s4 ?_
  refine y_gst (a := pm_TB + 2) (e_28 (4, .getstatic 72, 3) (List.mem_of_getElem? (i := 2) rfl)) w_2_72 rfl ?_
  refine y_acm (e_28 (7, .if_acmp .eq 9, 3) (List.mem_of_getElem? (i := 3) rfl)) rfl h.tk35 (by decide) (fun z => ?_) (fun z1 => ?_)
  rotate_left
  · unfold t_kd
    rw [if_neg z1]
    refine y_aln (e_28 (10, .aload_n 0, 1) (List.mem_of_getElem? (i := 4) rfl)) g0 ?_
    refine y_st (e_28 (11, .iconst 1, 1) (List.mem_of_getElem? (i := 5) rfl)) ⟨rfl, rfl, rfl, rfl⟩ ?_
    refine y_c2 (K' := _) (e_28 (12, .invokevirtual 82, 3) (List.mem_of_getElem? (i := 6) rfl)) ⟨rfl, rfl, rfl⟩ t_2_82 ⟨by decide, by decide, by decide, by decide⟩ m_27_ok rfl (by decide) (y_recv h.I h.t ⟨rfl, rfl⟩) (Nat.le_of_ble_eq_true rfl) (Nat.le_of_ble_eq_true rfl) (k_refuse h _) (fun r1 Gc hc1 => ?_)
    obtain ⟨rfl, hc2⟩ := hc1
    simp only [Option.toList_some, Option.toList_none, List.cons_append, List.nil_append]
    exact y_ret (e_28 (15, .ireturn, 1) (List.mem_of_getElem? (i := 7) rfl)) ⟨rfl, y_rb (Or.inl rfl)⟩ ⟨rfl, hc2⟩
  have hno : num.toInt < lo.toInt ∨ hi.toInt < num.toInt := hno.resolve_left (fun y => y z)
  refine y_aln (e_28 (16, .aload_n 0, 1) (List.mem_of_getElem? (i := 8) rfl)) g0 ?_
  refine y_getf h.I h.t (e_28 (17, .getfield 37, 3) (List.mem_of_getElem? (i := 9) rfl)) u_2_37 ⟨rfl, rfl⟩ h.s6 ?_
  refine y_iln (e_28 (20, .iload_n 1, 1) (List.mem_of_getElem? (i := 10) rfl)) g1 ?_
  refine y_icm (e_28 (21, .if_icmp .lt 11, 3) (List.mem_of_getElem? (i := 11) rfl)) rfl (fun _ => at32 z) (fun hc => ?_)
  have c1 := y_hI.2.2.2.2.2.2.2.2.2.1 hc
  refine y_aln (e_28 (24, .aload_n 0, 1) (List.mem_of_getElem? (i := 12) rfl)) g0 ?_
  refine y_getf h.I h.t (e_28 (25, .getfield 37, 3) (List.mem_of_getElem? (i := 13) rfl)) u_2_37 ⟨rfl, rfl⟩ h.s6 ?_
  refine y_iln (e_28 (28, .iload_n 2, 1) (List.mem_of_getElem? (i := 14) rfl)) g2 ?_
  refine y_icm (e_28 (29, .if_icmp .le 9, 3) (List.mem_of_getElem? (i := 15) rfl)) rfl (fun hc => ?_) (fun _ => at32 z)
  have c2 := y_hI.2.2.2.2.2.2.1 hc
  omega
set_option maxHeartbeats 2000000 in
set_option maxRecDepth 100000 in
theorem k_takeN_yes {lo hi k : Int32} {ra t : Nat} (h : TC th tp b f G0 n lim nx tk pl num nm ft fp G) (htk : tk = 2) (h1 : lo.toInt ≤ num.toInt) (h2 : num.toInt ≤ hi.toInt) (tr : th[ra]? = some t) (ht : (x_tb t).1 = 1 ∧ (x_tb t).2.1 = 0) (hsz : (x_tb t).2.2.1 ≤ 1000) (hk : 0 ≤ k.toInt ∧ k.toInt < (x_tb t).2.2.1) (hv : ∀ f', x_at (x_tb t).2.2.2 k.toInt.toNat = some f' → xf_ok th f' (.int num)) (n1 : ra ≠ tp) (n2 : ra ≠ b) (hN : NXc f n lim nx num nm nx' tk' pl' num' nm') : x_Gd xs L J (d + 2) m_28 (fun r G' => r = some (.int 1) ∧ ∃ G1, x_upd G G1 ra k.toInt.toNat (.int num) ∧ TC th tp b f G1 n lim nx' tk' pl' num' nm' ft fp G') 0 (lv_args 0 [.ref tp, .int lo, .int hi, .ref ra, .int k]) [] G := by
  have g0 : pm_get (lv_args 0 [.ref tp, .int lo, .int hi, .ref ra, .int k]) 0 = some (.ref tp) := rfl
  have g1 : pm_get (lv_args 0 [.ref tp, .int lo, .int hi, .ref ra, .int k]) 1 = some (.int lo) := rfl
  have g2 : pm_get (lv_args 0 [.ref tp, .int lo, .int hi, .ref ra, .int k]) 2 = some (.int hi) := rfl
  have g3 : pm_get (lv_args 0 [.ref tp, .int lo, .int hi, .ref ra, .int k]) 3 = some (.ref ra) := rfl
  have g4 : pm_get (lv_args 0 [.ref tp, .int lo, .int hi, .ref ra, .int k]) 4 = some (.int k) := rfl
  generalize lv_args 0 [.ref tp, .int lo, .int hi, .ref ra, .int k] = lv at g0 g1 g2 g3 g4 ⊢
  refine y_aln (e_28 (0, .aload_n 0, 1) (List.mem_of_getElem? (i := 0) rfl)) g0 ?_
  refine y_getf h.I h.t (e_28 (1, .getfield 31, 3) (List.mem_of_getElem? (i := 1) rfl)) u_2_31 ⟨rfl, rfl⟩ h.s4 ?_
  refine y_gst (a := pm_TB + 2) (e_28 (4, .getstatic 72, 3) (List.mem_of_getElem? (i := 2) rfl)) w_2_72 rfl ?_
  refine y_acm (e_28 (7, .if_acmp .eq 9, 3) (List.mem_of_getElem? (i := 3) rfl)) rfl h.tk35 (by decide) (fun _ => ?_) (fun z => absurd htk z)
  refine y_aln (e_28 (16, .aload_n 0, 1) (List.mem_of_getElem? (i := 8) rfl)) g0 ?_
  refine y_getf h.I h.t (e_28 (17, .getfield 37, 3) (List.mem_of_getElem? (i := 9) rfl)) u_2_37 ⟨rfl, rfl⟩ h.s6 ?_
  refine y_iln (e_28 (20, .iload_n 1, 1) (List.mem_of_getElem? (i := 10) rfl)) g1 ?_
  refine y_icm (e_28 (21, .if_icmp .lt 11, 3) (List.mem_of_getElem? (i := 11) rfl)) rfl (fun hc => ?_) (fun _ => ?_)
  · have := y_hI.2.2.2.2.2.2.2.2.1 hc
    omega
  refine y_aln (e_28 (24, .aload_n 0, 1) (List.mem_of_getElem? (i := 12) rfl)) g0 ?_
  refine y_getf h.I h.t (e_28 (25, .getfield 37, 3) (List.mem_of_getElem? (i := 13) rfl)) u_2_37 ⟨rfl, rfl⟩ h.s6 ?_
  refine y_iln (e_28 (28, .iload_n 2, 1) (List.mem_of_getElem? (i := 14) rfl)) g2 ?_
  refine y_icm (e_28 (29, .if_icmp .le 9, 3) (List.mem_of_getElem? (i := 15) rfl)) rfl (fun _ => ?_) (fun hc => ?_)
  rotate_left
  · have := y_hI.2.2.2.2.2.2.2.1 hc
    omega
  refine y_il (e_28 (38, .iload 4, 2) (List.mem_of_getElem? (i := 20) rfl)) g4 ?_
  refine y_ifc (e_28 (40, .ifCond .lt 18, 3) (List.mem_of_getElem? (i := 21) rfl)) rfl (fun hc => ?_) (fun _ => ?_)
  · have := y_hI.2.2.2.2.2.2.2.2.1 hc
    rw [show (0 : Int32).toInt = 0 from rfl] at this
    omega
  refine y_il (e_28 (43, .iload 4, 2) (List.mem_of_getElem? (i := 22) rfl)) g4 ?_
  refine y_aln (e_28 (45, .aload_n 3, 1) (List.mem_of_getElem? (i := 23) rfl)) g3 ?_
  refine y_arl h.I tr (e_28 (46, .arraylength, 1) (List.mem_of_getElem? (i := 24) rfl)) ht ?_
  refine y_icm (e_28 (47, .if_icmp .ge 11, 3) (List.mem_of_getElem? (i := 25) rfl)) rfl (fun hc => ?_) (fun _ => ?_)
  · have := y_hI.2.2.2.2.1 hc
    rw [show (Int32.ofNat (x_tb t).2.2.1).toInt = ((x_tb t).2.2.1 : Int) from nI_toInt (by omega)] at this
    omega
  refine y_aln (e_28 (50, .aload_n 3, 1) (List.mem_of_getElem? (i := 26) rfl)) g3 ?_
  refine y_il (e_28 (51, .iload 4, 2) (List.mem_of_getElem? (i := 27) rfl)) g4 ?_
  refine y_aln (e_28 (53, .aload_n 0, 1) (List.mem_of_getElem? (i := 28) rfl)) g0 ?_
  refine y_getf h.I h.t (e_28 (54, .getfield 37, 3) (List.mem_of_getElem? (i := 29) rfl)) u_2_37 ⟨rfl, rfl⟩ h.s6 ?_
  refine y_iast h.I tr (e_28 (57, .iastore, 1) (List.mem_of_getElem? (i := 30) rfl)) ht hk (fun G1 u => ?_)
  have h3 := h.other u n1 n2 (h.I.upd u tr hv)
  refine y_aln (e_28 (58, .aload_n 0, 1) (List.mem_of_getElem? (i := 31) rfl)) g0 ?_
  refine y_c1 (K' := _) (e_28 (59, .invokevirtual 50, 3) (List.mem_of_getElem? (i := 32) rfl)) ⟨rfl, rfl, rfl⟩ t_2_50 ⟨by decide, by decide, by decide, by decide⟩ m_21_ok rfl (by decide) (y_recv h3.I h3.t ⟨rfl, rfl⟩) (Nat.le_of_ble_eq_true rfl) (Nat.le_of_ble_eq_true rfl) (hN _ _ _ _ _ _ _ _ _ _ _ _ _ h3) (fun r1 Gc hc1 => ?_)
  obtain ⟨rfl, hc2⟩ := hc1
  simp only [Option.toList_some, Option.toList_none, List.cons_append, List.nil_append]
  refine y_st (e_28 (62, .iconst 1, 1) (List.mem_of_getElem? (i := 33) rfl)) ⟨rfl, rfl, rfl, rfl⟩ ?_
  exact y_ret (e_28 (63, .ireturn, 1) (List.mem_of_getElem? (i := 34) rfl)) ⟨rfl, y_rb (Or.inr rfl)⟩ ⟨rfl, G1, u, hc2⟩
end CG
