/-- what readToken leaves: p1 is where the blanks end -/
def t_Tok (th : List Nat) (tp b : Nat) (f : Nat → Int32) (G0 : List pE) (n lim ft fp p1 num : Int32) (nm : Int64) (G' : List pE) : Prop :=
  (lim.toInt < n.toInt ∧ lim.toInt ≤ p1.toInt ∧ TC th tp b f G0 n lim p1 1 lim num nm ft fp G') ∨
  (¬ (lim.toInt < n.toInt ∧ lim.toInt ≤ p1.toInt) ∧ n.toInt ≤ p1.toInt ∧ TC th tp b f G0 n lim p1 0 p1 num nm ft fp G') ∨
  (¬ (lim.toInt < n.toInt ∧ lim.toInt ≤ p1.toInt) ∧ p1.toInt < n.toInt ∧ ∃ (k : Nat) (p2 : Int32), t_End t_ld f n.toInt.toNat p1.toInt.toNat (p1.toInt.toNat + k) ∧ p2.toInt = p1.toInt + (if k = 0 then 1 else k) ∧ TC th tp b f G0 n lim p2 (t_tk f p1.toInt.toNat k) p1 (t_num f p1.toInt.toNat k) (t_nm f p1.toInt.toNat k) ft fp G')
section TK5
variable {th : List Nat} {xs : Nat → Int32} {L J d tp b : Nat} {K : Option Value → List pE → Prop} {f : Nat → Int32} {G0 G G1 : List pE} {n lim nx pl num ft fp : Int32} {tk : Nat} {nm : Int64} {lv : pL}
set_option maxHeartbeats 2000000 in
set_option maxRecDepth 100000 in
theorem rt_end {k : Nat} {p1 dg : Int32} (hn : n.toInt ≤ 940) (h : TC th tp b f G0 n lim nx tk p1 (t_num f p1.toInt.toNat k) (t_nm f p1.toInt.toNat k) ft fp G) (p0 : 0 ≤ p1.toInt) (hx : nx.toInt = p1.toInt + k) (hlt : p1.toInt < n.toInt) (hdg : dg.toInt = t_dg f p1.toInt.toNat k) (he : t_End t_ld f n.toInt.toNat p1.toInt.toNat (p1.toInt.toNat + k)) (g0 : pm_get lv 0 = some (.ref tp)) (g1 : pm_get lv 1 = some (.int dg)) (hK : ∀ (G' : List pE) (p2 : Int32), p2.toInt = p1.toInt + (if k = 0 then 1 else k) → TC th tp b f G0 n lim p2 (t_tk f p1.toInt.toNat k) p1 (t_num f p1.toInt.toNat k) (t_nm f p1.toInt.toNat k) ft fp G' → K none G') : x_Gd xs L J (d + 1) m_21 K 224 lv [] G := by
  have hkn : (p1.toInt.toNat : Int) + k ≤ n.toInt := by
    have := he.2.1
    omega
  have hdl := t_dg_le f p1.toInt.toNat k
  have er : (nx - p1).toInt = k := by rw [Int32.toInt_sub, hx, Jvm.Kit.bmod32 (by omega) (by omega)]; omega
  refine y_aln (e_21 (224, .aload_n 0, 1) (List.mem_of_getElem? (i := 117) rfl)) g0 ?_
  refine y_getf h.I h.t (e_21 (225, .getfield 22, 3) (List.mem_of_getElem? (i := 118) rfl)) u_2_22 ⟨rfl, rfl⟩ h.s3 ?_
  refine y_aln (e_21 (228, .aload_n 0, 1) (List.mem_of_getElem? (i := 119) rfl)) g0 ?_
  refine y_getf h.I h.t (e_21 (229, .getfield 34, 3) (List.mem_of_getElem? (i := 120) rfl)) u_2_34 ⟨rfl, rfl⟩ h.s5 ?_
  refine y_st (e_21 (232, .isub, 1) (List.mem_of_getElem? (i := 121) rfl)) ⟨rfl, rfl, rfl, rfl⟩ ?_
  refine y_isn (e_21 (233, .istore_n 2, 1) (List.mem_of_getElem? (i := 122) rfl)) (by decide) ?_
  have g0 : pm_get (pm_put1 lv 2 (.int (nx - p1))) 0 = some (.ref tp) := y_gpr g0 (by decide)
  have g1 : pm_get (pm_put1 lv 2 (.int (nx - p1))) 1 = some (.int dg) := y_gpi g1 (by decide)
  have g2 : pm_get (pm_put1 lv 2 (.int (nx - p1))) 2 = some (.int (nx - p1)) := x_get_self
  show x_Gd xs L J (d + 1) m_21 K 234 (pm_put1 lv 2 (.int (nx - p1))) [] G
  generalize pm_put1 lv 2 (.int (nx - p1)) = lv2 at g0 g1 g2 ⊢
  refine y_iln (e_21 (234, .iload_n 2, 1) (List.mem_of_getElem? (i := 123) rfl)) g2 ?_
  refine y_ifc (e_21 (235, .ifCond .ne 36, 3) (List.mem_of_getElem? (i := 124) rfl)) rfl (fun hc => ?_) (fun hc => ?_)
  rotate_left
  · have hz := y_hI.2.2.2.1 hc
    have hk0 : k = 0 := by
      have : (nx - p1).toInt = 0 := by rw [hz]; rfl
      omega
    subst hk0
    have hnx : nx.toInt.toNat = p1.toInt.toNat := by omega
    have e1 : (nx + Int32.ofInt 1).toInt = nx.toInt + 1 := y_add1 (t := nx) (by omega)
    refine y_aln (e_21 (238, .aload_n 0, 1) (List.mem_of_getElem? (i := 125) rfl)) g0 ?_
    refine y_aln (e_21 (239, .aload_n 0, 1) (List.mem_of_getElem? (i := 126) rfl)) g0 ?_
    refine y_getf h.I h.t (e_21 (240, .getfield 9, 3) (List.mem_of_getElem? (i := 127) rfl)) u_2_9 ⟨rfl, rfl⟩ h.s0 ?_
    refine y_aln (e_21 (243, .aload_n 0, 1) (List.mem_of_getElem? (i := 128) rfl)) g0 ?_
    refine y_getf h.I h.t (e_21 (244, .getfield 22, 3) (List.mem_of_getElem? (i := 129) rfl)) u_2_22 ⟨rfl, rfl⟩ h.s3 ?_
    refine y_bald h.I h.tb (e_21 (247, .baload, 1) (List.mem_of_getElem? (i := 130) rfl)) ⟨rfl, Or.inl rfl⟩ (by omega) (h.by _ (by omega)) ?_
    refine y_st (e_21 (248, .i2l, 1) (List.mem_of_getElem? (i := 131) rfl)) ⟨rfl, rfl, rfl, rfl⟩ ?_
    refine y_gst (a := pm_TB + 1) (e_21 (249, .getstatic 57, 3) (List.mem_of_getElem? (i := 132) rfl)) w_2_57 rfl ?_
    refine y_c2 (K' := _) (e_21 (252, .invokestatic 65, 3) (List.mem_of_getElem? (i := 133) rfl)) ⟨rfl, rfl, rfl⟩ t_2_65 ⟨by decide, by decide, by decide, by decide⟩ m_24_ok rfl (by decide) rfl (Nat.le_of_ble_eq_true rfl) (Nat.le_of_ble_eq_true rfl) (k_spelt (z := 1) _) (fun r1 Gc hc1 => ?_)
    obtain ⟨rfl, rfl⟩ := hc1
    simp only [Option.toList_some, Option.toList_none, List.cons_append, List.nil_append]
    refine y_putf (f := (3, 0, 0)) h.I h.t (e_21 (255, .putfield 31, 3) (List.mem_of_getElem? (i := 134) rfl)) u_2_31 ⟨rfl, rfl, by decide, rfl, rfl⟩ ⟨_, rfl, y_isT (t_spelt_lt (by decide))⟩ (fun Ga1 ua1 => ?_)
    have ha1 := h.u4 ua1 (t_spelt_lt (by decide))
    refine y_aln (e_21 (258, .aload_n 0, 1) (List.mem_of_getElem? (i := 135) rfl)) g0 ?_
    refine y_st (e_21 (259, .dup, 1) (List.mem_of_getElem? (i := 136) rfl)) ⟨rfl, rfl, rfl, rfl⟩ ?_
    refine y_getf ha1.I ha1.t (e_21 (260, .getfield 22, 3) (List.mem_of_getElem? (i := 137) rfl)) u_2_22 ⟨rfl, rfl⟩ ha1.s3 ?_
    refine y_st (e_21 (263, .iconst 1, 1) (List.mem_of_getElem? (i := 138) rfl)) ⟨rfl, rfl, rfl, rfl⟩ ?_
    refine y_st (e_21 (264, .iadd, 1) (List.mem_of_getElem? (i := 139) rfl)) ⟨rfl, rfl, rfl, rfl⟩ ?_
    refine y_putf (f := (0, 0, 940)) ha1.I ha1.t (e_21 (265, .putfield 22, 3) (List.mem_of_getElem? (i := 140) rfl)) u_2_22 ⟨rfl, rfl, by decide, rfl, rfl⟩ ⟨_, rfl, by show (0 : Int) ≤ _; omega, by show _ ≤ (940 : Int); omega⟩ (fun Ga2 ua2 => ?_)
    have ha2 := ha1.u3 ua2 ⟨by omega, by omega⟩
    refine y_st (e_21 (268, .goto 53, 3) (List.mem_of_getElem? (i := 141) rfl)) ⟨rfl, rfl, rfl, rfl⟩ ?_
    refine y_ret (e_21 (321, .return_, 1) (List.mem_of_getElem? (i := 165) rfl)) ⟨rfl, rfl⟩ (hK _ (nx + Int32.ofInt 1) ?_ ?_)
    rotate_left
    · rw [hnx] at ha2
      exact ha2
    · rw [if_pos rfl]
      omega
  have hz := y_hI.2.2.1 hc
  have hk0 : k ≠ 0 := fun z => hz (Int32.toInt_inj.mp (by rw [er, z]; rfl))
  have at298 : ¬ (t_dg f p1.toInt.toNat k = 0 ∧ k ≤ 7) → x_Gd xs L J (d + 1) m_21 K 298 lv2 [] G := fun hno => by
    have fin : ∀ v : Nat, v < 35 → v = t_tk f p1.toInt.toNat k → x_Gd xs L J (d + 1) m_21 K 318 lv2 [.ref (pm_TB + v), .ref tp] G := fun v hv hvt => by
      refine y_putf (f := (3, 0, 0)) h.I h.t (e_21 (318, .putfield 31, 3) (List.mem_of_getElem? (i := 164) rfl)) u_2_31 ⟨rfl, rfl, by decide, rfl, rfl⟩ ⟨_, rfl, y_isT hv⟩ (fun Ga1 ua1 => ?_)
      have ha1 := h.u4 ua1 hv
      refine y_ret (e_21 (321, .return_, 1) (List.mem_of_getElem? (i := 165) rfl)) ⟨rfl, rfl⟩ (hK _ _ (by rw [if_neg hk0]; exact hx) ?_)
      rw [← hvt]
      exact ha1
    have t1 : ¬ (t_dg f p1.toInt.toNat k = k ∧ k ≤ 3) → t_tk f p1.toInt.toNat k = 1 := fun z => by
      unfold t_tk
      rw [if_neg hk0, if_neg hno, if_neg z]
    have t2 : (t_dg f p1.toInt.toNat k = k ∧ k ≤ 3) → t_tk f p1.toInt.toNat k = 2 := fun z => by
      unfold t_tk
      rw [if_neg hk0, if_neg hno, if_pos z]
    refine y_aln (e_21 (298, .aload_n 0, 1) (List.mem_of_getElem? (i := 154) rfl)) g0 ?_
    refine y_iln (e_21 (299, .iload_n 1, 1) (List.mem_of_getElem? (i := 155) rfl)) g1 ?_
    refine y_iln (e_21 (300, .iload_n 2, 1) (List.mem_of_getElem? (i := 156) rfl)) g2 ?_
    refine y_icm (e_21 (301, .if_icmp .ne 14, 3) (List.mem_of_getElem? (i := 157) rfl)) rfl (fun hc => ?_) (fun hc => ?_)
    · have hne := y_hI.2.2.1 hc
      refine y_gst (a := pm_TB + 1) (e_21 (315, .getstatic 57, 3) (List.mem_of_getElem? (i := 163) rfl)) w_2_57 rfl ?_
      exact fin 1 (by decide) (t1 (fun z => hne (Int32.toInt_inj.mp (by rw [hdg, er, z.1])))).symm
    have heq := y_hI.2.2.2.1 hc
    have heq : t_dg f p1.toInt.toNat k = k := by
      have := congrArg Int32.toInt heq
      omega
    refine y_iln (e_21 (304, .iload_n 2, 1) (List.mem_of_getElem? (i := 158) rfl)) g2 ?_
    refine y_st (e_21 (305, .iconst 3, 1) (List.mem_of_getElem? (i := 159) rfl)) ⟨rfl, rfl, rfl, rfl⟩ ?_
    refine y_icm (e_21 (306, .if_icmp .gt 9, 3) (List.mem_of_getElem? (i := 160) rfl)) rfl (fun hc => ?_) (fun hc => ?_)
    · have h3 := y_hI.2.2.2.2.2.2.2.2.2.2.1 hc
      rw [er, show (Int32.ofInt 3).toInt = 3 from rfl] at h3
      refine y_gst (a := pm_TB + 1) (e_21 (315, .getstatic 57, 3) (List.mem_of_getElem? (i := 163) rfl)) w_2_57 rfl ?_
      exact fin 1 (by decide) (t1 (fun z => by omega)).symm
    · have h3 := y_hI.2.2.2.2.2.2.2.2.2.2.2 hc
      rw [er, show (Int32.ofInt 3).toInt = 3 from rfl] at h3
      refine y_gst (a := pm_TB + 2) (e_21 (309, .getstatic 72, 3) (List.mem_of_getElem? (i := 161) rfl)) w_2_72 rfl ?_
      refine y_st (e_21 (312, .goto 6, 3) (List.mem_of_getElem? (i := 162) rfl)) ⟨rfl, rfl, rfl, rfl⟩ ?_
      exact fin 2 (by decide) (t2 ⟨heq, by omega⟩).symm
  refine y_iln (e_21 (271, .iload_n 1, 1) (List.mem_of_getElem? (i := 142) rfl)) g1 ?_
  refine y_ifc (e_21 (272, .ifCond .ne 26, 3) (List.mem_of_getElem? (i := 143) rfl)) rfl (fun hc => ?_) (fun hc => ?_)
  · have hne := y_hI.2.2.1 hc
    exact at298 (fun z => hne (Int32.toInt_inj.mp (by rw [hdg, z.1]; rfl)))
  have hd0 := y_hI.2.2.2.1 hc
  have hd0 : t_dg f p1.toInt.toNat k = 0 := by
    have : dg.toInt = 0 := by rw [hd0]; rfl
    omega
  refine y_iln (e_21 (275, .iload_n 2, 1) (List.mem_of_getElem? (i := 144) rfl)) g2 ?_
  refine y_st (e_21 (276, .bipush 7, 2) (List.mem_of_getElem? (i := 145) rfl)) ⟨rfl, rfl, rfl, rfl⟩ ?_
  refine y_icm (e_21 (278, .if_icmp .gt 20, 3) (List.mem_of_getElem? (i := 146) rfl)) rfl (fun hc => ?_) (fun hc => ?_)
  · have h7 := y_hI.2.2.2.2.2.2.2.2.2.2.1 hc
    rw [er, show ((Int8.ofInt 7).toInt32).toInt = 7 from rfl] at h7
    exact at298 (fun z => by omega)
  · have h7 := y_hI.2.2.2.2.2.2.2.2.2.2.2 hc
    rw [er, show ((Int8.ofInt 7).toInt32).toInt = 7 from rfl] at h7
    refine y_aln (e_21 (281, .aload_n 0, 1) (List.mem_of_getElem? (i := 147) rfl)) g0 ?_
    refine y_aln (e_21 (282, .aload_n 0, 1) (List.mem_of_getElem? (i := 148) rfl)) g0 ?_
    refine y_getf h.I h.t (e_21 (283, .getfield 40, 3) (List.mem_of_getElem? (i := 149) rfl)) u_2_40 ⟨rfl, rfl⟩ h.s7 ?_
    refine y_gst (a := pm_TB + 3) (e_21 (286, .getstatic 69, 3) (List.mem_of_getElem? (i := 150) rfl)) w_2_69 rfl ?_
    refine y_c2 (K' := _) (e_21 (289, .invokestatic 65, 3) (List.mem_of_getElem? (i := 151) rfl)) ⟨rfl, rfl, rfl⟩ t_2_65 ⟨by decide, by decide, by decide, by decide⟩ m_24_ok rfl (by decide) rfl (Nat.le_of_ble_eq_true rfl) (Nat.le_of_ble_eq_true rfl) (k_spelt (z := 3) _) (fun r1 Gc hc1 => ?_)
    obtain ⟨rfl, rfl⟩ := hc1
    simp only [Option.toList_some, Option.toList_none, List.cons_append, List.nil_append]
    refine y_putf (f := (3, 0, 0)) h.I h.t (e_21 (292, .putfield 31, 3) (List.mem_of_getElem? (i := 152) rfl)) u_2_31 ⟨rfl, rfl, by decide, rfl, rfl⟩ ⟨_, rfl, y_isT (t_spelt_lt (by decide))⟩ (fun Ga1 ua1 => ?_)
    have ha1 := h.u4 ua1 (t_spelt_lt (by decide))
    refine y_st (e_21 (295, .goto 26, 3) (List.mem_of_getElem? (i := 153) rfl)) ⟨rfl, rfl, rfl, rfl⟩ ?_
    refine y_ret (e_21 (321, .return_, 1) (List.mem_of_getElem? (i := 165) rfl)) ⟨rfl, rfl⟩ (hK _ _ (by rw [if_neg hk0]; exact hx) ?_)
    have : t_tk f p1.toInt.toNat k = t_spelt (t_nm f p1.toInt.toNat k) 3 := by
      unfold t_tk
      rw [if_neg hk0, if_pos ⟨hd0, by omega⟩]
    rw [this]
    exact ha1
set_option maxHeartbeats 2000000 in
set_option maxRecDepth 100000 in
theorem k_readToken (hn : n.toInt ≤ 940) (h : TC th tp b f G0 n lim nx tk pl num nm ft fp G) (v0 : 0 ≤ nx.toInt) (v1 : nx.toInt ≤ n.toInt) : x_Gd xs L J (d + 1) m_21 (fun r G' => r = none ∧ ∃ p1 : Int32, 0 ≤ p1.toInt ∧ t_End t_bl f n.toInt.toNat nx.toInt.toNat p1.toInt.toNat ∧ t_Tok th tp b f G0 n lim ft fp p1 num nm G') 0 (lv_args 0 [.ref tp]) [] G := by
  refine rt_skip (lv := lv_args 0 [.ref tp]) rfl hn (P0 := nx.toInt.toNat) (fun G v h w0 he => ?_) _ G nx h v0 v1 (Nat.le_refl _) (fun i h1 h2 => absurd h1 (by omega)) rfl
  have g0 : pm_get (lv_args 0 [.ref tp]) 0 = some (.ref tp) := rfl
  have w1 : v.toInt ≤ n.toInt := by
    have := he.2.1
    omega
  generalize lv_args 0 [.ref tp] = lv at g0 ⊢
  refine y_aln (e_21 (39, .aload_n 0, 1) (List.mem_of_getElem? (i := 19) rfl)) g0 ?_
  refine y_aln (e_21 (40, .aload_n 0, 1) (List.mem_of_getElem? (i := 20) rfl)) g0 ?_
  refine y_getf h.I h.t (e_21 (41, .getfield 22, 3) (List.mem_of_getElem? (i := 21) rfl)) u_2_22 ⟨rfl, rfl⟩ h.s3 ?_
  refine y_putf (f := (0, -2147483648, 2147483647)) h.I h.t (e_21 (44, .putfield 34, 3) (List.mem_of_getElem? (i := 22) rfl)) u_2_34 ⟨rfl, rfl, by decide, rfl, rfl⟩ ⟨_, rfl, (x_i32 _).1, (x_i32 _).2⟩ (fun Ga1 ua1 => ?_)
  have ha1 := h.u5 ua1
  have at85 : ¬ (lim.toInt < n.toInt ∧ lim.toInt ≤ v.toInt) → x_Gd xs L J (d + 1) m_21 (fun r G' => r = none ∧ ∃ p1 : Int32, 0 ≤ p1.toInt ∧ t_End t_bl f n.toInt.toNat nx.toInt.toNat p1.toInt.toNat ∧ t_Tok th tp b f G0 n lim ft fp p1 num nm G') 85 lv [] Ga1 := fun hno => by
    refine y_aln (e_21 (85, .aload_n 0, 1) (List.mem_of_getElem? (i := 41) rfl)) g0 ?_
    refine y_getf ha1.I ha1.t (e_21 (86, .getfield 22, 3) (List.mem_of_getElem? (i := 42) rfl)) u_2_22 ⟨rfl, rfl⟩ ha1.s3 ?_
    refine y_aln (e_21 (89, .aload_n 0, 1) (List.mem_of_getElem? (i := 43) rfl)) g0 ?_
    refine y_getf ha1.I ha1.t (e_21 (90, .getfield 15, 3) (List.mem_of_getElem? (i := 44) rfl)) u_2_15 ⟨rfl, rfl⟩ ha1.s1 ?_
    refine y_icm (e_21 (93, .if_icmp .lt 11, 3) (List.mem_of_getElem? (i := 45) rfl)) rfl (fun hc => ?_) (fun hc => ?_)
    rotate_left
    · have hge := y_hI.2.2.2.2.2.2.2.2.2.1 hc
      refine y_aln (e_21 (96, .aload_n 0, 1) (List.mem_of_getElem? (i := 46) rfl)) g0 ?_
      refine y_gst (a := pm_TB + 0) (e_21 (97, .getstatic 25, 3) (List.mem_of_getElem? (i := 47) rfl)) w_2_25 rfl ?_
      refine y_putf (f := (3, 0, 0)) ha1.I ha1.t (e_21 (100, .putfield 31, 3) (List.mem_of_getElem? (i := 48) rfl)) u_2_31 ⟨rfl, rfl, by decide, rfl, rfl⟩ ⟨_, rfl, y_isT (by decide)⟩ (fun Ga2 ua2 => ?_)
      have ha2 := ha1.u4 ua2 (by decide)
      exact y_ret (e_21 (103, .return_, 1) (List.mem_of_getElem? (i := 49) rfl)) ⟨rfl, rfl⟩ ⟨rfl, v, w0, he, Or.inr (Or.inl ⟨hno, by omega, ha2⟩)⟩
    · have hlt := y_hI.2.2.2.2.2.2.2.2.1 hc
      refine y_st (e_21 (104, .iconst 0, 1) (List.mem_of_getElem? (i := 50) rfl)) ⟨rfl, rfl, rfl, rfl⟩ ?_
      refine y_isn (e_21 (105, .istore_n 1, 1) (List.mem_of_getElem? (i := 51) rfl)) (by decide) ?_
      have g1 : pm_get (pm_put1 lv 1 (.int (Int32.ofInt 0))) 1 = some (.int (Int32.ofInt 0)) := x_get_self
      have g0 : pm_get (pm_put1 lv 1 (.int (Int32.ofInt 0))) 0 = some (.ref tp) := y_gpr g0 (by decide)
      refine y_aln (e_21 (106, .aload_n 0, 1) (List.mem_of_getElem? (i := 52) rfl)) g0 ?_
      refine y_st (e_21 (107, .iconst 0, 1) (List.mem_of_getElem? (i := 53) rfl)) ⟨rfl, rfl, rfl, rfl⟩ ?_
      refine y_putf (f := (0, -2147483648, 2147483647)) ha1.I ha1.t (e_21 (108, .putfield 37, 3) (List.mem_of_getElem? (i := 54) rfl)) u_2_37 ⟨rfl, rfl, by decide, rfl, rfl⟩ ⟨_, rfl, (x_i32 _).1, (x_i32 _).2⟩ (fun Ga2 ua2 => ?_)
      have ha2 := ha1.u6 ua2
      refine y_aln (e_21 (111, .aload_n 0, 1) (List.mem_of_getElem? (i := 55) rfl)) g0 ?_
      refine y_st (e_21 (112, .lconst 0, 1) (List.mem_of_getElem? (i := 56) rfl)) ⟨rfl, rfl, rfl, rfl⟩ ?_
      refine y_putf (f := (1, 0, 0)) ha2.I ha2.t (e_21 (113, .putfield 40, 3) (List.mem_of_getElem? (i := 57) rfl)) u_2_40 ⟨rfl, rfl, by decide, rfl, rfl⟩ ⟨_, rfl⟩ (fun Ga3 ua3 => ?_)
      have ha3 := ha2.u7 ua3
      refine rt_run hn (P1 := v.toInt.toNat) (fun k G' nx' dg lv' h' hx hdg hend g0 g1 => ?_) _ 0 _ v (Int32.ofInt 0) _ ha3 (by omega) rfl (by omega) (fun i h1 h2 => absurd h1 (by omega)) rfl g0 g1
      exact rt_end hn h' w0 (by omega) hlt hdg hend g0 g1 (fun G2 p2 e2 h2 => ⟨rfl, v, w0, he, Or.inr (Or.inr ⟨hno, hlt, k, p2, hend, e2, h2⟩)⟩)
  refine y_aln (e_21 (47, .aload_n 0, 1) (List.mem_of_getElem? (i := 23) rfl)) g0 ?_
  refine y_getf ha1.I ha1.t (e_21 (48, .getfield 15, 3) (List.mem_of_getElem? (i := 24) rfl)) u_2_15 ⟨rfl, rfl⟩ ha1.s1 ?_
  refine y_aln (e_21 (51, .aload_n 0, 1) (List.mem_of_getElem? (i := 25) rfl)) g0 ?_
  refine y_getf ha1.I ha1.t (e_21 (52, .getfield 19, 3) (List.mem_of_getElem? (i := 26) rfl)) u_2_19 ⟨rfl, rfl⟩ ha1.s2 ?_
  refine y_icm (e_21 (55, .if_icmp .le 30, 3) (List.mem_of_getElem? (i := 27) rfl)) rfl (fun hc => ?_) (fun hc => ?_)
  · have := y_hI.2.2.2.2.2.2.1 hc
    exact at85 (fun z => by omega)
  have c1 := y_hI.2.2.2.2.2.2.2.1 hc
  refine y_aln (e_21 (58, .aload_n 0, 1) (List.mem_of_getElem? (i := 28) rfl)) g0 ?_
  refine y_getf ha1.I ha1.t (e_21 (59, .getfield 22, 3) (List.mem_of_getElem? (i := 29) rfl)) u_2_22 ⟨rfl, rfl⟩ ha1.s3 ?_
  refine y_aln (e_21 (62, .aload_n 0, 1) (List.mem_of_getElem? (i := 30) rfl)) g0 ?_
  refine y_getf ha1.I ha1.t (e_21 (63, .getfield 19, 3) (List.mem_of_getElem? (i := 31) rfl)) u_2_19 ⟨rfl, rfl⟩ ha1.s2 ?_
  refine y_icm (e_21 (66, .if_icmp .lt 19, 3) (List.mem_of_getElem? (i := 32) rfl)) rfl (fun hc => ?_) (fun hc => ?_)
  · have := y_hI.2.2.2.2.2.2.2.2.1 hc
    exact at85 (fun z => by omega)
  · have c2 := y_hI.2.2.2.2.2.2.2.2.2.1 hc
    refine y_aln (e_21 (69, .aload_n 0, 1) (List.mem_of_getElem? (i := 33) rfl)) g0 ?_
    refine y_aln (e_21 (70, .aload_n 0, 1) (List.mem_of_getElem? (i := 34) rfl)) g0 ?_
    refine y_getf ha1.I ha1.t (e_21 (71, .getfield 19, 3) (List.mem_of_getElem? (i := 35) rfl)) u_2_19 ⟨rfl, rfl⟩ ha1.s2 ?_
    refine y_putf (f := (0, -2147483648, 2147483647)) ha1.I ha1.t (e_21 (74, .putfield 34, 3) (List.mem_of_getElem? (i := 36) rfl)) u_2_34 ⟨rfl, rfl, by decide, rfl, rfl⟩ ⟨_, rfl, (x_i32 _).1, (x_i32 _).2⟩ (fun Ga2 ua2 => ?_)
    have ha2 := ha1.u5 ua2
    refine y_aln (e_21 (77, .aload_n 0, 1) (List.mem_of_getElem? (i := 37) rfl)) g0 ?_
    refine y_gst (a := pm_TB + 1) (e_21 (78, .getstatic 57, 3) (List.mem_of_getElem? (i := 38) rfl)) w_2_57 rfl ?_
    refine y_putf (f := (3, 0, 0)) ha2.I ha2.t (e_21 (81, .putfield 31, 3) (List.mem_of_getElem? (i := 39) rfl)) u_2_31 ⟨rfl, rfl, by decide, rfl, rfl⟩ ⟨_, rfl, y_isT (by decide)⟩ (fun Ga3 ua3 => ?_)
    have ha3 := ha2.u4 ua3 (by decide)
    exact y_ret (e_21 (84, .return_, 1) (List.mem_of_getElem? (i := 40) rfl)) ⟨rfl, rfl⟩ ⟨rfl, v, w0, he, Or.inl ⟨by omega, by omega, ha3⟩⟩
end TK5
