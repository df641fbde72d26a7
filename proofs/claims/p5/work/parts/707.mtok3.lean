def t_wd (f : Nat → Int32) (p : Nat) : Nat → Int64
  | 0 => Int64.ofNat 0
  | k + 1 => if k < 7 then (t_wd f p k <<< (((Int8.ofInt 8).toInt32 &&& 63).toInt64)) ||| (f (p + k) &&& 255).toInt64 else t_wd f p k
def t_mn (f : Nat → Int32) (p : Nat) : Nat → Int32
  | 0 => Int32.ofInt 0
  | k + 1 => if k < 3 then (Int8.ofInt 10).toInt32 * t_mn f p k + (f (p + k) &&& 255) - (Int8.ofInt 48).toInt32 else t_mn f p k
def t_al (f : Nat → Int32) (p : Nat) : Nat → Bool
  | 0 => true
  | k + 1 => t_al f p k && (t_le (f (p + k)) == t_le (f p))
section TM3
variable {th : List Nat} {xs : Nat → Int32} {L J d am mb : Nat} {K : Option Value → List pE → Prop} {f : Nat → Int32} {G0 G G1 : List pE} {n lim p tok at9 sp num : Int32} {wd : Int64} {lv : pL}
set_option maxHeartbeats 2000000 in
set_option maxRecDepth 100000 in
theorem nx_run (hn : n.toInt ≤ 940) {P1 : Nat} (hK : ∀ (k : Nat) (G : List pE) (p sp : Int32) (lv : pL), TM th am mb f G0 n lim p tok at9 sp (t_mn f P1 k) (t_wd f P1 k) G → p.toInt = P1 + k → sp.toInt = k → t_End t_ld f n.toInt.toNat P1 (P1 + k) → pm_get lv 0 = some (.ref am) → pm_get lv 2 = some (.int (if t_le (f P1) then 1 else 0)) → pm_get lv 3 = some (.int (if t_al f P1 k then 1 else 0)) → x_Gd xs L J (d + 1) m_163 K 298 lv [] G) : ∀ (m k : Nat) (G : List pE) (p sp : Int32) (lv : pL), TM th am mb f G0 n lim p tok at9 sp (t_mn f P1 k) (t_wd f P1 k) G → p.toInt = P1 + k → sp.toInt = k → p.toInt ≤ n.toInt → (∀ i, P1 ≤ i → i < P1 + k → t_ld (f i) = true) → (n.toInt - p.toInt).toNat ≤ m → pm_get lv 0 = some (.ref am) → pm_get lv 2 = some (.int (if t_le (f P1) then 1 else 0)) → pm_get lv 3 = some (.int (if t_al f P1 k then 1 else 0)) → x_Gd xs L J (d + 1) m_163 K 181 lv [] G := by
  intro m
  induction m with
  | zero =>
    intro k G p sp lv h hp hs v1 hb hm g0 g2 g3
    have v0 : 0 ≤ p.toInt := by omega
    have hpk : t_pk f n p = Int32.ofInt (-1) := by unfold t_pk; rw [if_neg (by omega)]
    refine y_aln (e_163 (181, .aload_n 0, 1) (List.mem_of_getElem? (i := 96) rfl)) g0 ?_
    refine y_c1 (K' := _) (e_163 (182, .invokevirtual 131, 3) (List.mem_of_getElem? (i := 97) rfl)) ⟨rfl, rfl, rfl⟩ t_17_131 ⟨by decide, by decide, by decide, by decide⟩ m_164_ok rfl (by decide) (y_recv h.I h.t ⟨rfl, rfl⟩) (Nat.le_of_ble_eq_true rfl) (Nat.le_of_ble_eq_true rfl) (k_peek h v0 hn) (fun r1 Gc hc1 => ?_)
    obtain ⟨rfl, rfl⟩ := hc1
    simp only [Option.toList_some, Option.toList_none, List.cons_append, List.nil_append]
    refine y_c1 (K' := _) (e_163 (185, .invokestatic 144, 3) (List.mem_of_getElem? (i := 98) rfl)) ⟨rfl, rfl, rfl⟩ t_17_144 ⟨by decide, by decide, by decide, by decide⟩ m_165_ok rfl (by decide) rfl (Nat.le_of_ble_eq_true rfl) (Nat.le_of_ble_eq_true rfl) (k_isSmall _) (fun r1 Gc hc1 => ?_)
    obtain ⟨rfl, rfl⟩ := hc1
    simp only [Option.toList_some, Option.toList_none, List.cons_append, List.nil_append]
    rw [hpk]
    refine y_ifc (e_163 (188, .ifCond .ne 13, 3) (List.mem_of_getElem? (i := 99) rfl)) rfl (fun hc => absurd hc (by decide)) (fun hc => ?_)
    refine y_aln (e_163 (191, .aload_n 0, 1) (List.mem_of_getElem? (i := 100) rfl)) g0 ?_
    refine y_c1 (K' := _) (e_163 (192, .invokevirtual 131, 3) (List.mem_of_getElem? (i := 101) rfl)) ⟨rfl, rfl, rfl⟩ t_17_131 ⟨by decide, by decide, by decide, by decide⟩ m_164_ok rfl (by decide) (y_recv h.I h.t ⟨rfl, rfl⟩) (Nat.le_of_ble_eq_true rfl) (Nat.le_of_ble_eq_true rfl) (k_peek h v0 hn) (fun r1 Gc hc1 => ?_)
    obtain ⟨rfl, rfl⟩ := hc1
    simp only [Option.toList_some, Option.toList_none, List.cons_append, List.nil_append]
    refine y_c1 (K' := _) (e_163 (195, .invokestatic 148, 3) (List.mem_of_getElem? (i := 102) rfl)) ⟨rfl, rfl, rfl⟩ t_17_148 ⟨by decide, by decide, by decide, by decide⟩ m_166_ok rfl (by decide) rfl (Nat.le_of_ble_eq_true rfl) (Nat.le_of_ble_eq_true rfl) (k_isDigit _) (fun r1 Gc hc1 => ?_)
    obtain ⟨rfl, rfl⟩ := hc1
    simp only [Option.toList_some, Option.toList_none, List.cons_append, List.nil_append]
    rw [hpk]
    refine y_ifc (e_163 (198, .ifCond .eq 100, 3) (List.mem_of_getElem? (i := 103) rfl)) rfl (fun hc => ?_) (fun hc => absurd hc (by decide))
    exact hK k _ p sp lv h hp hs ⟨by omega, by omega, hb, fun z => by omega⟩ g0 g2 g3
  | succ m ih =>
    intro k G p sp lv h hp hs v1 hb hm g0 g2 g3
    have v0 : 0 ≤ p.toInt := by omega
    have hpn : p.toInt.toNat = P1 + k := by omega
    by_cases hlt : p.toInt < n.toInt
    rotate_left
    · have hpk : t_pk f n p = Int32.ofInt (-1) := by unfold t_pk; rw [if_neg (by omega)]
      refine y_aln (e_163 (181, .aload_n 0, 1) (List.mem_of_getElem? (i := 96) rfl)) g0 ?_
      refine y_c1 (K' := _) (e_163 (182, .invokevirtual 131, 3) (List.mem_of_getElem? (i := 97) rfl)) ⟨rfl, rfl, rfl⟩ t_17_131 ⟨by decide, by decide, by decide, by decide⟩ m_164_ok rfl (by decide) (y_recv h.I h.t ⟨rfl, rfl⟩) (Nat.le_of_ble_eq_true rfl) (Nat.le_of_ble_eq_true rfl) (k_peek h v0 hn) (fun r1 Gc hc1 => ?_)
      obtain ⟨rfl, rfl⟩ := hc1
      simp only [Option.toList_some, Option.toList_none, List.cons_append, List.nil_append]
      refine y_c1 (K' := _) (e_163 (185, .invokestatic 144, 3) (List.mem_of_getElem? (i := 98) rfl)) ⟨rfl, rfl, rfl⟩ t_17_144 ⟨by decide, by decide, by decide, by decide⟩ m_165_ok rfl (by decide) rfl (Nat.le_of_ble_eq_true rfl) (Nat.le_of_ble_eq_true rfl) (k_isSmall _) (fun r1 Gc hc1 => ?_)
      obtain ⟨rfl, rfl⟩ := hc1
      simp only [Option.toList_some, Option.toList_none, List.cons_append, List.nil_append]
      rw [hpk]
      refine y_ifc (e_163 (188, .ifCond .ne 13, 3) (List.mem_of_getElem? (i := 99) rfl)) rfl (fun hc => absurd hc (by decide)) (fun hc => ?_)
      refine y_aln (e_163 (191, .aload_n 0, 1) (List.mem_of_getElem? (i := 100) rfl)) g0 ?_
      refine y_c1 (K' := _) (e_163 (192, .invokevirtual 131, 3) (List.mem_of_getElem? (i := 101) rfl)) ⟨rfl, rfl, rfl⟩ t_17_131 ⟨by decide, by decide, by decide, by decide⟩ m_164_ok rfl (by decide) (y_recv h.I h.t ⟨rfl, rfl⟩) (Nat.le_of_ble_eq_true rfl) (Nat.le_of_ble_eq_true rfl) (k_peek h v0 hn) (fun r1 Gc hc1 => ?_)
      obtain ⟨rfl, rfl⟩ := hc1
      simp only [Option.toList_some, Option.toList_none, List.cons_append, List.nil_append]
      refine y_c1 (K' := _) (e_163 (195, .invokestatic 148, 3) (List.mem_of_getElem? (i := 102) rfl)) ⟨rfl, rfl, rfl⟩ t_17_148 ⟨by decide, by decide, by decide, by decide⟩ m_166_ok rfl (by decide) rfl (Nat.le_of_ble_eq_true rfl) (Nat.le_of_ble_eq_true rfl) (k_isDigit _) (fun r1 Gc hc1 => ?_)
      obtain ⟨rfl, rfl⟩ := hc1
      simp only [Option.toList_some, Option.toList_none, List.cons_append, List.nil_append]
      rw [hpk]
      refine y_ifc (e_163 (198, .ifCond .eq 100, 3) (List.mem_of_getElem? (i := 103) rfl)) rfl (fun hc => ?_) (fun hc => absurd hc (by decide))
      exact hK k _ p sp lv h hp hs ⟨by omega, by omega, hb, fun z => by omega⟩ g0 g2 g3
    have hpk : t_pk f n p = f (P1 + k) &&& 255 := by unfold t_pk; rw [if_pos hlt, hpn]; rfl
    have hfb := h.fb (i := P1 + k) (by omega)
    have esp : (sp + Int32.ofInt 1).toInt = sp.toInt + 1 := y_add1 (t := sp) (by omega)
    have ep : (p + Int32.ofInt 1).toInt = p.toInt + 1 := y_add1 (t := p) (by omega)
    have at201 : t_ld (f (P1 + k)) = true → x_Gd xs L J (d + 1) m_163 K 201 lv [] G := fun hbl => by
      have at222 : x_Gd xs L J (d + 1) m_163 K 222 (pm_put1 lv 3 (.int (if t_al f P1 (k + 1) then 1 else 0))) [] G := by
        have g0 : pm_get (pm_put1 lv 3 (.int (if t_al f P1 (k + 1) then 1 else 0))) 0 = some (.ref am) := y_gpr g0 (by decide)
        have g2 : pm_get (pm_put1 lv 3 (.int (if t_al f P1 (k + 1) then 1 else 0))) 2 = some (.int (if t_le (f P1) then 1 else 0)) := y_gpi g2 (by decide)
        have g3 : pm_get (pm_put1 lv 3 (.int (if t_al f P1 (k + 1) then 1 else 0))) 3 = some (.int (if t_al f P1 (k + 1) then 1 else 0)) := x_get_self
        generalize pm_put1 lv 3 (.int (if t_al f P1 (k + 1) then 1 else 0)) = lv3 at g0 g2 g3 ⊢
        have at275 : ∀ G, TM th am mb f G0 n lim p tok at9 sp (t_mn f P1 (k + 1)) (t_wd f P1 (k + 1)) G → x_Gd xs L J (d + 1) m_163 K 275 lv3 [] G := fun G h => by
          refine y_aln (e_163 (275, .aload_n 0, 1) (List.mem_of_getElem? (i := 144) rfl)) g0 ?_
          refine y_st (e_163 (276, .dup, 1) (List.mem_of_getElem? (i := 145) rfl)) ⟨rfl, rfl, rfl, rfl⟩ ?_
          refine y_getf h.I h.t (e_163 (277, .getfield 138, 3) (List.mem_of_getElem? (i := 146) rfl)) u_17_138 ⟨rfl, rfl⟩ h.s13 ?_
          refine y_st (e_163 (280, .iconst 1, 1) (List.mem_of_getElem? (i := 147) rfl)) ⟨rfl, rfl, rfl, rfl⟩ ?_
          refine y_st (e_163 (281, .iadd, 1) (List.mem_of_getElem? (i := 148) rfl)) ⟨rfl, rfl, rfl, rfl⟩ ?_
          refine y_putf (f := (0, -2147483648, 2147483647)) h.I h.t (e_163 (282, .putfield 138, 3) (List.mem_of_getElem? (i := 149) rfl)) u_17_138 ⟨rfl, rfl, by decide, rfl, rfl⟩ ⟨_, rfl, (x_i32 _).1, (x_i32 _).2⟩ (fun Ga1 ua1 => ?_)
          have ha1 := h.u13 ua1
          refine y_aln (e_163 (285, .aload_n 0, 1) (List.mem_of_getElem? (i := 150) rfl)) g0 ?_
          refine y_st (e_163 (286, .dup, 1) (List.mem_of_getElem? (i := 151) rfl)) ⟨rfl, rfl, rfl, rfl⟩ ?_
          refine y_getf ha1.I ha1.t (e_163 (287, .getfield 21, 3) (List.mem_of_getElem? (i := 152) rfl)) u_17_21 ⟨rfl, rfl⟩ ha1.s4 ?_
          refine y_st (e_163 (290, .iconst 1, 1) (List.mem_of_getElem? (i := 153) rfl)) ⟨rfl, rfl, rfl, rfl⟩ ?_
          refine y_st (e_163 (291, .iadd, 1) (List.mem_of_getElem? (i := 154) rfl)) ⟨rfl, rfl, rfl, rfl⟩ ?_
          refine y_putf (f := (0, 0, 940)) ha1.I ha1.t (e_163 (292, .putfield 21, 3) (List.mem_of_getElem? (i := 155) rfl)) u_17_21 ⟨rfl, rfl, by decide, rfl, rfl⟩ ⟨_, rfl, by show (0 : Int) ≤ _; omega, by show _ ≤ (940 : Int); omega⟩ (fun Ga2 ua2 => ?_)
          have ha2 := ha1.u4 ua2 ⟨by omega, by omega⟩
          refine y_st (e_163 (295, .goto (-114), 3) (List.mem_of_getElem? (i := 156) rfl)) ⟨rfl, rfl, rfl, rfl⟩ ?_
          refine ih (k + 1) _ _ _ lv3 ha2 (by omega) (by omega) (by omega) (fun i h1 h2 => ?_) (by omega) g0 g2 g3
          by_cases hi : i = P1 + k
          · rw [hi]; exact hbl
          · exact hb i h1 (by omega)
        have at248 : ∀ G, TM th am mb f G0 n lim p tok at9 sp (t_mn f P1 k) (t_wd f P1 (k + 1)) G → x_Gd xs L J (d + 1) m_163 K 248 lv3 [] G := fun G h => by
          refine y_aln (e_163 (248, .aload_n 0, 1) (List.mem_of_getElem? (i := 129) rfl)) g0 ?_
          refine y_getf h.I h.t (e_163 (249, .getfield 138, 3) (List.mem_of_getElem? (i := 130) rfl)) u_17_138 ⟨rfl, rfl⟩ h.s13 ?_
          refine y_st (e_163 (252, .iconst 3, 1) (List.mem_of_getElem? (i := 131) rfl)) ⟨rfl, rfl, rfl, rfl⟩ ?_
          refine y_icm (e_163 (253, .if_icmp .ge 22, 3) (List.mem_of_getElem? (i := 132) rfl)) rfl (fun hc => ?_) (fun hc => ?_)
          · have hc := y_hI.2.2.2.2.1 hc
            rw [show (Int32.ofInt 3).toInt = 3 from rfl] at hc
            refine at275 _ ?_
            have : t_mn f P1 (k + 1) = t_mn f P1 k := by rw [t_mn, if_neg (by omega)]
            rw [this]
            exact h
          · have hc := y_hI.2.2.2.2.2.1 hc
            rw [show (Int32.ofInt 3).toInt = 3 from rfl] at hc
            refine y_aln (e_163 (256, .aload_n 0, 1) (List.mem_of_getElem? (i := 133) rfl)) g0 ?_
            refine y_st (e_163 (257, .bipush 10, 2) (List.mem_of_getElem? (i := 134) rfl)) ⟨rfl, rfl, rfl, rfl⟩ ?_
            refine y_aln (e_163 (259, .aload_n 0, 1) (List.mem_of_getElem? (i := 135) rfl)) g0 ?_
            refine y_getf h.I h.t (e_163 (260, .getfield 151, 3) (List.mem_of_getElem? (i := 136) rfl)) u_17_151 ⟨rfl, rfl⟩ h.s14 ?_
            refine y_st (e_163 (263, .imul, 1) (List.mem_of_getElem? (i := 137) rfl)) ⟨rfl, rfl, rfl, rfl⟩ ?_
            refine y_aln (e_163 (264, .aload_n 0, 1) (List.mem_of_getElem? (i := 138) rfl)) g0 ?_
            refine y_c1 (K' := _) (e_163 (265, .invokevirtual 131, 3) (List.mem_of_getElem? (i := 139) rfl)) ⟨rfl, rfl, rfl⟩ t_17_131 ⟨by decide, by decide, by decide, by decide⟩ m_164_ok rfl (by decide) (y_recv h.I h.t ⟨rfl, rfl⟩) (Nat.le_of_ble_eq_true rfl) (Nat.le_of_ble_eq_true rfl) (k_peek h v0 hn) (fun r1 Gc hc1 => ?_)
            obtain ⟨rfl, rfl⟩ := hc1
            simp only [Option.toList_some, Option.toList_none, List.cons_append, List.nil_append]
            rw [hpk]
            refine y_st (e_163 (268, .iadd, 1) (List.mem_of_getElem? (i := 140) rfl)) ⟨rfl, rfl, rfl, rfl⟩ ?_
            refine y_st (e_163 (269, .bipush 48, 2) (List.mem_of_getElem? (i := 141) rfl)) ⟨rfl, rfl, rfl, rfl⟩ ?_
            refine y_st (e_163 (271, .isub, 1) (List.mem_of_getElem? (i := 142) rfl)) ⟨rfl, rfl, rfl, rfl⟩ ?_
            refine y_putf (f := (0, -2147483648, 2147483647)) h.I h.t (e_163 (272, .putfield 151, 3) (List.mem_of_getElem? (i := 143) rfl)) u_17_151 ⟨rfl, rfl, by decide, rfl, rfl⟩ ⟨_, rfl, (x_i32 _).1, (x_i32 _).2⟩ (fun Ga1 ua1 => ?_)
            have ha1 := h.u14 ua1
            refine at275 _ ?_
            have : t_mn f P1 (k + 1) = (Int8.ofInt 10).toInt32 * t_mn f P1 k + (f (P1 + k) &&& 255) - (Int8.ofInt 48).toInt32 := by rw [t_mn, if_pos (by omega)]
            rw [this]
            exact ha1
        refine y_aln (e_163 (222, .aload_n 0, 1) (List.mem_of_getElem? (i := 115) rfl)) g0 ?_
        refine y_getf h.I h.t (e_163 (223, .getfield 138, 3) (List.mem_of_getElem? (i := 116) rfl)) u_17_138 ⟨rfl, rfl⟩ h.s13 ?_
        refine y_st (e_163 (226, .bipush 7, 2) (List.mem_of_getElem? (i := 117) rfl)) ⟨rfl, rfl, rfl, rfl⟩ ?_
        refine y_icm (e_163 (228, .if_icmp .ge 20, 3) (List.mem_of_getElem? (i := 118) rfl)) rfl (fun hc => ?_) (fun hc => ?_)
        · have hc := y_hI.2.2.2.2.1 hc
          rw [show ((Int8.ofInt 7).toInt32).toInt = 7 from rfl] at hc
          refine at248 _ ?_
          have : t_wd f P1 (k + 1) = t_wd f P1 k := by rw [t_wd, if_neg (by omega)]
          rw [this]
          exact h
        · have hc := y_hI.2.2.2.2.2.1 hc
          rw [show ((Int8.ofInt 7).toInt32).toInt = 7 from rfl] at hc
          refine y_aln (e_163 (231, .aload_n 0, 1) (List.mem_of_getElem? (i := 119) rfl)) g0 ?_
          refine y_aln (e_163 (232, .aload_n 0, 1) (List.mem_of_getElem? (i := 120) rfl)) g0 ?_
          refine y_getf h.I h.t (e_163 (233, .getfield 154, 3) (List.mem_of_getElem? (i := 121) rfl)) u_17_154 ⟨rfl, rfl⟩ h.s17 ?_
          refine y_st (e_163 (236, .bipush 8, 2) (List.mem_of_getElem? (i := 122) rfl)) ⟨rfl, rfl, rfl, rfl⟩ ?_
          refine y_st (e_163 (238, .lshl, 1) (List.mem_of_getElem? (i := 123) rfl)) ⟨rfl, rfl, rfl, rfl⟩ ?_
          refine y_aln (e_163 (239, .aload_n 0, 1) (List.mem_of_getElem? (i := 124) rfl)) g0 ?_
          refine y_c1 (K' := _) (e_163 (240, .invokevirtual 131, 3) (List.mem_of_getElem? (i := 125) rfl)) ⟨rfl, rfl, rfl⟩ t_17_131 ⟨by decide, by decide, by decide, by decide⟩ m_164_ok rfl (by decide) (y_recv h.I h.t ⟨rfl, rfl⟩) (Nat.le_of_ble_eq_true rfl) (Nat.le_of_ble_eq_true rfl) (k_peek h v0 hn) (fun r1 Gc hc1 => ?_)
          obtain ⟨rfl, rfl⟩ := hc1
          simp only [Option.toList_some, Option.toList_none, List.cons_append, List.nil_append]
          rw [hpk]
          refine y_st (e_163 (243, .i2l, 1) (List.mem_of_getElem? (i := 126) rfl)) ⟨rfl, rfl, rfl, rfl⟩ ?_
          refine y_st (e_163 (244, .lor, 1) (List.mem_of_getElem? (i := 127) rfl)) ⟨rfl, rfl, rfl, rfl⟩ ?_
          refine y_putf (f := (1, 0, 0)) h.I h.t (e_163 (245, .putfield 154, 3) (List.mem_of_getElem? (i := 128) rfl)) u_17_154 ⟨rfl, rfl, by decide, rfl, rfl⟩ ⟨_, rfl⟩ (fun Ga1 ua1 => ?_)
          have ha1 := h.u17 ua1
          refine at248 _ ?_
          have : t_wd f P1 (k + 1) = (t_wd f P1 k <<< (((Int8.ofInt 8).toInt32 &&& 63).toInt64)) ||| (f (P1 + k) &&& 255).toInt64 := by rw [t_wd, if_pos (by omega)]
          rw [this]
          exact ha1
      refine y_iln (e_163 (201, .iload_n 3, 1) (List.mem_of_getElem? (i := 104) rfl)) g3 ?_
      cases hal : t_al f P1 k
      · have e : (if t_al f P1 (k + 1) then (1 : Int32) else 0) = Int32.ofInt 0 := by rw [t_al, hal]; rfl
        rw [e] at at222
        refine y_ifc (e_163 (202, .ifCond .eq 18, 3) (List.mem_of_getElem? (i := 105) rfl)) rfl (fun hc => ?_) (fun hc => absurd hc (by decide))
        refine y_st (e_163 (220, .iconst 0, 1) (List.mem_of_getElem? (i := 113) rfl)) ⟨rfl, rfl, rfl, rfl⟩ ?_
        refine y_isn (e_163 (221, .istore_n 3, 1) (List.mem_of_getElem? (i := 114) rfl)) (by decide) ?_
        exact at222
      · refine y_ifc (e_163 (202, .ifCond .eq 18, 3) (List.mem_of_getElem? (i := 105) rfl)) rfl (fun hc => absurd hc (by decide)) (fun hc => ?_)
        refine y_aln (e_163 (205, .aload_n 0, 1) (List.mem_of_getElem? (i := 106) rfl)) g0 ?_
        refine y_c1 (K' := _) (e_163 (206, .invokevirtual 131, 3) (List.mem_of_getElem? (i := 107) rfl)) ⟨rfl, rfl, rfl⟩ t_17_131 ⟨by decide, by decide, by decide, by decide⟩ m_164_ok rfl (by decide) (y_recv h.I h.t ⟨rfl, rfl⟩) (Nat.le_of_ble_eq_true rfl) (Nat.le_of_ble_eq_true rfl) (k_peek h v0 hn) (fun r1 Gc hc1 => ?_)
        obtain ⟨rfl, rfl⟩ := hc1
        simp only [Option.toList_some, Option.toList_none, List.cons_append, List.nil_append]
        refine y_c1 (K' := _) (e_163 (209, .invokestatic 144, 3) (List.mem_of_getElem? (i := 108) rfl)) ⟨rfl, rfl, rfl⟩ t_17_144 ⟨by decide, by decide, by decide, by decide⟩ m_165_ok rfl (by decide) rfl (Nat.le_of_ble_eq_true rfl) (Nat.le_of_ble_eq_true rfl) (k_isSmall _) (fun r1 Gc hc1 => ?_)
        obtain ⟨rfl, rfl⟩ := hc1
        simp only [Option.toList_some, Option.toList_none, List.cons_append, List.nil_append]
        rw [hpk, t_le_255 hfb]
        refine y_iln (e_163 (212, .iload_n 2, 1) (List.mem_of_getElem? (i := 109) rfl)) g2 ?_
        refine y_icm (e_163 (213, .if_icmp .ne 7, 3) (List.mem_of_getElem? (i := 110) rfl)) rfl (fun hc => ?_) (fun hc => ?_)
        · have hne := y_hI.2.2.1 hc
          have e : (if t_al f P1 (k + 1) then (1 : Int32) else 0) = Int32.ofInt 0 := by
            rw [t_al, hal]
            cases h1 : t_le (f (P1 + k)) <;> cases h2 : t_le (f P1) <;> rw [h1, h2] at hne <;> first | rfl | exact absurd rfl hne
          rw [e] at at222
          refine y_st (e_163 (220, .iconst 0, 1) (List.mem_of_getElem? (i := 113) rfl)) ⟨rfl, rfl, rfl, rfl⟩ ?_
          refine y_isn (e_163 (221, .istore_n 3, 1) (List.mem_of_getElem? (i := 114) rfl)) (by decide) ?_
          exact at222
        · have heq := y_hI.2.2.2.1 hc
          have e : (if t_al f P1 (k + 1) then (1 : Int32) else 0) = Int32.ofInt 1 := by
            rw [t_al, hal]
            cases h1 : t_le (f (P1 + k)) <;> cases h2 : t_le (f P1) <;> rw [h1, h2] at heq <;> first | rfl | exact absurd heq (by decide)
          rw [e] at at222
          refine y_st (e_163 (216, .iconst 1, 1) (List.mem_of_getElem? (i := 111) rfl)) ⟨rfl, rfl, rfl, rfl⟩ ?_
          refine y_st (e_163 (217, .goto 4, 3) (List.mem_of_getElem? (i := 112) rfl)) ⟨rfl, rfl, rfl, rfl⟩ ?_
          refine y_isn (e_163 (221, .istore_n 3, 1) (List.mem_of_getElem? (i := 114) rfl)) (by decide) ?_
          exact at222
    refine y_aln (e_163 (181, .aload_n 0, 1) (List.mem_of_getElem? (i := 96) rfl)) g0 ?_
    refine y_c1 (K' := _) (e_163 (182, .invokevirtual 131, 3) (List.mem_of_getElem? (i := 97) rfl)) ⟨rfl, rfl, rfl⟩ t_17_131 ⟨by decide, by decide, by decide, by decide⟩ m_164_ok rfl (by decide) (y_recv h.I h.t ⟨rfl, rfl⟩) (Nat.le_of_ble_eq_true rfl) (Nat.le_of_ble_eq_true rfl) (k_peek h v0 hn) (fun r1 Gc hc1 => ?_)
    obtain ⟨rfl, rfl⟩ := hc1
    simp only [Option.toList_some, Option.toList_none, List.cons_append, List.nil_append]
    refine y_c1 (K' := _) (e_163 (185, .invokestatic 144, 3) (List.mem_of_getElem? (i := 98) rfl)) ⟨rfl, rfl, rfl⟩ t_17_144 ⟨by decide, by decide, by decide, by decide⟩ m_165_ok rfl (by decide) rfl (Nat.le_of_ble_eq_true rfl) (Nat.le_of_ble_eq_true rfl) (k_isSmall _) (fun r1 Gc hc1 => ?_)
    obtain ⟨rfl, rfl⟩ := hc1
    simp only [Option.toList_some, Option.toList_none, List.cons_append, List.nil_append]
    rw [hpk, t_le_255 hfb]
    cases hle : t_le (f (P1 + k))
    rotate_left
    · refine y_ifc (e_163 (188, .ifCond .ne 13, 3) (List.mem_of_getElem? (i := 99) rfl)) rfl (fun hc => at201 (by unfold t_ld; rw [hle]; rfl)) (fun hc => absurd hc (by decide))
    refine y_ifc (e_163 (188, .ifCond .ne 13, 3) (List.mem_of_getElem? (i := 99) rfl)) rfl (fun hc => absurd hc (by decide)) (fun hc => ?_)
    refine y_aln (e_163 (191, .aload_n 0, 1) (List.mem_of_getElem? (i := 100) rfl)) g0 ?_
    refine y_c1 (K' := _) (e_163 (192, .invokevirtual 131, 3) (List.mem_of_getElem? (i := 101) rfl)) ⟨rfl, rfl, rfl⟩ t_17_131 ⟨by decide, by decide, by decide, by decide⟩ m_164_ok rfl (by decide) (y_recv h.I h.t ⟨rfl, rfl⟩) (Nat.le_of_ble_eq_true rfl) (Nat.le_of_ble_eq_true rfl) (k_peek h v0 hn) (fun r1 Gc hc1 => ?_)
    obtain ⟨rfl, rfl⟩ := hc1
    simp only [Option.toList_some, Option.toList_none, List.cons_append, List.nil_append]
    refine y_c1 (K' := _) (e_163 (195, .invokestatic 148, 3) (List.mem_of_getElem? (i := 102) rfl)) ⟨rfl, rfl, rfl⟩ t_17_148 ⟨by decide, by decide, by decide, by decide⟩ m_166_ok rfl (by decide) rfl (Nat.le_of_ble_eq_true rfl) (Nat.le_of_ble_eq_true rfl) (k_isDigit _) (fun r1 Gc hc1 => ?_)
    obtain ⟨rfl, rfl⟩ := hc1
    simp only [Option.toList_some, Option.toList_none, List.cons_append, List.nil_append]
    rw [hpk, t_di_255 hfb]
    cases hdi : t_di (f (P1 + k))
    · refine y_ifc (e_163 (198, .ifCond .eq 100, 3) (List.mem_of_getElem? (i := 103) rfl)) rfl (fun hc => ?_) (fun hc => absurd hc (by decide))
      exact hK k _ p sp lv h hp hs ⟨by omega, by omega, hb, fun _ => by unfold t_ld; rw [hle, hdi]; rfl⟩ g0 g2 g3
    · refine y_ifc (e_163 (198, .ifCond .eq 100, 3) (List.mem_of_getElem? (i := 103) rfl)) rfl (fun hc => absurd hc (by decide)) (fun hc => ?_)
      exact at201 (by unfold t_ld; rw [hle, hdi]; rfl)
end TM3
