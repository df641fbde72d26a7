/-- which token a run of k signs from p on is to the model -/
def t_mt (f : Nat → Int32) (p k : Nat) : Int32 := if t_al f p k = true ∧ k ≤ (if t_le (f p) then 7 else 3) then (if t_le (f p) then Int32.ofInt 1 else Int32.ofInt 2) else Int32.ofInt 4
def t_sg (c : Int32) : Bool := decide (c.toInt = 59) || decide (c.toInt = 40) || decide (c.toInt = 41) || (decide (60 ≤ c.toInt) && decide (c.toInt ≤ 62))
def t_MTok (th : List Nat) (am mb : Nat) (f : Nat → Int32) (G0 : List pE) (n lim p1 num : Int32) (wd : Int64) (G' : List pE) : Prop :=
  (lim.toInt < n.toInt ∧ lim.toInt ≤ p1.toInt ∧ TM th am mb f G0 n lim p1 (Int32.ofInt 4) lim (Int32.ofInt 0) num wd G') ∨
  (¬ (lim.toInt < n.toInt ∧ lim.toInt ≤ p1.toInt) ∧ n.toInt ≤ p1.toInt ∧ TM th am mb f G0 n lim p1 (Int32.ofInt 0) p1 (Int32.ofInt 0) num wd G') ∨
  (¬ (lim.toInt < n.toInt ∧ lim.toInt ≤ p1.toInt) ∧ p1.toInt < n.toInt ∧ t_ld (f p1.toInt.toNat) = false ∧ ∃ p2 : Int32, p2.toInt = p1.toInt + 1 ∧ TM th am mb f G0 n lim p2 (if t_sg (f p1.toInt.toNat &&& 255) then Int32.ofInt 3 else Int32.ofInt 4) p1 (Int32.ofInt 0) (f p1.toInt.toNat &&& 255) wd G') ∨
  (¬ (lim.toInt < n.toInt ∧ lim.toInt ≤ p1.toInt) ∧ p1.toInt < n.toInt ∧ ∃ (k : Nat) (p2 sp : Int32), 0 < k ∧ t_End t_ld f n.toInt.toNat p1.toInt.toNat (p1.toInt.toNat + k) ∧ p2.toInt = p1.toInt + k ∧ sp.toInt = k ∧ TM th am mb f G0 n lim p2 (t_mt f p1.toInt.toNat k) p1 sp (t_mn f p1.toInt.toNat k) (t_wd f p1.toInt.toNat k) G')
section TM4
variable {th : List Nat} {xs : Nat → Int32} {L J d am mb : Nat} {K : Option Value → List pE → Prop} {f : Nat → Int32} {G0 G G1 : List pE} {n lim p tok at9 sp num : Int32} {wd : Int64} {lv : pL}
set_option maxHeartbeats 2000000 in
set_option maxRecDepth 100000 in
theorem nx_end {k P1 : Nat} (hk : k ≤ 940) (h : TM th am mb f G0 n lim p tok at9 sp (t_mn f P1 k) (t_wd f P1 k) G) (hs : sp.toInt = k) (g0 : pm_get lv 0 = some (.ref am)) (g2 : pm_get lv 2 = some (.int (if t_le (f P1) then 1 else 0))) (g3 : pm_get lv 3 = some (.int (if t_al f P1 k then 1 else 0))) (hK : ∀ G' : List pE, TM th am mb f G0 n lim p (t_mt f P1 k) at9 sp (t_mn f P1 k) (t_wd f P1 k) G' → K none G') : x_Gd xs L J (d + 1) m_163 K 298 lv [] G := by
  have fin : ∀ v : Int32, (0 : Int) ≤ v.toInt ∧ v.toInt ≤ (4 : Int) → v = t_mt f P1 k → x_Gd xs L J (d + 1) m_163 K 333 lv [.int v, .ref am] G := fun v hv hvt => by
    refine y_putf (f := (0, 0, 4)) h.I h.t (e_163 (333, .putfield 141, 3) (List.mem_of_getElem? (i := 175) rfl)) u_17_141 ⟨rfl, rfl, by decide, rfl, rfl⟩ ⟨_, rfl, hv.1, hv.2⟩ (fun Ga1 ua1 => ?_)
    have ha1 := h.u11 ua1 hv
    refine y_ret (e_163 (336, .return_, 1) (List.mem_of_getElem? (i := 176) rfl)) ⟨rfl, rfl⟩ (hK _ ?_)
    rw [← hvt]
    exact ha1
  refine y_aln (e_163 (298, .aload_n 0, 1) (List.mem_of_getElem? (i := 157) rfl)) g0 ?_
  refine y_iln (e_163 (299, .iload_n 3, 1) (List.mem_of_getElem? (i := 158) rfl)) g3 ?_
  cases hal : t_al f P1 k
  · refine y_ifc (e_163 (300, .ifCond .eq 20, 3) (List.mem_of_getElem? (i := 159) rfl)) rfl (fun hc => ?_) (fun hc => absurd hc (by decide))
    refine y_st (e_163 (320, .iconst 4, 1) (List.mem_of_getElem? (i := 168) rfl)) ⟨rfl, rfl, rfl, rfl⟩ ?_
    refine y_st (e_163 (321, .goto 12, 3) (List.mem_of_getElem? (i := 169) rfl)) ⟨rfl, rfl, rfl, rfl⟩ ?_
    refine fin _ ⟨by decide, by decide⟩ ?_
    unfold t_mt
    rw [if_neg (by rw [hal]; exact fun z => absurd z.1 (by decide))]
  refine y_ifc (e_163 (300, .ifCond .eq 20, 3) (List.mem_of_getElem? (i := 159) rfl)) rfl (fun hc => absurd hc (by decide)) (fun hc => ?_)
  refine y_aln (e_163 (303, .aload_n 0, 1) (List.mem_of_getElem? (i := 160) rfl)) g0 ?_
  refine y_getf h.I h.t (e_163 (304, .getfield 138, 3) (List.mem_of_getElem? (i := 161) rfl)) u_17_138 ⟨rfl, rfl⟩ h.s13 ?_
  refine y_iln (e_163 (307, .iload_n 2, 1) (List.mem_of_getElem? (i := 162) rfl)) g2 ?_
  cases hle : t_le (f P1)
  · refine y_ifc (e_163 (308, .ifCond .eq 8, 3) (List.mem_of_getElem? (i := 163) rfl)) rfl (fun hc => ?_) (fun hc => absurd hc (by decide))
    refine y_st (e_163 (316, .iconst 3, 1) (List.mem_of_getElem? (i := 166) rfl)) ⟨rfl, rfl, rfl, rfl⟩ ?_
    refine y_icm (e_163 (317, .if_icmp .le 7, 3) (List.mem_of_getElem? (i := 167) rfl)) rfl (fun hc => ?_) (fun hc => ?_)
    · have hc := y_hI.2.2.2.2.2.2.1 hc
      rw [show (Int32.ofInt 3).toInt = 3 from rfl] at hc
      refine y_iln (e_163 (324, .iload_n 2, 1) (List.mem_of_getElem? (i := 170) rfl)) g2 ?_
      rw [hle]
      refine y_ifc (e_163 (325, .ifCond .eq 7, 3) (List.mem_of_getElem? (i := 171) rfl)) rfl (fun hc => ?_) (fun hc => absurd hc (by decide))
      refine y_st (e_163 (332, .iconst 2, 1) (List.mem_of_getElem? (i := 174) rfl)) ⟨rfl, rfl, rfl, rfl⟩ ?_
      refine fin _ ⟨by decide, by decide⟩ ?_
      unfold t_mt
      rw [hle, if_pos ⟨hal, by show k ≤ 3; omega⟩]
      rfl
    · have hc := y_hI.2.2.2.2.2.2.2.1 hc
      rw [show (Int32.ofInt 3).toInt = 3 from rfl] at hc
      refine y_st (e_163 (320, .iconst 4, 1) (List.mem_of_getElem? (i := 168) rfl)) ⟨rfl, rfl, rfl, rfl⟩ ?_
      refine y_st (e_163 (321, .goto 12, 3) (List.mem_of_getElem? (i := 169) rfl)) ⟨rfl, rfl, rfl, rfl⟩ ?_
      refine fin _ ⟨by decide, by decide⟩ ?_
      unfold t_mt
      rw [hle, if_neg (fun z => by have z2 : k ≤ 3 := z.2; omega)]
  · refine y_ifc (e_163 (308, .ifCond .eq 8, 3) (List.mem_of_getElem? (i := 163) rfl)) rfl (fun hc => absurd hc (by decide)) (fun hc => ?_)
    refine y_st (e_163 (311, .bipush 7, 2) (List.mem_of_getElem? (i := 164) rfl)) ⟨rfl, rfl, rfl, rfl⟩ ?_
    refine y_st (e_163 (313, .goto 4, 3) (List.mem_of_getElem? (i := 165) rfl)) ⟨rfl, rfl, rfl, rfl⟩ ?_
    refine y_icm (e_163 (317, .if_icmp .le 7, 3) (List.mem_of_getElem? (i := 167) rfl)) rfl (fun hc => ?_) (fun hc => ?_)
    · have hc := y_hI.2.2.2.2.2.2.1 hc
      rw [show ((Int8.ofInt 7).toInt32).toInt = 7 from rfl] at hc
      refine y_iln (e_163 (324, .iload_n 2, 1) (List.mem_of_getElem? (i := 170) rfl)) g2 ?_
      rw [hle]
      refine y_ifc (e_163 (325, .ifCond .eq 7, 3) (List.mem_of_getElem? (i := 171) rfl)) rfl (fun hc => absurd hc (by decide)) (fun hc => ?_)
      refine y_st (e_163 (328, .iconst 1, 1) (List.mem_of_getElem? (i := 172) rfl)) ⟨rfl, rfl, rfl, rfl⟩ ?_
      refine y_st (e_163 (329, .goto 4, 3) (List.mem_of_getElem? (i := 173) rfl)) ⟨rfl, rfl, rfl, rfl⟩ ?_
      refine fin _ ⟨by decide, by decide⟩ ?_
      unfold t_mt
      rw [hle, if_pos ⟨hal, by show k ≤ 7; omega⟩]
      rfl
    · have hc := y_hI.2.2.2.2.2.2.2.1 hc
      rw [show ((Int8.ofInt 7).toInt32).toInt = 7 from rfl] at hc
      refine y_st (e_163 (320, .iconst 4, 1) (List.mem_of_getElem? (i := 168) rfl)) ⟨rfl, rfl, rfl, rfl⟩ ?_
      refine y_st (e_163 (321, .goto 12, 3) (List.mem_of_getElem? (i := 169) rfl)) ⟨rfl, rfl, rfl, rfl⟩ ?_
      refine fin _ ⟨by decide, by decide⟩ ?_
      unfold t_mt
      rw [hle, if_neg (fun z => by have z2 : k ≤ 7 := z.2; omega)]
set_option maxHeartbeats 2000000 in
set_option maxRecDepth 100000 in
theorem k_next (hn : n.toInt ≤ 940) (h : TM th am mb f G0 n lim p tok at9 sp num wd G) (v0 : 0 ≤ p.toInt) (v1 : p.toInt ≤ n.toInt) : x_Gd xs L J (d + 1) m_163 (fun r G' => r = none ∧ ∃ p1 : Int32, 0 ≤ p1.toInt ∧ t_End t_bl f n.toInt.toNat p.toInt.toNat p1.toInt.toNat ∧ t_MTok th am mb f G0 n lim p1 num wd G') 0 (lv_args 0 [.ref am]) [] G := by
  refine nx_skip (lv := lv_args 0 [.ref am]) rfl hn (P0 := p.toInt.toNat) (fun G v h w0 he => ?_) _ G p h v0 v1 (Nat.le_refl _) (fun i h1 h2 => absurd h1 (by omega)) (Nat.le_refl _)
  have g0 : pm_get (lv_args 0 [.ref am]) 0 = some (.ref am) := rfl
  have w1 : v.toInt ≤ n.toInt := by
    have := he.2.1
    omega
  generalize lv_args 0 [.ref am] = lv at g0 ⊢
  refine y_aln (e_163 (31, .aload_n 0, 1) (List.mem_of_getElem? (i := 15) rfl)) g0 ?_
  refine y_aln (e_163 (32, .aload_n 0, 1) (List.mem_of_getElem? (i := 16) rfl)) g0 ?_
  refine y_getf h.I h.t (e_163 (33, .getfield 21, 3) (List.mem_of_getElem? (i := 17) rfl)) u_17_21 ⟨rfl, rfl⟩ h.s4 ?_
  refine y_putf (f := (0, -2147483648, 2147483647)) h.I h.t (e_163 (36, .putfield 135, 3) (List.mem_of_getElem? (i := 18) rfl)) u_17_135 ⟨rfl, rfl, by decide, rfl, rfl⟩ ⟨_, rfl, (x_i32 _).1, (x_i32 _).2⟩ (fun Ga1 ua1 => ?_)
  have ha1 := h.u12 ua1
  refine y_aln (e_163 (39, .aload_n 0, 1) (List.mem_of_getElem? (i := 19) rfl)) g0 ?_
  refine y_st (e_163 (40, .iconst 0, 1) (List.mem_of_getElem? (i := 20) rfl)) ⟨rfl, rfl, rfl, rfl⟩ ?_
  refine y_putf (f := (0, -2147483648, 2147483647)) ha1.I ha1.t (e_163 (41, .putfield 138, 3) (List.mem_of_getElem? (i := 21) rfl)) u_17_138 ⟨rfl, rfl, by decide, rfl, rfl⟩ ⟨_, rfl, (x_i32 _).1, (x_i32 _).2⟩ (fun Ga2 ua2 => ?_)
  have ha2 := ha1.u13 ua2
  have at80 : ¬ (lim.toInt < n.toInt ∧ lim.toInt ≤ v.toInt) → x_Gd xs L J (d + 1) m_163 (fun r G' => r = none ∧ ∃ p1 : Int32, 0 ≤ p1.toInt ∧ t_End t_bl f n.toInt.toNat p.toInt.toNat p1.toInt.toNat ∧ t_MTok th am mb f G0 n lim p1 num wd G') 80 lv [] Ga2 := fun hno => by
    refine y_aln (e_163 (80, .aload_n 0, 1) (List.mem_of_getElem? (i := 40) rfl)) g0 ?_
    refine y_c1 (K' := _) (e_163 (81, .invokevirtual 131, 3) (List.mem_of_getElem? (i := 41) rfl)) ⟨rfl, rfl, rfl⟩ t_17_131 ⟨by decide, by decide, by decide, by decide⟩ m_164_ok rfl (by decide) (y_recv ha2.I ha2.t ⟨rfl, rfl⟩) (Nat.le_of_ble_eq_true rfl) (Nat.le_of_ble_eq_true rfl) (k_peek ha2 w0 hn) (fun r1 Gc hc1 => ?_)
    obtain ⟨rfl, rfl⟩ := hc1
    simp only [Option.toList_some, Option.toList_none, List.cons_append, List.nil_append]
    refine y_isn (e_163 (84, .istore_n 1, 1) (List.mem_of_getElem? (i := 42) rfl)) (by decide) ?_
    have g1 : pm_get (pm_put1 lv 1 (.int (t_pk f n v))) 1 = some (.int (t_pk f n v)) := x_get_self
    have g0 : pm_get (pm_put1 lv 1 (.int (t_pk f n v))) 0 = some (.ref am) := y_gpr g0 (by decide)
    show x_Gd xs L J (d + 1) m_163 _ 85 (pm_put1 lv 1 (.int (t_pk f n v))) [] _
    generalize pm_put1 lv 1 (.int (t_pk f n v)) = lv1 at g0 g1 ⊢
    refine y_iln (e_163 (85, .iload_n 1, 1) (List.mem_of_getElem? (i := 43) rfl)) g1 ?_
    by_cases hlt : v.toInt < n.toInt
    rotate_left
    · have hpk : t_pk f n v = Int32.ofInt (-1) := by unfold t_pk; rw [if_neg hlt]
      rw [hpk]
      refine y_ifc (e_163 (86, .ifCond .ge 9, 3) (List.mem_of_getElem? (i := 44) rfl)) rfl (fun hc => absurd hc (by decide)) (fun hc => ?_)
      refine y_aln (e_163 (89, .aload_n 0, 1) (List.mem_of_getElem? (i := 45) rfl)) g0 ?_
      refine y_st (e_163 (90, .iconst 0, 1) (List.mem_of_getElem? (i := 46) rfl)) ⟨rfl, rfl, rfl, rfl⟩ ?_
      refine y_putf (f := (0, 0, 4)) ha2.I ha2.t (e_163 (91, .putfield 141, 3) (List.mem_of_getElem? (i := 47) rfl)) u_17_141 ⟨rfl, rfl, by decide, rfl, rfl⟩ ⟨_, rfl, (⟨by decide, by decide⟩ : (0 : Int) ≤ (Int32.ofInt 0).toInt ∧ (Int32.ofInt 0).toInt ≤ (4 : Int)).1, (⟨by decide, by decide⟩ : (0 : Int) ≤ (Int32.ofInt 0).toInt ∧ (Int32.ofInt 0).toInt ≤ (4 : Int)).2⟩ (fun Ga3 ua3 => ?_)
      have ha3 := ha2.u11 ua3 (⟨by decide, by decide⟩ : (0 : Int) ≤ (Int32.ofInt 0).toInt ∧ (Int32.ofInt 0).toInt ≤ (4 : Int))
      exact y_ret (e_163 (94, .return_, 1) (List.mem_of_getElem? (i := 48) rfl)) ⟨rfl, rfl⟩ ⟨rfl, v, w0, he, Or.inr (Or.inl ⟨hno, by omega, ha3⟩)⟩
    have hpk : t_pk f n v = f v.toInt.toNat &&& 255 := by unfold t_pk; rw [if_pos hlt]; rfl
    have hfb := h.fb (i := v.toInt.toNat) (by omega)
    rw [hpk] at g1 ⊢
    have hge : 0 ≤ (f v.toInt.toNat &&& 255).toInt := by
      rw [t_and hfb]
      split <;> omega
    refine y_ifc (e_163 (86, .ifCond .ge 9, 3) (List.mem_of_getElem? (i := 44) rfl)) rfl (fun hc => ?_) (fun hc => ?_)
    rotate_left
    · have := y_hI.2.2.2.2.2.1 hc
      rw [show (0 : Int32).toInt = 0 from rfl] at this
      omega
    have at164 : t_ld (f v.toInt.toNat) = true → x_Gd xs L J (d + 1) m_163 (fun r G' => r = none ∧ ∃ p1 : Int32, 0 ≤ p1.toInt ∧ t_End t_bl f n.toInt.toNat p.toInt.toNat p1.toInt.toNat ∧ t_MTok th am mb f G0 n lim p1 num wd G') 164 lv1 [] Gc := fun hld => by
      refine y_iln (e_163 (164, .iload_n 1, 1) (List.mem_of_getElem? (i := 85) rfl)) g1 ?_
      refine y_c1 (K' := _) (e_163 (165, .invokestatic 144, 3) (List.mem_of_getElem? (i := 86) rfl)) ⟨rfl, rfl, rfl⟩ t_17_144 ⟨by decide, by decide, by decide, by decide⟩ m_165_ok rfl (by decide) rfl (Nat.le_of_ble_eq_true rfl) (Nat.le_of_ble_eq_true rfl) (k_isSmall _) (fun r1 Gc hc1 => ?_)
      obtain ⟨rfl, rfl⟩ := hc1
      simp only [Option.toList_some, Option.toList_none, List.cons_append, List.nil_append]
      rw [t_le_255 hfb]
      refine y_isn (e_163 (168, .istore_n 2, 1) (List.mem_of_getElem? (i := 87) rfl)) (by decide) ?_
      refine y_st (e_163 (169, .iconst 1, 1) (List.mem_of_getElem? (i := 88) rfl)) ⟨rfl, rfl, rfl, rfl⟩ ?_
      refine y_isn (e_163 (170, .istore_n 3, 1) (List.mem_of_getElem? (i := 89) rfl)) (by decide) ?_
      have g2 : pm_get (pm_put1 (pm_put1 lv1 2 (.int (if t_le (f v.toInt.toNat) then 1 else 0))) 3 (.int (Int32.ofInt 1))) 2 = some (.int (if t_le (f v.toInt.toNat) then 1 else 0)) := y_gpi x_get_self (by decide)
      have g3 : pm_get (pm_put1 (pm_put1 lv1 2 (.int (if t_le (f v.toInt.toNat) then 1 else 0))) 3 (.int (Int32.ofInt 1))) 3 = some (.int (Int32.ofInt 1)) := x_get_self
      have g0 : pm_get (pm_put1 (pm_put1 lv1 2 (.int (if t_le (f v.toInt.toNat) then 1 else 0))) 3 (.int (Int32.ofInt 1))) 0 = some (.ref am) := y_gpr (y_gpr g0 (by decide)) (by decide)
      refine y_aln (e_163 (171, .aload_n 0, 1) (List.mem_of_getElem? (i := 90) rfl)) g0 ?_
      refine y_st (e_163 (172, .lconst 0, 1) (List.mem_of_getElem? (i := 91) rfl)) ⟨rfl, rfl, rfl, rfl⟩ ?_
      refine y_putf (f := (1, 0, 0)) ha2.I ha2.t (e_163 (173, .putfield 154, 3) (List.mem_of_getElem? (i := 92) rfl)) u_17_154 ⟨rfl, rfl, by decide, rfl, rfl⟩ ⟨_, rfl⟩ (fun Ga3 ua3 => ?_)
      have ha3 := ha2.u17 ua3
      refine y_aln (e_163 (176, .aload_n 0, 1) (List.mem_of_getElem? (i := 93) rfl)) g0 ?_
      refine y_st (e_163 (177, .iconst 0, 1) (List.mem_of_getElem? (i := 94) rfl)) ⟨rfl, rfl, rfl, rfl⟩ ?_
      refine y_putf (f := (0, -2147483648, 2147483647)) ha3.I ha3.t (e_163 (178, .putfield 151, 3) (List.mem_of_getElem? (i := 95) rfl)) u_17_151 ⟨rfl, rfl, by decide, rfl, rfl⟩ ⟨_, rfl, (x_i32 _).1, (x_i32 _).2⟩ (fun Ga4 ua4 => ?_)
      have ha4 := ha3.u14 ua4
      refine nx_run hn (P1 := v.toInt.toNat) (fun k G' p' sp' lv' h' hp hs hend g0 g2 g3 => ?_) _ 0 _ v (Int32.ofInt 0) _ ha4 (by omega) rfl (by omega) (fun i h1 h2 => absurd h1 (by omega)) (Nat.le_refl _) g0 g2 g3
      have hke := hend.2.1
      refine nx_end (by omega) h' hs g0 g2 g3 (fun G2 h2 => ⟨rfl, v, w0, he, Or.inr (Or.inr (Or.inr ⟨hno, hlt, k, p', sp', ?_, hend, by omega, hs, h2⟩))⟩)
      rcases Nat.eq_zero_or_pos k with z | z
      · subst z
        have := hend.2.2.2 (by omega)
        rw [Nat.add_zero, hld] at this
        cases this
      · exact z
    refine y_iln (e_163 (95, .iload_n 1, 1) (List.mem_of_getElem? (i := 49) rfl)) g1 ?_
    refine y_c1 (K' := _) (e_163 (96, .invokestatic 144, 3) (List.mem_of_getElem? (i := 50) rfl)) ⟨rfl, rfl, rfl⟩ t_17_144 ⟨by decide, by decide, by decide, by decide⟩ m_165_ok rfl (by decide) rfl (Nat.le_of_ble_eq_true rfl) (Nat.le_of_ble_eq_true rfl) (k_isSmall _) (fun r1 Gc hc1 => ?_)
    obtain ⟨rfl, rfl⟩ := hc1
    simp only [Option.toList_some, Option.toList_none, List.cons_append, List.nil_append]
    rw [t_le_255 hfb]
    cases hle : t_le (f v.toInt.toNat)
    rotate_left
    · refine y_ifc (e_163 (99, .ifCond .ne 65, 3) (List.mem_of_getElem? (i := 51) rfl)) rfl (fun hc => at164 (by unfold t_ld; rw [hle]; rfl)) (fun hc => absurd hc (by decide))
    refine y_ifc (e_163 (99, .ifCond .ne 65, 3) (List.mem_of_getElem? (i := 51) rfl)) rfl (fun hc => absurd hc (by decide)) (fun hc => ?_)
    refine y_iln (e_163 (102, .iload_n 1, 1) (List.mem_of_getElem? (i := 52) rfl)) g1 ?_
    refine y_c1 (K' := _) (e_163 (103, .invokestatic 148, 3) (List.mem_of_getElem? (i := 53) rfl)) ⟨rfl, rfl, rfl⟩ t_17_148 ⟨by decide, by decide, by decide, by decide⟩ m_166_ok rfl (by decide) rfl (Nat.le_of_ble_eq_true rfl) (Nat.le_of_ble_eq_true rfl) (k_isDigit _) (fun r1 Gc hc1 => ?_)
    obtain ⟨rfl, rfl⟩ := hc1
    simp only [Option.toList_some, Option.toList_none, List.cons_append, List.nil_append]
    rw [t_di_255 hfb]
    cases hdi : t_di (f v.toInt.toNat)
    rotate_left
    · refine y_ifc (e_163 (106, .ifCond .ne 58, 3) (List.mem_of_getElem? (i := 54) rfl)) rfl (fun hc => at164 (by unfold t_ld; rw [hle, hdi]; rfl)) (fun hc => absurd hc (by decide))
    refine y_ifc (e_163 (106, .ifCond .ne 58, 3) (List.mem_of_getElem? (i := 54) rfl)) rfl (fun hc => absurd hc (by decide)) (fun hc => ?_)
    have e1 : (v + Int32.ofInt 1).toInt = v.toInt + 1 := y_add1 (t := v) (by omega)
    have fin : ∀ w : Int32, (0 : Int) ≤ w.toInt ∧ w.toInt ≤ (4 : Int) → w = (if t_sg (f v.toInt.toNat &&& 255) then Int32.ofInt 3 else Int32.ofInt 4) → x_Gd xs L J (d + 1) m_163 (fun r G' => r = none ∧ ∃ p1 : Int32, 0 ≤ p1.toInt ∧ t_End t_bl f n.toInt.toNat p.toInt.toNat p1.toInt.toNat ∧ t_MTok th am mb f G0 n lim p1 num wd G') 145 lv1 [.int w, .ref am] Gc := fun w hv hw => by
      refine y_putf (f := (0, 0, 4)) ha2.I ha2.t (e_163 (145, .putfield 141, 3) (List.mem_of_getElem? (i := 74) rfl)) u_17_141 ⟨rfl, rfl, by decide, rfl, rfl⟩ ⟨_, rfl, hv.1, hv.2⟩ (fun Ga3 ua3 => ?_)
      have ha3 := ha2.u11 ua3 hv
      refine y_aln (e_163 (148, .aload_n 0, 1) (List.mem_of_getElem? (i := 75) rfl)) g0 ?_
      refine y_iln (e_163 (149, .iload_n 1, 1) (List.mem_of_getElem? (i := 76) rfl)) g1 ?_
      refine y_putf (f := (0, -2147483648, 2147483647)) ha3.I ha3.t (e_163 (150, .putfield 151, 3) (List.mem_of_getElem? (i := 77) rfl)) u_17_151 ⟨rfl, rfl, by decide, rfl, rfl⟩ ⟨_, rfl, (x_i32 _).1, (x_i32 _).2⟩ (fun Ga4 ua4 => ?_)
      have ha4 := ha3.u14 ua4
      refine y_aln (e_163 (153, .aload_n 0, 1) (List.mem_of_getElem? (i := 78) rfl)) g0 ?_
      refine y_st (e_163 (154, .dup, 1) (List.mem_of_getElem? (i := 79) rfl)) ⟨rfl, rfl, rfl, rfl⟩ ?_
      refine y_getf ha4.I ha4.t (e_163 (155, .getfield 21, 3) (List.mem_of_getElem? (i := 80) rfl)) u_17_21 ⟨rfl, rfl⟩ ha4.s4 ?_
      refine y_st (e_163 (158, .iconst 1, 1) (List.mem_of_getElem? (i := 81) rfl)) ⟨rfl, rfl, rfl, rfl⟩ ?_
      refine y_st (e_163 (159, .iadd, 1) (List.mem_of_getElem? (i := 82) rfl)) ⟨rfl, rfl, rfl, rfl⟩ ?_
      refine y_putf (f := (0, 0, 940)) ha4.I ha4.t (e_163 (160, .putfield 21, 3) (List.mem_of_getElem? (i := 83) rfl)) u_17_21 ⟨rfl, rfl, by decide, rfl, rfl⟩ ⟨_, rfl, by show (0 : Int) ≤ _; omega, by show _ ≤ (940 : Int); omega⟩ (fun Ga5 ua5 => ?_)
      have ha5 := ha4.u4 ua5 ⟨by omega, by omega⟩
      refine y_ret (e_163 (163, .return_, 1) (List.mem_of_getElem? (i := 84) rfl)) ⟨rfl, rfl⟩ ⟨rfl, v, w0, he, Or.inr (Or.inr (Or.inl ⟨hno, hlt, by unfold t_ld; rw [hle, hdi]; rfl, v + Int32.ofInt 1, e1, ?_⟩))⟩
      rw [← hw]
      exact ha5
    have at140 : t_sg (f v.toInt.toNat &&& 255) = true → x_Gd xs L J (d + 1) m_163 (fun r G' => r = none ∧ ∃ p1 : Int32, 0 ≤ p1.toInt ∧ t_End t_bl f n.toInt.toNat p.toInt.toNat p1.toInt.toNat ∧ t_MTok th am mb f G0 n lim p1 num wd G') 140 lv1 [.ref am] Gc := fun hz => by
      refine y_st (e_163 (140, .iconst 3, 1) (List.mem_of_getElem? (i := 71) rfl)) ⟨rfl, rfl, rfl, rfl⟩ ?_
      refine y_st (e_163 (141, .goto 4, 3) (List.mem_of_getElem? (i := 72) rfl)) ⟨rfl, rfl, rfl, rfl⟩ ?_
      exact fin _ ⟨by decide, by decide⟩ (by rw [hz]; rfl)
    have at144 : t_sg (f v.toInt.toNat &&& 255) = false → x_Gd xs L J (d + 1) m_163 (fun r G' => r = none ∧ ∃ p1 : Int32, 0 ≤ p1.toInt ∧ t_End t_bl f n.toInt.toNat p.toInt.toNat p1.toInt.toNat ∧ t_MTok th am mb f G0 n lim p1 num wd G') 144 lv1 [.ref am] Gc := fun hz => by
      refine y_st (e_163 (144, .iconst 4, 1) (List.mem_of_getElem? (i := 73) rfl)) ⟨rfl, rfl, rfl, rfl⟩ ?_
      exact fin _ ⟨by decide, by decide⟩ (by rw [hz]; rfl)
    have s1 : ∀ q : Int32, (f v.toInt.toNat &&& 255) = q → (f v.toInt.toNat &&& 255).toInt = q.toInt := fun q z => by rw [z]
    refine y_aln (e_163 (109, .aload_n 0, 1) (List.mem_of_getElem? (i := 55) rfl)) g0 ?_
    refine y_iln (e_163 (110, .iload_n 1, 1) (List.mem_of_getElem? (i := 56) rfl)) g1 ?_
    refine y_st (e_163 (111, .bipush 59, 2) (List.mem_of_getElem? (i := 57) rfl)) ⟨rfl, rfl, rfl, rfl⟩ ?_
    refine y_icm (e_163 (113, .if_icmp .eq 27, 3) (List.mem_of_getElem? (i := 58) rfl)) rfl (fun hc => ?_) (fun hc => ?_)
    · have z := s1 _ (y_hI.1 hc)
      exact at140 (by unfold t_sg; rw [z]; rfl)
    have n1 : (f v.toInt.toNat &&& 255).toInt ≠ 59 := fun z => (y_hI.2.1 hc) (Int32.toInt_inj.mp (by rw [z]; rfl))
    refine y_iln (e_163 (116, .iload_n 1, 1) (List.mem_of_getElem? (i := 59) rfl)) g1 ?_
    refine y_st (e_163 (117, .bipush 40, 2) (List.mem_of_getElem? (i := 60) rfl)) ⟨rfl, rfl, rfl, rfl⟩ ?_
    refine y_icm (e_163 (119, .if_icmp .eq 21, 3) (List.mem_of_getElem? (i := 61) rfl)) rfl (fun hc => ?_) (fun hc => ?_)
    · have z := s1 _ (y_hI.1 hc)
      exact at140 (by unfold t_sg; rw [z]; rfl)
    have n2 : (f v.toInt.toNat &&& 255).toInt ≠ 40 := fun z => (y_hI.2.1 hc) (Int32.toInt_inj.mp (by rw [z]; rfl))
    refine y_iln (e_163 (122, .iload_n 1, 1) (List.mem_of_getElem? (i := 62) rfl)) g1 ?_
    refine y_st (e_163 (123, .bipush 41, 2) (List.mem_of_getElem? (i := 63) rfl)) ⟨rfl, rfl, rfl, rfl⟩ ?_
    refine y_icm (e_163 (125, .if_icmp .eq 15, 3) (List.mem_of_getElem? (i := 64) rfl)) rfl (fun hc => ?_) (fun hc => ?_)
    · have z := s1 _ (y_hI.1 hc)
      exact at140 (by unfold t_sg; rw [z]; rfl)
    have n3 : (f v.toInt.toNat &&& 255).toInt ≠ 41 := fun z => (y_hI.2.1 hc) (Int32.toInt_inj.mp (by rw [z]; rfl))
    refine y_iln (e_163 (128, .iload_n 1, 1) (List.mem_of_getElem? (i := 65) rfl)) g1 ?_
    refine y_st (e_163 (129, .bipush 60, 2) (List.mem_of_getElem? (i := 66) rfl)) ⟨rfl, rfl, rfl, rfl⟩ ?_
    refine y_icm (e_163 (131, .if_icmp .lt 13, 3) (List.mem_of_getElem? (i := 67) rfl)) rfl (fun hc => ?_) (fun hc => ?_)
    · have z := y_hI.2.2.2.2.2.2.2.2.1 hc
      rw [show ((Int8.ofInt 60).toInt32).toInt = 60 from rfl] at z
      refine at144 ?_
      simp only [t_sg, Bool.or_eq_false_iff, Bool.and_eq_false_iff, decide_eq_false_iff_not]
      omega
    have n4 := y_hI.2.2.2.2.2.2.2.2.2.1 hc
    rw [show ((Int8.ofInt 60).toInt32).toInt = 60 from rfl] at n4
    refine y_iln (e_163 (134, .iload_n 1, 1) (List.mem_of_getElem? (i := 68) rfl)) g1 ?_
    refine y_st (e_163 (135, .bipush 62, 2) (List.mem_of_getElem? (i := 69) rfl)) ⟨rfl, rfl, rfl, rfl⟩ ?_
    refine y_icm (e_163 (137, .if_icmp .gt 7, 3) (List.mem_of_getElem? (i := 70) rfl)) rfl (fun hc => ?_) (fun hc => ?_)
    · have z := y_hI.2.2.2.2.2.2.2.2.2.2.1 hc
      rw [show ((Int8.ofInt 62).toInt32).toInt = 62 from rfl] at z
      refine at144 ?_
      simp only [t_sg, Bool.or_eq_false_iff, Bool.and_eq_false_iff, decide_eq_false_iff_not]
      omega
    · have z := y_hI.2.2.2.2.2.2.2.2.2.2.2 hc
      rw [show ((Int8.ofInt 62).toInt32).toInt = 62 from rfl] at z
      refine at140 ?_
      simp only [t_sg, Bool.or_eq_true, Bool.and_eq_true, decide_eq_true_eq]
      omega
  refine y_aln (e_163 (44, .aload_n 0, 1) (List.mem_of_getElem? (i := 22) rfl)) g0 ?_
  refine y_getf ha2.I ha2.t (e_163 (45, .getfield 18, 3) (List.mem_of_getElem? (i := 23) rfl)) u_17_18 ⟨rfl, rfl⟩ ha2.s3 ?_
  refine y_aln (e_163 (48, .aload_n 0, 1) (List.mem_of_getElem? (i := 24) rfl)) g0 ?_
  refine y_getf ha2.I ha2.t (e_163 (49, .getfield 24, 3) (List.mem_of_getElem? (i := 25) rfl)) u_17_24 ⟨rfl, rfl⟩ ha2.s5 ?_
  refine y_icm (e_163 (52, .if_icmp .le 28, 3) (List.mem_of_getElem? (i := 26) rfl)) rfl (fun hc => ?_) (fun hc => ?_)
  · have := y_hI.2.2.2.2.2.2.1 hc
    exact at80 (fun z => by omega)
  have c1 := y_hI.2.2.2.2.2.2.2.1 hc
  refine y_aln (e_163 (55, .aload_n 0, 1) (List.mem_of_getElem? (i := 27) rfl)) g0 ?_
  refine y_getf ha2.I ha2.t (e_163 (56, .getfield 21, 3) (List.mem_of_getElem? (i := 28) rfl)) u_17_21 ⟨rfl, rfl⟩ ha2.s4 ?_
  refine y_aln (e_163 (59, .aload_n 0, 1) (List.mem_of_getElem? (i := 29) rfl)) g0 ?_
  refine y_getf ha2.I ha2.t (e_163 (60, .getfield 24, 3) (List.mem_of_getElem? (i := 30) rfl)) u_17_24 ⟨rfl, rfl⟩ ha2.s5 ?_
  refine y_icm (e_163 (63, .if_icmp .lt 17, 3) (List.mem_of_getElem? (i := 31) rfl)) rfl (fun hc => ?_) (fun hc => ?_)
  · have := y_hI.2.2.2.2.2.2.2.2.1 hc
    exact at80 (fun z => by omega)
  · have c2 := y_hI.2.2.2.2.2.2.2.2.2.1 hc
    refine y_aln (e_163 (66, .aload_n 0, 1) (List.mem_of_getElem? (i := 32) rfl)) g0 ?_
    refine y_aln (e_163 (67, .aload_n 0, 1) (List.mem_of_getElem? (i := 33) rfl)) g0 ?_
    refine y_getf ha2.I ha2.t (e_163 (68, .getfield 24, 3) (List.mem_of_getElem? (i := 34) rfl)) u_17_24 ⟨rfl, rfl⟩ ha2.s5 ?_
    refine y_putf (f := (0, -2147483648, 2147483647)) ha2.I ha2.t (e_163 (71, .putfield 135, 3) (List.mem_of_getElem? (i := 35) rfl)) u_17_135 ⟨rfl, rfl, by decide, rfl, rfl⟩ ⟨_, rfl, (x_i32 _).1, (x_i32 _).2⟩ (fun Ga3 ua3 => ?_)
    have ha3 := ha2.u12 ua3
    refine y_aln (e_163 (74, .aload_n 0, 1) (List.mem_of_getElem? (i := 36) rfl)) g0 ?_
    refine y_st (e_163 (75, .iconst 4, 1) (List.mem_of_getElem? (i := 37) rfl)) ⟨rfl, rfl, rfl, rfl⟩ ?_
    refine y_putf (f := (0, 0, 4)) ha3.I ha3.t (e_163 (76, .putfield 141, 3) (List.mem_of_getElem? (i := 38) rfl)) u_17_141 ⟨rfl, rfl, by decide, rfl, rfl⟩ ⟨_, rfl, (⟨by decide, by decide⟩ : (0 : Int) ≤ (Int32.ofInt 4).toInt ∧ (Int32.ofInt 4).toInt ≤ (4 : Int)).1, (⟨by decide, by decide⟩ : (0 : Int) ≤ (Int32.ofInt 4).toInt ∧ (Int32.ofInt 4).toInt ≤ (4 : Int)).2⟩ (fun Ga4 ua4 => ?_)
    have ha4 := ha3.u11 ua4 (⟨by decide, by decide⟩ : (0 : Int) ≤ (Int32.ofInt 4).toInt ∧ (Int32.ofInt 4).toInt ≤ (4 : Int))
    exact y_ret (e_163 (79, .return_, 1) (List.mem_of_getElem? (i := 39) rfl)) ⟨rfl, rfl⟩ ⟨rfl, v, w0, he, Or.inl ⟨by omega, by omega, ha4⟩⟩
end TM4
