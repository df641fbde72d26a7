def t_num (f : Nat → Int32) (p : Nat) : Nat → Int32
  | 0 => Int32.ofInt 0
  | k + 1 => t_num f p k * (Int8.ofInt 10).toInt32 + f (p + k) - (Int8.ofInt 48).toInt32
def t_nm (f : Nat → Int32) (p : Nat) : Nat → Int64
  | 0 => Int64.ofNat 0
  | k + 1 => t_nm f p k * 128 + (f (p + k)).toInt64
def t_dg (f : Nat → Int32) (p : Nat) : Nat → Nat
  | 0 => 0
  | k + 1 => t_dg f p k + (if (f (p + k)).toInt ≤ 57 then 1 else 0)
theorem t_dg_le (f : Nat → Int32) (p : Nat) : ∀ k, t_dg f p k ≤ k
  | 0 => Nat.le_refl _
  | k + 1 => by
    have := t_dg_le f p k
    unfold t_dg
    split <;> omega
theorem t_spelt_lt {c : Int64} {z : Nat} (hz : z < 35) : t_spelt c z < 35 := by
  unfold t_spelt
  split
  · exact hz
  · split
    · rename_i k hk
      exact List.mem_range.mp (List.mem_of_find?_eq_some hk)
    · exact hz
/-- which token a run of k signs from p on is -/
def t_tk (f : Nat → Int32) (p k : Nat) : Nat := if k = 0 then t_spelt (f p).toInt64 1 else if t_dg f p k = 0 ∧ k ≤ 7 then t_spelt (t_nm f p k) 3 else if t_dg f p k = k ∧ k ≤ 3 then 2 else 1
section TK4
variable {th : List Nat} {xs : Nat → Int32} {L J d tp b : Nat} {K : Option Value → List pE → Prop} {f : Nat → Int32} {G0 G G1 : List pE} {n lim nx pl num ft fp : Int32} {tk : Nat} {nm : Int64} {lv : pL}
set_option maxHeartbeats 2000000 in
set_option maxRecDepth 100000 in
theorem rt_run (hn : n.toInt ≤ 940) {P1 : Nat} (hK : ∀ (k : Nat) (G : List pE) (nx dg : Int32) (lv : pL), TC th tp b f G0 n lim nx tk pl (t_num f P1 k) (t_nm f P1 k) ft fp G → nx.toInt = P1 + k → dg.toInt = t_dg f P1 k → t_End t_ld f n.toInt.toNat P1 (P1 + k) → pm_get lv 0 = some (.ref tp) → pm_get lv 1 = some (.int dg) → x_Gd xs L J (d + 1) m_21 K 224 lv [] G) : ∀ (m k : Nat) (G : List pE) (nx dg : Int32) (lv : pL), TC th tp b f G0 n lim nx tk pl (t_num f P1 k) (t_nm f P1 k) ft fp G → nx.toInt = P1 + k → dg.toInt = t_dg f P1 k → nx.toInt ≤ n.toInt → (∀ i, P1 ≤ i → i < P1 + k → t_ld (f i) = true) → (n.toInt - nx.toInt).toNat = m → pm_get lv 0 = some (.ref tp) → pm_get lv 1 = some (.int dg) → x_Gd xs L J (d + 1) m_21 K 116 lv [] G := by
  intro m
  induction m with
  | zero =>
    intro k G nx dg lv h hx hdg v1 hb hm g0 g1
    refine y_aln (e_21 (116, .aload_n 0, 1) (List.mem_of_getElem? (i := 58) rfl)) g0 ?_
    refine y_getf h.I h.t (e_21 (117, .getfield 22, 3) (List.mem_of_getElem? (i := 59) rfl)) u_2_22 ⟨rfl, rfl⟩ h.s3 ?_
    refine y_aln (e_21 (120, .aload_n 0, 1) (List.mem_of_getElem? (i := 60) rfl)) g0 ?_
    refine y_getf h.I h.t (e_21 (121, .getfield 15, 3) (List.mem_of_getElem? (i := 61) rfl)) u_2_15 ⟨rfl, rfl⟩ h.s1 ?_
    refine y_icm (e_21 (124, .if_icmp .ge 100, 3) (List.mem_of_getElem? (i := 62) rfl)) rfl (fun hc => ?_) (fun hc => ?_)
    · exact hK k G nx dg lv h hx hdg ⟨by omega, by omega, hb, fun z => by omega⟩ g0 g1
    · have := y_hI.2.2.2.2.2.1 hc
      omega
  | succ m ih =>
    intro k G nx dg lv h hx hdg v1 hb hm g0 g1
    have hnx : nx.toInt.toNat = P1 + k := by omega
    refine y_aln (e_21 (116, .aload_n 0, 1) (List.mem_of_getElem? (i := 58) rfl)) g0 ?_
    refine y_getf h.I h.t (e_21 (117, .getfield 22, 3) (List.mem_of_getElem? (i := 59) rfl)) u_2_22 ⟨rfl, rfl⟩ h.s3 ?_
    refine y_aln (e_21 (120, .aload_n 0, 1) (List.mem_of_getElem? (i := 60) rfl)) g0 ?_
    refine y_getf h.I h.t (e_21 (121, .getfield 15, 3) (List.mem_of_getElem? (i := 61) rfl)) u_2_15 ⟨rfl, rfl⟩ h.s1 ?_
    refine y_icm (e_21 (124, .if_icmp .ge 100, 3) (List.mem_of_getElem? (i := 62) rfl)) rfl (fun hc => ?_) (fun hc => ?_)
    · have := y_hI.2.2.2.2.1 hc
      omega
    have hlt := y_hI.2.2.2.2.2.1 hc
    refine y_aln (e_21 (127, .aload_n 0, 1) (List.mem_of_getElem? (i := 63) rfl)) g0 ?_
    refine y_getf h.I h.t (e_21 (128, .getfield 9, 3) (List.mem_of_getElem? (i := 64) rfl)) u_2_9 ⟨rfl, rfl⟩ h.s0 ?_
    refine y_aln (e_21 (131, .aload_n 0, 1) (List.mem_of_getElem? (i := 65) rfl)) g0 ?_
    refine y_getf h.I h.t (e_21 (132, .getfield 22, 3) (List.mem_of_getElem? (i := 66) rfl)) u_2_22 ⟨rfl, rfl⟩ h.s3 ?_
    refine y_bald h.I h.tb (e_21 (135, .baload, 1) (List.mem_of_getElem? (i := 67) rfl)) ⟨rfl, Or.inl rfl⟩ (by omega) (h.by _ (by omega)) ?_
    refine y_c1 (K' := _) (e_21 (136, .invokestatic 60, 3) (List.mem_of_getElem? (i := 68) rfl)) ⟨rfl, rfl, rfl⟩ t_2_60 ⟨by decide, by decide, by decide, by decide⟩ m_23_ok rfl (by decide) rfl (Nat.le_of_ble_eq_true rfl) (Nat.le_of_ble_eq_true rfl) (k_isLd _) (fun r1 Gc hc1 => ?_)
    obtain ⟨rfl, rfl⟩ := hc1
    simp only [Option.toList_some, Option.toList_none, List.cons_append, List.nil_append]
    rw [hnx]
    refine y_ifc (e_21 (139, .ifCond .eq 85, 3) (List.mem_of_getElem? (i := 69) rfl)) rfl (fun hc => ?_) (fun hc => ?_)
    · have hz := y_hI.1 hc
      refine hK k Gc nx dg lv h hx hdg ⟨by omega, by omega, hb, fun _ => ?_⟩ g0 g1
      cases hbl : t_ld (f (P1 + k))
      · rfl
      · rw [hbl] at hz
        exact absurd hz (by decide)
    have hz := y_hI.2.1 hc
    have hbl : t_ld (f (P1 + k)) = true := by
      cases hbl : t_ld (f (P1 + k))
      · rw [hbl] at hz
        exact absurd rfl hz
      · rfl
    have e1 : (nx + Int32.ofInt 1).toInt = nx.toInt + 1 := y_add1 (t := nx) (by omega)
    have key : ∀ dg' : Int32, dg'.toInt = t_dg f P1 (k + 1) → x_Gd xs L J (d + 1) m_21 K 164 (pm_put1 lv 1 (.int dg')) [] Gc := fun dg' hdg' => by
      have g0 : pm_get (pm_put1 lv 1 (.int dg')) 0 = some (.ref tp) := y_gpr g0 (by decide)
      refine y_aln (e_21 (164, .aload_n 0, 1) (List.mem_of_getElem? (i := 83) rfl)) g0 ?_
      refine y_aln (e_21 (165, .aload_n 0, 1) (List.mem_of_getElem? (i := 84) rfl)) g0 ?_
      refine y_getf h.I h.t (e_21 (166, .getfield 37, 3) (List.mem_of_getElem? (i := 85) rfl)) u_2_37 ⟨rfl, rfl⟩ h.s6 ?_
      refine y_st (e_21 (169, .bipush 10, 2) (List.mem_of_getElem? (i := 86) rfl)) ⟨rfl, rfl, rfl, rfl⟩ ?_
      refine y_st (e_21 (171, .imul, 1) (List.mem_of_getElem? (i := 87) rfl)) ⟨rfl, rfl, rfl, rfl⟩ ?_
      refine y_aln (e_21 (172, .aload_n 0, 1) (List.mem_of_getElem? (i := 88) rfl)) g0 ?_
      refine y_getf h.I h.t (e_21 (173, .getfield 9, 3) (List.mem_of_getElem? (i := 89) rfl)) u_2_9 ⟨rfl, rfl⟩ h.s0 ?_
      refine y_aln (e_21 (176, .aload_n 0, 1) (List.mem_of_getElem? (i := 90) rfl)) g0 ?_
      refine y_getf h.I h.t (e_21 (177, .getfield 22, 3) (List.mem_of_getElem? (i := 91) rfl)) u_2_22 ⟨rfl, rfl⟩ h.s3 ?_
      refine y_bald h.I h.tb (e_21 (180, .baload, 1) (List.mem_of_getElem? (i := 92) rfl)) ⟨rfl, Or.inl rfl⟩ (by omega) (h.by _ (by omega)) ?_
      refine y_st (e_21 (181, .iadd, 1) (List.mem_of_getElem? (i := 93) rfl)) ⟨rfl, rfl, rfl, rfl⟩ ?_
      refine y_st (e_21 (182, .bipush 48, 2) (List.mem_of_getElem? (i := 94) rfl)) ⟨rfl, rfl, rfl, rfl⟩ ?_
      refine y_st (e_21 (184, .isub, 1) (List.mem_of_getElem? (i := 95) rfl)) ⟨rfl, rfl, rfl, rfl⟩ ?_
      refine y_putf (f := (0, -2147483648, 2147483647)) h.I h.t (e_21 (185, .putfield 37, 3) (List.mem_of_getElem? (i := 96) rfl)) u_2_37 ⟨rfl, rfl, by decide, rfl, rfl⟩ ⟨_, rfl, (x_i32 _).1, (x_i32 _).2⟩ (fun Ga1 ua1 => ?_)
      have ha1 := h.u6 ua1
      refine y_aln (e_21 (188, .aload_n 0, 1) (List.mem_of_getElem? (i := 97) rfl)) g0 ?_
      refine y_aln (e_21 (189, .aload_n 0, 1) (List.mem_of_getElem? (i := 98) rfl)) g0 ?_
      refine y_getf ha1.I ha1.t (e_21 (190, .getfield 40, 3) (List.mem_of_getElem? (i := 99) rfl)) u_2_40 ⟨rfl, rfl⟩ ha1.s7 ?_
      refine y_st (e_21 (193, .ldc2_w 63, 3) (List.mem_of_getElem? (i := 100) rfl)) ⟨rfl, rfl, rfl, rfl⟩ ?_
      refine y_st (e_21 (196, .lmul, 1) (List.mem_of_getElem? (i := 101) rfl)) ⟨rfl, rfl, rfl, rfl⟩ ?_
      refine y_aln (e_21 (197, .aload_n 0, 1) (List.mem_of_getElem? (i := 102) rfl)) g0 ?_
      refine y_getf ha1.I ha1.t (e_21 (198, .getfield 9, 3) (List.mem_of_getElem? (i := 103) rfl)) u_2_9 ⟨rfl, rfl⟩ ha1.s0 ?_
      refine y_aln (e_21 (201, .aload_n 0, 1) (List.mem_of_getElem? (i := 104) rfl)) g0 ?_
      refine y_getf ha1.I ha1.t (e_21 (202, .getfield 22, 3) (List.mem_of_getElem? (i := 105) rfl)) u_2_22 ⟨rfl, rfl⟩ ha1.s3 ?_
      refine y_bald ha1.I ha1.tb (e_21 (205, .baload, 1) (List.mem_of_getElem? (i := 106) rfl)) ⟨rfl, Or.inl rfl⟩ (by omega) (ha1.by _ (by omega)) ?_
      refine y_st (e_21 (206, .i2l, 1) (List.mem_of_getElem? (i := 107) rfl)) ⟨rfl, rfl, rfl, rfl⟩ ?_
      refine y_st (e_21 (207, .ladd, 1) (List.mem_of_getElem? (i := 108) rfl)) ⟨rfl, rfl, rfl, rfl⟩ ?_
      refine y_putf (f := (1, 0, 0)) ha1.I ha1.t (e_21 (208, .putfield 40, 3) (List.mem_of_getElem? (i := 109) rfl)) u_2_40 ⟨rfl, rfl, by decide, rfl, rfl⟩ ⟨_, rfl⟩ (fun Ga2 ua2 => ?_)
      have ha2 := ha1.u7 ua2
      refine y_aln (e_21 (211, .aload_n 0, 1) (List.mem_of_getElem? (i := 110) rfl)) g0 ?_
      refine y_st (e_21 (212, .dup, 1) (List.mem_of_getElem? (i := 111) rfl)) ⟨rfl, rfl, rfl, rfl⟩ ?_
      refine y_getf ha2.I ha2.t (e_21 (213, .getfield 22, 3) (List.mem_of_getElem? (i := 112) rfl)) u_2_22 ⟨rfl, rfl⟩ ha2.s3 ?_
      refine y_st (e_21 (216, .iconst 1, 1) (List.mem_of_getElem? (i := 113) rfl)) ⟨rfl, rfl, rfl, rfl⟩ ?_
      refine y_st (e_21 (217, .iadd, 1) (List.mem_of_getElem? (i := 114) rfl)) ⟨rfl, rfl, rfl, rfl⟩ ?_
      refine y_putf (f := (0, 0, 940)) ha2.I ha2.t (e_21 (218, .putfield 22, 3) (List.mem_of_getElem? (i := 115) rfl)) u_2_22 ⟨rfl, rfl, by decide, rfl, rfl⟩ ⟨_, rfl, by show (0 : Int) ≤ _; omega, by show _ ≤ (940 : Int); omega⟩ (fun Ga3 ua3 => ?_)
      have ha3 := ha2.u3 ua3 ⟨by omega, by omega⟩
      refine y_st (e_21 (221, .goto (-105), 3) (List.mem_of_getElem? (i := 116) rfl)) ⟨rfl, rfl, rfl, rfl⟩ ?_
      rw [hnx] at ha3
      refine ih (k + 1) _ _ dg' _ ha3 (by omega) hdg' (by omega) (fun i h1 h2 => ?_) (by omega) g0 x_get_self
      by_cases hi : i = P1 + k
      · rw [hi]; exact hbl
      · exact hb i h1 (by omega)
    have hdl := t_dg_le f P1 k
    refine y_iln (e_21 (142, .iload_n 1, 1) (List.mem_of_getElem? (i := 70) rfl)) g1 ?_
    refine y_aln (e_21 (143, .aload_n 0, 1) (List.mem_of_getElem? (i := 71) rfl)) g0 ?_
    refine y_getf h.I h.t (e_21 (144, .getfield 9, 3) (List.mem_of_getElem? (i := 72) rfl)) u_2_9 ⟨rfl, rfl⟩ h.s0 ?_
    refine y_aln (e_21 (147, .aload_n 0, 1) (List.mem_of_getElem? (i := 73) rfl)) g0 ?_
    refine y_getf h.I h.t (e_21 (148, .getfield 22, 3) (List.mem_of_getElem? (i := 74) rfl)) u_2_22 ⟨rfl, rfl⟩ h.s3 ?_
    refine y_bald h.I h.tb (e_21 (151, .baload, 1) (List.mem_of_getElem? (i := 75) rfl)) ⟨rfl, Or.inl rfl⟩ (by omega) (h.by _ (by omega)) ?_
    refine y_st (e_21 (152, .bipush 57, 2) (List.mem_of_getElem? (i := 76) rfl)) ⟨rfl, rfl, rfl, rfl⟩ ?_
    rw [hnx]
    refine y_icm (e_21 (154, .if_icmp .gt 7, 3) (List.mem_of_getElem? (i := 77) rfl)) rfl (fun hc => ?_) (fun hc => ?_)
    · have hc := y_hI.2.2.2.2.2.2.2.2.2.2.1 hc
      rw [show ((Int8.ofInt 57).toInt32).toInt = 57 from rfl] at hc
      refine y_st (e_21 (161, .iconst 0, 1) (List.mem_of_getElem? (i := 80) rfl)) ⟨rfl, rfl, rfl, rfl⟩ ?_
      refine y_st (e_21 (162, .iadd, 1) (List.mem_of_getElem? (i := 81) rfl)) ⟨rfl, rfl, rfl, rfl⟩ ?_
      refine y_isn (e_21 (163, .istore_n 1, 1) (List.mem_of_getElem? (i := 82) rfl)) (by decide) ?_
      refine key _ ?_
      rw [y_add (by rw [show (Int32.ofInt 0).toInt = 0 from rfl]; omega) (by rw [show (Int32.ofInt 0).toInt = 0 from rfl]; omega), show (Int32.ofInt 0).toInt = 0 from rfl]
      unfold t_dg
      rw [if_neg (by omega)]
      omega
    · have hc := y_hI.2.2.2.2.2.2.2.2.2.2.2 hc
      rw [show ((Int8.ofInt 57).toInt32).toInt = 57 from rfl] at hc
      refine y_st (e_21 (157, .iconst 1, 1) (List.mem_of_getElem? (i := 78) rfl)) ⟨rfl, rfl, rfl, rfl⟩ ?_
      refine y_st (e_21 (158, .goto 4, 3) (List.mem_of_getElem? (i := 79) rfl)) ⟨rfl, rfl, rfl, rfl⟩ ?_
      refine y_st (e_21 (162, .iadd, 1) (List.mem_of_getElem? (i := 81) rfl)) ⟨rfl, rfl, rfl, rfl⟩ ?_
      refine y_isn (e_21 (163, .istore_n 1, 1) (List.mem_of_getElem? (i := 82) rfl)) (by decide) ?_
      refine key _ ?_
      rw [y_add (by rw [show (Int32.ofInt 1).toInt = 1 from rfl]; omega) (by rw [show (Int32.ofInt 1).toInt = 1 from rfl]; omega), show (Int32.ofInt 1).toInt = 1 from rfl]
      unfold t_dg
      rw [if_pos (by omega)]
      omega
end TK4
