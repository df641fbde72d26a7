section TK2
variable {th : List Nat} {xs : Nat → Int32} {L J d tp b : Nat} {K : Option Value → List pE → Prop} {f : Nat → Int32} {G0 G G1 : List pE} {n lim nx pl num ft fp : Int32} {tk : Nat} {nm : Int64} {lv : pL}
set_option maxHeartbeats 2000000 in
set_option maxRecDepth 100000 in
theorem k_isLd (x : Int32) : x_Gd xs L J d m_23 (fun r G' => r = some (.int (if t_ld x then 1 else 0)) ∧ G' = G) 0 (lv_args 0 [.int x]) [] G := by
  have e1 : ((Int8.ofInt 97).toInt32).toInt = 97 := rfl
  have e2 : ((Int8.ofInt 122).toInt32).toInt = 122 := rfl
  have e3 : ((Int8.ofInt 48).toInt32).toInt = 48 := rfl
  have e4 : ((Int8.ofInt 57).toInt32).toInt = 57 := rfl
  have fin1 : t_ld x = true → x_Gd xs L J d m_23 (fun r G' => r = some (.int (if t_ld x then 1 else 0)) ∧ G' = G) 24 (lv_args 0 [.int x]) [] G := fun hx => by
    refine y_st (e_23 (24, .iconst 1, 1) (List.mem_of_getElem? (i := 12) rfl)) ⟨rfl, rfl, rfl, rfl⟩ ?_
    refine y_st (e_23 (25, .goto 4, 3) (List.mem_of_getElem? (i := 13) rfl)) ⟨rfl, rfl, rfl, rfl⟩ ?_
    refine y_ret (e_23 (29, .ireturn, 1) (List.mem_of_getElem? (i := 15) rfl)) ⟨rfl, y_rb (Or.inr rfl)⟩ ⟨by rw [hx]; rfl, rfl⟩
  have fin0 : t_ld x = false → x_Gd xs L J d m_23 (fun r G' => r = some (.int (if t_ld x then 1 else 0)) ∧ G' = G) 28 (lv_args 0 [.int x]) [] G := fun hx => by
    refine y_st (e_23 (28, .iconst 0, 1) (List.mem_of_getElem? (i := 14) rfl)) ⟨rfl, rfl, rfl, rfl⟩ ?_
    refine y_ret (e_23 (29, .ireturn, 1) (List.mem_of_getElem? (i := 15) rfl)) ⟨rfl, y_rb (Or.inl rfl)⟩ ⟨by rw [hx]; rfl, rfl⟩
  have at12 : t_le x = false → x_Gd xs L J d m_23 (fun r G' => r = some (.int (if t_ld x then 1 else 0)) ∧ G' = G) 12 (lv_args 0 [.int x]) [] G := fun hx => by
    refine y_iln (e_23 (12, .iload_n 0, 1) (List.mem_of_getElem? (i := 6) rfl)) rfl ?_
    refine y_st (e_23 (13, .bipush 48, 2) (List.mem_of_getElem? (i := 7) rfl)) ⟨rfl, rfl, rfl, rfl⟩ ?_
    refine y_icm (e_23 (15, .if_icmp .lt 13, 3) (List.mem_of_getElem? (i := 8) rfl)) rfl (fun hb => ?_) (fun hb => ?_)
    · have n1 := y_hI.2.2.2.2.2.2.2.2.1 hb
      rw [e3] at n1
      refine fin0 ?_
      simp only [t_ld, hx, t_di, Bool.false_or, Bool.and_eq_false_iff, decide_eq_false_iff_not]
      omega
    have n1 := y_hI.2.2.2.2.2.2.2.2.2.1 hb
    rw [e3] at n1
    refine y_iln (e_23 (18, .iload_n 0, 1) (List.mem_of_getElem? (i := 9) rfl)) rfl ?_
    refine y_st (e_23 (19, .bipush 57, 2) (List.mem_of_getElem? (i := 10) rfl)) ⟨rfl, rfl, rfl, rfl⟩ ?_
    refine y_icm (e_23 (21, .if_icmp .gt 7, 3) (List.mem_of_getElem? (i := 11) rfl)) rfl (fun hb => ?_) (fun hb => ?_)
    · have n2 := y_hI.2.2.2.2.2.2.2.2.2.2.1 hb
      rw [e4] at n2
      refine fin0 ?_
      simp only [t_ld, hx, t_di, Bool.false_or, Bool.and_eq_false_iff, decide_eq_false_iff_not]
      omega
    · have n2 := y_hI.2.2.2.2.2.2.2.2.2.2.2 hb
      rw [e4] at n2
      refine fin1 ?_
      simp only [t_ld, hx, t_di, Bool.false_or, Bool.and_eq_true, decide_eq_true_eq]
      omega
  refine y_iln (e_23 (0, .iload_n 0, 1) (List.mem_of_getElem? (i := 0) rfl)) rfl ?_
  refine y_st (e_23 (1, .bipush 97, 2) (List.mem_of_getElem? (i := 1) rfl)) ⟨rfl, rfl, rfl, rfl⟩ ?_
  refine y_icm (e_23 (3, .if_icmp .lt 9, 3) (List.mem_of_getElem? (i := 2) rfl)) rfl (fun hb => ?_) (fun hb => ?_)
  · have n1 := y_hI.2.2.2.2.2.2.2.2.1 hb
    rw [e1] at n1
    refine at12 ?_
    simp only [t_le, Bool.and_eq_false_iff, decide_eq_false_iff_not]
    omega
  have n1 := y_hI.2.2.2.2.2.2.2.2.2.1 hb
  rw [e1] at n1
  refine y_iln (e_23 (6, .iload_n 0, 1) (List.mem_of_getElem? (i := 3) rfl)) rfl ?_
  refine y_st (e_23 (7, .bipush 122, 2) (List.mem_of_getElem? (i := 4) rfl)) ⟨rfl, rfl, rfl, rfl⟩ ?_
  refine y_icm (e_23 (9, .if_icmp .le 15, 3) (List.mem_of_getElem? (i := 5) rfl)) rfl (fun hb => ?_) (fun hb => ?_)
  · have n2 := y_hI.2.2.2.2.2.2.1 hb
    rw [e2] at n2
    refine fin1 ?_
    simp only [t_ld, t_le, Bool.or_eq_true, Bool.and_eq_true, decide_eq_true_eq]
    omega
  · have n2 := y_hI.2.2.2.2.2.2.2.1 hb
    rw [e2] at n2
    refine at12 ?_
    simp only [t_le, Bool.and_eq_false_iff, decide_eq_false_iff_not]
    omega
theorem w_2_25 : pm_stab.find? (fun r => r.1 == 2 && r.2.1 == 25) = some (2, 25, 0, 124) := by decide +kernel
theorem w_2_57 : pm_stab.find? (fun r => r.1 == 2 && r.2.1 == 57) = some (2, 57, 1, 563) := by decide +kernel
theorem w_2_75 : pm_stab.find? (fun r => r.1 == 2 && r.2.1 == 75) = some (2, 75, 35, 572) := by decide +kernel
theorem w_2_69 : pm_stab.find? (fun r => r.1 == 2 && r.2.1 == 69) = some (2, 69, 3, 574) := by decide +kernel
theorem w_2_72 : pm_stab.find? (fun r => r.1 == 2 && r.2.1 == 72) = some (2, 72, 2, 576) := by decide +kernel
theorem y_gst {M : pM} {pc k a : Nat} {r : List Value} {q : Nat × Nat × Nat × Nat} (hd : decode M.code pc = .ok (Instr.getstatic k, 3)) (hq : pm_stab.find? (fun r => r.1 == M.own && r.2.1 == k) = some q) (ha : (if q.2.2.1 < 35 then pm_TB + q.2.2.1 else pm_KB) = a) (hk : x_Gd xs L J d M K (pc + 3) lv (.ref a :: r) G) : x_Gd xs L J d M K pc lv r G := by
  refine y_st hd ⟨rfl, rfl, rfl, ?_⟩ hk
  dsimp only [pm_step]
  rw [hq]
  dsimp only
  rw [ha]
theorem y_lln {M : pM} {pc : Nat} {r : List Value} {j : Fin 4} {x : Int64} (hd : decode M.code pc = .ok (Instr.lload_n j, 1)) (hg : pm_get lv (j : Nat) = some (.long x)) (hk : x_Gd xs L J d M K (pc + 1) lv (.long x :: r) G) : x_Gd xs L J d M K pc lv r G := y_st hd ⟨rfl, rfl, rfl, by dsimp only [pm_step]; rw [hg]⟩ hk
theorem y_cmpE {x y : Int64} : (pm_holds .eq (lg_cmp x y) 0 = true → x = y) ∧ (pm_holds .eq (lg_cmp x y) 0 = false → x ≠ y) := by
  have h := y_cmp (x := x) (y := y)
  have e : ∀ z : Int32, pm_holds .eq z 0 = !pm_holds .ne z 0 := fun z => by
    simp only [pm_holds]
    by_cases hz : z = 0 <;> simp [hz]
  rw [e]
  refine ⟨fun z => h.2 ?_, fun z => h.1 ?_⟩
  · cases hh : pm_holds .ne (lg_cmp x y) 0
    · rfl
    · rw [hh] at z; cases z
  · cases hh : pm_holds .ne (lg_cmp x y) 0
    · rw [hh] at z; cases z
    · rfl
theorem y_aaK {M : pM} {pc : Nat} {r : List Value} {j : Int32} (hd : decode M.code pc = .ok (Instr.aaload, 1)) (hj : 0 ≤ j.toInt ∧ j.toInt < 35) (hk : x_Gd xs L J d M K (pc + 1) lv (.ref (pm_TB + j.toInt.toNat) :: r) G) : x_Gd xs L J d M K pc lv (.int j :: .ref pm_KB :: r) G := by
  obtain ⟨i1, i2⟩ := y_idx (n := 35) hj.1 (by omega)
  refine y_st hd ⟨rfl, rfl, rfl, ?_⟩ hk
  dsimp only [pm_step]
  rw [if_pos rfl, i2, i1]
  rfl
theorem y_tkc {M : pM} {pc k : Nat} {r : List Value} (ho : M.own = 2) (hd : decode M.code pc = .ok (Instr.getfield 79, 3)) (hk9 : k < 35) (hk : x_Gd xs L J d M K (pc + 3) lv (.long (pm_tokc.getD k 0) :: r) G) : x_Gd xs L J d M K pc lv (.ref (pm_TB + k) :: r) G := by
  refine y_st hd ⟨rfl, rfl, rfl, ?_⟩ hk
  dsimp only [pm_step]
  rw [if_pos (by unfold pm_isTok; simp [hk9]), if_pos ⟨ho, rfl⟩, Nat.add_sub_cancel_left]
/-- the token that is spelt so -/
def t_spelt (c : Int64) (z : Nat) : Nat := if c = 0 then z else match (List.range 35).find? (fun k => pm_tokc.getD k 0 == c) with
  | some k => k
  | none => z
theorem t_spelt_z {c : Int64} {z : Nat} (h : c = 0 ∨ ∀ i, i < 35 → pm_tokc.getD i 0 ≠ c) : t_spelt c z = z := by
  unfold t_spelt
  split
  · rfl
  · rename_i hc
    rcases h with h | h
    · exact absurd h hc
    · have : (List.range 35).find? (fun k => pm_tokc.getD k 0 == c) = none := by
        rw [List.find?_eq_none]
        intro k hk
        simp only [beq_iff_eq]
        exact h k (List.mem_range.mp hk)
      rw [this]
theorem t_spelt_k {c : Int64} {z k : Nat} (h0 : c ≠ 0) (hk : k < 35) (h1 : ∀ i, i < k → pm_tokc.getD i 0 ≠ c) (h2 : pm_tokc.getD k 0 = c) : t_spelt c z = k := by
  unfold t_spelt
  rw [if_neg h0]
  have : (List.range 35).find? (fun k => pm_tokc.getD k 0 == c) = some k := by
    rw [List.find?_range_eq_some]
    refine ⟨by simpa using h2, List.mem_range.mpr hk, fun j hj => ?_⟩
    have := h1 j hj
    simpa using this
  rw [this]
set_option maxHeartbeats 2000000 in
set_option maxRecDepth 100000 in
theorem k_spelt_l {c : Int64} {z : Nat} : ∀ (m : Nat) (lv : pL) (k : Int32), pm_get lv 0 = some (.long c) → pm_get lv 2 = some (.ref (pm_TB + z)) → pm_get lv 3 = some (.int k) → 0 ≤ k.toInt → k.toInt ≤ 35 → (35 - k.toInt).toNat ≤ m → (∀ i : Nat, (i : Int) < k.toInt → pm_tokc.getD i 0 ≠ c) → x_Gd xs L J d m_24 (fun r G' => r = some (.ref (pm_TB + t_spelt c z)) ∧ G' = G) 2 lv [] G := by
  intro m
  induction m with
  | zero =>
    intro lv k g0 g2 g3 k0 k1 hm hne
    refine y_iln (e_24 (2, .iload_n 3, 1) (List.mem_of_getElem? (i := 2) rfl)) g3 ?_
    refine y_gst (a := pm_KB) (e_24 (3, .getstatic 75, 3) (List.mem_of_getElem? (i := 3) rfl)) w_2_75 rfl ?_
    refine y_st (e_24 (6, .arraylength, 1) (List.mem_of_getElem? (i := 4) rfl)) ⟨rfl, rfl, rfl, by dsimp only [pm_step]; rw [if_neg (by decide), if_pos rfl]⟩ ?_
    refine y_icm (e_24 (7, .if_icmp .ge 34, 3) (List.mem_of_getElem? (i := 5) rfl)) rfl (fun hb => ?_) (fun hb => ?_)
    · refine y_aln (e_24 (41, .aload_n 2, 1) (List.mem_of_getElem? (i := 23) rfl)) g2 ?_
      refine y_ret (e_24 (42, .areturn, 1) (List.mem_of_getElem? (i := 24) rfl)) ⟨rfl, rfl⟩ ⟨by rw [t_spelt_z (Or.inr (fun i hi => hne i (by omega)))], rfl⟩
    · have := y_hI.2.2.2.2.2.1 hb
      rw [show (Int32.ofNat 35).toInt = 35 from rfl] at this
      omega
  | succ m ih =>
    intro lv k g0 g2 g3 k0 k1 hm hne
    refine y_iln (e_24 (2, .iload_n 3, 1) (List.mem_of_getElem? (i := 2) rfl)) g3 ?_
    refine y_gst (a := pm_KB) (e_24 (3, .getstatic 75, 3) (List.mem_of_getElem? (i := 3) rfl)) w_2_75 rfl ?_
    refine y_st (e_24 (6, .arraylength, 1) (List.mem_of_getElem? (i := 4) rfl)) ⟨rfl, rfl, rfl, by dsimp only [pm_step]; rw [if_neg (by decide), if_pos rfl]⟩ ?_
    refine y_icm (e_24 (7, .if_icmp .ge 34, 3) (List.mem_of_getElem? (i := 5) rfl)) rfl (fun hb => ?_) (fun hb => ?_)
    · have := y_hI.2.2.2.2.1 hb
      rw [show (Int32.ofNat 35).toInt = 35 from rfl] at this
      refine y_aln (e_24 (41, .aload_n 2, 1) (List.mem_of_getElem? (i := 23) rfl)) g2 ?_
      refine y_ret (e_24 (42, .areturn, 1) (List.mem_of_getElem? (i := 24) rfl)) ⟨rfl, rfl⟩ ⟨by rw [t_spelt_z (Or.inr (fun i hi => hne i (by omega)))], rfl⟩
    have hlt := y_hI.2.2.2.2.2.1 hb
    rw [show (Int32.ofNat 35).toInt = 35 from rfl] at hlt
    refine y_lln (e_24 (10, .lload_n 0, 1) (List.mem_of_getElem? (i := 6) rfl)) g0 ?_
    refine y_st (e_24 (11, .lconst 0, 1) (List.mem_of_getElem? (i := 7) rfl)) ⟨rfl, rfl, rfl, rfl⟩ ?_
    refine y_st (e_24 (12, .lcmp, 1) (List.mem_of_getElem? (i := 8) rfl)) ⟨rfl, rfl, rfl, rfl⟩ ?_
    refine y_ifc (e_24 (13, .ifCond .eq 28, 3) (List.mem_of_getElem? (i := 9) rfl)) rfl (fun hb => ?_) (fun hb => ?_)
    · have hc := y_cmpE.1 hb
      refine y_aln (e_24 (41, .aload_n 2, 1) (List.mem_of_getElem? (i := 23) rfl)) g2 ?_
      refine y_ret (e_24 (42, .areturn, 1) (List.mem_of_getElem? (i := 24) rfl)) ⟨rfl, rfl⟩ ⟨by rw [t_spelt_z (Or.inl hc)], rfl⟩
    have hc : c ≠ 0 := y_cmpE.2 hb
    refine y_gst (a := pm_KB) (e_24 (16, .getstatic 75, 3) (List.mem_of_getElem? (i := 10) rfl)) w_2_75 rfl ?_
    refine y_iln (e_24 (19, .iload_n 3, 1) (List.mem_of_getElem? (i := 11) rfl)) g3 ?_
    refine y_aaK (e_24 (20, .aaload, 1) (List.mem_of_getElem? (i := 12) rfl)) ⟨k0, hlt⟩ ?_
    refine y_tkc rfl (e_24 (21, .getfield 79, 3) (List.mem_of_getElem? (i := 13) rfl)) (by omega) ?_
    refine y_lln (e_24 (24, .lload_n 0, 1) (List.mem_of_getElem? (i := 14) rfl)) g0 ?_
    refine y_st (e_24 (25, .lcmp, 1) (List.mem_of_getElem? (i := 15) rfl)) ⟨rfl, rfl, rfl, rfl⟩ ?_
    refine y_ifc (e_24 (26, .ifCond .ne 9, 3) (List.mem_of_getElem? (i := 16) rfl)) rfl (fun hb => ?_) (fun hb => ?_)
    · have hk := y_cmp.1 hb
      have e1 := y_add1 (t := k) (by omega)
      refine y_iinc (e_24 (35, .iinc 3 1, 3) (List.mem_of_getElem? (i := 21) rfl)) g3 (by decide) ?_
      refine y_st (e_24 (38, .goto (-36), 3) (List.mem_of_getElem? (i := 22) rfl)) ⟨rfl, rfl, rfl, rfl⟩ ?_
      refine ih _ _ (x_get_put g0 (by decide) (fun z => absurd z.1 (by decide))) (y_gpr g2 (by decide)) x_get_self (by omega) (by omega) (by omega) (fun i hi => ?_)
      by_cases hik : i = k.toInt.toNat
      · subst hik
        exact hk
      · exact hne i (by omega)
    · have hk := y_cmp.2 hb
      refine y_gst (a := pm_KB) (e_24 (29, .getstatic 75, 3) (List.mem_of_getElem? (i := 17) rfl)) w_2_75 rfl ?_
      refine y_iln (e_24 (32, .iload_n 3, 1) (List.mem_of_getElem? (i := 18) rfl)) g3 ?_
      refine y_aaK (e_24 (33, .aaload, 1) (List.mem_of_getElem? (i := 19) rfl)) ⟨k0, hlt⟩ ?_
      refine y_ret (e_24 (34, .areturn, 1) (List.mem_of_getElem? (i := 20) rfl)) ⟨rfl, rfl⟩ ⟨by rw [t_spelt_k hc (by omega) (fun i hi => hne i (by omega)) hk], rfl⟩
theorem k_spelt (c : Int64) {z : Nat} : x_Gd xs L J d m_24 (fun r G' => r = some (.ref (pm_TB + t_spelt c z)) ∧ G' = G) 0 (lv_args 0 [.long c, .ref (pm_TB + z)]) [] G := by
  refine y_st (e_24 (0, .iconst 0, 1) (List.mem_of_getElem? (i := 0) rfl)) ⟨rfl, rfl, rfl, rfl⟩ ?_
  refine y_isn (e_24 (1, .istore_n 3, 1) (List.mem_of_getElem? (i := 1) rfl)) (by decide) ?_
  exact k_spelt_l 35 _ 0 rfl rfl rfl (by decide) (by decide) (by decide) (fun i hi => absurd hi (by show ¬ (i : Int) < 0; omega))
end TK2
