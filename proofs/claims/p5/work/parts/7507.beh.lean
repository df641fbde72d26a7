-- ===== behind() =====
section S7
variable {th : List Nat} {xs : Nat → Int32} {L J d am mb sb : Nat} {K : Option Value → List pE → Prop} {f : Nat → Int32} {G0 G G1 G' : List pE} {n lim p tok at9 sp num : Int32} {wd : Int64} {lv : pL} {p2 tok2 at2 sp2 num2 : Int32} {wd2 : Int64} {cd on dp wh k v j : Nat} {st rest r2 : List Nat} {qf q p9 : Int32} {C : List pE → Prop}
set_option maxHeartbeats 2000000 in
set_option maxRecDepth 100000 in
theorem s_bh_h (h : SM th am mb sb f n lim p tok at9 sp num wd cd on (dp + j) wh (List.replicate j 20 ++ rest) qf G) (hr : rest.head? ≠ some 20) (hlt : ∀ v ∈ rest, v < 100) (hl : j + rest.length ≤ 45) (hc : cd + j ≤ 45) (hk : ∀ (G1 : List pE) (lv : pL), SM th am mb sb f n lim p tok at9 sp num wd (cd + j) on dp wh rest qf G1 → pm_get lv 0 = some (.ref am) → x_Gd xs L J (d + 2) m_251 K 4 lv [] G1) : x_Gd xs L J (d + 2) m_251 K 0 (lv_args 0 [.ref am]) [] G := by
  have g0 : pm_get (lv_args 0 [.ref am]) 0 = some (.ref am) := rfl
  generalize lv_args 0 [.ref am] = lv at g0 ⊢
  refine y_aln (e_251 (0, .aload_n 0, 1) (List.mem_of_getElem? (i := 0) rfl)) g0 ?_
  refine y_c1 (K' := _) (e_251 (1, .invokevirtual 390, 3) (List.mem_of_getElem? (i := 1) rfl)) ⟨rfl, rfl, rfl⟩ t_17_390 ⟨by decide, by decide, by decide, by decide⟩ m_248_ok rfl (by decide) (y_recv h.1.I h.1.t ⟨rfl, rfl⟩) (Nat.le_of_ble_eq_true rfl) (Nat.le_of_ble_eq_true rfl) (s_nots (d := d) hr hlt j _ cd dp G h hl hc rfl) (fun r1 Gc hc1 => ?_)
  obtain ⟨rfl, h1⟩ := hc1
  simp only [Option.toList_some, Option.toList_none, List.cons_append, List.nil_append]
  exact hk _ _ h1 g0
set_option maxHeartbeats 2000000 in
set_option maxRecDepth 100000 in
/-- 'and', 'or' -/
theorem s_bh_j (h : SM th am mb sb f n lim p tok at9 sp num wd cd on (dp + j) wh (List.replicate j 20 ++ rest) qf G) (hr : rest.head? ≠ some 20) (hlt : ∀ v ∈ rest, v < 100) (hl : j + rest.length ≤ 45) (hl2 : rest.length < 45) (hc : cd + j + rest.length ≤ 45) {tk : Nat} {n9 : Int32} {nm : Int64} (hT : TR tk n9 nm tok num wd) {t : Nat} (ht : (tk = 26 ∧ t = 21) ∨ (tk = 25 ∧ t = 22)) (hN : NXm f n lim p num wd p2 tok2 at2 sp2 num2 wd2) : x_Gd xs L J (d + 2) m_251 (fun r G' => r = some (.int 1) ∧ SM th am mb sb f n lim p2 tok2 at2 sp2 num2 wd2 (cd + j + rest.length - (s_pj t rest).length) on dp 0 (t :: s_pj t rest) qf G') 0 (lv_args 0 [.ref am]) [] G := by
  refine s_bh_h h hr hlt hl (by omega) (fun G1 lv h1 g0 => ?_)
  have pl := s_pj_len t rest
  have el := s_toI (a := (s_pj t rest).length) (by omega)
  have el1 := s_toI (a := (s_pj t rest).length + 1) (by omega)
  have eln : (Int32.ofNat (s_pj t rest).length).toInt.toNat = (s_pj t rest).length := by omega
  have t21 : t = 21 ∨ t = 22 := ht.imp And.right And.right
  have at24 : x_Gd xs L J (d + 2) m_251 (fun r G' => r = some (.int 1) ∧ SM th am mb sb f n lim p2 tok2 at2 sp2 num2 wd2 (cd + j + rest.length - (s_pj t rest).length) on dp 0 (t :: s_pj t rest) qf G') 24 lv [] G1 := by
    have at42 : x_Gd xs L J (d + 2) m_251 (fun r G' => r = some (.int 1) ∧ SM th am mb sb f n lim p2 tok2 at2 sp2 num2 wd2 (cd + j + rest.length - (s_pj t rest).length) on dp 0 (t :: s_pj t rest) qf G') 42 lv [.int (Int32.ofNat t), .ref am] G1 := by
      refine y_c2 (K' := _) (e_251 (42, .invokevirtual 393, 3) (List.mem_of_getElem? (i := 18) rfl)) ⟨rfl, rfl, rfl⟩ t_17_393 ⟨by decide, by decide, by decide, by decide⟩ m_250_ok rfl (by decide) (y_recv h1.1.I h1.1.t ⟨rfl, rfl⟩) (Nat.le_of_ble_eq_true rfl) (Nat.le_of_ble_eq_true rfl) (s_joins (d := d) t21 rest _ (cd + j) _ hlt h1 (by omega) (by omega) rfl rfl) (fun r1 Gc hc1 => ?_)
      obtain ⟨rfl, h2⟩ := hc1
      simp only [Option.toList_some, Option.toList_none, List.cons_append, List.nil_append]
      have at70 : ∀ G2 : List pE, SM th am mb sb f n lim p tok at9 sp num wd (cd + j + rest.length - (s_pj t rest).length) on dp wh (s_pj t rest) qf G2 → x_Gd xs L J (d + 2) m_251 (fun r G' => r = some (.int 1) ∧ SM th am mb sb f n lim p2 tok2 at2 sp2 num2 wd2 (cd + j + rest.length - (s_pj t rest).length) on dp 0 (t :: s_pj t rest) qf G') 70 lv [.int (Int32.ofNat t), .int (Int32.ofNat (s_pj t rest).length), .ref sb] G2 := fun G2 h2 => by
        refine y_iast h2.1.I h2.tsb (e_251 (70, .iastore, 1) (List.mem_of_getElem? (i := 30) rfl)) ⟨rfl, rfl⟩ ⟨by omega, by show _ < (45 : Int); omega⟩ (fun G3 u3 => ?_)
        rw [eln] at u3
        have h3 := h2.stk u3 (h2.1.I.upd u3 h2.tsb (y_okA (by rw [s_r45]; exact y_one (by omega)))) (Nat.le_refl _)
        refine y_aln (e_251 (71, .aload_n 0, 1) (List.mem_of_getElem? (i := 31) rfl)) g0 ?_
        refine y_st (e_251 (72, .dup, 1) (List.mem_of_getElem? (i := 32) rfl)) ⟨rfl, rfl, rfl, rfl⟩ ?_
        refine y_getf h3.1.I h3.1.t (e_251 (73, .getfield 371, 3) (List.mem_of_getElem? (i := 33) rfl)) u_17_371 ⟨rfl, rfl⟩ h3.s38 ?_
        refine y_st (e_251 (76, .iconst 1, 1) (List.mem_of_getElem? (i := 34) rfl)) ⟨rfl, rfl, rfl, rfl⟩ ?_
        refine y_st (e_251 (77, .iadd, 1) (List.mem_of_getElem? (i := 35) rfl)) ⟨rfl, rfl, rfl, rfl⟩ ?_
        rw [s_inc]
        refine y_putf (f := (0, 0, 45)) h3.1.I h3.1.t (e_251 (78, .putfield 371, 3) (List.mem_of_getElem? (i := 36) rfl)) u_17_371 ⟨rfl, rfl, by decide, rfl, rfl⟩ ⟨_, rfl, by show (0 : Int) ≤ _; omega, by show _ ≤ (45 : Int); omega⟩ (fun G4 u4 => ?_)
        have h4 := h3.push (v := t) (by rw [u3.2.1, if_pos ⟨rfl, rfl⟩]) (by omega) u4
        refine y_aln (e_251 (81, .aload_n 0, 1) (List.mem_of_getElem? (i := 37) rfl)) g0 ?_
        refine y_st (e_251 (82, .iconst 0, 1) (List.mem_of_getElem? (i := 38) rfl)) ⟨rfl, rfl, rfl, rfl⟩ ?_
        refine y_putf (f := (0, 0, 1)) h4.1.I h4.1.t (e_251 (83, .putfield 387, 3) (List.mem_of_getElem? (i := 39) rfl)) u_17_387 ⟨rfl, rfl, by decide, rfl, rfl⟩ ⟨_, rfl, by decide, by decide⟩ (fun G5 u5 => ?_)
        have h5 := h4.uwh (k := 0) (by decide) u5
        refine y_aln (e_251 (86, .aload_n 0, 1) (List.mem_of_getElem? (i := 40) rfl)) g0 ?_
        refine y_c1 (K' := _) (e_251 (87, .invokevirtual 170, 3) (List.mem_of_getElem? (i := 41) rfl)) ⟨rfl, rfl, rfl⟩ t_17_170 ⟨by decide, by decide, by decide, by decide⟩ m_163_ok rfl (by decide) (y_recv h5.1.I h5.1.t ⟨rfl, rfl⟩) (Nat.le_of_ble_eq_true rfl) (Nat.le_of_ble_eq_true rfl) (hN _ _ _ _ _ _ _ _ _ _ _ _ h5.1) (fun r1 Gc hc1 => ?_)
        obtain ⟨rfl, hc2⟩ := hc1
        simp only [Option.toList_some, Option.toList_none, List.cons_append, List.nil_append]
        have h6 := h5.nxt hc2
        refine y_st (e_251 (90, .iconst 1, 1) (List.mem_of_getElem? (i := 42) rfl)) ⟨rfl, rfl, rfl, rfl⟩ ?_
        exact y_ret (e_251 (91, .ireturn, 1) (List.mem_of_getElem? (i := 43) rfl)) ⟨rfl, y_rb (Or.inr rfl)⟩ ⟨rfl, h6⟩
      refine y_aln (e_251 (45, .aload_n 0, 1) (List.mem_of_getElem? (i := 19) rfl)) g0 ?_
      refine y_getf h2.1.I h2.1.t (e_251 (46, .getfield 62, 3) (List.mem_of_getElem? (i := 20) rfl)) u_17_62 ⟨rfl, rfl⟩ h2.s35 ?_
      refine y_aln (e_251 (49, .aload_n 0, 1) (List.mem_of_getElem? (i := 21) rfl)) g0 ?_
      refine y_getf h2.1.I h2.1.t (e_251 (50, .getfield 371, 3) (List.mem_of_getElem? (i := 22) rfl)) u_17_371 ⟨rfl, rfl⟩ h2.s38 ?_
      refine y_aln (e_251 (53, .aload_n 0, 1) (List.mem_of_getElem? (i := 23) rfl)) g0 ?_
      refine y_st (e_251 (54, .ldc2_w 110, 3) (List.mem_of_getElem? (i := 24) rfl)) ⟨rfl, rfl, rfl, rfl⟩ ?_
      refine y_c2 (K' := _) (e_251 (57, .invokevirtual 198, 3) (List.mem_of_getElem? (i := 25) rfl)) ⟨rfl, rfl, rfl⟩ t_17_198 ⟨by decide, by decide, by decide, by decide⟩ m_168_ok rfl (by decide) (y_recv h2.1.I h2.1.t ⟨rfl, rfl⟩) (Nat.le_of_ble_eq_true rfl) (Nat.le_of_ble_eq_true rfl) (s_isWord (d := d + 1) h2.1 (t_W 16)) (fun r1 Gc hc1 => ?_)
      obtain ⟨rfl, rfl⟩ := hc1
      simp only [Option.toList_some, Option.toList_none, List.cons_append, List.nil_append]
      rcases ht with ⟨z, rfl⟩ | ⟨z, rfl⟩
      · rw [if_pos ((hT.word (x := 16) (by decide)).mp z)]
        refine y_ifc (e_251 (60, .ifCond .eq 8, 3) (List.mem_of_getElem? (i := 26) rfl)) rfl (fun hb => absurd hb (by decide)) (fun _ => ?_)
        refine y_st (e_251 (63, .bipush 21, 2) (List.mem_of_getElem? (i := 27) rfl)) ⟨rfl, rfl, rfl, rfl⟩ ?_
        refine y_st (e_251 (65, .goto 5, 3) (List.mem_of_getElem? (i := 28) rfl)) ⟨rfl, rfl, rfl, rfl⟩ ?_
        exact at70 _ h2
      · rw [if_neg (fun w => by have := (hT.word (x := 16) (by decide)).mpr w; omega)]
        refine y_ifc (e_251 (60, .ifCond .eq 8, 3) (List.mem_of_getElem? (i := 26) rfl)) rfl (fun _ => ?_) (fun hb => absurd hb (by decide))
        refine y_st (e_251 (68, .bipush 22, 2) (List.mem_of_getElem? (i := 29) rfl)) ⟨rfl, rfl, rfl, rfl⟩ ?_
        exact at70 _ h2
    refine y_aln (e_251 (24, .aload_n 0, 1) (List.mem_of_getElem? (i := 10) rfl)) g0 ?_
    refine y_aln (e_251 (25, .aload_n 0, 1) (List.mem_of_getElem? (i := 11) rfl)) g0 ?_
    refine y_st (e_251 (26, .ldc2_w 110, 3) (List.mem_of_getElem? (i := 12) rfl)) ⟨rfl, rfl, rfl, rfl⟩ ?_
    refine y_c2 (K' := _) (e_251 (29, .invokevirtual 198, 3) (List.mem_of_getElem? (i := 13) rfl)) ⟨rfl, rfl, rfl⟩ t_17_198 ⟨by decide, by decide, by decide, by decide⟩ m_168_ok rfl (by decide) (y_recv h1.1.I h1.1.t ⟨rfl, rfl⟩) (Nat.le_of_ble_eq_true rfl) (Nat.le_of_ble_eq_true rfl) (s_isWord (d := d + 1) h1.1 (t_W 16)) (fun r1 Gc hc1 => ?_)
    obtain ⟨rfl, rfl⟩ := hc1
    simp only [Option.toList_some, Option.toList_none, List.cons_append, List.nil_append]
    rcases ht with ⟨z, rfl⟩ | ⟨z, rfl⟩
    · rw [if_pos ((hT.word (x := 16) (by decide)).mp z)]
      refine y_ifc (e_251 (32, .ifCond .eq 8, 3) (List.mem_of_getElem? (i := 14) rfl)) rfl (fun hb => absurd hb (by decide)) (fun _ => ?_)
      refine y_st (e_251 (35, .bipush 21, 2) (List.mem_of_getElem? (i := 15) rfl)) ⟨rfl, rfl, rfl, rfl⟩ ?_
      refine y_st (e_251 (37, .goto 5, 3) (List.mem_of_getElem? (i := 16) rfl)) ⟨rfl, rfl, rfl, rfl⟩ ?_
      exact at42
    · rw [if_neg (fun w => by have := (hT.word (x := 16) (by decide)).mpr w; omega)]
      refine y_ifc (e_251 (32, .ifCond .eq 8, 3) (List.mem_of_getElem? (i := 14) rfl)) rfl (fun _ => ?_) (fun hb => absurd hb (by decide))
      refine y_st (e_251 (40, .bipush 22, 2) (List.mem_of_getElem? (i := 17) rfl)) ⟨rfl, rfl, rfl, rfl⟩ ?_
      exact at42
  refine y_aln (e_251 (4, .aload_n 0, 1) (List.mem_of_getElem? (i := 2) rfl)) g0 ?_
  refine y_st (e_251 (5, .ldc2_w 110, 3) (List.mem_of_getElem? (i := 3) rfl)) ⟨rfl, rfl, rfl, rfl⟩ ?_
  refine y_c2 (K' := _) (e_251 (8, .invokevirtual 198, 3) (List.mem_of_getElem? (i := 4) rfl)) ⟨rfl, rfl, rfl⟩ t_17_198 ⟨by decide, by decide, by decide, by decide⟩ m_168_ok rfl (by decide) (y_recv h1.1.I h1.1.t ⟨rfl, rfl⟩) (Nat.le_of_ble_eq_true rfl) (Nat.le_of_ble_eq_true rfl) (s_isWord (d := d + 1) h1.1 (t_W 16)) (fun r1 Gc hc1 => ?_)
  obtain ⟨rfl, rfl⟩ := hc1
  simp only [Option.toList_some, Option.toList_none, List.cons_append, List.nil_append]
  by_cases z : tk = 26
  · rw [if_pos ((hT.word (x := 16) (by decide)).mp z)]
    exact y_ifc (e_251 (11, .ifCond .ne 13, 3) (List.mem_of_getElem? (i := 5) rfl)) rfl (fun _ => at24) (fun hb => absurd hb (by decide))
  rw [if_neg (fun w => z ((hT.word (x := 16) (by decide)).mpr w))]
  refine y_ifc (e_251 (11, .ifCond .ne 13, 3) (List.mem_of_getElem? (i := 5) rfl)) rfl (fun hb => absurd hb (by decide)) (fun _ => ?_)
  refine y_aln (e_251 (14, .aload_n 0, 1) (List.mem_of_getElem? (i := 6) rfl)) g0 ?_
  refine y_st (e_251 (15, .ldc2_w 108, 3) (List.mem_of_getElem? (i := 7) rfl)) ⟨rfl, rfl, rfl, rfl⟩ ?_
  refine y_c2 (K' := _) (e_251 (18, .invokevirtual 198, 3) (List.mem_of_getElem? (i := 8) rfl)) ⟨rfl, rfl, rfl⟩ t_17_198 ⟨by decide, by decide, by decide, by decide⟩ m_168_ok rfl (by decide) (y_recv h1.1.I h1.1.t ⟨rfl, rfl⟩) (Nat.le_of_ble_eq_true rfl) (Nat.le_of_ble_eq_true rfl) (s_isWord (d := d + 1) h1.1 (t_W 15)) (fun r1 Gc hc1 => ?_)
  obtain ⟨rfl, rfl⟩ := hc1
  simp only [Option.toList_some, Option.toList_none, List.cons_append, List.nil_append]
  rw [if_pos ((hT.word (x := 15) (by decide)).mp (by omega))]
  exact y_ifc (e_251 (21, .ifCond .eq 71, 3) (List.mem_of_getElem? (i := 9) rfl)) rfl (fun hb => absurd hb (by decide)) (fun _ => at24)
set_option maxHeartbeats 2000000 in
set_option maxRecDepth 100000 in
/-- neither: at 98 -/
theorem s_bh_k (h : SM th am mb sb f n lim p tok at9 sp num wd cd on (dp + j) wh (List.replicate j 20 ++ rest) qf G) (hr : rest.head? ≠ some 20) (hlt : ∀ v ∈ rest, v < 100) (hl : j + rest.length ≤ 45) (hc : cd + j + rest.length ≤ 45) {tk : Nat} {n9 : Int32} {nm : Int64} (hT : TR tk n9 nm tok num wd) (ht : tk ≠ 25 ∧ tk ≠ 26) (hk : ∀ (G1 : List pE) (lv : pL), SM th am mb sb f n lim p tok at9 sp num wd (cd + j + rest.length - (s_pj 22 rest).length) on dp wh (s_pj 22 rest) qf G1 → pm_get lv 0 = some (.ref am) → x_Gd xs L J (d + 2) m_251 K 98 lv [] G1) : x_Gd xs L J (d + 2) m_251 K 0 (lv_args 0 [.ref am]) [] G := by
  refine s_bh_h h hr hlt hl (by omega) (fun G1 lv h1 g0 => ?_)
  refine y_aln (e_251 (4, .aload_n 0, 1) (List.mem_of_getElem? (i := 2) rfl)) g0 ?_
  refine y_st (e_251 (5, .ldc2_w 110, 3) (List.mem_of_getElem? (i := 3) rfl)) ⟨rfl, rfl, rfl, rfl⟩ ?_
  refine y_c2 (K' := _) (e_251 (8, .invokevirtual 198, 3) (List.mem_of_getElem? (i := 4) rfl)) ⟨rfl, rfl, rfl⟩ t_17_198 ⟨by decide, by decide, by decide, by decide⟩ m_168_ok rfl (by decide) (y_recv h1.1.I h1.1.t ⟨rfl, rfl⟩) (Nat.le_of_ble_eq_true rfl) (Nat.le_of_ble_eq_true rfl) (s_isWord (d := d + 1) h1.1 (t_W 16)) (fun r1 Gc hc1 => ?_)
  obtain ⟨rfl, rfl⟩ := hc1
  simp only [Option.toList_some, Option.toList_none, List.cons_append, List.nil_append]
  rw [if_neg (fun w => ht.2 ((hT.word (x := 16) (by decide)).mpr w))]
  refine y_ifc (e_251 (11, .ifCond .ne 13, 3) (List.mem_of_getElem? (i := 5) rfl)) rfl (fun hb => absurd hb (by decide)) (fun _ => ?_)
  refine y_aln (e_251 (14, .aload_n 0, 1) (List.mem_of_getElem? (i := 6) rfl)) g0 ?_
  refine y_st (e_251 (15, .ldc2_w 108, 3) (List.mem_of_getElem? (i := 7) rfl)) ⟨rfl, rfl, rfl, rfl⟩ ?_
  refine y_c2 (K' := _) (e_251 (18, .invokevirtual 198, 3) (List.mem_of_getElem? (i := 8) rfl)) ⟨rfl, rfl, rfl⟩ t_17_198 ⟨by decide, by decide, by decide, by decide⟩ m_168_ok rfl (by decide) (y_recv h1.1.I h1.1.t ⟨rfl, rfl⟩) (Nat.le_of_ble_eq_true rfl) (Nat.le_of_ble_eq_true rfl) (s_isWord (d := d + 1) h1.1 (t_W 15)) (fun r1 Gc hc1 => ?_)
  obtain ⟨rfl, rfl⟩ := hc1
  simp only [Option.toList_some, Option.toList_none, List.cons_append, List.nil_append]
  rw [if_neg (fun w => ht.1 ((hT.word (x := 15) (by decide)).mpr w))]
  refine y_ifc (e_251 (21, .ifCond .eq 71, 3) (List.mem_of_getElem? (i := 9) rfl)) rfl (fun _ => ?_) (fun hb => absurd hb (by decide))
  refine y_aln (e_251 (92, .aload_n 0, 1) (List.mem_of_getElem? (i := 44) rfl)) g0 ?_
  refine y_st (e_251 (93, .bipush 22, 2) (List.mem_of_getElem? (i := 45) rfl)) ⟨rfl, rfl, rfl, rfl⟩ ?_
  refine y_c2 (K' := _) (e_251 (95, .invokevirtual 393, 3) (List.mem_of_getElem? (i := 46) rfl)) ⟨rfl, rfl, rfl⟩ t_17_393 ⟨by decide, by decide, by decide, by decide⟩ m_250_ok rfl (by decide) (y_recv h1.1.I h1.1.t ⟨rfl, rfl⟩) (Nat.le_of_ble_eq_true rfl) (Nat.le_of_ble_eq_true rfl) (s_joins (d := d) (Or.inr rfl) rest _ (cd + j) _ hlt h1 (by omega) (by omega) rfl rfl) (fun r1 Gc hc1 => ?_)
  obtain ⟨rfl, h2⟩ := hc1
  simp only [Option.toList_some, Option.toList_none, List.cons_append, List.nil_append]
  exact hk _ _ h2 g0
set_option maxHeartbeats 2000000 in
set_option maxRecDepth 100000 in
theorem s_bh_n (h : SM th am mb sb f n lim p tok at9 sp num wd cd on (dp + j) wh (List.replicate j 20 ++ rest) qf G) (hr : rest.head? ≠ some 20) (hlt : ∀ v ∈ rest, v < 100) (hl : j + rest.length ≤ 45) (hc : cd + j + rest.length ≤ 45) {tk : Nat} {n9 : Int32} {nm : Int64} (hT : TR tk n9 nm tok num wd) (ht : tk ≠ 25 ∧ tk ≠ 26) (hno : tk ≠ 9 ∨ s_pj 22 rest = []) : x_Gd xs L J (d + 2) m_251 (fun r G' => r = some (.int 0) ∧ x_sl G' am 16 = some (.int at9) ∧ x_sl G' am 15 = some (.int (Int32.ofInt 1)) ∧ xI x_tb th G') 0 (lv_args 0 [.ref am]) [] G := by
  refine s_bh_k h hr hlt hl hc hT ht (fun G1 lv h1 g0 => ?_)
  have at114 : x_Gd xs L J (d + 2) m_251 (fun r G' => r = some (.int 0) ∧ x_sl G' am 16 = some (.int at9) ∧ x_sl G' am 15 = some (.int (Int32.ofInt 1)) ∧ xI x_tb th G') 114 lv [] G1 := by
    refine y_aln (e_251 (114, .aload_n 0, 1) (List.mem_of_getElem? (i := 54) rfl)) g0 ?_
    refine y_st (e_251 (115, .iconst 1, 1) (List.mem_of_getElem? (i := 55) rfl)) ⟨rfl, rfl, rfl, rfl⟩ ?_
    refine y_c2 (K' := _) (e_251 (116, .invokevirtual 167, 3) (List.mem_of_getElem? (i := 56) rfl)) ⟨rfl, rfl, rfl⟩ t_17_167 ⟨by decide, by decide, by decide, by decide⟩ m_171_ok rfl (by decide) (y_recv h1.1.I h1.1.t ⟨rfl, rfl⟩) (Nat.le_of_ble_eq_true rfl) (Nat.le_of_ble_eq_true rfl) (s_bad h1.1 _) (fun r1 Gc hc1 => ?_)
    obtain ⟨rfl, hc2⟩ := hc1
    simp only [Option.toList_some, Option.toList_none, List.cons_append, List.nil_append]
    exact y_ret (e_251 (119, .ireturn, 1) (List.mem_of_getElem? (i := 57) rfl)) ⟨rfl, y_rb (Or.inl rfl)⟩ ⟨rfl, hc2⟩
  refine y_aln (e_251 (98, .aload_n 0, 1) (List.mem_of_getElem? (i := 47) rfl)) g0 ?_
  refine y_st (e_251 (99, .bipush 41, 2) (List.mem_of_getElem? (i := 48) rfl)) ⟨rfl, rfl, rfl, rfl⟩ ?_
  refine y_c2 (K' := _) (e_251 (101, .invokevirtual 164, 3) (List.mem_of_getElem? (i := 49) rfl)) ⟨rfl, rfl, rfl⟩ t_17_164 ⟨by decide, by decide, by decide, by decide⟩ m_181_ok rfl (by decide) (y_recv h1.1.I h1.1.t ⟨rfl, rfl⟩) (Nat.le_of_ble_eq_true rfl) (Nat.le_of_ble_eq_true rfl) (s_isSign (d := d + 1) h1.1 (Int8.ofInt 41).toInt32) (fun r1 Gc hc1 => ?_)
  obtain ⟨rfl, rfl⟩ := hc1
  simp only [Option.toList_some, Option.toList_none, List.cons_append, List.nil_append]
  by_cases z : tk = 9
  · rw [if_pos ((hT.sg (j := 5) (v := (Int8.ofInt 41).toInt32) (by decide) rfl).mp z)]
    refine y_ifc (e_251 (104, .ifCond .eq 10, 3) (List.mem_of_getElem? (i := 50) rfl)) rfl (fun hb => absurd hb (by decide)) (fun _ => ?_)
    have e := hno.resolve_left (fun w => w z)
    refine y_aln (e_251 (107, .aload_n 0, 1) (List.mem_of_getElem? (i := 51) rfl)) g0 ?_
    refine y_getf h1.1.I h1.1.t (e_251 (108, .getfield 371, 3) (List.mem_of_getElem? (i := 52) rfl)) u_17_371 ⟨rfl, rfl⟩ h1.s38 ?_
    rw [e]
    exact y_ifc (e_251 (111, .ifCond .ne 9, 3) (List.mem_of_getElem? (i := 53) rfl)) rfl (fun hb => absurd hb (by decide)) (fun _ => at114)
  · rw [if_neg (fun w => z ((hT.sg (j := 5) (v := (Int8.ofInt 41).toInt32) (by decide) rfl).mpr w))]
    exact y_ifc (e_251 (104, .ifCond .eq 10, 3) (List.mem_of_getElem? (i := 50) rfl)) rfl (fun _ => at114) (fun hb => absurd hb (by decide))
set_option maxHeartbeats 2000000 in
set_option maxRecDepth 100000 in
/-- ) -/
theorem s_bh_c (h : SM th am mb sb f n lim p tok at9 sp num wd cd on (dp + 1 + j) wh (List.replicate j 20 ++ rest) qf G) (hr : rest.head? ≠ some 20) (hlt : ∀ v ∈ rest, v < 100) (hl : j + rest.length ≤ 45) (hc : cd + j + rest.length ≤ 45) {tk : Nat} {n9 : Int32} {nm : Int64} (hT : TR tk n9 nm tok num wd) (h9 : tk = 9) (hy : s_pj 22 rest = 23 :: r2) (hN : NXm f n lim p num wd p2 tok2 at2 sp2 num2 wd2) : x_Gd xs L J (d + 2) m_251 (fun r G' => r = some (.int 1) ∧ SM th am mb sb f n lim p2 tok2 at2 sp2 num2 wd2 (cd + j + rest.length - (r2.length + 1)) on dp wh r2 qf G') 0 (lv_args 0 [.ref am]) [] G := by
  refine s_bh_k h hr hlt hl hc hT (by omega) (fun G1 lv h1 g0 => ?_)
  have pl := s_pj_len 22 rest
  rw [hy, List.length_cons] at pl
  rw [hy] at h1
  have el := s_toI (a := r2.length) (by omega)
  refine y_aln (e_251 (98, .aload_n 0, 1) (List.mem_of_getElem? (i := 47) rfl)) g0 ?_
  refine y_st (e_251 (99, .bipush 41, 2) (List.mem_of_getElem? (i := 48) rfl)) ⟨rfl, rfl, rfl, rfl⟩ ?_
  refine y_c2 (K' := _) (e_251 (101, .invokevirtual 164, 3) (List.mem_of_getElem? (i := 49) rfl)) ⟨rfl, rfl, rfl⟩ t_17_164 ⟨by decide, by decide, by decide, by decide⟩ m_181_ok rfl (by decide) (y_recv h1.1.I h1.1.t ⟨rfl, rfl⟩) (Nat.le_of_ble_eq_true rfl) (Nat.le_of_ble_eq_true rfl) (s_isSign (d := d + 1) h1.1 (Int8.ofInt 41).toInt32) (fun r1 Gc hc1 => ?_)
  obtain ⟨rfl, rfl⟩ := hc1
  simp only [Option.toList_some, Option.toList_none, List.cons_append, List.nil_append]
  rw [if_pos ((hT.sg (j := 5) (v := (Int8.ofInt 41).toInt32) (by decide) rfl).mp h9)]
  refine y_ifc (e_251 (104, .ifCond .eq 10, 3) (List.mem_of_getElem? (i := 50) rfl)) rfl (fun hb => absurd hb (by decide)) (fun _ => ?_)
  refine y_aln (e_251 (107, .aload_n 0, 1) (List.mem_of_getElem? (i := 51) rfl)) g0 ?_
  refine y_getf h1.1.I h1.1.t (e_251 (108, .getfield 371, 3) (List.mem_of_getElem? (i := 52) rfl)) u_17_371 ⟨rfl, rfl⟩ h1.s38 ?_
  refine y_ifc (e_251 (111, .ifCond .ne 9, 3) (List.mem_of_getElem? (i := 53) rfl)) rfl (fun _ => ?_) (fun hb => ?_)
  rotate_left
  · have := congrArg Int32.toInt (y_hI.2.2.2.1 hb)
    rw [List.length_cons, s_toI (by omega)] at this
    exact absurd this (by show ¬ ((r2.length + 1 : Nat) : Int) = 0; omega)
  refine y_aln (e_251 (120, .aload_n 0, 1) (List.mem_of_getElem? (i := 58) rfl)) g0 ?_
  refine y_st (e_251 (121, .dup, 1) (List.mem_of_getElem? (i := 59) rfl)) ⟨rfl, rfl, rfl, rfl⟩ ?_
  refine y_getf h1.1.I h1.1.t (e_251 (122, .getfield 371, 3) (List.mem_of_getElem? (i := 60) rfl)) u_17_371 ⟨rfl, rfl⟩ h1.s38 ?_
  refine y_st (e_251 (125, .iconst 1, 1) (List.mem_of_getElem? (i := 61) rfl)) ⟨rfl, rfl, rfl, rfl⟩ ?_
  refine y_st (e_251 (126, .isub, 1) (List.mem_of_getElem? (i := 62) rfl)) ⟨rfl, rfl, rfl, rfl⟩ ?_
  rw [List.length_cons, s_dec]
  refine y_putf (f := (0, 0, 45)) h1.1.I h1.1.t (e_251 (127, .putfield 371, 3) (List.mem_of_getElem? (i := 63) rfl)) u_17_371 ⟨rfl, rfl, by decide, rfl, rfl⟩ ⟨_, rfl, by show (0 : Int) ≤ _; omega, by show _ ≤ (45 : Int); omega⟩ (fun G2 u2 => ?_)
  have h2 := h1.pop (by omega) u2
  refine y_aln (e_251 (130, .aload_n 0, 1) (List.mem_of_getElem? (i := 64) rfl)) g0 ?_
  refine y_st (e_251 (131, .dup, 1) (List.mem_of_getElem? (i := 65) rfl)) ⟨rfl, rfl, rfl, rfl⟩ ?_
  refine y_getf h2.1.I h2.1.t (e_251 (132, .getfield 378, 3) (List.mem_of_getElem? (i := 66) rfl)) u_17_378 ⟨rfl, rfl⟩ h2.s39 ?_
  refine y_st (e_251 (135, .iconst 1, 1) (List.mem_of_getElem? (i := 67) rfl)) ⟨rfl, rfl, rfl, rfl⟩ ?_
  refine y_st (e_251 (136, .isub, 1) (List.mem_of_getElem? (i := 68) rfl)) ⟨rfl, rfl, rfl, rfl⟩ ?_
  rw [s_dec]
  refine y_putf (f := (0, -2147483648, 2147483647)) h2.1.I h2.1.t (e_251 (137, .putfield 378, 3) (List.mem_of_getElem? (i := 69) rfl)) u_17_378 ⟨rfl, rfl, by decide, rfl, rfl⟩ ⟨_, rfl, (x_i32 _).1, (x_i32 _).2⟩ (fun G3 u3 => ?_)
  have h3 := h2.udp u3
  refine y_aln (e_251 (140, .aload_n 0, 1) (List.mem_of_getElem? (i := 70) rfl)) g0 ?_
  refine y_c1 (K' := _) (e_251 (141, .invokevirtual 170, 3) (List.mem_of_getElem? (i := 71) rfl)) ⟨rfl, rfl, rfl⟩ t_17_170 ⟨by decide, by decide, by decide, by decide⟩ m_163_ok rfl (by decide) (y_recv h3.1.I h3.1.t ⟨rfl, rfl⟩) (Nat.le_of_ble_eq_true rfl) (Nat.le_of_ble_eq_true rfl) (hN _ _ _ _ _ _ _ _ _ _ _ _ h3.1) (fun r1 Gc hc1 => ?_)
  obtain ⟨rfl, hc2⟩ := hc1
  simp only [Option.toList_some, Option.toList_none, List.cons_append, List.nil_append]
  have h4 := h3.nxt hc2
  refine y_st (e_251 (144, .iconst 1, 1) (List.mem_of_getElem? (i := 72) rfl)) ⟨rfl, rfl, rfl, rfl⟩ ?_
  exact y_ret (e_251 (145, .ireturn, 1) (List.mem_of_getElem? (i := 73) rfl)) ⟨rfl, y_rb (Or.inr rfl)⟩ ⟨rfl, h4⟩

-- ===== the loop of sentence() =====
set_option maxHeartbeats 2000000 in
set_option maxRecDepth 100000 in
theorem s_lp_af (h : SM th am mb sb f n lim p tok at9 sp num wd cd on dp wh st qf G) (hw : wh = 0) (hc : x_Gd xs L J d m_252 (fun r G' => r = some (.int 0) ∧ x_sl G' am 16 = some (.int p9) ∧ x_sl G' am 15 = some (.int q) ∧ xI x_tb th G') 0 (lv_args 0 [.ref am]) [] G) (g0 : pm_get lv 0 = some (.ref am)) (g1 : pm_get lv 1 = some (.int 1)) : x_Gd xs L J (d + 1) m_247 (fun r G' => r = some (.int (Int32.ofInt (-1) - p9)) ∧ x_sl G' am 15 = some (.int q)) 48 lv [] G := by
  subst hw
  refine y_iln (e_247 (48, .iload_n 1, 1) (List.mem_of_getElem? (i := 28) rfl)) g1 ?_
  refine y_ifc (e_247 (49, .ifCond .eq 83, 3) (List.mem_of_getElem? (i := 29) rfl)) rfl (fun hb => absurd hb (by decide)) (fun _ => ?_)
  refine y_aln (e_247 (52, .aload_n 0, 1) (List.mem_of_getElem? (i := 30) rfl)) g0 ?_
  refine y_getf h.1.I h.1.t (e_247 (53, .getfield 387, 3) (List.mem_of_getElem? (i := 31) rfl)) u_17_387 ⟨rfl, rfl⟩ h.s40 ?_
  refine y_ifc (e_247 (56, .ifCond .eq 45, 3) (List.mem_of_getElem? (i := 32) rfl)) rfl (fun _ => ?_) (fun hb => absurd hb (by decide))
  refine y_aln (e_247 (101, .aload_n 0, 1) (List.mem_of_getElem? (i := 56) rfl)) g0 ?_
  refine y_getf h.1.I h.1.t (e_247 (102, .getfield 387, 3) (List.mem_of_getElem? (i := 57) rfl)) u_17_387 ⟨rfl, rfl⟩ h.s40 ?_
  refine y_ifc (e_247 (105, .ifCond .eq 13, 3) (List.mem_of_getElem? (i := 58) rfl)) rfl (fun _ => ?_) (fun hb => absurd hb (by decide))
  refine y_aln (e_247 (118, .aload_n 0, 1) (List.mem_of_getElem? (i := 63) rfl)) g0 ?_
  refine y_c1 (K' := _) (e_247 (119, .invokevirtual 399, 3) (List.mem_of_getElem? (i := 64) rfl)) ⟨rfl, rfl, rfl⟩ t_17_399 ⟨by decide, by decide, by decide, by decide⟩ m_252_ok rfl (by decide) (y_recv h.1.I h.1.t ⟨rfl, rfl⟩) (Nat.le_of_ble_eq_true rfl) (Nat.le_of_ble_eq_true rfl) (hc) (fun r1 Gc hc1 => ?_)
  obtain ⟨rfl, z16, z15, hI⟩ := hc1
  simp only [Option.toList_some, Option.toList_none, List.cons_append, List.nil_append]
  refine y_ifc (e_247 (122, .ifCond .ne (-74), 3) (List.mem_of_getElem? (i := 65) rfl)) rfl (fun hb => absurd hb (by decide)) (fun _ => ?_)
  refine y_st (e_247 (125, .iconst (-1), 1) (List.mem_of_getElem? (i := 66) rfl)) ⟨rfl, rfl, rfl, rfl⟩ ?_
  refine y_aln (e_247 (126, .aload_n 0, 1) (List.mem_of_getElem? (i := 67) rfl)) g0 ?_
  refine y_getf hI h.1.t (e_247 (127, .getfield 161, 3) (List.mem_of_getElem? (i := 68) rfl)) u_17_161 ⟨rfl, rfl⟩ z16 ?_
  refine y_st (e_247 (130, .isub, 1) (List.mem_of_getElem? (i := 69) rfl)) ⟨rfl, rfl, rfl, rfl⟩ ?_
  exact y_ret (e_247 (131, .ireturn, 1) (List.mem_of_getElem? (i := 70) rfl)) ⟨rfl, y_ri⟩ ⟨rfl, z15⟩
set_option maxHeartbeats 2000000 in
set_option maxRecDepth 100000 in
theorem s_lp_ag (h : SM th am mb sb f n lim p tok at9 sp num wd cd on dp wh st qf G) (hw : wh = 0) (hc : x_Gd xs L J d m_252 (fun r G' => r = some (.int 1) ∧ C G') 0 (lv_args 0 [.ref am]) [] G) (g0 : pm_get lv 0 = some (.ref am)) (g1 : pm_get lv 1 = some (.int 1)) (hk : ∀ G1 : List pE, C G1 → x_Gd xs L J (d + 1) m_247 K 48 lv [] G1) : x_Gd xs L J (d + 1) m_247 K 48 lv [] G := by
  subst hw
  refine y_iln (e_247 (48, .iload_n 1, 1) (List.mem_of_getElem? (i := 28) rfl)) g1 ?_
  refine y_ifc (e_247 (49, .ifCond .eq 83, 3) (List.mem_of_getElem? (i := 29) rfl)) rfl (fun hb => absurd hb (by decide)) (fun _ => ?_)
  refine y_aln (e_247 (52, .aload_n 0, 1) (List.mem_of_getElem? (i := 30) rfl)) g0 ?_
  refine y_getf h.1.I h.1.t (e_247 (53, .getfield 387, 3) (List.mem_of_getElem? (i := 31) rfl)) u_17_387 ⟨rfl, rfl⟩ h.s40 ?_
  refine y_ifc (e_247 (56, .ifCond .eq 45, 3) (List.mem_of_getElem? (i := 32) rfl)) rfl (fun _ => ?_) (fun hb => absurd hb (by decide))
  refine y_aln (e_247 (101, .aload_n 0, 1) (List.mem_of_getElem? (i := 56) rfl)) g0 ?_
  refine y_getf h.1.I h.1.t (e_247 (102, .getfield 387, 3) (List.mem_of_getElem? (i := 57) rfl)) u_17_387 ⟨rfl, rfl⟩ h.s40 ?_
  refine y_ifc (e_247 (105, .ifCond .eq 13, 3) (List.mem_of_getElem? (i := 58) rfl)) rfl (fun _ => ?_) (fun hb => absurd hb (by decide))
  refine y_aln (e_247 (118, .aload_n 0, 1) (List.mem_of_getElem? (i := 63) rfl)) g0 ?_
  refine y_c1 (K' := _) (e_247 (119, .invokevirtual 399, 3) (List.mem_of_getElem? (i := 64) rfl)) ⟨rfl, rfl, rfl⟩ t_17_399 ⟨by decide, by decide, by decide, by decide⟩ m_252_ok rfl (by decide) (y_recv h.1.I h.1.t ⟨rfl, rfl⟩) (Nat.le_of_ble_eq_true rfl) (Nat.le_of_ble_eq_true rfl) (hc) (fun r1 Gc hc1 => ?_)
  obtain ⟨rfl, hC⟩ := hc1
  simp only [Option.toList_some, Option.toList_none, List.cons_append, List.nil_append]
  exact y_ifc (e_247 (122, .ifCond .ne (-74), 3) (List.mem_of_getElem? (i := 65) rfl)) rfl (fun _ => hk _ hC) (fun hb => absurd hb (by decide))
set_option maxHeartbeats 2000000 in
set_option maxRecDepth 100000 in
theorem s_lp_bf (h : SM th am mb sb f n lim p tok at9 sp num wd cd on dp wh st qf G) (hw : wh = 1) (ht : tok ≠ Int32.ofInt 0) (hc : x_Gd xs L J d m_251 (fun r G' => r = some (.int 0) ∧ x_sl G' am 16 = some (.int p9) ∧ x_sl G' am 15 = some (.int q) ∧ xI x_tb th G') 0 (lv_args 0 [.ref am]) [] G) (g0 : pm_get lv 0 = some (.ref am)) (g1 : pm_get lv 1 = some (.int 1)) : x_Gd xs L J (d + 1) m_247 (fun r G' => r = some (.int (Int32.ofInt (-1) - p9)) ∧ x_sl G' am 15 = some (.int q)) 48 lv [] G := by
  subst hw
  refine y_iln (e_247 (48, .iload_n 1, 1) (List.mem_of_getElem? (i := 28) rfl)) g1 ?_
  refine y_ifc (e_247 (49, .ifCond .eq 83, 3) (List.mem_of_getElem? (i := 29) rfl)) rfl (fun hb => absurd hb (by decide)) (fun _ => ?_)
  refine y_aln (e_247 (52, .aload_n 0, 1) (List.mem_of_getElem? (i := 30) rfl)) g0 ?_
  refine y_getf h.1.I h.1.t (e_247 (53, .getfield 387, 3) (List.mem_of_getElem? (i := 31) rfl)) u_17_387 ⟨rfl, rfl⟩ h.s40 ?_
  refine y_ifc (e_247 (56, .ifCond .eq 45, 3) (List.mem_of_getElem? (i := 32) rfl)) rfl (fun hb => absurd hb (by decide)) (fun _ => ?_)
  refine y_aln (e_247 (59, .aload_n 0, 1) (List.mem_of_getElem? (i := 33) rfl)) g0 ?_
  refine y_getf h.1.I h.1.t (e_247 (60, .getfield 141, 3) (List.mem_of_getElem? (i := 34) rfl)) u_17_141 ⟨rfl, rfl⟩ h.1.s11 ?_
  refine y_ifc (e_247 (63, .ifCond .ne 38, 3) (List.mem_of_getElem? (i := 35) rfl)) rfl (fun _ => ?_) (fun hb => absurd (y_hI.2.2.2.1 hb) ht)
  refine y_aln (e_247 (101, .aload_n 0, 1) (List.mem_of_getElem? (i := 56) rfl)) g0 ?_
  refine y_getf h.1.I h.1.t (e_247 (102, .getfield 387, 3) (List.mem_of_getElem? (i := 57) rfl)) u_17_387 ⟨rfl, rfl⟩ h.s40 ?_
  refine y_ifc (e_247 (105, .ifCond .eq 13, 3) (List.mem_of_getElem? (i := 58) rfl)) rfl (fun hb => absurd hb (by decide)) (fun _ => ?_)
  refine y_aln (e_247 (108, .aload_n 0, 1) (List.mem_of_getElem? (i := 59) rfl)) g0 ?_
  refine y_c1 (K' := _) (e_247 (109, .invokevirtual 396, 3) (List.mem_of_getElem? (i := 60) rfl)) ⟨rfl, rfl, rfl⟩ t_17_396 ⟨by decide, by decide, by decide, by decide⟩ m_251_ok rfl (by decide) (y_recv h.1.I h.1.t ⟨rfl, rfl⟩) (Nat.le_of_ble_eq_true rfl) (Nat.le_of_ble_eq_true rfl) (hc) (fun r1 Gc hc1 => ?_)
  obtain ⟨rfl, z16, z15, hI⟩ := hc1
  simp only [Option.toList_some, Option.toList_none, List.cons_append, List.nil_append]
  refine y_ifc (e_247 (112, .ifCond .ne (-64), 3) (List.mem_of_getElem? (i := 61) rfl)) rfl (fun hb => absurd hb (by decide)) (fun _ => ?_)
  refine y_st (e_247 (115, .goto 10, 3) (List.mem_of_getElem? (i := 62) rfl)) ⟨rfl, rfl, rfl, rfl⟩ ?_
  refine y_st (e_247 (125, .iconst (-1), 1) (List.mem_of_getElem? (i := 66) rfl)) ⟨rfl, rfl, rfl, rfl⟩ ?_
  refine y_aln (e_247 (126, .aload_n 0, 1) (List.mem_of_getElem? (i := 67) rfl)) g0 ?_
  refine y_getf hI h.1.t (e_247 (127, .getfield 161, 3) (List.mem_of_getElem? (i := 68) rfl)) u_17_161 ⟨rfl, rfl⟩ z16 ?_
  refine y_st (e_247 (130, .isub, 1) (List.mem_of_getElem? (i := 69) rfl)) ⟨rfl, rfl, rfl, rfl⟩ ?_
  exact y_ret (e_247 (131, .ireturn, 1) (List.mem_of_getElem? (i := 70) rfl)) ⟨rfl, y_ri⟩ ⟨rfl, z15⟩
set_option maxHeartbeats 2000000 in
set_option maxRecDepth 100000 in
theorem s_lp_bg (h : SM th am mb sb f n lim p tok at9 sp num wd cd on dp wh st qf G) (hw : wh = 1) (ht : tok ≠ Int32.ofInt 0) (hc : x_Gd xs L J d m_251 (fun r G' => r = some (.int 1) ∧ C G') 0 (lv_args 0 [.ref am]) [] G) (g0 : pm_get lv 0 = some (.ref am)) (g1 : pm_get lv 1 = some (.int 1)) (hk : ∀ G1 : List pE, C G1 → x_Gd xs L J (d + 1) m_247 K 48 lv [] G1) : x_Gd xs L J (d + 1) m_247 K 48 lv [] G := by
  subst hw
  refine y_iln (e_247 (48, .iload_n 1, 1) (List.mem_of_getElem? (i := 28) rfl)) g1 ?_
  refine y_ifc (e_247 (49, .ifCond .eq 83, 3) (List.mem_of_getElem? (i := 29) rfl)) rfl (fun hb => absurd hb (by decide)) (fun _ => ?_)
  refine y_aln (e_247 (52, .aload_n 0, 1) (List.mem_of_getElem? (i := 30) rfl)) g0 ?_
  refine y_getf h.1.I h.1.t (e_247 (53, .getfield 387, 3) (List.mem_of_getElem? (i := 31) rfl)) u_17_387 ⟨rfl, rfl⟩ h.s40 ?_
  refine y_ifc (e_247 (56, .ifCond .eq 45, 3) (List.mem_of_getElem? (i := 32) rfl)) rfl (fun hb => absurd hb (by decide)) (fun _ => ?_)
  refine y_aln (e_247 (59, .aload_n 0, 1) (List.mem_of_getElem? (i := 33) rfl)) g0 ?_
  refine y_getf h.1.I h.1.t (e_247 (60, .getfield 141, 3) (List.mem_of_getElem? (i := 34) rfl)) u_17_141 ⟨rfl, rfl⟩ h.1.s11 ?_
  refine y_ifc (e_247 (63, .ifCond .ne 38, 3) (List.mem_of_getElem? (i := 35) rfl)) rfl (fun _ => ?_) (fun hb => absurd (y_hI.2.2.2.1 hb) ht)
  refine y_aln (e_247 (101, .aload_n 0, 1) (List.mem_of_getElem? (i := 56) rfl)) g0 ?_
  refine y_getf h.1.I h.1.t (e_247 (102, .getfield 387, 3) (List.mem_of_getElem? (i := 57) rfl)) u_17_387 ⟨rfl, rfl⟩ h.s40 ?_
  refine y_ifc (e_247 (105, .ifCond .eq 13, 3) (List.mem_of_getElem? (i := 58) rfl)) rfl (fun hb => absurd hb (by decide)) (fun _ => ?_)
  refine y_aln (e_247 (108, .aload_n 0, 1) (List.mem_of_getElem? (i := 59) rfl)) g0 ?_
  refine y_c1 (K' := _) (e_247 (109, .invokevirtual 396, 3) (List.mem_of_getElem? (i := 60) rfl)) ⟨rfl, rfl, rfl⟩ t_17_396 ⟨by decide, by decide, by decide, by decide⟩ m_251_ok rfl (by decide) (y_recv h.1.I h.1.t ⟨rfl, rfl⟩) (Nat.le_of_ble_eq_true rfl) (Nat.le_of_ble_eq_true rfl) (hc) (fun r1 Gc hc1 => ?_)
  obtain ⟨rfl, hC⟩ := hc1
  simp only [Option.toList_some, Option.toList_none, List.cons_append, List.nil_append]
  exact y_ifc (e_247 (112, .ifCond .ne (-64), 3) (List.mem_of_getElem? (i := 61) rfl)) rfl (fun _ => hk _ hC) (fun hb => absurd hb (by decide))
set_option maxHeartbeats 2000000 in
set_option maxRecDepth 100000 in
/-- the text ends: at 76 -/
theorem s_lp_s (h : SM th am mb sb f n lim p tok at9 sp num wd cd on (dp + j) wh (List.replicate j 20 ++ rest) qf G) (hw : wh = 1) (ht : tok = Int32.ofInt 0) (hr : rest.head? ≠ some 20) (hlt : ∀ v ∈ rest, v < 100) (hl : j + rest.length ≤ 45) (hc : cd + j + rest.length ≤ 45) (g0 : pm_get lv 0 = some (.ref am)) (g1 : pm_get lv 1 = some (.int 1)) (hk : ∀ G1 : List pE, SM th am mb sb f n lim p tok at9 sp num wd (cd + j + rest.length - (s_pj 22 rest).length) on dp wh (s_pj 22 rest) qf G1 → x_Gd xs L J (d + 2) m_247 K 76 lv [] G1) : x_Gd xs L J (d + 2) m_247 K 48 lv [] G := by
  subst hw
  refine y_iln (e_247 (48, .iload_n 1, 1) (List.mem_of_getElem? (i := 28) rfl)) g1 ?_
  refine y_ifc (e_247 (49, .ifCond .eq 83, 3) (List.mem_of_getElem? (i := 29) rfl)) rfl (fun hb => absurd hb (by decide)) (fun _ => ?_)
  refine y_aln (e_247 (52, .aload_n 0, 1) (List.mem_of_getElem? (i := 30) rfl)) g0 ?_
  refine y_getf h.1.I h.1.t (e_247 (53, .getfield 387, 3) (List.mem_of_getElem? (i := 31) rfl)) u_17_387 ⟨rfl, rfl⟩ h.s40 ?_
  refine y_ifc (e_247 (56, .ifCond .eq 45, 3) (List.mem_of_getElem? (i := 32) rfl)) rfl (fun hb => absurd hb (by decide)) (fun _ => ?_)
  refine y_aln (e_247 (59, .aload_n 0, 1) (List.mem_of_getElem? (i := 33) rfl)) g0 ?_
  refine y_getf h.1.I h.1.t (e_247 (60, .getfield 141, 3) (List.mem_of_getElem? (i := 34) rfl)) u_17_141 ⟨rfl, rfl⟩ h.1.s11 ?_
  refine y_ifc (e_247 (63, .ifCond .ne 38, 3) (List.mem_of_getElem? (i := 35) rfl)) rfl (fun hb => absurd ht (y_hI.2.2.1 hb)) (fun _ => ?_)
  refine y_aln (e_247 (66, .aload_n 0, 1) (List.mem_of_getElem? (i := 36) rfl)) g0 ?_
  refine y_c1 (K' := _) (e_247 (67, .invokevirtual 390, 3) (List.mem_of_getElem? (i := 37) rfl)) ⟨rfl, rfl, rfl⟩ t_17_390 ⟨by decide, by decide, by decide, by decide⟩ m_248_ok rfl (by decide) (y_recv h.1.I h.1.t ⟨rfl, rfl⟩) (Nat.le_of_ble_eq_true rfl) (Nat.le_of_ble_eq_true rfl) (s_nots (d := d) hr hlt j _ cd dp G h hl (by omega) rfl) (fun r1 Gc hc1 => ?_)
  obtain ⟨rfl, h1⟩ := hc1
  simp only [Option.toList_some, Option.toList_none, List.cons_append, List.nil_append]
  refine y_aln (e_247 (70, .aload_n 0, 1) (List.mem_of_getElem? (i := 38) rfl)) g0 ?_
  refine y_st (e_247 (71, .bipush 22, 2) (List.mem_of_getElem? (i := 39) rfl)) ⟨rfl, rfl, rfl, rfl⟩ ?_
  refine y_c2 (K' := _) (e_247 (73, .invokevirtual 393, 3) (List.mem_of_getElem? (i := 40) rfl)) ⟨rfl, rfl, rfl⟩ t_17_393 ⟨by decide, by decide, by decide, by decide⟩ m_250_ok rfl (by decide) (y_recv h1.1.I h1.1.t ⟨rfl, rfl⟩) (Nat.le_of_ble_eq_true rfl) (Nat.le_of_ble_eq_true rfl) (s_joins (d := d) (Or.inr rfl) rest _ (cd + j) _ hlt h1 (by omega) (by omega) rfl rfl) (fun r1 Gc hc1 => ?_)
  obtain ⟨rfl, h2⟩ := hc1
  simp only [Option.toList_some, Option.toList_none, List.cons_append, List.nil_append]
  exact hk _ h2
set_option maxHeartbeats 2000000 in
set_option maxRecDepth 100000 in
theorem s_lp_sf (h : SM th am mb sb f n lim p tok at9 sp num wd cd on (dp + j) wh (List.replicate j 20 ++ rest) qf G) (hw : wh = 1) (ht : tok = Int32.ofInt 0) (hr : rest.head? ≠ some 20) (hlt : ∀ v ∈ rest, v < 100) (hl : j + rest.length ≤ 45) (hc : cd + j + rest.length ≤ 45) (g0 : pm_get lv 0 = some (.ref am)) (g1 : pm_get lv 1 = some (.int 1)) (hy : s_pj 22 rest ≠ []) : x_Gd xs L J (d + 2) m_247 (fun r G' => r = some (.int (Int32.ofInt (-1) - at9)) ∧ x_sl G' am 15 = some (.int (Int32.ofInt 1))) 48 lv [] G := by
  refine s_lp_s h hw ht hr hlt hl hc g0 g1 (fun G1 h1 => ?_)
  have pl := s_pj_len 22 rest
  refine y_aln (e_247 (76, .aload_n 0, 1) (List.mem_of_getElem? (i := 41) rfl)) g0 ?_
  refine y_getf h1.1.I h1.1.t (e_247 (77, .getfield 371, 3) (List.mem_of_getElem? (i := 42) rfl)) u_17_371 ⟨rfl, rfl⟩ h1.s38 ?_
  refine y_ifc (e_247 (80, .ifCond .le 16, 3) (List.mem_of_getElem? (i := 43) rfl)) rfl (fun hb => ?_) (fun _ => ?_)
  · have := y_hI.2.2.2.2.2.2.1 hb
    rw [s_toI (by omega)] at this
    have z0 : (0 : Int32).toInt = 0 := rfl
    exact absurd (List.length_eq_zero_iff.mp (by omega)) hy
  refine y_aln (e_247 (83, .aload_n 0, 1) (List.mem_of_getElem? (i := 44) rfl)) g0 ?_
  refine y_st (e_247 (84, .iconst 1, 1) (List.mem_of_getElem? (i := 45) rfl)) ⟨rfl, rfl, rfl, rfl⟩ ?_
  refine y_c2 (K' := _) (e_247 (85, .invokevirtual 167, 3) (List.mem_of_getElem? (i := 46) rfl)) ⟨rfl, rfl, rfl⟩ t_17_167 ⟨by decide, by decide, by decide, by decide⟩ m_171_ok rfl (by decide) (y_recv h1.1.I h1.1.t ⟨rfl, rfl⟩) (Nat.le_of_ble_eq_true rfl) (Nat.le_of_ble_eq_true rfl) (s_bad h1.1 _) (fun r1 Gc hc1 => ?_)
  obtain ⟨rfl, z16, z15, hI⟩ := hc1
  simp only [Option.toList_some, Option.toList_none, List.cons_append, List.nil_append]
  refine y_st (e_247 (88, .pop, 1) (List.mem_of_getElem? (i := 47) rfl)) ⟨rfl, rfl, rfl, rfl⟩ ?_
  refine y_st (e_247 (89, .iconst (-1), 1) (List.mem_of_getElem? (i := 48) rfl)) ⟨rfl, rfl, rfl, rfl⟩ ?_
  refine y_aln (e_247 (90, .aload_n 0, 1) (List.mem_of_getElem? (i := 49) rfl)) g0 ?_
  refine y_getf hI h.1.t (e_247 (91, .getfield 161, 3) (List.mem_of_getElem? (i := 50) rfl)) u_17_161 ⟨rfl, rfl⟩ z16 ?_
  refine y_st (e_247 (94, .isub, 1) (List.mem_of_getElem? (i := 51) rfl)) ⟨rfl, rfl, rfl, rfl⟩ ?_
  exact y_ret (e_247 (95, .ireturn, 1) (List.mem_of_getElem? (i := 52) rfl)) ⟨rfl, y_ri⟩ ⟨rfl, z15⟩
set_option maxHeartbeats 2000000 in
set_option maxRecDepth 100000 in
theorem s_lp_sg (h : SM th am mb sb f n lim p tok at9 sp num wd cd on (dp + j) wh (List.replicate j 20 ++ rest) qf G) (hw : wh = 1) (ht : tok = Int32.ofInt 0) (hr : rest.head? ≠ some 20) (hlt : ∀ v ∈ rest, v < 100) (hl : j + rest.length ≤ 45) (hc : cd + j + rest.length ≤ 45) (g0 : pm_get lv 0 = some (.ref am)) (g1 : pm_get lv 1 = some (.int 1)) (hy : s_pj 22 rest = []) (hk : ∀ (G1 : List pE) (lv : pL), SM th am mb sb f n lim p tok at9 sp num wd (cd + j + rest.length) on dp wh [] qf G1 → pm_get lv 0 = some (.ref am) → x_Gd xs L J (d + 2) m_247 K 132 lv [] G1) : x_Gd xs L J (d + 2) m_247 K 48 lv [] G := by
  refine s_lp_s h hw ht hr hlt hl hc g0 g1 (fun G1 h1 => ?_)
  rw [hy] at h1
  refine y_aln (e_247 (76, .aload_n 0, 1) (List.mem_of_getElem? (i := 41) rfl)) g0 ?_
  refine y_getf h1.1.I h1.1.t (e_247 (77, .getfield 371, 3) (List.mem_of_getElem? (i := 42) rfl)) u_17_371 ⟨rfl, rfl⟩ h1.s38 ?_
  refine y_ifc (e_247 (80, .ifCond .le 16, 3) (List.mem_of_getElem? (i := 43) rfl)) rfl (fun _ => ?_) (fun hb => absurd hb (by decide))
  refine y_st (e_247 (96, .iconst 0, 1) (List.mem_of_getElem? (i := 53) rfl)) ⟨rfl, rfl, rfl, rfl⟩ ?_
  refine y_isn (e_247 (97, .istore_n 1, 1) (List.mem_of_getElem? (i := 54) rfl)) (by decide) ?_
  refine y_st (e_247 (98, .goto (-50), 3) (List.mem_of_getElem? (i := 55) rfl)) ⟨rfl, rfl, rfl, rfl⟩ ?_
  refine y_iln (e_247 (48, .iload_n 1, 1) (List.mem_of_getElem? (i := 28) rfl)) x_get_self ?_
  refine y_ifc (e_247 (49, .ifCond .eq 83, 3) (List.mem_of_getElem? (i := 29) rfl)) rfl (fun _ => ?_) (fun hb => absurd hb (by decide))
  exact hk _ _ h1 (y_gpr g0 (by decide))
end S7
set_option maxHeartbeats 2000000 in
set_option maxRecDepth 100000 in
theorem s_scopy {th : List Nat} {xs : Nat → Int32} {L J d a rb sb sc : Nat} {G0 : List pE} {o9 : Int32} {K : Option Value → List pE → Prop} {F : Nat → Option Value} {rd st : Nat → Int32} {c : Int32} (h37 : F 37 = some (.int o9)) (hK : ∀ G' i, z_T th G0 G' a rb sb sc F rd st c i → i.toInt = 3 * c.toInt → K (some (.int o9)) G') : ∀ (n : Nat) (G : List pE) (lv : pL) (i : Int32), z_T th G0 G a rb sb sc F rd st c i → (3 * c.toInt - i.toInt).toNat = n → pm_get lv 0 = some (.ref a) → pm_get lv 2 = some (.int i) → x_Gd xs L J d m_247 K 146 lv [] G := by
  intro n
  induction n with
  | zero =>
    intro G lv i hT hn g0 g2
    obtain ⟨hV, hc, h6, tc, c0, c1, i0, i1, hk, h143, hj, hE⟩ := id hT
    have ta := hV.2.1
    have m3 := y_mul3 c0 (by omega)
    refine y_iln (e_247 (146, .iload_n 2, 1) (List.mem_of_getElem? (i := 79) rfl)) g2 ?_
    refine y_st (e_247 (147, .iconst 3, 1) (List.mem_of_getElem? (i := 80) rfl)) ⟨rfl, rfl, rfl, rfl⟩ ?_
    refine y_aln (e_247 (148, .aload_n 0, 1) (List.mem_of_getElem? (i := 81) rfl)) g0 ?_
    refine y_getf hV.1 ta (e_247 (149, .getfield 368, 3) (List.mem_of_getElem? (i := 82) rfl)) u_17_368 ⟨rfl, rfl⟩ ((hV.2.2.1 36).trans hc) ?_
    refine y_st (e_247 (152, .imul, 1) (List.mem_of_getElem? (i := 83) rfl)) ⟨rfl, rfl, rfl, rfl⟩ ?_
    refine y_icm (e_247 (153, .if_icmp .ge 25, 3) (List.mem_of_getElem? (i := 84) rfl)) rfl (fun hb => ?_) (fun hb => ?_)
    · refine y_aln (e_247 (178, .aload_n 0, 1) (List.mem_of_getElem? (i := 97) rfl)) g0 ?_
      refine y_getf hV.1 ta (e_247 (179, .getfield 384, 3) (List.mem_of_getElem? (i := 98) rfl)) u_17_384 ⟨rfl, rfl⟩ ((hV.2.2.1 37).trans h37) ?_
      refine y_ret (e_247 (182, .ireturn, 1) (List.mem_of_getElem? (i := 99) rfl)) ⟨rfl, y_ri⟩ (hK _ i hT (by omega))
    · have := y_hI.2.2.2.2.2.1 hb
      omega
  | succ n ih =>
    intro G lv i hT hn g0 g2
    obtain ⟨hV, hc, h6, tc, c0, c1, i0, i1, hk, h143, hj, hE⟩ := id hT
    have ta := hV.2.1
    have tr := hV.2.2.2.2.2.1
    have m3 := y_mul3 c0 (by omega)
    have e144 : ((Int16.ofInt 144).toInt32).toInt = 144 := by decide
    have ei : ((Int16.ofInt 144).toInt32 + i).toInt = 144 + i.toInt := by rw [y_add (by omega) (by omega)]; omega
    have e1 := y_add1 (t := i) (by omega)
    refine y_iln (e_247 (146, .iload_n 2, 1) (List.mem_of_getElem? (i := 79) rfl)) g2 ?_
    refine y_st (e_247 (147, .iconst 3, 1) (List.mem_of_getElem? (i := 80) rfl)) ⟨rfl, rfl, rfl, rfl⟩ ?_
    refine y_aln (e_247 (148, .aload_n 0, 1) (List.mem_of_getElem? (i := 81) rfl)) g0 ?_
    refine y_getf hV.1 ta (e_247 (149, .getfield 368, 3) (List.mem_of_getElem? (i := 82) rfl)) u_17_368 ⟨rfl, rfl⟩ ((hV.2.2.1 36).trans hc) ?_
    refine y_st (e_247 (152, .imul, 1) (List.mem_of_getElem? (i := 83) rfl)) ⟨rfl, rfl, rfl, rfl⟩ ?_
    refine y_icm (e_247 (153, .if_icmp .ge 25, 3) (List.mem_of_getElem? (i := 84) rfl)) rfl (fun hb => ?_) (fun hb => ?_)
    · have := y_hI.2.2.2.2.1 hb
      omega
    · refine y_aln (e_247 (156, .aload_n 0, 1) (List.mem_of_getElem? (i := 85) rfl)) g0 ?_
      refine y_getf hV.1 ta (e_247 (157, .getfield 33, 3) (List.mem_of_getElem? (i := 86) rfl)) u_17_33 ⟨rfl, rfl⟩ ((hV.2.2.1 6).trans h6) ?_
      refine y_st (e_247 (160, .sipush 144, 3) (List.mem_of_getElem? (i := 87) rfl)) ⟨rfl, rfl, rfl, rfl⟩ ?_
      refine y_iln (e_247 (163, .iload_n 2, 1) (List.mem_of_getElem? (i := 88) rfl)) g2 ?_
      refine y_st (e_247 (164, .iadd, 1) (List.mem_of_getElem? (i := 89) rfl)) ⟨rfl, rfl, rfl, rfl⟩ ?_
      refine y_aln (e_247 (165, .aload_n 0, 1) (List.mem_of_getElem? (i := 90) rfl)) g0 ?_
      refine y_getf hV.1 ta (e_247 (166, .getfield 40, 3) (List.mem_of_getElem? (i := 91) rfl)) u_17_40 ⟨rfl, rfl⟩ ((hV.2.2.1 8).trans hV.2.2.2.1) ?_
      refine y_iln (e_247 (169, .iload_n 2, 1) (List.mem_of_getElem? (i := 92) rfl)) g2 ?_
      refine y_iald hV.1 tr (e_247 (170, .iaload, 1) (List.mem_of_getElem? (i := 93) rfl)) ⟨rfl, rfl⟩ i0 (hV.2.2.2.2.2.2.2.1 i.toInt.toNat (by omega)) ?_
      refine y_iast hV.1 tc (e_247 (171, .iastore, 1) (List.mem_of_getElem? (i := 94) rfl)) ⟨rfl, rfl⟩ ⟨by omega, by show _ < (324 : Int); omega⟩ (fun G1 u1 => ?_)
      rw [show ((Int16.ofInt 144).toInt32 + i).toInt.toNat = 144 + i.toInt.toNat by omega] at u1
      have hx : ∀ f', x_at (x_tb 36).2.2.2 (144 + i.toInt.toNat) = some f' → xf_ok th f' (.int (rd i.toInt.toNat)) := y_okA (E_s36 _ (by omega))
      refine y_iinc (e_247 (172, .iinc 2 1, 3) (List.mem_of_getElem? (i := 95) rfl)) g2 (by decide) ?_
      refine y_st (e_247 (175, .goto (-29), 3) (List.mem_of_getElem? (i := 96) rfl)) ⟨rfl, rfl, rfl, rfl⟩ ?_
      refine ih G1 _ (i + Int32.ofInt 1) ⟨hV.other u1 tc ⟨by decide, by decide, by decide⟩ hx, hc, h6, tc, c0, c1, by omega, by omega, fun k hk1 => ?_, ?_, fun j hj1 => ?_, hE.tr (x_eff.upd u1 tc (q := (36, 143, 323)) List.mem_cons_self rfl (by show 143 ≤ 144 + i.toInt.toNat; omega) (by show 144 + i.toInt.toNat ≤ 323; omega))⟩ (by omega) (y_gpr g0 (by decide)) x_get_self
      · rw [u1.2.1, if_neg (fun z => by omega)]
        exact hk k hk1
      · rw [u1.2.1, if_neg (fun z => by omega)]
        exact h143
      · rw [u1.2.1]
        by_cases hji : j = i.toInt.toNat
        · rw [if_pos ⟨rfl, by omega⟩, hji]
        · rw [if_neg (fun z => by omega)]
          exact hj j (by omega)
section S7B
variable {th : List Nat} {xs : Nat → Int32} {L J d am mb sb : Nat} {K : Option Value → List pE → Prop} {f : Nat → Int32} {G0 G G1 G' : List pE} {n lim p tok at9 sp num : Int32} {wd : Int64} {lv : pL} {p2 tok2 at2 sp2 num2 : Int32} {wd2 : Int64} {cd on dp wh k v j : Nat} {st rest r2 : List Nat} {qf q p9 : Int32} {C : List pE → Prop}
set_option maxHeartbeats 2000000 in
set_option maxRecDepth 100000 in
/-- the SENTENCE is kept: how many ONES -/
theorem s_tail (h : SM th am mb sb f n lim p tok at9 sp num wd cd on dp wh st qf G) (hcd : cd ≤ 40) (g0 : pm_get lv 0 = some (.ref am)) : x_Gd xs L J d m_247 (fun r G' => r = some (.int (Int32.ofNat on)) ∧ x_sl G' am 15 = some (.int qf)) 132 lv [] G := by
  obtain ⟨rb, sb2, rd, stk, hV⟩ := z_view h.1.I h.1.t
  obtain ⟨sc, h6, tc⟩ := y_fref (i := 6) (u := 36) h.1.I h.1.t rfl
  have e143 : ((Int16.ofInt 143).toInt32).toInt = 143 := by decide
  have ec := s_toI (a := cd) (by omega)
  have z0 : (0 : Int32).toInt = 0 := rfl
  refine y_aln (e_247 (132, .aload_n 0, 1) (List.mem_of_getElem? (i := 71) rfl)) g0 ?_
  refine y_getf h.1.I h.1.t (e_247 (133, .getfield 33, 3) (List.mem_of_getElem? (i := 72) rfl)) u_17_33 ⟨rfl, rfl⟩ h6 ?_
  refine y_st (e_247 (136, .sipush 143, 3) (List.mem_of_getElem? (i := 73) rfl)) ⟨rfl, rfl, rfl, rfl⟩ ?_
  refine y_aln (e_247 (139, .aload_n 0, 1) (List.mem_of_getElem? (i := 74) rfl)) g0 ?_
  refine y_getf h.1.I h.1.t (e_247 (140, .getfield 368, 3) (List.mem_of_getElem? (i := 75) rfl)) u_17_368 ⟨rfl, rfl⟩ h.s36 ?_
  refine y_iast h.1.I tc (e_247 (143, .iastore, 1) (List.mem_of_getElem? (i := 76) rfl)) ⟨rfl, rfl⟩ ⟨by omega, by show _ < (324 : Int); omega⟩ (fun G3 u3 => ?_)
  rw [show ((Int16.ofInt 143).toInt32).toInt.toNat = 143 by omega] at u3
  have hx : ∀ f', x_at (x_tb 36).2.2.2 143 = some f' → xf_ok th f' (.int (Int32.ofNat cd)) := y_okI (lo := 0) (hi := 45) rfl (by omega) (by omega)
  have hV3 := hV.other u3 tc ⟨by decide, by decide, by decide⟩ hx
  refine y_st (e_247 (144, .iconst 0, 1) (List.mem_of_getElem? (i := 77) rfl)) ⟨rfl, rfl, rfl, rfl⟩ ?_
  refine y_isn (e_247 (145, .istore_n 2, 1) (List.mem_of_getElem? (i := 78) rfl)) (by decide) ?_
  refine s_scopy (G0 := G) (sc := sc) (c := Int32.ofNat cd) h.s37 (fun G' i hT hi => ?_) _ G3 _ 0 ⟨hV3, h.s36, h6, tc, by omega, by omega, by decide, by rw [z0]; omega, fun k hk => by rw [u3.2.1, if_neg (fun z => by omega)], by rw [u3.2.1, if_pos ⟨rfl, rfl⟩], fun j hj => absurd hj (by rw [z0]; exact Nat.not_lt_zero _), x_eff.upd u3 tc (q := (36, 143, 323)) List.mem_cons_self rfl (by decide) (by decide)⟩ rfl (y_gpr g0 (by decide)) x_get_self
  exact ⟨rfl, (hT.1.2.2.1 15).trans h.2.2.2.2.2.2.2.2.1⟩
theorem TM.u {i : Nat} {v : Value} {n' lim' p' : Int32} (h : TM th am mb f G0 n lim p tok at9 sp num wd G) (u : x_upd G G1 am i v) (hi : i ≠ 1 ∧ i ≠ 11 ∧ i ≠ 12 ∧ i ≠ 13 ∧ i ≠ 14 ∧ i ≠ 17) (hI : xI x_tb th G1) (e3 : x_sl G1 am 3 = some (.int n')) (e4 : x_sl G1 am 4 = some (.int p')) (e5 : x_sl G1 am 5 = some (.int lim')) : TM th am mb f G1 n' lim' p' tok at9 sp num wd G1 := by
  have n9 : am ≠ mb := fun z => by have t1 := h.t; rw [z, h.tb] at t1; cases t1
  exact ⟨hI, h.t, h.tb, fun j hj => by rw [u.2.1, if_neg (fun z => n9 z.1.symm)]; exact h.by j hj, fun _ _ _ => rfl, by rw [u.2.1, if_neg (fun z => by omega)]; exact h.s1, e3, e4, e5, by rw [u.2.1, if_neg (fun z => by omega)]; exact h.s11, by rw [u.2.1, if_neg (fun z => by omega)]; exact h.s12, by rw [u.2.1, if_neg (fun z => by omega)]; exact h.s13, by rw [u.2.1, if_neg (fun z => by omega)]; exact h.s14, by rw [u.2.1, if_neg (fun z => by omega)]; exact h.s17⟩
/-- a slot that the tokens don't ask -/
theorem TM.w8 {i : Nat} {v : Value} (h : TM th am mb f G0 n lim p tok at9 sp num wd G) (u : x_upd G G1 am i v) (hi : i ≠ 1 ∧ i ≠ 3 ∧ i ≠ 4 ∧ i ≠ 5 ∧ i ≠ 11 ∧ i ≠ 12 ∧ i ≠ 13 ∧ i ≠ 14 ∧ i ≠ 17) (hI : xI x_tb th G1) : TM th am mb f G1 n lim p tok at9 sp num wd G1 :=
  h.u u (by omega) hI (by rw [u.2.1, if_neg (fun z => by omega)]; exact h.s3) (by rw [u.2.1, if_neg (fun z => by omega)]; exact h.s4) (by rw [u.2.1, if_neg (fun z => by omega)]; exact h.s5)
set_option maxHeartbeats 2000000 in
set_option maxRecDepth 100000 in
theorem s_taken {sz v : Int32} (h : TM th am mb f G0 n lim p tok at9 sp num wd G) (hs : x_sl G am 2 = some (.int sz)) (hr : 0 ≤ sz.toInt ∧ sz.toInt ≤ 940) : x_Gd xs L J d m_162 (fun r G' => r = none ∧ TM th am mb f G' sz v (Int32.ofInt 0) tok at9 sp num wd G') 0 (lv_args 0 [.ref am, .int v]) [] G := by
  have g0 : pm_get (lv_args 0 [.ref am, .int v]) 0 = some (.ref am) := rfl
  have g1 : pm_get (lv_args 0 [.ref am, .int v]) 1 = some (.int v) := rfl
  generalize lv_args 0 [.ref am, .int v] = lv at g0 g1 ⊢
  refine y_aln (e_162 (0, .aload_n 0, 1) (List.mem_of_getElem? (i := 0) rfl)) g0 ?_
  refine y_aln (e_162 (1, .aload_n 0, 1) (List.mem_of_getElem? (i := 1) rfl)) g0 ?_
  refine y_getf h.I h.t (e_162 (2, .getfield 7, 3) (List.mem_of_getElem? (i := 2) rfl)) u_17_7 ⟨rfl, rfl⟩ hs ?_
  refine y_putf (f := (0, 0, 940)) h.I h.t (e_162 (5, .putfield 18, 3) (List.mem_of_getElem? (i := 3) rfl)) u_17_18 ⟨rfl, rfl, by decide, rfl, rfl⟩ ⟨_, rfl, hr.1, hr.2⟩ (fun G1 u1 => ?_)
  have w1 := h.u u1 (by decide) (h.I.upd u1 h.t (y_okI rfl hr.1 hr.2)) (by rw [u1.2.1, if_pos ⟨rfl, rfl⟩]) (by rw [u1.2.1, if_neg (fun z => absurd z.2 (by decide))]; exact h.s4) (by rw [u1.2.1, if_neg (fun z => absurd z.2 (by decide))]; exact h.s5)
  refine y_aln (e_162 (8, .aload_n 0, 1) (List.mem_of_getElem? (i := 4) rfl)) g0 ?_
  refine y_st (e_162 (9, .iconst 0, 1) (List.mem_of_getElem? (i := 5) rfl)) ⟨rfl, rfl, rfl, rfl⟩ ?_
  refine y_putf (f := (0, 0, 940)) w1.I w1.t (e_162 (10, .putfield 7, 3) (List.mem_of_getElem? (i := 6) rfl)) u_17_7 ⟨rfl, rfl, by decide, rfl, rfl⟩ ⟨_, rfl, by decide, by decide⟩ (fun G2 u2 => ?_)
  have w2 := w1.w8 u2 (by decide) (w1.I.upd u2 w1.t (y_okI rfl (by decide) (by decide)))
  refine y_aln (e_162 (13, .aload_n 0, 1) (List.mem_of_getElem? (i := 7) rfl)) g0 ?_
  refine y_st (e_162 (14, .iconst 0, 1) (List.mem_of_getElem? (i := 8) rfl)) ⟨rfl, rfl, rfl, rfl⟩ ?_
  refine y_putf (f := (0, 0, 940)) w2.I w2.t (e_162 (15, .putfield 21, 3) (List.mem_of_getElem? (i := 9) rfl)) u_17_21 ⟨rfl, rfl, by decide, rfl, rfl⟩ ⟨_, rfl, by decide, by decide⟩ (fun G3 u3 => ?_)
  have w3 := w2.u u3 (by decide) (w2.I.upd u3 w2.t (y_okI rfl (by decide) (by decide))) (by rw [u3.2.1, if_neg (fun z => absurd z.2 (by decide))]; exact w2.s3) (by rw [u3.2.1, if_pos ⟨rfl, rfl⟩]) (by rw [u3.2.1, if_neg (fun z => absurd z.2 (by decide))]; exact w2.s5)
  refine y_aln (e_162 (18, .aload_n 0, 1) (List.mem_of_getElem? (i := 10) rfl)) g0 ?_
  refine y_iln (e_162 (19, .iload_n 1, 1) (List.mem_of_getElem? (i := 11) rfl)) g1 ?_
  refine y_putf (f := (0, -2147483648, 2147483647)) w3.I w3.t (e_162 (20, .putfield 24, 3) (List.mem_of_getElem? (i := 12) rfl)) u_17_24 ⟨rfl, rfl, by decide, rfl, rfl⟩ ⟨_, rfl, (x_i32 _).1, (x_i32 _).2⟩ (fun G4 u4 => ?_)
  have w4 := w3.u u4 (by decide) (w3.I.upd u4 w3.t (y_okA rfl)) (by rw [u4.2.1, if_neg (fun z => absurd z.2 (by decide))]; exact w3.s3) (by rw [u4.2.1, if_neg (fun z => absurd z.2 (by decide))]; exact w3.s4) (by rw [u4.2.1, if_pos ⟨rfl, rfl⟩])
  exact y_ret (e_162 (23, .return_, 1) (List.mem_of_getElem? (i := 13) rfl)) ⟨rfl, rfl⟩ ⟨rfl, w4⟩
set_option maxHeartbeats 2000000 in
set_option maxRecDepth 100000 in
theorem s_head {sz : Int32} (h : TM th am mb f G0 n lim p tok at9 sp num wd G) (hs : x_sl G am 2 = some (.int sz)) (hr : 0 ≤ sz.toInt ∧ sz.toInt ≤ 940) (hN : NXm f sz (Int16.ofInt 200).toInt32 (Int32.ofInt 0) num wd p2 tok2 at2 sp2 num2 wd2) (hk : ∀ (G1 : List pE) (lv : pL) (sb : Nat), SM th am mb sb f sz (Int16.ofInt 200).toInt32 p2 tok2 at2 sp2 num2 wd2 0 0 1 0 [] (Int32.ofInt 0) G1 → pm_get lv 0 = some (.ref am) → pm_get lv 1 = some (.int 1) → x_Gd xs L J (d + 2) m_247 K 48 lv [] G1) : x_Gd xs L J (d + 2) m_247 K 0 (lv_args 0 [.ref am]) [] G := by
  have g0 : pm_get (lv_args 0 [.ref am]) 0 = some (.ref am) := rfl
  generalize lv_args 0 [.ref am] = lv at g0 ⊢
  refine y_aln (e_247 (0, .aload_n 0, 1) (List.mem_of_getElem? (i := 0) rfl)) g0 ?_
  refine y_st (e_247 (1, .iconst 0, 1) (List.mem_of_getElem? (i := 1) rfl)) ⟨rfl, rfl, rfl, rfl⟩ ?_
  refine y_putf (f := (0, -2147483648, 2147483647)) h.I h.t (e_247 (2, .putfield 1, 3) (List.mem_of_getElem? (i := 2) rfl)) u_17_1 ⟨rfl, rfl, by decide, rfl, rfl⟩ ⟨_, rfl, (x_i32 _).1, (x_i32 _).2⟩ (fun Ga ua => ?_)
  have ha := h.w8 ua (by decide) (h.I.upd ua h.t (y_okA rfl))
  refine y_aln (e_247 (5, .aload_n 0, 1) (List.mem_of_getElem? (i := 3) rfl)) g0 ?_
  refine y_st (e_247 (6, .sipush 200, 3) (List.mem_of_getElem? (i := 4) rfl)) ⟨rfl, rfl, rfl, rfl⟩ ?_
  refine y_c2 (K' := _) (e_247 (9, .invokevirtual 217, 3) (List.mem_of_getElem? (i := 5) rfl)) ⟨rfl, rfl, rfl⟩ t_17_217 ⟨by decide, by decide, by decide, by decide⟩ m_162_ok rfl (by decide) (y_recv ha.I ha.t ⟨rfl, rfl⟩) (Nat.le_of_ble_eq_true rfl) (Nat.le_of_ble_eq_true rfl) (s_taken (d := d + 1) ha (by rw [ua.2.1, if_neg (fun z => absurd z.2 (by decide))]; exact hs) hr) (fun r1 Gc hc1 => ?_)
  obtain ⟨rfl, w0⟩ := hc1
  simp only [Option.toList_some, Option.toList_none, List.cons_append, List.nil_append]
  refine y_aln (e_247 (12, .aload_n 0, 1) (List.mem_of_getElem? (i := 6) rfl)) g0 ?_
  refine y_st (e_247 (13, .iconst 0, 1) (List.mem_of_getElem? (i := 7) rfl)) ⟨rfl, rfl, rfl, rfl⟩ ?_
  refine y_putf (f := (0, -2147483648, 2147483647)) w0.I w0.t (e_247 (14, .putfield 158, 3) (List.mem_of_getElem? (i := 8) rfl)) u_17_158 ⟨rfl, rfl, by decide, rfl, rfl⟩ ⟨_, rfl, (x_i32 _).1, (x_i32 _).2⟩ (fun G1 u1 => ?_)
  have w1 := w0.w8 u1 (by decide) (w0.I.upd u1 w0.t (y_okA rfl))
  refine y_aln (e_247 (17, .aload_n 0, 1) (List.mem_of_getElem? (i := 9) rfl)) g0 ?_
  refine y_st (e_247 (18, .iconst 0, 1) (List.mem_of_getElem? (i := 10) rfl)) ⟨rfl, rfl, rfl, rfl⟩ ?_
  refine y_putf (f := (0, 0, 45)) w1.I w1.t (e_247 (19, .putfield 368, 3) (List.mem_of_getElem? (i := 11) rfl)) u_17_368 ⟨rfl, rfl, by decide, rfl, rfl⟩ ⟨_, rfl, by decide, by decide⟩ (fun G2 u2 => ?_)
  have w2 := w1.w8 u2 (by decide) (w1.I.upd u2 w1.t (y_okI (lo := 0) (hi := 45) rfl (by decide) (by decide)))
  refine y_aln (e_247 (22, .aload_n 0, 1) (List.mem_of_getElem? (i := 12) rfl)) g0 ?_
  refine y_st (e_247 (23, .iconst 0, 1) (List.mem_of_getElem? (i := 13) rfl)) ⟨rfl, rfl, rfl, rfl⟩ ?_
  refine y_putf (f := (0, -2147483648, 2147483647)) w2.I w2.t (e_247 (24, .putfield 384, 3) (List.mem_of_getElem? (i := 14) rfl)) u_17_384 ⟨rfl, rfl, by decide, rfl, rfl⟩ ⟨_, rfl, (x_i32 _).1, (x_i32 _).2⟩ (fun G3 u3 => ?_)
  have w3 := w2.w8 u3 (by decide) (w2.I.upd u3 w2.t (y_okA rfl))
  refine y_aln (e_247 (27, .aload_n 0, 1) (List.mem_of_getElem? (i := 15) rfl)) g0 ?_
  refine y_st (e_247 (28, .iconst 0, 1) (List.mem_of_getElem? (i := 16) rfl)) ⟨rfl, rfl, rfl, rfl⟩ ?_
  refine y_putf (f := (0, 0, 45)) w3.I w3.t (e_247 (29, .putfield 371, 3) (List.mem_of_getElem? (i := 17) rfl)) u_17_371 ⟨rfl, rfl, by decide, rfl, rfl⟩ ⟨_, rfl, by decide, by decide⟩ (fun G4 u4 => ?_)
  have w4 := w3.w8 u4 (by decide) (w3.I.upd u4 w3.t (y_okI (lo := 0) (hi := 45) rfl (by decide) (by decide)))
  refine y_aln (e_247 (32, .aload_n 0, 1) (List.mem_of_getElem? (i := 18) rfl)) g0 ?_
  refine y_st (e_247 (33, .iconst 1, 1) (List.mem_of_getElem? (i := 19) rfl)) ⟨rfl, rfl, rfl, rfl⟩ ?_
  refine y_putf (f := (0, -2147483648, 2147483647)) w4.I w4.t (e_247 (34, .putfield 378, 3) (List.mem_of_getElem? (i := 20) rfl)) u_17_378 ⟨rfl, rfl, by decide, rfl, rfl⟩ ⟨_, rfl, (x_i32 _).1, (x_i32 _).2⟩ (fun G5 u5 => ?_)
  have w5 := w4.w8 u5 (by decide) (w4.I.upd u5 w4.t (y_okA rfl))
  refine y_aln (e_247 (37, .aload_n 0, 1) (List.mem_of_getElem? (i := 21) rfl)) g0 ?_
  refine y_st (e_247 (38, .iconst 0, 1) (List.mem_of_getElem? (i := 22) rfl)) ⟨rfl, rfl, rfl, rfl⟩ ?_
  refine y_putf (f := (0, 0, 1)) w5.I w5.t (e_247 (39, .putfield 387, 3) (List.mem_of_getElem? (i := 23) rfl)) u_17_387 ⟨rfl, rfl, by decide, rfl, rfl⟩ ⟨_, rfl, by decide, by decide⟩ (fun G6 u6 => ?_)
  have w6 := w5.w8 u6 (by decide) (w5.I.upd u6 w5.t (y_okI (lo := 0) (hi := 1) rfl (by decide) (by decide)))
  refine y_aln (e_247 (42, .aload_n 0, 1) (List.mem_of_getElem? (i := 24) rfl)) g0 ?_
  refine y_c1 (K' := _) (e_247 (43, .invokevirtual 170, 3) (List.mem_of_getElem? (i := 25) rfl)) ⟨rfl, rfl, rfl⟩ t_17_170 ⟨by decide, by decide, by decide, by decide⟩ m_163_ok rfl (by decide) (y_recv w6.I w6.t ⟨rfl, rfl⟩) (Nat.le_of_ble_eq_true rfl) (Nat.le_of_ble_eq_true rfl) (hN _ _ _ _ _ _ _ _ _ _ _ _ w6) (fun r1 Gc hc1 => ?_)
  obtain ⟨rfl, t⟩ := hc1
  simp only [Option.toList_some, Option.toList_none, List.cons_append, List.nil_append]
  obtain ⟨sb, k35, tsb⟩ := y_fref (i := 35) (u := 45) t.I t.t rfl
  refine y_st (e_247 (46, .iconst 1, 1) (List.mem_of_getElem? (i := 26) rfl)) ⟨rfl, rfl, rfl, rfl⟩ ?_
  refine y_isn (e_247 (47, .istore_n 1, 1) (List.mem_of_getElem? (i := 27) rfl)) (by decide) ?_
  exact hk _ _ sb ⟨t.self, tsb, k35, by rw [t.ot _ _ (Or.inr (by decide)), u6.2.1, if_neg (fun z => absurd z.2 (by decide)), u5.2.1, if_neg (fun z => absurd z.2 (by decide)), u4.2.1, if_neg (fun z => absurd z.2 (by decide)), u3.2.1, if_neg (fun z => absurd z.2 (by decide)), u2.2.1, if_pos ⟨rfl, rfl⟩]; rfl, by rw [t.ot _ _ (Or.inr (by decide)), u6.2.1, if_neg (fun z => absurd z.2 (by decide)), u5.2.1, if_neg (fun z => absurd z.2 (by decide)), u4.2.1, if_neg (fun z => absurd z.2 (by decide)), u3.2.1, if_pos ⟨rfl, rfl⟩]; rfl, by rw [t.ot _ _ (Or.inr (by decide)), u6.2.1, if_neg (fun z => absurd z.2 (by decide)), u5.2.1, if_neg (fun z => absurd z.2 (by decide)), u4.2.1, if_pos ⟨rfl, rfl⟩]; rfl, by rw [t.ot _ _ (Or.inr (by decide)), u6.2.1, if_neg (fun z => absurd z.2 (by decide)), u5.2.1, if_pos ⟨rfl, rfl⟩]; rfl, by rw [t.ot _ _ (Or.inr (by decide)), u6.2.1, if_pos ⟨rfl, rfl⟩]; rfl, by rw [t.ot _ _ (Or.inr (by decide)), u6.2.1, if_neg (fun z => absurd z.2 (by decide)), u5.2.1, if_neg (fun z => absurd z.2 (by decide)), u4.2.1, if_neg (fun z => absurd z.2 (by decide)), u3.2.1, if_neg (fun z => absurd z.2 (by decide)), u2.2.1, if_neg (fun z => absurd z.2 (by decide)), u1.2.1, if_pos ⟨rfl, rfl⟩], trivial⟩ (y_gpr g0 (by decide)) x_get_self
end S7B
