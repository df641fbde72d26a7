section MG5
variable {th : List Nat} {xs : Nat → Int32} {L J d am mb hb nb rb : Nat} {K : Option Value → List pE → Prop} {f : Nat → Int32} {G : List pE} {n lim : Int32} {lv : pL} {hf : Nat → Int32} {nf : Nat → Int64} {on : Int32} {p0 tok0 at0 sp0 num0 : Int32} {wd0 : Int64} {p1 tok1 at1 sp1 num1 : Int32} {wd1 : Int64} {p2 tok2 at2 sp2 num2 : Int32} {wd2 : Int64} {p3 tok3 at3 sp3 num3 : Int32} {wd3 : Int64} {p4 tok4 at4 sp4 num4 : Int32} {wd4 : Int64} {p5 tok5 at5 sp5 num5 : Int32} {wd5 : Int64} {p6 tok6 at6 sp6 num6 : Int32} {wd6 : Int64}
set_option maxHeartbeats 2000000 in
set_option maxRecDepth 100000 in
theorem k_place_a {n9 vy ce : Int32} (h : MS th am mb hb nb rb f n lim p0 tok0 at0 sp0 num0 wd0 hf nf on G) (hN1 : NXm f n lim p0 num0 wd0 p1 tok1 at1 sp1 num1 wd1) (hno : ¬ (tok1 = Int32.ofInt 1 ∧ ∀ x : Nat, x < 25 → wd1 ≠ t_W x) ∨ t_Told hf nf wd1) : x_Gd xs L J (d + 3) m_176 (fun r G' => r = some (.int 0) ∧ x_sl G' am 16 = some (.int at1) ∧ x_sl G' am 15 = some (.int (t_kf tok1 wd1))) 0 (lv_args 0 [.ref am, .int n9, .int vy, .int ce]) [] G := by
  have g0 : pm_get (lv_args 0 [.ref am, .int n9, .int vy, .int ce]) 0 = some (.ref am) := rfl
  have c4 := h.2.2.2.2.2.2.2.1
  refine y_aln (e_176 (0, .aload_n 0, 1) (List.mem_of_getElem? (i := 0) rfl)) g0 ?_
  refine y_st (e_176 (1, .dup, 1) (List.mem_of_getElem? (i := 1) rfl)) ⟨rfl, rfl, rfl, rfl⟩ ?_
  refine y_getf h.T.I h.T.t (e_176 (2, .getfield 192, 3) (List.mem_of_getElem? (i := 2) rfl)) u_17_192 ⟨rfl, rfl⟩ c4 ?_
  refine y_st (e_176 (5, .iconst 1, 1) (List.mem_of_getElem? (i := 3) rfl)) ⟨rfl, rfl, rfl, rfl⟩ ?_
  refine y_st (e_176 (6, .ior, 1) (List.mem_of_getElem? (i := 4) rfl)) ⟨rfl, rfl, rfl, rfl⟩ ?_
  refine y_putf (f := (0, -2147483648, 2147483647)) h.T.I h.T.t (e_176 (7, .putfield 192, 3) (List.mem_of_getElem? (i := 5) rfl)) u_17_192 ⟨rfl, rfl, by decide, rfl, rfl⟩ ⟨_, rfl, (x_i32 _).1, (x_i32 _).2⟩ (fun G1 u1 => ?_)
  have h1 := h.on9 u1 (h.T.I.upd u1 h.T.t (y_okA rfl))
  refine y_aln (e_176 (10, .aload_n 0, 1) (List.mem_of_getElem? (i := 6) rfl)) g0 ?_
  refine y_c1 (K' := _) (e_176 (11, .invokevirtual 170, 3) (List.mem_of_getElem? (i := 7) rfl)) ⟨rfl, rfl, rfl⟩ t_17_170 ⟨by decide, by decide, by decide, by decide⟩ m_163_ok rfl (by decide) (y_recv h1.T.I h1.T.t ⟨rfl, rfl⟩) (Nat.le_of_ble_eq_true rfl) (Nat.le_of_ble_eq_true rfl) (hN1 _ _ _ _ _ _ _ _ _ _ _ _ h1.T) (fun r1 Gc hc1 => ?_)
  obtain ⟨rfl, hc2⟩ := hc1
  simp only [Option.toList_some, Option.toList_none, List.cons_append, List.nil_append]
  have hc3 := h1.nxt hc2
  have hq1 := hc3
  refine y_aln (e_176 (14, .aload_n 0, 1) (List.mem_of_getElem? (i := 8) rfl)) g0 ?_
  refine y_iln (e_176 (15, .iload_n 1, 1) (List.mem_of_getElem? (i := 9) rfl)) rfl ?_
  refine y_c2 (K' := _) (e_176 (16, .invokevirtual 214, 3) (List.mem_of_getElem? (i := 10) rfl)) ⟨rfl, rfl, rfl⟩ t_17_214 ⟨by decide, by decide, by decide, by decide⟩ m_177_ok rfl (by decide) (y_recv hq1.T.I hq1.T.t ⟨rfl, rfl⟩) (Nat.le_of_ble_eq_true rfl) (Nat.le_of_ble_eq_true rfl) (k_fresh_no hq1 hno) (fun r1 Gc hc1 => ?_)
  obtain ⟨rfl, hz⟩ := hc1
  simp only [Option.toList_some, Option.toList_none, List.cons_append, List.nil_append]
  refine y_ifc (e_176 (19, .ifCond .eq 41, 3) (List.mem_of_getElem? (i := 11) rfl)) rfl (fun _ => ?_) (fun hc => absurd hc (by decide))
  refine y_st (e_176 (60, .iconst 0, 1) (List.mem_of_getElem? (i := 36) rfl)) ⟨rfl, rfl, rfl, rfl⟩ ?_
  exact y_ret (e_176 (61, .ireturn, 1) (List.mem_of_getElem? (i := 37) rfl)) ⟨rfl, y_rb (Or.inl rfl)⟩ ⟨rfl, hz⟩
set_option maxHeartbeats 2000000 in
set_option maxRecDepth 100000 in
theorem k_place_b {n9 vy ce : Int32} (h : MS th am mb hb nb rb f n lim p0 tok0 at0 sp0 num0 wd0 hf nf on G) (hN1 : NXm f n lim p0 num0 wd0 p1 tok1 at1 sp1 num1 wd1) (hname : tok1 = Int32.ofInt 1 ∧ ∀ x : Nat, x < 25 → wd1 ≠ t_W x) (hT : ¬ t_Told hf nf wd1) (hn9 : 0 ≤ n9.toInt ∧ n9.toInt < 32) (hN2 : NXm f n lim p1 num1 wd1 p2 tok2 at2 sp2 num2 wd2) (hno : tok2 ≠ Int32.ofInt 2 ∨ num2.toInt < 0 ∨ 1 < num2.toInt) : x_Gd xs L J (d + 4) m_176 (fun r G' => r = some (.int 0) ∧ x_sl G' am 16 = some (.int at2) ∧ x_sl G' am 15 = some (.int (t_km tok2))) 0 (lv_args 0 [.ref am, .int n9, .int vy, .int ce]) [] G := by
  have g0 : pm_get (lv_args 0 [.ref am, .int n9, .int vy, .int ce]) 0 = some (.ref am) := rfl
  have c4 := h.2.2.2.2.2.2.2.1
  refine y_aln (e_176 (0, .aload_n 0, 1) (List.mem_of_getElem? (i := 0) rfl)) g0 ?_
  refine y_st (e_176 (1, .dup, 1) (List.mem_of_getElem? (i := 1) rfl)) ⟨rfl, rfl, rfl, rfl⟩ ?_
  refine y_getf h.T.I h.T.t (e_176 (2, .getfield 192, 3) (List.mem_of_getElem? (i := 2) rfl)) u_17_192 ⟨rfl, rfl⟩ c4 ?_
  refine y_st (e_176 (5, .iconst 1, 1) (List.mem_of_getElem? (i := 3) rfl)) ⟨rfl, rfl, rfl, rfl⟩ ?_
  refine y_st (e_176 (6, .ior, 1) (List.mem_of_getElem? (i := 4) rfl)) ⟨rfl, rfl, rfl, rfl⟩ ?_
  refine y_putf (f := (0, -2147483648, 2147483647)) h.T.I h.T.t (e_176 (7, .putfield 192, 3) (List.mem_of_getElem? (i := 5) rfl)) u_17_192 ⟨rfl, rfl, by decide, rfl, rfl⟩ ⟨_, rfl, (x_i32 _).1, (x_i32 _).2⟩ (fun G1 u1 => ?_)
  have h1 := h.on9 u1 (h.T.I.upd u1 h.T.t (y_okA rfl))
  refine y_aln (e_176 (10, .aload_n 0, 1) (List.mem_of_getElem? (i := 6) rfl)) g0 ?_
  refine y_c1 (K' := _) (e_176 (11, .invokevirtual 170, 3) (List.mem_of_getElem? (i := 7) rfl)) ⟨rfl, rfl, rfl⟩ t_17_170 ⟨by decide, by decide, by decide, by decide⟩ m_163_ok rfl (by decide) (y_recv h1.T.I h1.T.t ⟨rfl, rfl⟩) (Nat.le_of_ble_eq_true rfl) (Nat.le_of_ble_eq_true rfl) (hN1 _ _ _ _ _ _ _ _ _ _ _ _ h1.T) (fun r1 Gc hc1 => ?_)
  obtain ⟨rfl, hc2⟩ := hc1
  simp only [Option.toList_some, Option.toList_none, List.cons_append, List.nil_append]
  have hc3 := h1.nxt hc2
  have hq1 := hc3
  refine y_aln (e_176 (14, .aload_n 0, 1) (List.mem_of_getElem? (i := 8) rfl)) g0 ?_
  refine y_iln (e_176 (15, .iload_n 1, 1) (List.mem_of_getElem? (i := 9) rfl)) rfl ?_
  refine y_c2 (K' := _) (e_176 (16, .invokevirtual 214, 3) (List.mem_of_getElem? (i := 10) rfl)) ⟨rfl, rfl, rfl⟩ t_17_214 ⟨by decide, by decide, by decide, by decide⟩ m_177_ok rfl (by decide) (y_recv hq1.T.I hq1.T.t ⟨rfl, rfl⟩) (Nat.le_of_ble_eq_true rfl) (Nat.le_of_ble_eq_true rfl) (k_fresh_yes hq1 hname hT hn9 hN2) (fun r1 Gc hc1 => ?_)
  obtain ⟨rfl, hq2⟩ := hc1
  simp only [Option.toList_some, Option.toList_none, List.cons_append, List.nil_append]
  refine y_ifc (e_176 (19, .ifCond .eq 41, 3) (List.mem_of_getElem? (i := 11) rfl)) rfl (fun hc => absurd hc (by decide)) (fun _ => ?_)
  refine y_aln (e_176 (22, .aload_n 0, 1) (List.mem_of_getElem? (i := 12) rfl)) g0 ?_
  refine y_iln (e_176 (23, .iload_n 2, 1) (List.mem_of_getElem? (i := 13) rfl)) rfl ?_
  refine y_st (e_176 (24, .iconst 0, 1) (List.mem_of_getElem? (i := 14) rfl)) ⟨rfl, rfl, rfl, rfl⟩ ?_
  refine y_st (e_176 (25, .iconst 1, 1) (List.mem_of_getElem? (i := 15) rfl)) ⟨rfl, rfl, rfl, rfl⟩ ?_
  refine y_c4 (K' := _) (e_176 (26, .invokevirtual 205, 3) (List.mem_of_getElem? (i := 16) rfl)) ⟨rfl, rfl, rfl⟩ t_17_205 ⟨by decide, by decide, by decide, by decide⟩ m_172_ok rfl (by decide) (y_recv hq2.T.I hq2.T.t ⟨rfl, rfl⟩) (Nat.le_of_ble_eq_true rfl) (Nat.le_of_ble_eq_true rfl) (k_puts_no hq2 hno) (fun r1 Gc hc1 => ?_)
  obtain ⟨rfl, hz⟩ := hc1
  simp only [Option.toList_some, Option.toList_none, List.cons_append, List.nil_append]
  refine y_ifc (e_176 (29, .ifCond .eq 31, 3) (List.mem_of_getElem? (i := 17) rfl)) rfl (fun _ => ?_) (fun hc => absurd hc (by decide))
  refine y_st (e_176 (60, .iconst 0, 1) (List.mem_of_getElem? (i := 36) rfl)) ⟨rfl, rfl, rfl, rfl⟩ ?_
  exact y_ret (e_176 (61, .ireturn, 1) (List.mem_of_getElem? (i := 37) rfl)) ⟨rfl, y_rb (Or.inl rfl)⟩ ⟨rfl, hz⟩
set_option maxHeartbeats 2000000 in
set_option maxRecDepth 100000 in
theorem k_place_c {n9 vy ce : Int32} (h : MS th am mb hb nb rb f n lim p0 tok0 at0 sp0 num0 wd0 hf nf on G) (hN1 : NXm f n lim p0 num0 wd0 p1 tok1 at1 sp1 num1 wd1) (hname : tok1 = Int32.ofInt 1 ∧ ∀ x : Nat, x < 25 → wd1 ≠ t_W x) (hT : ¬ t_Told hf nf wd1) (hn9 : 0 ≤ n9.toInt ∧ n9.toInt < 32) (hN2 : NXm f n lim p1 num1 wd1 p2 tok2 at2 sp2 num2 wd2) (htk2 : tok2 = Int32.ofInt 2) (a2 : 0 ≤ num2.toInt) (b2 : num2.toInt ≤ 1) (hvy : 25 ≤ vy.toInt ∧ vy.toInt < 81) (hv2 : ∀ f', x_at (x_tb 37).2.2.2 vy.toInt.toNat = some f' → xf_ok th f' (.int num2)) (hN3 : NXm f n lim p2 num2 wd2 p3 tok3 at3 sp3 num3 wd3) (hno : tok3 ≠ Int32.ofInt 2 ∨ num3.toInt < 0 ∨ (hf num2.toInt.toNat - Int32.ofInt 1).toInt < num3.toInt) : x_Gd xs L J (d + 4) m_176 (fun r G' => r = some (.int 0) ∧ x_sl G' am 16 = some (.int at3) ∧ x_sl G' am 15 = some (.int (t_km tok3))) 0 (lv_args 0 [.ref am, .int n9, .int vy, .int ce]) [] G := by
  have g0 : pm_get (lv_args 0 [.ref am, .int n9, .int vy, .int ce]) 0 = some (.ref am) := rfl
  have c4 := h.2.2.2.2.2.2.2.1
  refine y_aln (e_176 (0, .aload_n 0, 1) (List.mem_of_getElem? (i := 0) rfl)) g0 ?_
  refine y_st (e_176 (1, .dup, 1) (List.mem_of_getElem? (i := 1) rfl)) ⟨rfl, rfl, rfl, rfl⟩ ?_
  refine y_getf h.T.I h.T.t (e_176 (2, .getfield 192, 3) (List.mem_of_getElem? (i := 2) rfl)) u_17_192 ⟨rfl, rfl⟩ c4 ?_
  refine y_st (e_176 (5, .iconst 1, 1) (List.mem_of_getElem? (i := 3) rfl)) ⟨rfl, rfl, rfl, rfl⟩ ?_
  refine y_st (e_176 (6, .ior, 1) (List.mem_of_getElem? (i := 4) rfl)) ⟨rfl, rfl, rfl, rfl⟩ ?_
  refine y_putf (f := (0, -2147483648, 2147483647)) h.T.I h.T.t (e_176 (7, .putfield 192, 3) (List.mem_of_getElem? (i := 5) rfl)) u_17_192 ⟨rfl, rfl, by decide, rfl, rfl⟩ ⟨_, rfl, (x_i32 _).1, (x_i32 _).2⟩ (fun G1 u1 => ?_)
  have h1 := h.on9 u1 (h.T.I.upd u1 h.T.t (y_okA rfl))
  refine y_aln (e_176 (10, .aload_n 0, 1) (List.mem_of_getElem? (i := 6) rfl)) g0 ?_
  refine y_c1 (K' := _) (e_176 (11, .invokevirtual 170, 3) (List.mem_of_getElem? (i := 7) rfl)) ⟨rfl, rfl, rfl⟩ t_17_170 ⟨by decide, by decide, by decide, by decide⟩ m_163_ok rfl (by decide) (y_recv h1.T.I h1.T.t ⟨rfl, rfl⟩) (Nat.le_of_ble_eq_true rfl) (Nat.le_of_ble_eq_true rfl) (hN1 _ _ _ _ _ _ _ _ _ _ _ _ h1.T) (fun r1 Gc hc1 => ?_)
  obtain ⟨rfl, hc2⟩ := hc1
  simp only [Option.toList_some, Option.toList_none, List.cons_append, List.nil_append]
  have hc3 := h1.nxt hc2
  have hq1 := hc3
  refine y_aln (e_176 (14, .aload_n 0, 1) (List.mem_of_getElem? (i := 8) rfl)) g0 ?_
  refine y_iln (e_176 (15, .iload_n 1, 1) (List.mem_of_getElem? (i := 9) rfl)) rfl ?_
  refine y_c2 (K' := _) (e_176 (16, .invokevirtual 214, 3) (List.mem_of_getElem? (i := 10) rfl)) ⟨rfl, rfl, rfl⟩ t_17_214 ⟨by decide, by decide, by decide, by decide⟩ m_177_ok rfl (by decide) (y_recv hq1.T.I hq1.T.t ⟨rfl, rfl⟩) (Nat.le_of_ble_eq_true rfl) (Nat.le_of_ble_eq_true rfl) (k_fresh_yes hq1 hname hT hn9 hN2) (fun r1 Gc hc1 => ?_)
  obtain ⟨rfl, hq2⟩ := hc1
  simp only [Option.toList_some, Option.toList_none, List.cons_append, List.nil_append]
  refine y_ifc (e_176 (19, .ifCond .eq 41, 3) (List.mem_of_getElem? (i := 11) rfl)) rfl (fun hc => absurd hc (by decide)) (fun _ => ?_)
  refine y_aln (e_176 (22, .aload_n 0, 1) (List.mem_of_getElem? (i := 12) rfl)) g0 ?_
  refine y_iln (e_176 (23, .iload_n 2, 1) (List.mem_of_getElem? (i := 13) rfl)) rfl ?_
  refine y_st (e_176 (24, .iconst 0, 1) (List.mem_of_getElem? (i := 14) rfl)) ⟨rfl, rfl, rfl, rfl⟩ ?_
  refine y_st (e_176 (25, .iconst 1, 1) (List.mem_of_getElem? (i := 15) rfl)) ⟨rfl, rfl, rfl, rfl⟩ ?_
  refine y_c4 (K' := _) (e_176 (26, .invokevirtual 205, 3) (List.mem_of_getElem? (i := 16) rfl)) ⟨rfl, rfl, rfl⟩ t_17_205 ⟨by decide, by decide, by decide, by decide⟩ m_172_ok rfl (by decide) (y_recv hq2.T.I hq2.T.t ⟨rfl, rfl⟩) (Nat.le_of_ble_eq_true rfl) (Nat.le_of_ble_eq_true rfl) (k_puts_yes hq2 htk2 a2 b2 ⟨by omega, hvy.2⟩ hv2 hN3) (fun r1 Gc hc1 => ?_)
  obtain ⟨rfl, hq3⟩ := hc1
  simp only [Option.toList_some, Option.toList_none, List.cons_append, List.nil_append]
  refine y_ifc (e_176 (29, .ifCond .eq 31, 3) (List.mem_of_getElem? (i := 17) rfl)) rfl (fun hc => absurd hc (by decide)) (fun _ => ?_)
  obtain ⟨T, b1, -, -, c1, -, -, -, d1, -, -⟩ := id hq3
  have hne : num2.toInt.toNat ≠ vy.toInt.toNat := by omega
  have dv := d1 vy.toInt.toNat (by omega)
  have dn := d1 num2.toInt.toNat (by omega)
  dsimp only at dv dn
  rw [if_pos rfl] at dv
  rw [if_neg hne] at dn
  refine y_aln (e_176 (32, .aload_n 0, 1) (List.mem_of_getElem? (i := 18) rfl)) g0 ?_
  refine y_iln (e_176 (33, .iload_n 3, 1) (List.mem_of_getElem? (i := 19) rfl)) rfl ?_
  refine y_st (e_176 (34, .iconst 0, 1) (List.mem_of_getElem? (i := 20) rfl)) ⟨rfl, rfl, rfl, rfl⟩ ?_
  refine y_aln (e_176 (35, .aload_n 0, 1) (List.mem_of_getElem? (i := 21) rfl)) g0 ?_
  refine y_getf T.I T.t (e_176 (36, .getfield 37, 3) (List.mem_of_getElem? (i := 22) rfl)) u_17_37 ⟨rfl, rfl⟩ c1 ?_
  refine y_st (e_176 (39, .iconst 0, 1) (List.mem_of_getElem? (i := 23) rfl)) ⟨rfl, rfl, rfl, rfl⟩ ?_
  refine y_aln (e_176 (40, .aload_n 0, 1) (List.mem_of_getElem? (i := 24) rfl)) g0 ?_
  refine y_getf T.I T.t (e_176 (41, .getfield 37, 3) (List.mem_of_getElem? (i := 25) rfl)) u_17_37 ⟨rfl, rfl⟩ c1 ?_
  refine y_iln (e_176 (44, .iload_n 2, 1) (List.mem_of_getElem? (i := 26) rfl)) rfl ?_
  refine y_iald T.I b1 (e_176 (45, .iaload, 1) (List.mem_of_getElem? (i := 27) rfl)) ⟨rfl, rfl⟩ (by omega) dv ?_
  refine y_st (e_176 (46, .iadd, 1) (List.mem_of_getElem? (i := 28) rfl)) ⟨rfl, rfl, rfl, rfl⟩ ?_
  have ez : Int32.ofInt 0 + num2 = num2 := Int32.zero_add num2
  rw [ez]
  refine y_iald T.I b1 (e_176 (47, .iaload, 1) (List.mem_of_getElem? (i := 29) rfl)) ⟨rfl, rfl⟩ a2 dn ?_
  refine y_st (e_176 (48, .iconst 1, 1) (List.mem_of_getElem? (i := 30) rfl)) ⟨rfl, rfl, rfl, rfl⟩ ?_
  refine y_st (e_176 (49, .isub, 1) (List.mem_of_getElem? (i := 31) rfl)) ⟨rfl, rfl, rfl, rfl⟩ ?_
  refine y_c4 (K' := _) (e_176 (50, .invokevirtual 205, 3) (List.mem_of_getElem? (i := 32) rfl)) ⟨rfl, rfl, rfl⟩ t_17_205 ⟨by decide, by decide, by decide, by decide⟩ m_172_ok rfl (by decide) (y_recv hq3.T.I hq3.T.t ⟨rfl, rfl⟩) (Nat.le_of_ble_eq_true rfl) (Nat.le_of_ble_eq_true rfl) (k_puts_no hq3 hno) (fun r1 Gc hc1 => ?_)
  obtain ⟨rfl, hz⟩ := hc1
  simp only [Option.toList_some, Option.toList_none, List.cons_append, List.nil_append]
  refine y_ifc (e_176 (53, .ifCond .eq 7, 3) (List.mem_of_getElem? (i := 33) rfl)) rfl (fun _ => ?_) (fun hc => absurd hc (by decide))
  refine y_st (e_176 (60, .iconst 0, 1) (List.mem_of_getElem? (i := 36) rfl)) ⟨rfl, rfl, rfl, rfl⟩ ?_
  exact y_ret (e_176 (61, .ireturn, 1) (List.mem_of_getElem? (i := 37) rfl)) ⟨rfl, y_rb (Or.inl rfl)⟩ ⟨rfl, hz⟩
set_option maxHeartbeats 2000000 in
set_option maxRecDepth 100000 in
theorem k_place_yes {n9 vy ce : Int32} (h : MS th am mb hb nb rb f n lim p0 tok0 at0 sp0 num0 wd0 hf nf on G) (hN1 : NXm f n lim p0 num0 wd0 p1 tok1 at1 sp1 num1 wd1) (hname : tok1 = Int32.ofInt 1 ∧ ∀ x : Nat, x < 25 → wd1 ≠ t_W x) (hT : ¬ t_Told hf nf wd1) (hn9 : 0 ≤ n9.toInt ∧ n9.toInt < 32) (hN2 : NXm f n lim p1 num1 wd1 p2 tok2 at2 sp2 num2 wd2) (htk2 : tok2 = Int32.ofInt 2) (a2 : 0 ≤ num2.toInt) (b2 : num2.toInt ≤ 1) (hvy : 25 ≤ vy.toInt ∧ vy.toInt < 81) (hv2 : ∀ f', x_at (x_tb 37).2.2.2 vy.toInt.toNat = some f' → xf_ok th f' (.int num2)) (hN3 : NXm f n lim p2 num2 wd2 p3 tok3 at3 sp3 num3 wd3) (htk3 : tok3 = Int32.ofInt 2) (a3 : 0 ≤ num3.toInt) (b3 : num3.toInt ≤ (hf num2.toInt.toNat - Int32.ofInt 1).toInt) (hce : 25 ≤ ce.toInt ∧ ce.toInt < 81) (hv3 : ∀ f', x_at (x_tb 37).2.2.2 ce.toInt.toNat = some f' → xf_ok th f' (.int num3)) (hN4 : NXm f n lim p3 num3 wd3 p4 tok4 at4 sp4 num4 wd4) : x_Gd xs L J (d + 4) m_176 (fun r G' => r = some (.int 1) ∧ MS th am mb hb nb rb f n lim p4 tok4 at4 sp4 num4 wd4 (fun i => if i = ce.toInt.toNat then num3 else if i = vy.toInt.toNat then num2 else hf i) (fun i => if i = n9.toInt.toNat then wd1 else nf i) (on ||| Int32.ofInt 1) G') 0 (lv_args 0 [.ref am, .int n9, .int vy, .int ce]) [] G := by
  have g0 : pm_get (lv_args 0 [.ref am, .int n9, .int vy, .int ce]) 0 = some (.ref am) := rfl
  have c4 := h.2.2.2.2.2.2.2.1
  refine y_aln (e_176 (0, .aload_n 0, 1) (List.mem_of_getElem? (i := 0) rfl)) g0 ?_
  refine y_st (e_176 (1, .dup, 1) (List.mem_of_getElem? (i := 1) rfl)) ⟨rfl, rfl, rfl, rfl⟩ ?_
  refine y_getf h.T.I h.T.t (e_176 (2, .getfield 192, 3) (List.mem_of_getElem? (i := 2) rfl)) u_17_192 ⟨rfl, rfl⟩ c4 ?_
  refine y_st (e_176 (5, .iconst 1, 1) (List.mem_of_getElem? (i := 3) rfl)) ⟨rfl, rfl, rfl, rfl⟩ ?_
  refine y_st (e_176 (6, .ior, 1) (List.mem_of_getElem? (i := 4) rfl)) ⟨rfl, rfl, rfl, rfl⟩ ?_
  refine y_putf (f := (0, -2147483648, 2147483647)) h.T.I h.T.t (e_176 (7, .putfield 192, 3) (List.mem_of_getElem? (i := 5) rfl)) u_17_192 ⟨rfl, rfl, by decide, rfl, rfl⟩ ⟨_, rfl, (x_i32 _).1, (x_i32 _).2⟩ (fun G1 u1 => ?_)
  have h1 := h.on9 u1 (h.T.I.upd u1 h.T.t (y_okA rfl))
  refine y_aln (e_176 (10, .aload_n 0, 1) (List.mem_of_getElem? (i := 6) rfl)) g0 ?_
  refine y_c1 (K' := _) (e_176 (11, .invokevirtual 170, 3) (List.mem_of_getElem? (i := 7) rfl)) ⟨rfl, rfl, rfl⟩ t_17_170 ⟨by decide, by decide, by decide, by decide⟩ m_163_ok rfl (by decide) (y_recv h1.T.I h1.T.t ⟨rfl, rfl⟩) (Nat.le_of_ble_eq_true rfl) (Nat.le_of_ble_eq_true rfl) (hN1 _ _ _ _ _ _ _ _ _ _ _ _ h1.T) (fun r1 Gc hc1 => ?_)
  obtain ⟨rfl, hc2⟩ := hc1
  simp only [Option.toList_some, Option.toList_none, List.cons_append, List.nil_append]
  have hc3 := h1.nxt hc2
  have hq1 := hc3
  refine y_aln (e_176 (14, .aload_n 0, 1) (List.mem_of_getElem? (i := 8) rfl)) g0 ?_
  refine y_iln (e_176 (15, .iload_n 1, 1) (List.mem_of_getElem? (i := 9) rfl)) rfl ?_
  refine y_c2 (K' := _) (e_176 (16, .invokevirtual 214, 3) (List.mem_of_getElem? (i := 10) rfl)) ⟨rfl, rfl, rfl⟩ t_17_214 ⟨by decide, by decide, by decide, by decide⟩ m_177_ok rfl (by decide) (y_recv hq1.T.I hq1.T.t ⟨rfl, rfl⟩) (Nat.le_of_ble_eq_true rfl) (Nat.le_of_ble_eq_true rfl) (k_fresh_yes hq1 hname hT hn9 hN2) (fun r1 Gc hc1 => ?_)
  obtain ⟨rfl, hq2⟩ := hc1
  simp only [Option.toList_some, Option.toList_none, List.cons_append, List.nil_append]
  refine y_ifc (e_176 (19, .ifCond .eq 41, 3) (List.mem_of_getElem? (i := 11) rfl)) rfl (fun hc => absurd hc (by decide)) (fun _ => ?_)
  refine y_aln (e_176 (22, .aload_n 0, 1) (List.mem_of_getElem? (i := 12) rfl)) g0 ?_
  refine y_iln (e_176 (23, .iload_n 2, 1) (List.mem_of_getElem? (i := 13) rfl)) rfl ?_
  refine y_st (e_176 (24, .iconst 0, 1) (List.mem_of_getElem? (i := 14) rfl)) ⟨rfl, rfl, rfl, rfl⟩ ?_
  refine y_st (e_176 (25, .iconst 1, 1) (List.mem_of_getElem? (i := 15) rfl)) ⟨rfl, rfl, rfl, rfl⟩ ?_
  refine y_c4 (K' := _) (e_176 (26, .invokevirtual 205, 3) (List.mem_of_getElem? (i := 16) rfl)) ⟨rfl, rfl, rfl⟩ t_17_205 ⟨by decide, by decide, by decide, by decide⟩ m_172_ok rfl (by decide) (y_recv hq2.T.I hq2.T.t ⟨rfl, rfl⟩) (Nat.le_of_ble_eq_true rfl) (Nat.le_of_ble_eq_true rfl) (k_puts_yes hq2 htk2 a2 b2 ⟨by omega, hvy.2⟩ hv2 hN3) (fun r1 Gc hc1 => ?_)
  obtain ⟨rfl, hq3⟩ := hc1
  simp only [Option.toList_some, Option.toList_none, List.cons_append, List.nil_append]
  refine y_ifc (e_176 (29, .ifCond .eq 31, 3) (List.mem_of_getElem? (i := 17) rfl)) rfl (fun hc => absurd hc (by decide)) (fun _ => ?_)
  obtain ⟨T, b1, -, -, c1, -, -, -, d1, -, -⟩ := id hq3
  have hne : num2.toInt.toNat ≠ vy.toInt.toNat := by omega
  have dv := d1 vy.toInt.toNat (by omega)
  have dn := d1 num2.toInt.toNat (by omega)
  dsimp only at dv dn
  rw [if_pos rfl] at dv
  rw [if_neg hne] at dn
  refine y_aln (e_176 (32, .aload_n 0, 1) (List.mem_of_getElem? (i := 18) rfl)) g0 ?_
  refine y_iln (e_176 (33, .iload_n 3, 1) (List.mem_of_getElem? (i := 19) rfl)) rfl ?_
  refine y_st (e_176 (34, .iconst 0, 1) (List.mem_of_getElem? (i := 20) rfl)) ⟨rfl, rfl, rfl, rfl⟩ ?_
  refine y_aln (e_176 (35, .aload_n 0, 1) (List.mem_of_getElem? (i := 21) rfl)) g0 ?_
  refine y_getf T.I T.t (e_176 (36, .getfield 37, 3) (List.mem_of_getElem? (i := 22) rfl)) u_17_37 ⟨rfl, rfl⟩ c1 ?_
  refine y_st (e_176 (39, .iconst 0, 1) (List.mem_of_getElem? (i := 23) rfl)) ⟨rfl, rfl, rfl, rfl⟩ ?_
  refine y_aln (e_176 (40, .aload_n 0, 1) (List.mem_of_getElem? (i := 24) rfl)) g0 ?_
  refine y_getf T.I T.t (e_176 (41, .getfield 37, 3) (List.mem_of_getElem? (i := 25) rfl)) u_17_37 ⟨rfl, rfl⟩ c1 ?_
  refine y_iln (e_176 (44, .iload_n 2, 1) (List.mem_of_getElem? (i := 26) rfl)) rfl ?_
  refine y_iald T.I b1 (e_176 (45, .iaload, 1) (List.mem_of_getElem? (i := 27) rfl)) ⟨rfl, rfl⟩ (by omega) dv ?_
  refine y_st (e_176 (46, .iadd, 1) (List.mem_of_getElem? (i := 28) rfl)) ⟨rfl, rfl, rfl, rfl⟩ ?_
  have ez : Int32.ofInt 0 + num2 = num2 := Int32.zero_add num2
  rw [ez]
  refine y_iald T.I b1 (e_176 (47, .iaload, 1) (List.mem_of_getElem? (i := 29) rfl)) ⟨rfl, rfl⟩ a2 dn ?_
  refine y_st (e_176 (48, .iconst 1, 1) (List.mem_of_getElem? (i := 30) rfl)) ⟨rfl, rfl, rfl, rfl⟩ ?_
  refine y_st (e_176 (49, .isub, 1) (List.mem_of_getElem? (i := 31) rfl)) ⟨rfl, rfl, rfl, rfl⟩ ?_
  refine y_c4 (K' := _) (e_176 (50, .invokevirtual 205, 3) (List.mem_of_getElem? (i := 32) rfl)) ⟨rfl, rfl, rfl⟩ t_17_205 ⟨by decide, by decide, by decide, by decide⟩ m_172_ok rfl (by decide) (y_recv hq3.T.I hq3.T.t ⟨rfl, rfl⟩) (Nat.le_of_ble_eq_true rfl) (Nat.le_of_ble_eq_true rfl) (k_puts_yes hq3 htk3 a3 b3 ⟨by omega, hce.2⟩ hv3 hN4) (fun r1 Gc hc1 => ?_)
  obtain ⟨rfl, hz⟩ := hc1
  simp only [Option.toList_some, Option.toList_none, List.cons_append, List.nil_append]
  refine y_ifc (e_176 (53, .ifCond .eq 7, 3) (List.mem_of_getElem? (i := 33) rfl)) rfl (fun hc => absurd hc (by decide)) (fun _ => ?_)
  refine y_st (e_176 (56, .iconst 1, 1) (List.mem_of_getElem? (i := 34) rfl)) ⟨rfl, rfl, rfl, rfl⟩ ?_
  refine y_st (e_176 (57, .goto 4, 3) (List.mem_of_getElem? (i := 35) rfl)) ⟨rfl, rfl, rfl, rfl⟩ ?_
  exact y_ret (e_176 (61, .ireturn, 1) (List.mem_of_getElem? (i := 37) rfl)) ⟨rfl, y_rb (Or.inr rfl)⟩ ⟨rfl, hz⟩
end MG5
