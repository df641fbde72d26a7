def m_169 : pM := (⟨"BreathingHillModel", "isOnce", "(I)Z"⟩, 1508, 2, some (FieldType.boolean), 17, 1, false, 10, 103, 1507, 39)
set_option maxRecDepth 100000 in
theorem m_169_ok : pm_tab[169]? = some m_169 := rfl
theorem e_169 : ∀ q ∈ d_169, decode m_169.code q.1 = .ok (q.2.1, q.2.2) := y_dec d_169_ok m_169_ok
def m_170 : pM := (⟨"BreathingHillModel", "bitOf", "(II)Z"⟩, 1511, 2, some (FieldType.boolean), 17, 2, true, 10, 103, 1510, 0)
set_option maxRecDepth 100000 in
theorem m_170_ok : pm_tab[170]? = some m_170 := rfl
theorem e_170 : ∀ q ∈ d_170, decode m_170.code q.1 = .ok (q.2.1, q.2.2) := y_dec d_170_ok m_170_ok
def m_178 : pM := (⟨"BreathingHillModel", "isName", "()Z"⟩, 1542, 3, some (FieldType.boolean), 17, 0, false, 10, 103, 1541, 46)
set_option maxRecDepth 100000 in
theorem m_178_ok : pm_tab[178]? = some m_178 := rfl
theorem e_178 : ∀ q ∈ d_178, decode m_178.code q.1 = .ok (q.2.1, q.2.2) := y_dec d_178_ok m_178_ok
theorem t_17_195 : pm_ctab.find? (fun r => r.1 == 17 && r.2.1 == 195) = some (17, 195, 2, 170, 1509) := by decide +kernel
section MG2
variable {th : List Nat} {xs : Nat → Int32} {L J d am mb hb nb rb : Nat} {K : Option Value → List pE → Prop} {f : Nat → Int32} {G0 G G1 G' : List pE} {n lim p tok at9 sp num : Int32} {wd : Int64} {lv : pL} {p' tok' at' sp' num' : Int32} {wd' : Int64} {hf : Nat → Int32} {nf : Nat → Int64} {on : Int32}
set_option maxHeartbeats 2000000 in
set_option maxRecDepth 100000 in
theorem k_isWord (h : MS th am mb hb nb rb f n lim p tok at9 sp num wd hf nf on G) (w : Int64) : x_Gd xs L J d m_168 (fun r G' => r = some (.int (if tok = Int32.ofInt 1 ∧ wd = w then 1 else 0)) ∧ G' = G) 0 (lv_args 0 [.ref am, .long w]) [] G := by
  have g0 : pm_get (lv_args 0 [.ref am, .long w]) 0 = some (.ref am) := rfl
  have fin0 : ¬ (tok = Int32.ofInt 1 ∧ wd = w) → x_Gd xs L J d m_168 (fun r G' => r = some (.int (if tok = Int32.ofInt 1 ∧ wd = w then 1 else 0)) ∧ G' = G) 21 (lv_args 0 [.ref am, .long w]) [] G := fun hx => by
    refine y_st (e_168 (21, .iconst 0, 1) (List.mem_of_getElem? (i := 11) rfl)) ⟨rfl, rfl, rfl, rfl⟩ ?_
    exact y_ret (e_168 (22, .ireturn, 1) (List.mem_of_getElem? (i := 12) rfl)) ⟨rfl, y_rb (Or.inl rfl)⟩ ⟨by rw [if_neg hx]; rfl, rfl⟩
  refine y_aln (e_168 (0, .aload_n 0, 1) (List.mem_of_getElem? (i := 0) rfl)) g0 ?_
  refine y_getf h.T.I h.T.t (e_168 (1, .getfield 141, 3) (List.mem_of_getElem? (i := 1) rfl)) u_17_141 ⟨rfl, rfl⟩ h.T.s11 ?_
  refine y_st (e_168 (4, .iconst 1, 1) (List.mem_of_getElem? (i := 2) rfl)) ⟨rfl, rfl, rfl, rfl⟩ ?_
  refine y_icm (e_168 (5, .if_icmp .ne 16, 3) (List.mem_of_getElem? (i := 3) rfl)) rfl (fun hc => fin0 (fun z => y_hI.2.2.1 hc z.1)) (fun hc => ?_)
  have c1 := y_hI.2.2.2.1 hc
  refine y_aln (e_168 (8, .aload_n 0, 1) (List.mem_of_getElem? (i := 4) rfl)) g0 ?_
  refine y_getf h.T.I h.T.t (e_168 (9, .getfield 154, 3) (List.mem_of_getElem? (i := 5) rfl)) u_17_154 ⟨rfl, rfl⟩ h.T.s17 ?_
  refine y_lln (e_168 (12, .lload_n 1, 1) (List.mem_of_getElem? (i := 6) rfl)) rfl ?_
  refine y_st (e_168 (13, .lcmp, 1) (List.mem_of_getElem? (i := 7) rfl)) ⟨rfl, rfl, rfl, rfl⟩ ?_
  refine y_ifc (e_168 (14, .ifCond .ne 7, 3) (List.mem_of_getElem? (i := 8) rfl)) rfl (fun hc => fin0 (fun z => y_cmp.1 hc z.2)) (fun hc => ?_)
  have c2 := y_cmp.2 hc
  refine y_st (e_168 (17, .iconst 1, 1) (List.mem_of_getElem? (i := 9) rfl)) ⟨rfl, rfl, rfl, rfl⟩ ?_
  refine y_st (e_168 (18, .goto 4, 3) (List.mem_of_getElem? (i := 10) rfl)) ⟨rfl, rfl, rfl, rfl⟩ ?_
  exact y_ret (e_168 (22, .ireturn, 1) (List.mem_of_getElem? (i := 12) rfl)) ⟨rfl, y_rb (Or.inr rfl)⟩ ⟨by rw [if_pos ⟨c1, c2⟩]; rfl, rfl⟩
set_option maxHeartbeats 2000000 in
set_option maxRecDepth 100000 in
theorem k_isSign (h : MS th am mb hb nb rb f n lim p tok at9 sp num wd hf nf on G) (w : Int32) : x_Gd xs L J d m_181 (fun r G' => r = some (.int (if tok = Int32.ofInt 3 ∧ num = w then 1 else 0)) ∧ G' = G) 0 (lv_args 0 [.ref am, .int w]) [] G := by
  have g0 : pm_get (lv_args 0 [.ref am, .int w]) 0 = some (.ref am) := rfl
  have fin0 : ¬ (tok = Int32.ofInt 3 ∧ num = w) → x_Gd xs L J d m_181 (fun r G' => r = some (.int (if tok = Int32.ofInt 3 ∧ num = w then 1 else 0)) ∧ G' = G) 20 (lv_args 0 [.ref am, .int w]) [] G := fun hx => by
    refine y_st (e_181 (20, .iconst 0, 1) (List.mem_of_getElem? (i := 10) rfl)) ⟨rfl, rfl, rfl, rfl⟩ ?_
    exact y_ret (e_181 (21, .ireturn, 1) (List.mem_of_getElem? (i := 11) rfl)) ⟨rfl, y_rb (Or.inl rfl)⟩ ⟨by rw [if_neg hx]; rfl, rfl⟩
  refine y_aln (e_181 (0, .aload_n 0, 1) (List.mem_of_getElem? (i := 0) rfl)) g0 ?_
  refine y_getf h.T.I h.T.t (e_181 (1, .getfield 141, 3) (List.mem_of_getElem? (i := 1) rfl)) u_17_141 ⟨rfl, rfl⟩ h.T.s11 ?_
  refine y_st (e_181 (4, .iconst 3, 1) (List.mem_of_getElem? (i := 2) rfl)) ⟨rfl, rfl, rfl, rfl⟩ ?_
  refine y_icm (e_181 (5, .if_icmp .ne 15, 3) (List.mem_of_getElem? (i := 3) rfl)) rfl (fun hc => fin0 (fun z => y_hI.2.2.1 hc z.1)) (fun hc => ?_)
  have c1 := y_hI.2.2.2.1 hc
  refine y_aln (e_181 (8, .aload_n 0, 1) (List.mem_of_getElem? (i := 4) rfl)) g0 ?_
  refine y_getf h.T.I h.T.t (e_181 (9, .getfield 151, 3) (List.mem_of_getElem? (i := 5) rfl)) u_17_151 ⟨rfl, rfl⟩ h.T.s14 ?_
  refine y_iln (e_181 (12, .iload_n 1, 1) (List.mem_of_getElem? (i := 6) rfl)) rfl ?_
  refine y_icm (e_181 (13, .if_icmp .ne 7, 3) (List.mem_of_getElem? (i := 7) rfl)) rfl (fun hc => fin0 (fun z => y_hI.2.2.1 hc z.2)) (fun hc => ?_)
  have c2 := y_hI.2.2.2.1 hc
  refine y_st (e_181 (16, .iconst 1, 1) (List.mem_of_getElem? (i := 8) rfl)) ⟨rfl, rfl, rfl, rfl⟩ ?_
  refine y_st (e_181 (17, .goto 4, 3) (List.mem_of_getElem? (i := 9) rfl)) ⟨rfl, rfl, rfl, rfl⟩ ?_
  exact y_ret (e_181 (21, .ireturn, 1) (List.mem_of_getElem? (i := 11) rfl)) ⟨rfl, y_rb (Or.inr rfl)⟩ ⟨by rw [if_pos ⟨c1, c2⟩]; rfl, rfl⟩
set_option maxHeartbeats 2000000 in
set_option maxRecDepth 100000 in
theorem k_sign_no {w : Int32} (h : MS th am mb hb nb rb f n lim p tok at9 sp num wd hf nf on G) (hno : ¬ (tok = Int32.ofInt 3 ∧ num = w)) : x_Gd xs L J (d + 1) m_180 (fun r G' => r = some (.int 0) ∧ x_sl G' am 16 = some (.int at9) ∧ x_sl G' am 15 = some (.int (Int32.ofInt 1))) 0 (lv_args 0 [.ref am, .int w]) [] G := by
  have g0 : pm_get (lv_args 0 [.ref am, .int w]) 0 = some (.ref am) := rfl
  refine y_aln (e_180 (0, .aload_n 0, 1) (List.mem_of_getElem? (i := 0) rfl)) g0 ?_
  refine y_iln (e_180 (1, .iload_n 1, 1) (List.mem_of_getElem? (i := 1) rfl)) rfl ?_
  refine y_c2 (K' := _) (e_180 (2, .invokevirtual 164, 3) (List.mem_of_getElem? (i := 2) rfl)) ⟨rfl, rfl, rfl⟩ t_17_164 ⟨by decide, by decide, by decide, by decide⟩ m_181_ok rfl (by decide) (y_recv h.T.I h.T.t ⟨rfl, rfl⟩) (Nat.le_of_ble_eq_true rfl) (Nat.le_of_ble_eq_true rfl) (k_isSign h _) (fun r1 Gc hc1 => ?_)
  obtain ⟨rfl, rfl⟩ := hc1
  simp only [Option.toList_some, Option.toList_none, List.cons_append, List.nil_append]
  rw [if_neg hno]
  refine y_ifc (e_180 (5, .ifCond .ne 9, 3) (List.mem_of_getElem? (i := 3) rfl)) rfl (fun hc => absurd hc (by decide)) (fun _ => ?_)
  refine y_aln (e_180 (8, .aload_n 0, 1) (List.mem_of_getElem? (i := 4) rfl)) g0 ?_
  refine y_st (e_180 (9, .iconst 1, 1) (List.mem_of_getElem? (i := 5) rfl)) ⟨rfl, rfl, rfl, rfl⟩ ?_
  refine y_c2 (K' := _) (e_180 (10, .invokevirtual 167, 3) (List.mem_of_getElem? (i := 6) rfl)) ⟨rfl, rfl, rfl⟩ t_17_167 ⟨by decide, by decide, by decide, by decide⟩ m_171_ok rfl (by decide) (y_recv h.T.I h.T.t ⟨rfl, rfl⟩) (Nat.le_of_ble_eq_true rfl) (Nat.le_of_ble_eq_true rfl) (k_bad h _) (fun r1 Gc hc1 => ?_)
  obtain ⟨rfl, hc2⟩ := hc1
  simp only [Option.toList_some, Option.toList_none, List.cons_append, List.nil_append]
  exact y_ret (e_180 (13, .ireturn, 1) (List.mem_of_getElem? (i := 7) rfl)) ⟨rfl, y_rb (Or.inl rfl)⟩ ⟨rfl, hc2⟩
set_option maxHeartbeats 2000000 in
set_option maxRecDepth 100000 in
theorem k_sign_yes {w : Int32} (h : MS th am mb hb nb rb f n lim p tok at9 sp num wd hf nf on G) (hy : tok = Int32.ofInt 3 ∧ num = w) (hN : NXm f n lim p num wd p' tok' at' sp' num' wd') : x_Gd xs L J (d + 2) m_180 (fun r G' => r = some (.int 1) ∧ MS th am mb hb nb rb f n lim p' tok' at' sp' num' wd' hf nf on G') 0 (lv_args 0 [.ref am, .int w]) [] G := by
  have g0 : pm_get (lv_args 0 [.ref am, .int w]) 0 = some (.ref am) := rfl
  refine y_aln (e_180 (0, .aload_n 0, 1) (List.mem_of_getElem? (i := 0) rfl)) g0 ?_
  refine y_iln (e_180 (1, .iload_n 1, 1) (List.mem_of_getElem? (i := 1) rfl)) rfl ?_
  refine y_c2 (K' := _) (e_180 (2, .invokevirtual 164, 3) (List.mem_of_getElem? (i := 2) rfl)) ⟨rfl, rfl, rfl⟩ t_17_164 ⟨by decide, by decide, by decide, by decide⟩ m_181_ok rfl (by decide) (y_recv h.T.I h.T.t ⟨rfl, rfl⟩) (Nat.le_of_ble_eq_true rfl) (Nat.le_of_ble_eq_true rfl) (k_isSign h _) (fun r1 Gc hc1 => ?_)
  obtain ⟨rfl, rfl⟩ := hc1
  simp only [Option.toList_some, Option.toList_none, List.cons_append, List.nil_append]
  rw [if_pos hy]
  refine y_ifc (e_180 (5, .ifCond .ne 9, 3) (List.mem_of_getElem? (i := 3) rfl)) rfl (fun _ => ?_) (fun hc => absurd hc (by decide))
  refine y_aln (e_180 (14, .aload_n 0, 1) (List.mem_of_getElem? (i := 8) rfl)) g0 ?_
  refine y_c1 (K' := _) (e_180 (15, .invokevirtual 170, 3) (List.mem_of_getElem? (i := 9) rfl)) ⟨rfl, rfl, rfl⟩ t_17_170 ⟨by decide, by decide, by decide, by decide⟩ m_163_ok rfl (by decide) (y_recv h.T.I h.T.t ⟨rfl, rfl⟩) (Nat.le_of_ble_eq_true rfl) (Nat.le_of_ble_eq_true rfl) (hN _ _ _ _ _ _ _ _ _ _ _ _ h.T) (fun r1 Gc hc1 => ?_)
  obtain ⟨rfl, hc2⟩ := hc1
  simp only [Option.toList_some, Option.toList_none, List.cons_append, List.nil_append]
  have hc3 := h.nxt hc2
  refine y_st (e_180 (18, .iconst 1, 1) (List.mem_of_getElem? (i := 10) rfl)) ⟨rfl, rfl, rfl, rfl⟩ ?_
  exact y_ret (e_180 (19, .ireturn, 1) (List.mem_of_getElem? (i := 11) rfl)) ⟨rfl, y_rb (Or.inr rfl)⟩ ⟨rfl, hc3⟩
def t_bit (v k : Int32) : Bool := (v >>> (k &&& 31)) &&& 1 == 1
set_option maxHeartbeats 2000000 in
set_option maxRecDepth 100000 in
theorem k_bitOf (v k : Int32) : x_Gd xs L J d m_170 (fun r G' => r = some (.int (if t_bit v k then 1 else 0)) ∧ G' = G) 0 (lv_args 0 [.int v, .int k]) [] G := by
  refine y_iln (e_170 (0, .iload_n 0, 1) (List.mem_of_getElem? (i := 0) rfl)) rfl ?_
  refine y_iln (e_170 (1, .iload_n 1, 1) (List.mem_of_getElem? (i := 1) rfl)) rfl ?_
  refine y_st (e_170 (2, .ishr, 1) (List.mem_of_getElem? (i := 2) rfl)) ⟨rfl, rfl, rfl, rfl⟩ ?_
  refine y_st (e_170 (3, .iconst 1, 1) (List.mem_of_getElem? (i := 3) rfl)) ⟨rfl, rfl, rfl, rfl⟩ ?_
  refine y_st (e_170 (4, .iand, 1) (List.mem_of_getElem? (i := 4) rfl)) ⟨rfl, rfl, rfl, rfl⟩ ?_
  refine y_st (e_170 (5, .iconst 1, 1) (List.mem_of_getElem? (i := 5) rfl)) ⟨rfl, rfl, rfl, rfl⟩ ?_
  refine y_icm (e_170 (6, .if_icmp .ne 7, 3) (List.mem_of_getElem? (i := 6) rfl)) rfl (fun hc => ?_) (fun hc => ?_)
  · have c := y_hI.2.2.1 hc
    refine y_st (e_170 (13, .iconst 0, 1) (List.mem_of_getElem? (i := 9) rfl)) ⟨rfl, rfl, rfl, rfl⟩ ?_
    refine y_ret (e_170 (14, .ireturn, 1) (List.mem_of_getElem? (i := 10) rfl)) ⟨rfl, y_rb (Or.inl rfl)⟩ ⟨?_, rfl⟩
    have : t_bit v k = false := by unfold t_bit; exact beq_eq_false_iff_ne.mpr c
    rw [this]
    rfl
  · have c := y_hI.2.2.2.1 hc
    refine y_st (e_170 (9, .iconst 1, 1) (List.mem_of_getElem? (i := 7) rfl)) ⟨rfl, rfl, rfl, rfl⟩ ?_
    refine y_st (e_170 (10, .goto 4, 3) (List.mem_of_getElem? (i := 8) rfl)) ⟨rfl, rfl, rfl, rfl⟩ ?_
    refine y_ret (e_170 (14, .ireturn, 1) (List.mem_of_getElem? (i := 10) rfl)) ⟨rfl, y_rb (Or.inr rfl)⟩ ⟨?_, rfl⟩
    have : t_bit v k = true := by unfold t_bit; exact beq_iff_eq.mpr c
    rw [this]
    rfl
set_option maxHeartbeats 2000000 in
set_option maxRecDepth 100000 in
theorem k_isOnce_no {k : Int32} (h : MS th am mb hb nb rb f n lim p tok at9 sp num wd hf nf on G) (hno : t_bit on k = true) : x_Gd xs L J (d + 1) m_169 (fun r G' => r = some (.int 0) ∧ x_sl G' am 16 = some (.int at9) ∧ x_sl G' am 15 = some (.int (Int32.ofInt 3))) 0 (lv_args 0 [.ref am, .int k]) [] G := by
  have g0 : pm_get (lv_args 0 [.ref am, .int k]) 0 = some (.ref am) := rfl
  have c4 := h.2.2.2.2.2.2.2.1
  refine y_aln (e_169 (0, .aload_n 0, 1) (List.mem_of_getElem? (i := 0) rfl)) g0 ?_
  refine y_getf h.T.I h.T.t (e_169 (1, .getfield 192, 3) (List.mem_of_getElem? (i := 1) rfl)) u_17_192 ⟨rfl, rfl⟩ c4 ?_
  refine y_iln (e_169 (4, .iload_n 1, 1) (List.mem_of_getElem? (i := 2) rfl)) rfl ?_
  refine y_c2 (K' := _) (e_169 (5, .invokestatic 195, 3) (List.mem_of_getElem? (i := 3) rfl)) ⟨rfl, rfl, rfl⟩ t_17_195 ⟨by decide, by decide, by decide, by decide⟩ m_170_ok rfl (by decide) rfl (Nat.le_of_ble_eq_true rfl) (Nat.le_of_ble_eq_true rfl) (k_bitOf _ _) (fun r1 Gc hc1 => ?_)
  obtain ⟨rfl, rfl⟩ := hc1
  simp only [Option.toList_some, Option.toList_none, List.cons_append, List.nil_append]
  rw [hno]
  refine y_ifc (e_169 (8, .ifCond .eq 9, 3) (List.mem_of_getElem? (i := 4) rfl)) rfl (fun hc => absurd hc (by decide)) (fun _ => ?_)
  refine y_aln (e_169 (11, .aload_n 0, 1) (List.mem_of_getElem? (i := 5) rfl)) g0 ?_
  refine y_st (e_169 (12, .iconst 3, 1) (List.mem_of_getElem? (i := 6) rfl)) ⟨rfl, rfl, rfl, rfl⟩ ?_
  refine y_c2 (K' := _) (e_169 (13, .invokevirtual 167, 3) (List.mem_of_getElem? (i := 7) rfl)) ⟨rfl, rfl, rfl⟩ t_17_167 ⟨by decide, by decide, by decide, by decide⟩ m_171_ok rfl (by decide) (y_recv h.T.I h.T.t ⟨rfl, rfl⟩) (Nat.le_of_ble_eq_true rfl) (Nat.le_of_ble_eq_true rfl) (k_bad h _) (fun r1 Gc hc1 => ?_)
  obtain ⟨rfl, hc2⟩ := hc1
  simp only [Option.toList_some, Option.toList_none, List.cons_append, List.nil_append]
  exact y_ret (e_169 (16, .ireturn, 1) (List.mem_of_getElem? (i := 8) rfl)) ⟨rfl, y_rb (Or.inl rfl)⟩ ⟨rfl, hc2⟩
set_option maxHeartbeats 2000000 in
set_option maxRecDepth 100000 in
theorem k_isOnce_yes {k : Int32} (h : MS th am mb hb nb rb f n lim p tok at9 sp num wd hf nf on G) (hy : t_bit on k = false) (hN : NXm f n lim p num wd p' tok' at' sp' num' wd') : x_Gd xs L J (d + 2) m_169 (fun r G' => r = some (.int 1) ∧ MS th am mb hb nb rb f n lim p' tok' at' sp' num' wd' hf nf (on ||| (Int32.ofInt 1 <<< (k &&& 31))) G') 0 (lv_args 0 [.ref am, .int k]) [] G := by
  have g0 : pm_get (lv_args 0 [.ref am, .int k]) 0 = some (.ref am) := rfl
  have c4 := h.2.2.2.2.2.2.2.1
  refine y_aln (e_169 (0, .aload_n 0, 1) (List.mem_of_getElem? (i := 0) rfl)) g0 ?_
  refine y_getf h.T.I h.T.t (e_169 (1, .getfield 192, 3) (List.mem_of_getElem? (i := 1) rfl)) u_17_192 ⟨rfl, rfl⟩ c4 ?_
  refine y_iln (e_169 (4, .iload_n 1, 1) (List.mem_of_getElem? (i := 2) rfl)) rfl ?_
  refine y_c2 (K' := _) (e_169 (5, .invokestatic 195, 3) (List.mem_of_getElem? (i := 3) rfl)) ⟨rfl, rfl, rfl⟩ t_17_195 ⟨by decide, by decide, by decide, by decide⟩ m_170_ok rfl (by decide) rfl (Nat.le_of_ble_eq_true rfl) (Nat.le_of_ble_eq_true rfl) (k_bitOf _ _) (fun r1 Gc hc1 => ?_)
  obtain ⟨rfl, rfl⟩ := hc1
  simp only [Option.toList_some, Option.toList_none, List.cons_append, List.nil_append]
  rw [hy]
  refine y_ifc (e_169 (8, .ifCond .eq 9, 3) (List.mem_of_getElem? (i := 4) rfl)) rfl (fun _ => ?_) (fun hc => absurd hc (by decide))
  refine y_aln (e_169 (17, .aload_n 0, 1) (List.mem_of_getElem? (i := 9) rfl)) g0 ?_
  refine y_st (e_169 (18, .dup, 1) (List.mem_of_getElem? (i := 10) rfl)) ⟨rfl, rfl, rfl, rfl⟩ ?_
  refine y_getf h.T.I h.T.t (e_169 (19, .getfield 192, 3) (List.mem_of_getElem? (i := 11) rfl)) u_17_192 ⟨rfl, rfl⟩ c4 ?_
  refine y_st (e_169 (22, .iconst 1, 1) (List.mem_of_getElem? (i := 12) rfl)) ⟨rfl, rfl, rfl, rfl⟩ ?_
  refine y_iln (e_169 (23, .iload_n 1, 1) (List.mem_of_getElem? (i := 13) rfl)) rfl ?_
  refine y_st (e_169 (24, .ishl, 1) (List.mem_of_getElem? (i := 14) rfl)) ⟨rfl, rfl, rfl, rfl⟩ ?_
  refine y_st (e_169 (25, .ior, 1) (List.mem_of_getElem? (i := 15) rfl)) ⟨rfl, rfl, rfl, rfl⟩ ?_
  refine y_putf (f := (0, -2147483648, 2147483647)) h.T.I h.T.t (e_169 (26, .putfield 192, 3) (List.mem_of_getElem? (i := 16) rfl)) u_17_192 ⟨rfl, rfl, by decide, rfl, rfl⟩ ⟨_, rfl, (x_i32 _).1, (x_i32 _).2⟩ (fun G1 u1 => ?_)
  have h1 := h.on9 u1 (h.T.I.upd u1 h.T.t (y_okA rfl))
  refine y_aln (e_169 (29, .aload_n 0, 1) (List.mem_of_getElem? (i := 17) rfl)) g0 ?_
  refine y_c1 (K' := _) (e_169 (30, .invokevirtual 170, 3) (List.mem_of_getElem? (i := 18) rfl)) ⟨rfl, rfl, rfl⟩ t_17_170 ⟨by decide, by decide, by decide, by decide⟩ m_163_ok rfl (by decide) (y_recv h1.T.I h1.T.t ⟨rfl, rfl⟩) (Nat.le_of_ble_eq_true rfl) (Nat.le_of_ble_eq_true rfl) (hN _ _ _ _ _ _ _ _ _ _ _ _ h1.T) (fun r1 Gc hc1 => ?_)
  obtain ⟨rfl, hc2⟩ := hc1
  simp only [Option.toList_some, Option.toList_none, List.cons_append, List.nil_append]
  have hc3 := h1.nxt hc2
  refine y_st (e_169 (33, .iconst 1, 1) (List.mem_of_getElem? (i := 19) rfl)) ⟨rfl, rfl, rfl, rfl⟩ ?_
  exact y_ret (e_169 (34, .ireturn, 1) (List.mem_of_getElem? (i := 20) rfl)) ⟨rfl, y_rb (Or.inr rfl)⟩ ⟨rfl, hc3⟩
end MG2
