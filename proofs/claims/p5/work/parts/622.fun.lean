def f_period (f : Nat → Int32) : Int32 := ((((f 6) + (f 7)) + (f 8)) + (f 9))
def m_192 : pM := (⟨"BreathingHillModel", "period", "()I"⟩, 1598, 1, some (FieldType.int), 17, 0, false, 10, 103, 1597, 54)
theorem m_192_ok : pm_tab[192]? = some m_192 := rfl
theorem e_192 : ∀ q ∈ d_192, decode m_192.code q.1 = .ok (q.2.1, q.2.2) := y_dec d_192_ok m_192_ok
set_option maxRecDepth 100000 in
theorem g_period {th : List Nat} {xs : Nat → Int32} {L J d a b : Nat} {f : Nat → Int32} {G : List pE} (hI : xI x_tb th G) (ta : th[a]? = some 10) (s6 : x_sl G a 6 = some (.ref b)) (tb : th[b]? = some 36) (hs : ∀ i, i < 324 → x_sl G b i = some (.int (f i))) : x_Gd xs L J d m_192 (fun r G' => r = some (.int (f_period f)) ∧ G' = G) 0 (lv_args 0 [.ref a]) [] G := by
  refine y_aln (e_192 (0, .aload_n 0, 1) (List.mem_of_getElem? (i := 0) rfl)) rfl ?_
  refine y_getf hI ta (e_192 (1, .getfield 33, 3) (List.mem_of_getElem? (i := 1) rfl)) u_17_33 ⟨rfl, rfl⟩ s6 ?_
  refine y_st (e_192 (4, .bipush 6, 2) (List.mem_of_getElem? (i := 2) rfl)) ⟨rfl, rfl, rfl, rfl⟩ ?_
  refine y_iald hI tb (e_192 (6, .iaload, 1) (List.mem_of_getElem? (i := 3) rfl)) ⟨rfl, rfl⟩ (by decide) (hs 6 (by decide)) ?_
  refine y_aln (e_192 (7, .aload_n 0, 1) (List.mem_of_getElem? (i := 4) rfl)) rfl ?_
  refine y_getf hI ta (e_192 (8, .getfield 33, 3) (List.mem_of_getElem? (i := 5) rfl)) u_17_33 ⟨rfl, rfl⟩ s6 ?_
  refine y_st (e_192 (11, .bipush 7, 2) (List.mem_of_getElem? (i := 6) rfl)) ⟨rfl, rfl, rfl, rfl⟩ ?_
  refine y_iald hI tb (e_192 (13, .iaload, 1) (List.mem_of_getElem? (i := 7) rfl)) ⟨rfl, rfl⟩ (by decide) (hs 7 (by decide)) ?_
  refine y_st (e_192 (14, .iadd, 1) (List.mem_of_getElem? (i := 8) rfl)) ⟨rfl, rfl, rfl, rfl⟩ ?_
  refine y_aln (e_192 (15, .aload_n 0, 1) (List.mem_of_getElem? (i := 9) rfl)) rfl ?_
  refine y_getf hI ta (e_192 (16, .getfield 33, 3) (List.mem_of_getElem? (i := 10) rfl)) u_17_33 ⟨rfl, rfl⟩ s6 ?_
  refine y_st (e_192 (19, .bipush 8, 2) (List.mem_of_getElem? (i := 11) rfl)) ⟨rfl, rfl, rfl, rfl⟩ ?_
  refine y_iald hI tb (e_192 (21, .iaload, 1) (List.mem_of_getElem? (i := 12) rfl)) ⟨rfl, rfl⟩ (by decide) (hs 8 (by decide)) ?_
  refine y_st (e_192 (22, .iadd, 1) (List.mem_of_getElem? (i := 13) rfl)) ⟨rfl, rfl, rfl, rfl⟩ ?_
  refine y_aln (e_192 (23, .aload_n 0, 1) (List.mem_of_getElem? (i := 14) rfl)) rfl ?_
  refine y_getf hI ta (e_192 (24, .getfield 33, 3) (List.mem_of_getElem? (i := 15) rfl)) u_17_33 ⟨rfl, rfl⟩ s6 ?_
  refine y_st (e_192 (27, .bipush 9, 2) (List.mem_of_getElem? (i := 16) rfl)) ⟨rfl, rfl, rfl, rfl⟩ ?_
  refine y_iald hI tb (e_192 (29, .iaload, 1) (List.mem_of_getElem? (i := 17) rfl)) ⟨rfl, rfl⟩ (by decide) (hs 9 (by decide)) ?_
  refine y_st (e_192 (30, .iadd, 1) (List.mem_of_getElem? (i := 18) rfl)) ⟨rfl, rfl, rfl, rfl⟩ ?_
  refine y_ret (e_192 (31, .ireturn, 1) (List.mem_of_getElem? (i := 19) rfl)) ⟨rfl, y_ri⟩ ⟨?_, rfl⟩
  simp only [f_period, if_true, if_false, Bool.false_eq_true] <;> rfl
def f_isIn (x lo hi : Int32) : Int32 := (if pm_holds .lt x lo = true then (Int32.ofInt 0) else (if pm_holds .gt x hi = true then (Int32.ofInt 0) else (Int32.ofInt 1)))
def m_174 : pM := (⟨"BreathingHillModel", "isIn", "(III)Z"⟩, 1526, 3, some (FieldType.boolean), 17, 3, true, 10, 103, 1525, 0)
theorem m_174_ok : pm_tab[174]? = some m_174 := rfl
theorem e_174 : ∀ q ∈ d_174, decode m_174.code q.1 = .ok (q.2.1, q.2.2) := y_dec d_174_ok m_174_ok
set_option maxRecDepth 100000 in
theorem g_isIn {xs : Nat → Int32} {L J d : Nat} {G : List pE} (x lo hi : Int32) : x_Gd xs L J d m_174 (fun r G' => r = some (.int (f_isIn x lo hi)) ∧ G' = G) 0 (lv_args 0 [.int x, .int lo, .int hi]) [] G := by
  refine y_iln (e_174 (0, .iload_n 0, 1) (List.mem_of_getElem? (i := 0) rfl)) rfl ?_
  refine y_iln (e_174 (1, .iload_n 1, 1) (List.mem_of_getElem? (i := 1) rfl)) rfl ?_
  refine y_icm (e_174 (2, .if_icmp .lt 12, 3) (List.mem_of_getElem? (i := 2) rfl)) rfl (fun hb0 => ?_) (fun hb0 => ?_)
  · refine y_st (e_174 (14, .iconst 0, 1) (List.mem_of_getElem? (i := 8) rfl)) ⟨rfl, rfl, rfl, rfl⟩ ?_
    refine y_ret (e_174 (15, .ireturn, 1) (List.mem_of_getElem? (i := 9) rfl)) ⟨rfl, y_rb (by decide)⟩ ⟨?_, rfl⟩
    simp only [f_isIn, hb0, if_true, if_false, Bool.false_eq_true] <;> rfl
  · refine y_iln (e_174 (5, .iload_n 0, 1) (List.mem_of_getElem? (i := 3) rfl)) rfl ?_
    refine y_iln (e_174 (6, .iload_n 2, 1) (List.mem_of_getElem? (i := 4) rfl)) rfl ?_
    refine y_icm (e_174 (7, .if_icmp .gt 7, 3) (List.mem_of_getElem? (i := 5) rfl)) rfl (fun hb1 => ?_) (fun hb1 => ?_)
    · refine y_st (e_174 (14, .iconst 0, 1) (List.mem_of_getElem? (i := 8) rfl)) ⟨rfl, rfl, rfl, rfl⟩ ?_
      refine y_ret (e_174 (15, .ireturn, 1) (List.mem_of_getElem? (i := 9) rfl)) ⟨rfl, y_rb (by decide)⟩ ⟨?_, rfl⟩
      simp only [f_isIn, hb0, hb1, if_true, if_false, Bool.false_eq_true] <;> rfl
    · refine y_st (e_174 (10, .iconst 1, 1) (List.mem_of_getElem? (i := 6) rfl)) ⟨rfl, rfl, rfl, rfl⟩ ?_
      refine y_st (e_174 (11, .goto 4, 3) (List.mem_of_getElem? (i := 7) rfl)) ⟨rfl, rfl, rfl, rfl⟩ ?_
      refine y_ret (e_174 (15, .ireturn, 1) (List.mem_of_getElem? (i := 9) rfl)) ⟨rfl, y_rb (by decide)⟩ ⟨?_, rfl⟩
      simp only [f_isIn, hb0, hb1, if_true, if_false, Bool.false_eq_true] <;> rfl
def f_off (x y : Int32) : Int32 := (if pm_holds .ge x y = true then (x - y) else (y - x))
def m_206 : pM := (⟨"BreathingHillModel", "off", "(II)I"⟩, 1653, 2, some (FieldType.int), 17, 2, true, 10, 103, 1652, 0)
theorem m_206_ok : pm_tab[206]? = some m_206 := rfl
theorem e_206 : ∀ q ∈ d_206, decode m_206.code q.1 = .ok (q.2.1, q.2.2) := y_dec d_206_ok m_206_ok
set_option maxRecDepth 100000 in
theorem g_off {xs : Nat → Int32} {L J d : Nat} {G : List pE} (x y : Int32) : x_Gd xs L J d m_206 (fun r G' => r = some (.int (f_off x y)) ∧ G' = G) 0 (lv_args 0 [.int x, .int y]) [] G := by
  refine y_iln (e_206 (0, .iload_n 0, 1) (List.mem_of_getElem? (i := 0) rfl)) rfl ?_
  refine y_iln (e_206 (1, .iload_n 1, 1) (List.mem_of_getElem? (i := 1) rfl)) rfl ?_
  refine y_icm (e_206 (2, .if_icmp .ge 9, 3) (List.mem_of_getElem? (i := 2) rfl)) rfl (fun hb0 => ?_) (fun hb0 => ?_)
  · refine y_iln (e_206 (11, .iload_n 0, 1) (List.mem_of_getElem? (i := 7) rfl)) rfl ?_
    refine y_iln (e_206 (12, .iload_n 1, 1) (List.mem_of_getElem? (i := 8) rfl)) rfl ?_
    refine y_st (e_206 (13, .isub, 1) (List.mem_of_getElem? (i := 9) rfl)) ⟨rfl, rfl, rfl, rfl⟩ ?_
    refine y_ret (e_206 (14, .ireturn, 1) (List.mem_of_getElem? (i := 10) rfl)) ⟨rfl, y_ri⟩ ⟨?_, rfl⟩
    simp only [f_off, hb0, if_true, if_false, Bool.false_eq_true] <;> rfl
  · refine y_iln (e_206 (5, .iload_n 1, 1) (List.mem_of_getElem? (i := 3) rfl)) rfl ?_
    refine y_iln (e_206 (6, .iload_n 0, 1) (List.mem_of_getElem? (i := 4) rfl)) rfl ?_
    refine y_st (e_206 (7, .isub, 1) (List.mem_of_getElem? (i := 5) rfl)) ⟨rfl, rfl, rfl, rfl⟩ ?_
    refine y_st (e_206 (8, .goto 6, 3) (List.mem_of_getElem? (i := 6) rfl)) ⟨rfl, rfl, rfl, rfl⟩ ?_
    refine y_ret (e_206 (14, .ireturn, 1) (List.mem_of_getElem? (i := 10) rfl)) ⟨rfl, y_ri⟩ ⟨?_, rfl⟩
    simp only [f_off, hb0, if_true, if_false, Bool.false_eq_true] <;> rfl
def f_airOf (f : Nat → Int32) (v h : Int32) : Int32 := (if pm_holds .ne (h / (f_period f)) (f 12) = true then (if pm_holds .ge (h - h / (f_period f) * (f_period f)) (f 6) = true then (if pm_holds .eq (f_isIn ((h - h / (f_period f) * (f_period f)) - ((f 6) + (f 7))) (Int32.ofInt 0) ((f 8) - (Int32.ofInt 1))) 0 = true then (Int32.ofInt 0) else (if pm_holds .ne v 0 = true then (Int32.ofInt 1) else (Int32.ofInt 2))) else (if pm_holds .ne v 0 = true then (Int32.ofInt 2) else (Int32.ofInt 1))) else (Int32.ofInt 0))
def m_191 : pM := (⟨"BreathingHillModel", "airOf", "(II)I"⟩, 1594, 4, some (FieldType.int), 17, 2, false, 10, 103, 1593, 53)
theorem m_191_ok : pm_tab[191]? = some m_191 := rfl
theorem e_191 : ∀ q ∈ d_191, decode m_191.code q.1 = .ok (q.2.1, q.2.2) := y_dec d_191_ok m_191_ok
set_option maxRecDepth 100000 in
theorem g_airOf {th : List Nat} {xs : Nat → Int32} {L J d a b : Nat} {f : Nat → Int32} {G : List pE} (hI : xI x_tb th G) (ta : th[a]? = some 10) (s6 : x_sl G a 6 = some (.ref b)) (tb : th[b]? = some 36) (hs : ∀ i, i < 324 → x_sl G b i = some (.int (f i))) (hp : f_period f ≠ 0) (v h : Int32) : x_Gd xs L J (d + 1) m_191 (fun r G' => r = some (.int (f_airOf f v h)) ∧ G' = G) 0 (lv_args 0 [.ref a, .int v, .int h]) [] G := by
  refine y_iln (e_191 (0, .iload_n 2, 1) (List.mem_of_getElem? (i := 0) rfl)) rfl ?_
  refine y_aln (e_191 (1, .aload_n 0, 1) (List.mem_of_getElem? (i := 1) rfl)) rfl ?_
  refine y_c1 (K' := fun r G' => r = some (.int (f_period f)) ∧ G' = G) (e_191 (2, .invokevirtual 242, 3) (List.mem_of_getElem? (i := 2) rfl)) ⟨rfl, rfl, rfl⟩ t_17_242 ⟨by decide, by decide, by decide, by decide⟩ m_192_ok rfl (by decide) (y_recv hI ta ⟨rfl, rfl⟩) (Nat.le_of_ble_eq_true rfl) (Nat.le_of_ble_eq_true rfl) (g_period hI ta s6 tb hs) (fun r1 G1 h1 => ?_)
  obtain ⟨rfl, hG⟩ := h1
  rw [hG]
  simp only [Option.toList_some, Option.toList_none, List.cons_append, List.nil_append]
  refine y_st (e_191 (5, .irem, 1) (List.mem_of_getElem? (i := 3) rfl)) ⟨rfl, rfl, rfl, by dsimp only [pm_step]; rw [if_neg hp]⟩ ?_
  refine y_isn (e_191 (6, .istore_n 3, 1) (List.mem_of_getElem? (i := 4) rfl)) (by decide) ?_
  refine y_iln (e_191 (7, .iload_n 2, 1) (List.mem_of_getElem? (i := 5) rfl)) rfl ?_
  refine y_aln (e_191 (8, .aload_n 0, 1) (List.mem_of_getElem? (i := 6) rfl)) rfl ?_
  refine y_c1 (K' := fun r G' => r = some (.int (f_period f)) ∧ G' = G) (e_191 (9, .invokevirtual 242, 3) (List.mem_of_getElem? (i := 7) rfl)) ⟨rfl, rfl, rfl⟩ t_17_242 ⟨by decide, by decide, by decide, by decide⟩ m_192_ok rfl (by decide) (y_recv hI ta ⟨rfl, rfl⟩) (Nat.le_of_ble_eq_true rfl) (Nat.le_of_ble_eq_true rfl) (g_period hI ta s6 tb hs) (fun r1 G1 h1 => ?_)
  obtain ⟨rfl, hG⟩ := h1
  rw [hG]
  simp only [Option.toList_some, Option.toList_none, List.cons_append, List.nil_append]
  refine y_st (e_191 (12, .idiv, 1) (List.mem_of_getElem? (i := 8) rfl)) ⟨rfl, rfl, rfl, by dsimp only [pm_step]; rw [if_neg hp]⟩ ?_
  refine y_aln (e_191 (13, .aload_n 0, 1) (List.mem_of_getElem? (i := 9) rfl)) rfl ?_
  refine y_getf hI ta (e_191 (14, .getfield 33, 3) (List.mem_of_getElem? (i := 10) rfl)) u_17_33 ⟨rfl, rfl⟩ s6 ?_
  refine y_st (e_191 (17, .bipush 12, 2) (List.mem_of_getElem? (i := 11) rfl)) ⟨rfl, rfl, rfl, rfl⟩ ?_
  refine y_iald hI tb (e_191 (19, .iaload, 1) (List.mem_of_getElem? (i := 12) rfl)) ⟨rfl, rfl⟩ (by decide) (hs 12 (by decide)) ?_
  refine y_icm (e_191 (20, .if_icmp .ne 5, 3) (List.mem_of_getElem? (i := 13) rfl)) rfl (fun hb0 => ?_) (fun hb0 => ?_)
  · refine y_iln (e_191 (25, .iload_n 3, 1) (List.mem_of_getElem? (i := 16) rfl)) rfl ?_
    refine y_aln (e_191 (26, .aload_n 0, 1) (List.mem_of_getElem? (i := 17) rfl)) rfl ?_
    refine y_getf hI ta (e_191 (27, .getfield 33, 3) (List.mem_of_getElem? (i := 18) rfl)) u_17_33 ⟨rfl, rfl⟩ s6 ?_
    refine y_st (e_191 (30, .bipush 6, 2) (List.mem_of_getElem? (i := 19) rfl)) ⟨rfl, rfl, rfl, rfl⟩ ?_
    refine y_iald hI tb (e_191 (32, .iaload, 1) (List.mem_of_getElem? (i := 20) rfl)) ⟨rfl, rfl⟩ (by decide) (hs 6 (by decide)) ?_
    refine y_icm (e_191 (33, .if_icmp .ge 13, 3) (List.mem_of_getElem? (i := 21) rfl)) rfl (fun hb1 => ?_) (fun hb1 => ?_)
    · refine y_iln (e_191 (46, .iload_n 3, 1) (List.mem_of_getElem? (i := 28) rfl)) rfl ?_
      refine y_aln (e_191 (47, .aload_n 0, 1) (List.mem_of_getElem? (i := 29) rfl)) rfl ?_
      refine y_getf hI ta (e_191 (48, .getfield 33, 3) (List.mem_of_getElem? (i := 30) rfl)) u_17_33 ⟨rfl, rfl⟩ s6 ?_
      refine y_st (e_191 (51, .bipush 6, 2) (List.mem_of_getElem? (i := 31) rfl)) ⟨rfl, rfl, rfl, rfl⟩ ?_
      refine y_iald hI tb (e_191 (53, .iaload, 1) (List.mem_of_getElem? (i := 32) rfl)) ⟨rfl, rfl⟩ (by decide) (hs 6 (by decide)) ?_
      refine y_aln (e_191 (54, .aload_n 0, 1) (List.mem_of_getElem? (i := 33) rfl)) rfl ?_
      refine y_getf hI ta (e_191 (55, .getfield 33, 3) (List.mem_of_getElem? (i := 34) rfl)) u_17_33 ⟨rfl, rfl⟩ s6 ?_
      refine y_st (e_191 (58, .bipush 7, 2) (List.mem_of_getElem? (i := 35) rfl)) ⟨rfl, rfl, rfl, rfl⟩ ?_
      refine y_iald hI tb (e_191 (60, .iaload, 1) (List.mem_of_getElem? (i := 36) rfl)) ⟨rfl, rfl⟩ (by decide) (hs 7 (by decide)) ?_
      refine y_st (e_191 (61, .iadd, 1) (List.mem_of_getElem? (i := 37) rfl)) ⟨rfl, rfl, rfl, rfl⟩ ?_
      refine y_st (e_191 (62, .isub, 1) (List.mem_of_getElem? (i := 38) rfl)) ⟨rfl, rfl, rfl, rfl⟩ ?_
      refine y_isn (e_191 (63, .istore_n 3, 1) (List.mem_of_getElem? (i := 39) rfl)) (by decide) ?_
      refine y_iln (e_191 (64, .iload_n 3, 1) (List.mem_of_getElem? (i := 40) rfl)) rfl ?_
      refine y_st (e_191 (65, .iconst 0, 1) (List.mem_of_getElem? (i := 41) rfl)) ⟨rfl, rfl, rfl, rfl⟩ ?_
      refine y_aln (e_191 (66, .aload_n 0, 1) (List.mem_of_getElem? (i := 42) rfl)) rfl ?_
      refine y_getf hI ta (e_191 (67, .getfield 33, 3) (List.mem_of_getElem? (i := 43) rfl)) u_17_33 ⟨rfl, rfl⟩ s6 ?_
      refine y_st (e_191 (70, .bipush 8, 2) (List.mem_of_getElem? (i := 44) rfl)) ⟨rfl, rfl, rfl, rfl⟩ ?_
      refine y_iald hI tb (e_191 (72, .iaload, 1) (List.mem_of_getElem? (i := 45) rfl)) ⟨rfl, rfl⟩ (by decide) (hs 8 (by decide)) ?_
      refine y_st (e_191 (73, .iconst 1, 1) (List.mem_of_getElem? (i := 46) rfl)) ⟨rfl, rfl, rfl, rfl⟩ ?_
      refine y_st (e_191 (74, .isub, 1) (List.mem_of_getElem? (i := 47) rfl)) ⟨rfl, rfl, rfl, rfl⟩ ?_
      refine y_c3 (K' := fun r G' => r = some (.int (f_isIn ((h - h / (f_period f) * (f_period f)) - ((f 6) + (f 7))) (Int32.ofInt 0) ((f 8) - (Int32.ofInt 1)))) ∧ G' = G) (e_191 (75, .invokestatic 173, 3) (List.mem_of_getElem? (i := 48) rfl)) ⟨rfl, rfl, rfl⟩ t_17_173 ⟨by decide, by decide, by decide, by decide⟩ m_174_ok rfl (by decide) rfl (Nat.le_of_ble_eq_true rfl) (Nat.le_of_ble_eq_true rfl) (g_isIn _ _ _) (fun r1 G1 h1 => ?_)
      obtain ⟨rfl, hG⟩ := h1
      rw [hG]
      simp only [Option.toList_some, Option.toList_none, List.cons_append, List.nil_append]
      refine y_ifc (e_191 (78, .ifCond .eq 15, 3) (List.mem_of_getElem? (i := 49) rfl)) rfl (fun hb2 => ?_) (fun hb2 => ?_)
      · refine y_st (e_191 (93, .iconst 0, 1) (List.mem_of_getElem? (i := 56) rfl)) ⟨rfl, rfl, rfl, rfl⟩ ?_
        refine y_ret (e_191 (94, .ireturn, 1) (List.mem_of_getElem? (i := 57) rfl)) ⟨rfl, y_ri⟩ ⟨?_, rfl⟩
        simp only [f_airOf, hb0, hb1, hb2, if_true, if_false, Bool.false_eq_true] <;> rfl
      · refine y_iln (e_191 (81, .iload_n 1, 1) (List.mem_of_getElem? (i := 50) rfl)) rfl ?_
        refine y_ifc (e_191 (82, .ifCond .ne 7, 3) (List.mem_of_getElem? (i := 51) rfl)) rfl (fun hb3 => ?_) (fun hb3 => ?_)
        · refine y_st (e_191 (89, .iconst 1, 1) (List.mem_of_getElem? (i := 54) rfl)) ⟨rfl, rfl, rfl, rfl⟩ ?_
          refine y_st (e_191 (90, .goto 4, 3) (List.mem_of_getElem? (i := 55) rfl)) ⟨rfl, rfl, rfl, rfl⟩ ?_
          refine y_ret (e_191 (94, .ireturn, 1) (List.mem_of_getElem? (i := 57) rfl)) ⟨rfl, y_ri⟩ ⟨?_, rfl⟩
          simp only [f_airOf, hb0, hb1, hb2, hb3, if_true, if_false, Bool.false_eq_true] <;> rfl
        · refine y_st (e_191 (85, .iconst 2, 1) (List.mem_of_getElem? (i := 52) rfl)) ⟨rfl, rfl, rfl, rfl⟩ ?_
          refine y_st (e_191 (86, .goto 8, 3) (List.mem_of_getElem? (i := 53) rfl)) ⟨rfl, rfl, rfl, rfl⟩ ?_
          refine y_ret (e_191 (94, .ireturn, 1) (List.mem_of_getElem? (i := 57) rfl)) ⟨rfl, y_ri⟩ ⟨?_, rfl⟩
          simp only [f_airOf, hb0, hb1, hb2, hb3, if_true, if_false, Bool.false_eq_true] <;> rfl
    · refine y_iln (e_191 (36, .iload_n 1, 1) (List.mem_of_getElem? (i := 22) rfl)) rfl ?_
      refine y_ifc (e_191 (37, .ifCond .ne 7, 3) (List.mem_of_getElem? (i := 23) rfl)) rfl (fun hb2 => ?_) (fun hb2 => ?_)
      · refine y_st (e_191 (44, .iconst 2, 1) (List.mem_of_getElem? (i := 26) rfl)) ⟨rfl, rfl, rfl, rfl⟩ ?_
        refine y_ret (e_191 (45, .ireturn, 1) (List.mem_of_getElem? (i := 27) rfl)) ⟨rfl, y_ri⟩ ⟨?_, rfl⟩
        simp only [f_airOf, hb0, hb1, hb2, if_true, if_false, Bool.false_eq_true] <;> rfl
      · refine y_st (e_191 (40, .iconst 1, 1) (List.mem_of_getElem? (i := 24) rfl)) ⟨rfl, rfl, rfl, rfl⟩ ?_
        refine y_st (e_191 (41, .goto 4, 3) (List.mem_of_getElem? (i := 25) rfl)) ⟨rfl, rfl, rfl, rfl⟩ ?_
        refine y_ret (e_191 (45, .ireturn, 1) (List.mem_of_getElem? (i := 27) rfl)) ⟨rfl, y_ri⟩ ⟨?_, rfl⟩
        simp only [f_airOf, hb0, hb1, hb2, if_true, if_false, Bool.false_eq_true] <;> rfl
  · refine y_st (e_191 (23, .iconst 0, 1) (List.mem_of_getElem? (i := 14) rfl)) ⟨rfl, rfl, rfl, rfl⟩ ?_
    refine y_ret (e_191 (24, .ireturn, 1) (List.mem_of_getElem? (i := 15) rfl)) ⟨rfl, y_ri⟩ ⟨?_, rfl⟩
    simp only [f_airOf, hb0, if_true, if_false, Bool.false_eq_true] <;> rfl
def f_forceAt (f : Nat → Int32) (c : Int32) : Int32 := (if pm_holds .le ((f 10) - (c / (f 11))) 0 = true then (Int32.ofInt 0) else ((f 10) - (c / (f 11))))
def m_195 : pM := (⟨"BreathingHillModel", "forceAt", "(I)I"⟩, 1610, 3, some (FieldType.int), 17, 1, false, 10, 103, 1609, 56)
theorem m_195_ok : pm_tab[195]? = some m_195 := rfl
theorem e_195 : ∀ q ∈ d_195, decode m_195.code q.1 = .ok (q.2.1, q.2.2) := y_dec d_195_ok m_195_ok
set_option maxRecDepth 100000 in
theorem g_forceAt {th : List Nat} {xs : Nat → Int32} {L J d a b : Nat} {f : Nat → Int32} {G : List pE} (hI : xI x_tb th G) (ta : th[a]? = some 10) (s6 : x_sl G a 6 = some (.ref b)) (tb : th[b]? = some 36) (hs : ∀ i, i < 324 → x_sl G b i = some (.int (f i))) (hq : f 11 ≠ 0) (c : Int32) : x_Gd xs L J d m_195 (fun r G' => r = some (.int (f_forceAt f c)) ∧ G' = G) 0 (lv_args 0 [.ref a, .int c]) [] G := by
  refine y_aln (e_195 (0, .aload_n 0, 1) (List.mem_of_getElem? (i := 0) rfl)) rfl ?_
  refine y_getf hI ta (e_195 (1, .getfield 33, 3) (List.mem_of_getElem? (i := 1) rfl)) u_17_33 ⟨rfl, rfl⟩ s6 ?_
  refine y_st (e_195 (4, .bipush 10, 2) (List.mem_of_getElem? (i := 2) rfl)) ⟨rfl, rfl, rfl, rfl⟩ ?_
  refine y_iald hI tb (e_195 (6, .iaload, 1) (List.mem_of_getElem? (i := 3) rfl)) ⟨rfl, rfl⟩ (by decide) (hs 10 (by decide)) ?_
  refine y_iln (e_195 (7, .iload_n 1, 1) (List.mem_of_getElem? (i := 4) rfl)) rfl ?_
  refine y_aln (e_195 (8, .aload_n 0, 1) (List.mem_of_getElem? (i := 5) rfl)) rfl ?_
  refine y_getf hI ta (e_195 (9, .getfield 33, 3) (List.mem_of_getElem? (i := 6) rfl)) u_17_33 ⟨rfl, rfl⟩ s6 ?_
  refine y_st (e_195 (12, .bipush 11, 2) (List.mem_of_getElem? (i := 7) rfl)) ⟨rfl, rfl, rfl, rfl⟩ ?_
  refine y_iald hI tb (e_195 (14, .iaload, 1) (List.mem_of_getElem? (i := 8) rfl)) ⟨rfl, rfl⟩ (by decide) (hs 11 (by decide)) ?_
  refine y_st (e_195 (15, .idiv, 1) (List.mem_of_getElem? (i := 9) rfl)) ⟨rfl, rfl, rfl, by dsimp only [pm_step]; rw [if_neg hq]⟩ ?_
  refine y_st (e_195 (16, .isub, 1) (List.mem_of_getElem? (i := 10) rfl)) ⟨rfl, rfl, rfl, rfl⟩ ?_
  refine y_isn (e_195 (17, .istore_n 2, 1) (List.mem_of_getElem? (i := 11) rfl)) (by decide) ?_
  refine y_iln (e_195 (18, .iload_n 2, 1) (List.mem_of_getElem? (i := 12) rfl)) rfl ?_
  refine y_ifc (e_195 (19, .ifCond .le 7, 3) (List.mem_of_getElem? (i := 13) rfl)) rfl (fun hb0 => ?_) (fun hb0 => ?_)
  · refine y_st (e_195 (26, .iconst 0, 1) (List.mem_of_getElem? (i := 16) rfl)) ⟨rfl, rfl, rfl, rfl⟩ ?_
    refine y_ret (e_195 (27, .ireturn, 1) (List.mem_of_getElem? (i := 17) rfl)) ⟨rfl, y_ri⟩ ⟨?_, rfl⟩
    simp only [f_forceAt, hb0, if_true, if_false, Bool.false_eq_true] <;> rfl
  · refine y_iln (e_195 (22, .iload_n 2, 1) (List.mem_of_getElem? (i := 14) rfl)) rfl ?_
    refine y_st (e_195 (23, .goto 4, 3) (List.mem_of_getElem? (i := 15) rfl)) ⟨rfl, rfl, rfl, rfl⟩ ?_
    refine y_ret (e_195 (27, .ireturn, 1) (List.mem_of_getElem? (i := 17) rfl)) ⟨rfl, y_ri⟩ ⟨?_, rfl⟩
    simp only [f_forceAt, hb0, if_true, if_false, Bool.false_eq_true] <;> rfl
def f_strides (f : Nat → Int32) (v x to h : Int32) : Int32 := (if pm_holds .ge to x = true then (if pm_holds .le (f_airOf f v h) 0 = true then (if pm_holds .eq (Int32.ofInt 0) 0 = true then (x + (Int32.ofInt 1)) else (x - (Int32.ofInt 1))) else (if pm_holds .ne (f_airOf f v h) (Int32.ofInt 1) = true then (if pm_holds .ne (Int32.ofInt 0) (Int32.ofInt 0) = true then (if pm_holds .lt (f_forceAt f x) (Int32.ofInt 4) = true then (if pm_holds .eq (Int32.ofInt 0) 0 = true then (x + (Int32.ofInt 1)) else (x - (Int32.ofInt 1))) else (if pm_holds .eq (Int32.ofInt 0) 0 = true then (x + (Int32.ofInt 0)) else (x - (Int32.ofInt 0)))) else (if pm_holds .le (f_off x to) (Int32.ofInt 1) = true then (if pm_holds .eq (Int32.ofInt 0) 0 = true then (x + (Int32.ofInt 1)) else (x - (Int32.ofInt 1))) else (if pm_holds .eq (Int32.ofInt 0) 0 = true then (x + (Int32.ofInt 2)) else (x - (Int32.ofInt 2))))) else (if pm_holds .ne (Int32.ofInt 1) (Int32.ofInt 0) = true then (if pm_holds .lt (f_forceAt f x) (Int32.ofInt 4) = true then (if pm_holds .eq (Int32.ofInt 0) 0 = true then (x + (Int32.ofInt 1)) else (x - (Int32.ofInt 1))) else (if pm_holds .eq (Int32.ofInt 0) 0 = true then (x + (Int32.ofInt 0)) else (x - (Int32.ofInt 0)))) else (if pm_holds .le (f_off x to) (Int32.ofInt 1) = true then (if pm_holds .eq (Int32.ofInt 0) 0 = true then (x + (Int32.ofInt 1)) else (x - (Int32.ofInt 1))) else (if pm_holds .eq (Int32.ofInt 0) 0 = true then (x + (Int32.ofInt 2)) else (x - (Int32.ofInt 2))))))) else (if pm_holds .le (f_airOf f v h) 0 = true then (if pm_holds .eq (Int32.ofInt 1) 0 = true then (x + (Int32.ofInt 1)) else (x - (Int32.ofInt 1))) else (if pm_holds .ne (f_airOf f v h) (Int32.ofInt 1) = true then (if pm_holds .ne (Int32.ofInt 0) (Int32.ofInt 1) = true then (if pm_holds .lt (f_forceAt f x) (Int32.ofInt 4) = true then (if pm_holds .eq (Int32.ofInt 1) 0 = true then (x + (Int32.ofInt 1)) else (x - (Int32.ofInt 1))) else (if pm_holds .eq (Int32.ofInt 1) 0 = true then (x + (Int32.ofInt 0)) else (x - (Int32.ofInt 0)))) else (if pm_holds .le (f_off x to) (Int32.ofInt 1) = true then (if pm_holds .eq (Int32.ofInt 1) 0 = true then (x + (Int32.ofInt 1)) else (x - (Int32.ofInt 1))) else (if pm_holds .eq (Int32.ofInt 1) 0 = true then (x + (Int32.ofInt 2)) else (x - (Int32.ofInt 2))))) else (if pm_holds .ne (Int32.ofInt 1) (Int32.ofInt 1) = true then (if pm_holds .lt (f_forceAt f x) (Int32.ofInt 4) = true then (if pm_holds .eq (Int32.ofInt 1) 0 = true then (x + (Int32.ofInt 1)) else (x - (Int32.ofInt 1))) else (if pm_holds .eq (Int32.ofInt 1) 0 = true then (x + (Int32.ofInt 0)) else (x - (Int32.ofInt 0)))) else (if pm_holds .le (f_off x to) (Int32.ofInt 1) = true then (if pm_holds .eq (Int32.ofInt 1) 0 = true then (x + (Int32.ofInt 1)) else (x - (Int32.ofInt 1))) else (if pm_holds .eq (Int32.ofInt 1) 0 = true then (x + (Int32.ofInt 2)) else (x - (Int32.ofInt 2))))))))
def m_205 : pM := (⟨"BreathingHillModel", "strides", "(IIII)I"⟩, 1650, 9, some (FieldType.int), 17, 4, false, 10, 103, 1649, 63)
theorem m_205_ok : pm_tab[205]? = some m_205 := rfl
theorem e_205 : ∀ q ∈ d_205, decode m_205.code q.1 = .ok (q.2.1, q.2.2) := y_dec d_205_ok m_205_ok
set_option maxRecDepth 100000 in
theorem g_strides {th : List Nat} {xs : Nat → Int32} {L J d a b : Nat} {f : Nat → Int32} {G : List pE} (hI : xI x_tb th G) (ta : th[a]? = some 10) (s6 : x_sl G a 6 = some (.ref b)) (tb : th[b]? = some 36) (hs : ∀ i, i < 324 → x_sl G b i = some (.int (f i))) (hp : f_period f ≠ 0) (hq : f 11 ≠ 0) (v x to h : Int32) : x_Gd xs L J (d + 2) m_205 (fun r G' => r = some (.int (f_strides f v x to h)) ∧ G' = G) 0 (lv_args 0 [.ref a, .int v, .int x, .int to, .int h]) [] G := by
  refine y_aln (e_205 (0, .aload_n 0, 1) (List.mem_of_getElem? (i := 0) rfl)) rfl ?_
  refine y_iln (e_205 (1, .iload_n 1, 1) (List.mem_of_getElem? (i := 1) rfl)) rfl ?_
  refine y_il (e_205 (2, .iload 4, 2) (List.mem_of_getElem? (i := 2) rfl)) rfl ?_
  refine y_c3 (K' := fun r G' => r = some (.int (f_airOf f v h)) ∧ G' = G) (e_205 (4, .invokevirtual 245, 3) (List.mem_of_getElem? (i := 3) rfl)) ⟨rfl, rfl, rfl⟩ t_17_245 ⟨by decide, by decide, by decide, by decide⟩ m_191_ok rfl (by decide) (y_recv hI ta ⟨rfl, rfl⟩) (Nat.le_of_ble_eq_true rfl) (Nat.le_of_ble_eq_true rfl) (g_airOf hI ta s6 tb hs hp _ _) (fun r1 G1 h1 => ?_)
  obtain ⟨rfl, hG⟩ := h1
  rw [hG]
  simp only [Option.toList_some, Option.toList_none, List.cons_append, List.nil_append]
  refine y_is (e_205 (7, .istore 5, 2) (List.mem_of_getElem? (i := 4) rfl)) (by decide) ?_
  refine y_iln (e_205 (9, .iload_n 2, 1) (List.mem_of_getElem? (i := 5) rfl)) rfl ?_
  refine y_iln (e_205 (10, .iload_n 3, 1) (List.mem_of_getElem? (i := 6) rfl)) rfl ?_
  refine y_c2 (K' := fun r G' => r = some (.int (f_off x to)) ∧ G' = G) (e_205 (11, .invokestatic 290, 3) (List.mem_of_getElem? (i := 7) rfl)) ⟨rfl, rfl, rfl⟩ t_17_290 ⟨by decide, by decide, by decide, by decide⟩ m_206_ok rfl (by decide) rfl (Nat.le_of_ble_eq_true rfl) (Nat.le_of_ble_eq_true rfl) (g_off _ _) (fun r1 G1 h1 => ?_)
  obtain ⟨rfl, hG⟩ := h1
  rw [hG]
  simp only [Option.toList_some, Option.toList_none, List.cons_append, List.nil_append]
  refine y_is (e_205 (14, .istore 6, 2) (List.mem_of_getElem? (i := 8) rfl)) (by decide) ?_
  refine y_iln (e_205 (16, .iload_n 3, 1) (List.mem_of_getElem? (i := 9) rfl)) rfl ?_
  refine y_iln (e_205 (17, .iload_n 2, 1) (List.mem_of_getElem? (i := 10) rfl)) rfl ?_
  refine y_icm (e_205 (18, .if_icmp .ge 7, 3) (List.mem_of_getElem? (i := 11) rfl)) rfl (fun hb0 => ?_) (fun hb0 => ?_)
  · refine y_st (e_205 (25, .iconst 0, 1) (List.mem_of_getElem? (i := 14) rfl)) ⟨rfl, rfl, rfl, rfl⟩ ?_
    refine y_is (e_205 (26, .istore 7, 2) (List.mem_of_getElem? (i := 15) rfl)) (by decide) ?_
    refine y_st (e_205 (28, .iconst 1, 1) (List.mem_of_getElem? (i := 16) rfl)) ⟨rfl, rfl, rfl, rfl⟩ ?_
    refine y_is (e_205 (29, .istore 8, 2) (List.mem_of_getElem? (i := 17) rfl)) (by decide) ?_
    refine y_il (e_205 (31, .iload 5, 2) (List.mem_of_getElem? (i := 18) rfl)) rfl ?_
    refine y_ifc (e_205 (33, .ifCond .le 35, 3) (List.mem_of_getElem? (i := 19) rfl)) rfl (fun hb1 => ?_) (fun hb1 => ?_)
    · refine y_il (e_205 (68, .iload 5, 2) (List.mem_of_getElem? (i := 36) rfl)) rfl ?_
      refine y_ifc (e_205 (70, .ifCond .le 15, 3) (List.mem_of_getElem? (i := 37) rfl)) rfl (fun hb2 => ?_) (fun hb2 => ?_)
      · refine y_il (e_205 (85, .iload 7, 2) (List.mem_of_getElem? (i := 45) rfl)) rfl ?_
        refine y_ifc (e_205 (87, .ifCond .eq 10, 3) (List.mem_of_getElem? (i := 46) rfl)) rfl (fun hb3 => ?_) (fun hb3 => ?_)
        · refine y_iln (e_205 (97, .iload_n 2, 1) (List.mem_of_getElem? (i := 51) rfl)) rfl ?_
          refine y_il (e_205 (98, .iload 8, 2) (List.mem_of_getElem? (i := 52) rfl)) rfl ?_
          refine y_st (e_205 (100, .iadd, 1) (List.mem_of_getElem? (i := 53) rfl)) ⟨rfl, rfl, rfl, rfl⟩ ?_
          refine y_ret (e_205 (101, .ireturn, 1) (List.mem_of_getElem? (i := 54) rfl)) ⟨rfl, y_ri⟩ ⟨?_, rfl⟩
          simp only [f_strides, hb0, hb1, hb2, hb3, if_true, if_false, Bool.false_eq_true] <;> rfl
        · refine y_iln (e_205 (90, .iload_n 2, 1) (List.mem_of_getElem? (i := 47) rfl)) rfl ?_
          refine y_il (e_205 (91, .iload 8, 2) (List.mem_of_getElem? (i := 48) rfl)) rfl ?_
          refine y_st (e_205 (93, .isub, 1) (List.mem_of_getElem? (i := 49) rfl)) ⟨rfl, rfl, rfl, rfl⟩ ?_
          refine y_st (e_205 (94, .goto 7, 3) (List.mem_of_getElem? (i := 50) rfl)) ⟨rfl, rfl, rfl, rfl⟩ ?_
          refine y_ret (e_205 (101, .ireturn, 1) (List.mem_of_getElem? (i := 54) rfl)) ⟨rfl, y_ri⟩ ⟨?_, rfl⟩
          simp only [f_strides, hb0, hb1, hb2, hb3, if_true, if_false, Bool.false_eq_true] <;> rfl
      · exact absurd (hb1.symm.trans hb2) (by decide)
    · refine y_il (e_205 (36, .iload 5, 2) (List.mem_of_getElem? (i := 20) rfl)) rfl ?_
      refine y_st (e_205 (38, .iconst 1, 1) (List.mem_of_getElem? (i := 21) rfl)) ⟨rfl, rfl, rfl, rfl⟩ ?_
      refine y_icm (e_205 (39, .if_icmp .ne 7, 3) (List.mem_of_getElem? (i := 22) rfl)) rfl (fun hb2 => ?_) (fun hb2 => ?_)
      · refine y_st (e_205 (46, .iconst 0, 1) (List.mem_of_getElem? (i := 25) rfl)) ⟨rfl, rfl, rfl, rfl⟩ ?_
        refine y_il (e_205 (47, .iload 7, 2) (List.mem_of_getElem? (i := 26) rfl)) rfl ?_
        refine y_icm (e_205 (49, .if_icmp .ne 19, 3) (List.mem_of_getElem? (i := 27) rfl)) rfl (fun hb3 => ?_) (fun hb3 => ?_)
        · refine y_il (e_205 (68, .iload 5, 2) (List.mem_of_getElem? (i := 36) rfl)) rfl ?_
          refine y_ifc (e_205 (70, .ifCond .le 15, 3) (List.mem_of_getElem? (i := 37) rfl)) rfl (fun hb4 => ?_) (fun hb4 => ?_)
          · exact absurd (hb1.symm.trans hb4) (by decide)
          · refine y_aln (e_205 (73, .aload_n 0, 1) (List.mem_of_getElem? (i := 38) rfl)) rfl ?_
            refine y_iln (e_205 (74, .iload_n 2, 1) (List.mem_of_getElem? (i := 39) rfl)) rfl ?_
            refine y_c2 (K' := fun r G' => r = some (.int (f_forceAt f x)) ∧ G' = G) (e_205 (75, .invokevirtual 251, 3) (List.mem_of_getElem? (i := 40) rfl)) ⟨rfl, rfl, rfl⟩ t_17_251 ⟨by decide, by decide, by decide, by decide⟩ m_195_ok rfl (by decide) (y_recv hI ta ⟨rfl, rfl⟩) (Nat.le_of_ble_eq_true rfl) (Nat.le_of_ble_eq_true rfl) (g_forceAt hI ta s6 tb hs hq _) (fun r1 G1 h1 => ?_)
            obtain ⟨rfl, hG⟩ := h1
            rw [hG]
            simp only [Option.toList_some, Option.toList_none, List.cons_append, List.nil_append]
            refine y_st (e_205 (78, .iconst 4, 1) (List.mem_of_getElem? (i := 41) rfl)) ⟨rfl, rfl, rfl, rfl⟩ ?_
            refine y_icm (e_205 (79, .if_icmp .lt 6, 3) (List.mem_of_getElem? (i := 42) rfl)) rfl (fun hb5 => ?_) (fun hb5 => ?_)
            · refine y_il (e_205 (85, .iload 7, 2) (List.mem_of_getElem? (i := 45) rfl)) rfl ?_
              refine y_ifc (e_205 (87, .ifCond .eq 10, 3) (List.mem_of_getElem? (i := 46) rfl)) rfl (fun hb6 => ?_) (fun hb6 => ?_)
              · refine y_iln (e_205 (97, .iload_n 2, 1) (List.mem_of_getElem? (i := 51) rfl)) rfl ?_
                refine y_il (e_205 (98, .iload 8, 2) (List.mem_of_getElem? (i := 52) rfl)) rfl ?_
                refine y_st (e_205 (100, .iadd, 1) (List.mem_of_getElem? (i := 53) rfl)) ⟨rfl, rfl, rfl, rfl⟩ ?_
                refine y_ret (e_205 (101, .ireturn, 1) (List.mem_of_getElem? (i := 54) rfl)) ⟨rfl, y_ri⟩ ⟨?_, rfl⟩
                simp only [f_strides, hb0, hb1, hb2, hb3, hb4, hb5, hb6, if_true, if_false, Bool.false_eq_true] <;> rfl
              · refine y_iln (e_205 (90, .iload_n 2, 1) (List.mem_of_getElem? (i := 47) rfl)) rfl ?_
                refine y_il (e_205 (91, .iload 8, 2) (List.mem_of_getElem? (i := 48) rfl)) rfl ?_
                refine y_st (e_205 (93, .isub, 1) (List.mem_of_getElem? (i := 49) rfl)) ⟨rfl, rfl, rfl, rfl⟩ ?_
                refine y_st (e_205 (94, .goto 7, 3) (List.mem_of_getElem? (i := 50) rfl)) ⟨rfl, rfl, rfl, rfl⟩ ?_
                refine y_ret (e_205 (101, .ireturn, 1) (List.mem_of_getElem? (i := 54) rfl)) ⟨rfl, y_ri⟩ ⟨?_, rfl⟩
                simp only [f_strides, hb0, hb1, hb2, hb3, hb4, hb5, hb6, if_true, if_false, Bool.false_eq_true] <;> rfl
            · refine y_st (e_205 (82, .iconst 0, 1) (List.mem_of_getElem? (i := 43) rfl)) ⟨rfl, rfl, rfl, rfl⟩ ?_
              refine y_is (e_205 (83, .istore 8, 2) (List.mem_of_getElem? (i := 44) rfl)) (by decide) ?_
              refine y_il (e_205 (85, .iload 7, 2) (List.mem_of_getElem? (i := 45) rfl)) rfl ?_
              refine y_ifc (e_205 (87, .ifCond .eq 10, 3) (List.mem_of_getElem? (i := 46) rfl)) rfl (fun hb6 => ?_) (fun hb6 => ?_)
              · refine y_iln (e_205 (97, .iload_n 2, 1) (List.mem_of_getElem? (i := 51) rfl)) rfl ?_
                refine y_il (e_205 (98, .iload 8, 2) (List.mem_of_getElem? (i := 52) rfl)) rfl ?_
                refine y_st (e_205 (100, .iadd, 1) (List.mem_of_getElem? (i := 53) rfl)) ⟨rfl, rfl, rfl, rfl⟩ ?_
                refine y_ret (e_205 (101, .ireturn, 1) (List.mem_of_getElem? (i := 54) rfl)) ⟨rfl, y_ri⟩ ⟨?_, rfl⟩
                simp only [f_strides, hb0, hb1, hb2, hb3, hb4, hb5, hb6, if_true, if_false, Bool.false_eq_true] <;> rfl
              · refine y_iln (e_205 (90, .iload_n 2, 1) (List.mem_of_getElem? (i := 47) rfl)) rfl ?_
                refine y_il (e_205 (91, .iload 8, 2) (List.mem_of_getElem? (i := 48) rfl)) rfl ?_
                refine y_st (e_205 (93, .isub, 1) (List.mem_of_getElem? (i := 49) rfl)) ⟨rfl, rfl, rfl, rfl⟩ ?_
                refine y_st (e_205 (94, .goto 7, 3) (List.mem_of_getElem? (i := 50) rfl)) ⟨rfl, rfl, rfl, rfl⟩ ?_
                refine y_ret (e_205 (101, .ireturn, 1) (List.mem_of_getElem? (i := 54) rfl)) ⟨rfl, y_ri⟩ ⟨?_, rfl⟩
                simp only [f_strides, hb0, hb1, hb2, hb3, hb4, hb5, hb6, if_true, if_false, Bool.false_eq_true] <;> rfl
        · refine y_il (e_205 (52, .iload 6, 2) (List.mem_of_getElem? (i := 28) rfl)) rfl ?_
          refine y_st (e_205 (54, .iconst 1, 1) (List.mem_of_getElem? (i := 29) rfl)) ⟨rfl, rfl, rfl, rfl⟩ ?_
          refine y_icm (e_205 (55, .if_icmp .le 7, 3) (List.mem_of_getElem? (i := 30) rfl)) rfl (fun hb4 => ?_) (fun hb4 => ?_)
          · refine y_st (e_205 (62, .iconst 1, 1) (List.mem_of_getElem? (i := 33) rfl)) ⟨rfl, rfl, rfl, rfl⟩ ?_
            refine y_is (e_205 (63, .istore 8, 2) (List.mem_of_getElem? (i := 34) rfl)) (by decide) ?_
            refine y_st (e_205 (65, .goto 20, 3) (List.mem_of_getElem? (i := 35) rfl)) ⟨rfl, rfl, rfl, rfl⟩ ?_
            refine y_il (e_205 (85, .iload 7, 2) (List.mem_of_getElem? (i := 45) rfl)) rfl ?_
            refine y_ifc (e_205 (87, .ifCond .eq 10, 3) (List.mem_of_getElem? (i := 46) rfl)) rfl (fun hb5 => ?_) (fun hb5 => ?_)
            · refine y_iln (e_205 (97, .iload_n 2, 1) (List.mem_of_getElem? (i := 51) rfl)) rfl ?_
              refine y_il (e_205 (98, .iload 8, 2) (List.mem_of_getElem? (i := 52) rfl)) rfl ?_
              refine y_st (e_205 (100, .iadd, 1) (List.mem_of_getElem? (i := 53) rfl)) ⟨rfl, rfl, rfl, rfl⟩ ?_
              refine y_ret (e_205 (101, .ireturn, 1) (List.mem_of_getElem? (i := 54) rfl)) ⟨rfl, y_ri⟩ ⟨?_, rfl⟩
              simp only [f_strides, hb0, hb1, hb2, hb3, hb4, hb5, if_true, if_false, Bool.false_eq_true] <;> rfl
            · refine y_iln (e_205 (90, .iload_n 2, 1) (List.mem_of_getElem? (i := 47) rfl)) rfl ?_
              refine y_il (e_205 (91, .iload 8, 2) (List.mem_of_getElem? (i := 48) rfl)) rfl ?_
              refine y_st (e_205 (93, .isub, 1) (List.mem_of_getElem? (i := 49) rfl)) ⟨rfl, rfl, rfl, rfl⟩ ?_
              refine y_st (e_205 (94, .goto 7, 3) (List.mem_of_getElem? (i := 50) rfl)) ⟨rfl, rfl, rfl, rfl⟩ ?_
              refine y_ret (e_205 (101, .ireturn, 1) (List.mem_of_getElem? (i := 54) rfl)) ⟨rfl, y_ri⟩ ⟨?_, rfl⟩
              simp only [f_strides, hb0, hb1, hb2, hb3, hb4, hb5, if_true, if_false, Bool.false_eq_true] <;> rfl
          · refine y_st (e_205 (58, .iconst 2, 1) (List.mem_of_getElem? (i := 31) rfl)) ⟨rfl, rfl, rfl, rfl⟩ ?_
            refine y_st (e_205 (59, .goto 4, 3) (List.mem_of_getElem? (i := 32) rfl)) ⟨rfl, rfl, rfl, rfl⟩ ?_
            refine y_is (e_205 (63, .istore 8, 2) (List.mem_of_getElem? (i := 34) rfl)) (by decide) ?_
            refine y_st (e_205 (65, .goto 20, 3) (List.mem_of_getElem? (i := 35) rfl)) ⟨rfl, rfl, rfl, rfl⟩ ?_
            refine y_il (e_205 (85, .iload 7, 2) (List.mem_of_getElem? (i := 45) rfl)) rfl ?_
            refine y_ifc (e_205 (87, .ifCond .eq 10, 3) (List.mem_of_getElem? (i := 46) rfl)) rfl (fun hb5 => ?_) (fun hb5 => ?_)
            · refine y_iln (e_205 (97, .iload_n 2, 1) (List.mem_of_getElem? (i := 51) rfl)) rfl ?_
              refine y_il (e_205 (98, .iload 8, 2) (List.mem_of_getElem? (i := 52) rfl)) rfl ?_
              refine y_st (e_205 (100, .iadd, 1) (List.mem_of_getElem? (i := 53) rfl)) ⟨rfl, rfl, rfl, rfl⟩ ?_
              refine y_ret (e_205 (101, .ireturn, 1) (List.mem_of_getElem? (i := 54) rfl)) ⟨rfl, y_ri⟩ ⟨?_, rfl⟩
              simp only [f_strides, hb0, hb1, hb2, hb3, hb4, hb5, if_true, if_false, Bool.false_eq_true] <;> rfl
            · refine y_iln (e_205 (90, .iload_n 2, 1) (List.mem_of_getElem? (i := 47) rfl)) rfl ?_
              refine y_il (e_205 (91, .iload 8, 2) (List.mem_of_getElem? (i := 48) rfl)) rfl ?_
              refine y_st (e_205 (93, .isub, 1) (List.mem_of_getElem? (i := 49) rfl)) ⟨rfl, rfl, rfl, rfl⟩ ?_
              refine y_st (e_205 (94, .goto 7, 3) (List.mem_of_getElem? (i := 50) rfl)) ⟨rfl, rfl, rfl, rfl⟩ ?_
              refine y_ret (e_205 (101, .ireturn, 1) (List.mem_of_getElem? (i := 54) rfl)) ⟨rfl, y_ri⟩ ⟨?_, rfl⟩
              simp only [f_strides, hb0, hb1, hb2, hb3, hb4, hb5, if_true, if_false, Bool.false_eq_true] <;> rfl
      · refine y_st (e_205 (42, .iconst 1, 1) (List.mem_of_getElem? (i := 23) rfl)) ⟨rfl, rfl, rfl, rfl⟩ ?_
        refine y_st (e_205 (43, .goto 4, 3) (List.mem_of_getElem? (i := 24) rfl)) ⟨rfl, rfl, rfl, rfl⟩ ?_
        refine y_il (e_205 (47, .iload 7, 2) (List.mem_of_getElem? (i := 26) rfl)) rfl ?_
        refine y_icm (e_205 (49, .if_icmp .ne 19, 3) (List.mem_of_getElem? (i := 27) rfl)) rfl (fun hb3 => ?_) (fun hb3 => ?_)
        · refine y_il (e_205 (68, .iload 5, 2) (List.mem_of_getElem? (i := 36) rfl)) rfl ?_
          refine y_ifc (e_205 (70, .ifCond .le 15, 3) (List.mem_of_getElem? (i := 37) rfl)) rfl (fun hb4 => ?_) (fun hb4 => ?_)
          · exact absurd (hb1.symm.trans hb4) (by decide)
          · refine y_aln (e_205 (73, .aload_n 0, 1) (List.mem_of_getElem? (i := 38) rfl)) rfl ?_
            refine y_iln (e_205 (74, .iload_n 2, 1) (List.mem_of_getElem? (i := 39) rfl)) rfl ?_
            refine y_c2 (K' := fun r G' => r = some (.int (f_forceAt f x)) ∧ G' = G) (e_205 (75, .invokevirtual 251, 3) (List.mem_of_getElem? (i := 40) rfl)) ⟨rfl, rfl, rfl⟩ t_17_251 ⟨by decide, by decide, by decide, by decide⟩ m_195_ok rfl (by decide) (y_recv hI ta ⟨rfl, rfl⟩) (Nat.le_of_ble_eq_true rfl) (Nat.le_of_ble_eq_true rfl) (g_forceAt hI ta s6 tb hs hq _) (fun r1 G1 h1 => ?_)
            obtain ⟨rfl, hG⟩ := h1
            rw [hG]
            simp only [Option.toList_some, Option.toList_none, List.cons_append, List.nil_append]
            refine y_st (e_205 (78, .iconst 4, 1) (List.mem_of_getElem? (i := 41) rfl)) ⟨rfl, rfl, rfl, rfl⟩ ?_
            refine y_icm (e_205 (79, .if_icmp .lt 6, 3) (List.mem_of_getElem? (i := 42) rfl)) rfl (fun hb5 => ?_) (fun hb5 => ?_)
            · refine y_il (e_205 (85, .iload 7, 2) (List.mem_of_getElem? (i := 45) rfl)) rfl ?_
              refine y_ifc (e_205 (87, .ifCond .eq 10, 3) (List.mem_of_getElem? (i := 46) rfl)) rfl (fun hb6 => ?_) (fun hb6 => ?_)
              · refine y_iln (e_205 (97, .iload_n 2, 1) (List.mem_of_getElem? (i := 51) rfl)) rfl ?_
                refine y_il (e_205 (98, .iload 8, 2) (List.mem_of_getElem? (i := 52) rfl)) rfl ?_
                refine y_st (e_205 (100, .iadd, 1) (List.mem_of_getElem? (i := 53) rfl)) ⟨rfl, rfl, rfl, rfl⟩ ?_
                refine y_ret (e_205 (101, .ireturn, 1) (List.mem_of_getElem? (i := 54) rfl)) ⟨rfl, y_ri⟩ ⟨?_, rfl⟩
                simp only [f_strides, hb0, hb1, hb2, hb3, hb4, hb5, hb6, if_true, if_false, Bool.false_eq_true] <;> rfl
              · refine y_iln (e_205 (90, .iload_n 2, 1) (List.mem_of_getElem? (i := 47) rfl)) rfl ?_
                refine y_il (e_205 (91, .iload 8, 2) (List.mem_of_getElem? (i := 48) rfl)) rfl ?_
                refine y_st (e_205 (93, .isub, 1) (List.mem_of_getElem? (i := 49) rfl)) ⟨rfl, rfl, rfl, rfl⟩ ?_
                refine y_st (e_205 (94, .goto 7, 3) (List.mem_of_getElem? (i := 50) rfl)) ⟨rfl, rfl, rfl, rfl⟩ ?_
                refine y_ret (e_205 (101, .ireturn, 1) (List.mem_of_getElem? (i := 54) rfl)) ⟨rfl, y_ri⟩ ⟨?_, rfl⟩
                simp only [f_strides, hb0, hb1, hb2, hb3, hb4, hb5, hb6, if_true, if_false, Bool.false_eq_true] <;> rfl
            · refine y_st (e_205 (82, .iconst 0, 1) (List.mem_of_getElem? (i := 43) rfl)) ⟨rfl, rfl, rfl, rfl⟩ ?_
              refine y_is (e_205 (83, .istore 8, 2) (List.mem_of_getElem? (i := 44) rfl)) (by decide) ?_
              refine y_il (e_205 (85, .iload 7, 2) (List.mem_of_getElem? (i := 45) rfl)) rfl ?_
              refine y_ifc (e_205 (87, .ifCond .eq 10, 3) (List.mem_of_getElem? (i := 46) rfl)) rfl (fun hb6 => ?_) (fun hb6 => ?_)
              · refine y_iln (e_205 (97, .iload_n 2, 1) (List.mem_of_getElem? (i := 51) rfl)) rfl ?_
                refine y_il (e_205 (98, .iload 8, 2) (List.mem_of_getElem? (i := 52) rfl)) rfl ?_
                refine y_st (e_205 (100, .iadd, 1) (List.mem_of_getElem? (i := 53) rfl)) ⟨rfl, rfl, rfl, rfl⟩ ?_
                refine y_ret (e_205 (101, .ireturn, 1) (List.mem_of_getElem? (i := 54) rfl)) ⟨rfl, y_ri⟩ ⟨?_, rfl⟩
                simp only [f_strides, hb0, hb1, hb2, hb3, hb4, hb5, hb6, if_true, if_false, Bool.false_eq_true] <;> rfl
              · refine y_iln (e_205 (90, .iload_n 2, 1) (List.mem_of_getElem? (i := 47) rfl)) rfl ?_
                refine y_il (e_205 (91, .iload 8, 2) (List.mem_of_getElem? (i := 48) rfl)) rfl ?_
                refine y_st (e_205 (93, .isub, 1) (List.mem_of_getElem? (i := 49) rfl)) ⟨rfl, rfl, rfl, rfl⟩ ?_
                refine y_st (e_205 (94, .goto 7, 3) (List.mem_of_getElem? (i := 50) rfl)) ⟨rfl, rfl, rfl, rfl⟩ ?_
                refine y_ret (e_205 (101, .ireturn, 1) (List.mem_of_getElem? (i := 54) rfl)) ⟨rfl, y_ri⟩ ⟨?_, rfl⟩
                simp only [f_strides, hb0, hb1, hb2, hb3, hb4, hb5, hb6, if_true, if_false, Bool.false_eq_true] <;> rfl
        · refine y_il (e_205 (52, .iload 6, 2) (List.mem_of_getElem? (i := 28) rfl)) rfl ?_
          refine y_st (e_205 (54, .iconst 1, 1) (List.mem_of_getElem? (i := 29) rfl)) ⟨rfl, rfl, rfl, rfl⟩ ?_
          refine y_icm (e_205 (55, .if_icmp .le 7, 3) (List.mem_of_getElem? (i := 30) rfl)) rfl (fun hb4 => ?_) (fun hb4 => ?_)
          · refine y_st (e_205 (62, .iconst 1, 1) (List.mem_of_getElem? (i := 33) rfl)) ⟨rfl, rfl, rfl, rfl⟩ ?_
            refine y_is (e_205 (63, .istore 8, 2) (List.mem_of_getElem? (i := 34) rfl)) (by decide) ?_
            refine y_st (e_205 (65, .goto 20, 3) (List.mem_of_getElem? (i := 35) rfl)) ⟨rfl, rfl, rfl, rfl⟩ ?_
            refine y_il (e_205 (85, .iload 7, 2) (List.mem_of_getElem? (i := 45) rfl)) rfl ?_
            refine y_ifc (e_205 (87, .ifCond .eq 10, 3) (List.mem_of_getElem? (i := 46) rfl)) rfl (fun hb5 => ?_) (fun hb5 => ?_)
            · refine y_iln (e_205 (97, .iload_n 2, 1) (List.mem_of_getElem? (i := 51) rfl)) rfl ?_
              refine y_il (e_205 (98, .iload 8, 2) (List.mem_of_getElem? (i := 52) rfl)) rfl ?_
              refine y_st (e_205 (100, .iadd, 1) (List.mem_of_getElem? (i := 53) rfl)) ⟨rfl, rfl, rfl, rfl⟩ ?_
              refine y_ret (e_205 (101, .ireturn, 1) (List.mem_of_getElem? (i := 54) rfl)) ⟨rfl, y_ri⟩ ⟨?_, rfl⟩
              simp only [f_strides, hb0, hb1, hb2, hb3, hb4, hb5, if_true, if_false, Bool.false_eq_true] <;> rfl
            · refine y_iln (e_205 (90, .iload_n 2, 1) (List.mem_of_getElem? (i := 47) rfl)) rfl ?_
              refine y_il (e_205 (91, .iload 8, 2) (List.mem_of_getElem? (i := 48) rfl)) rfl ?_
              refine y_st (e_205 (93, .isub, 1) (List.mem_of_getElem? (i := 49) rfl)) ⟨rfl, rfl, rfl, rfl⟩ ?_
              refine y_st (e_205 (94, .goto 7, 3) (List.mem_of_getElem? (i := 50) rfl)) ⟨rfl, rfl, rfl, rfl⟩ ?_
              refine y_ret (e_205 (101, .ireturn, 1) (List.mem_of_getElem? (i := 54) rfl)) ⟨rfl, y_ri⟩ ⟨?_, rfl⟩
              simp only [f_strides, hb0, hb1, hb2, hb3, hb4, hb5, if_true, if_false, Bool.false_eq_true] <;> rfl
          · refine y_st (e_205 (58, .iconst 2, 1) (List.mem_of_getElem? (i := 31) rfl)) ⟨rfl, rfl, rfl, rfl⟩ ?_
            refine y_st (e_205 (59, .goto 4, 3) (List.mem_of_getElem? (i := 32) rfl)) ⟨rfl, rfl, rfl, rfl⟩ ?_
            refine y_is (e_205 (63, .istore 8, 2) (List.mem_of_getElem? (i := 34) rfl)) (by decide) ?_
            refine y_st (e_205 (65, .goto 20, 3) (List.mem_of_getElem? (i := 35) rfl)) ⟨rfl, rfl, rfl, rfl⟩ ?_
            refine y_il (e_205 (85, .iload 7, 2) (List.mem_of_getElem? (i := 45) rfl)) rfl ?_
            refine y_ifc (e_205 (87, .ifCond .eq 10, 3) (List.mem_of_getElem? (i := 46) rfl)) rfl (fun hb5 => ?_) (fun hb5 => ?_)
            · refine y_iln (e_205 (97, .iload_n 2, 1) (List.mem_of_getElem? (i := 51) rfl)) rfl ?_
              refine y_il (e_205 (98, .iload 8, 2) (List.mem_of_getElem? (i := 52) rfl)) rfl ?_
              refine y_st (e_205 (100, .iadd, 1) (List.mem_of_getElem? (i := 53) rfl)) ⟨rfl, rfl, rfl, rfl⟩ ?_
              refine y_ret (e_205 (101, .ireturn, 1) (List.mem_of_getElem? (i := 54) rfl)) ⟨rfl, y_ri⟩ ⟨?_, rfl⟩
              simp only [f_strides, hb0, hb1, hb2, hb3, hb4, hb5, if_true, if_false, Bool.false_eq_true] <;> rfl
            · refine y_iln (e_205 (90, .iload_n 2, 1) (List.mem_of_getElem? (i := 47) rfl)) rfl ?_
              refine y_il (e_205 (91, .iload 8, 2) (List.mem_of_getElem? (i := 48) rfl)) rfl ?_
              refine y_st (e_205 (93, .isub, 1) (List.mem_of_getElem? (i := 49) rfl)) ⟨rfl, rfl, rfl, rfl⟩ ?_
              refine y_st (e_205 (94, .goto 7, 3) (List.mem_of_getElem? (i := 50) rfl)) ⟨rfl, rfl, rfl, rfl⟩ ?_
              refine y_ret (e_205 (101, .ireturn, 1) (List.mem_of_getElem? (i := 54) rfl)) ⟨rfl, y_ri⟩ ⟨?_, rfl⟩
              simp only [f_strides, hb0, hb1, hb2, hb3, hb4, hb5, if_true, if_false, Bool.false_eq_true] <;> rfl
  · refine y_st (e_205 (21, .iconst 1, 1) (List.mem_of_getElem? (i := 12) rfl)) ⟨rfl, rfl, rfl, rfl⟩ ?_
    refine y_st (e_205 (22, .goto 4, 3) (List.mem_of_getElem? (i := 13) rfl)) ⟨rfl, rfl, rfl, rfl⟩ ?_
    refine y_is (e_205 (26, .istore 7, 2) (List.mem_of_getElem? (i := 15) rfl)) (by decide) ?_
    refine y_st (e_205 (28, .iconst 1, 1) (List.mem_of_getElem? (i := 16) rfl)) ⟨rfl, rfl, rfl, rfl⟩ ?_
    refine y_is (e_205 (29, .istore 8, 2) (List.mem_of_getElem? (i := 17) rfl)) (by decide) ?_
    refine y_il (e_205 (31, .iload 5, 2) (List.mem_of_getElem? (i := 18) rfl)) rfl ?_
    refine y_ifc (e_205 (33, .ifCond .le 35, 3) (List.mem_of_getElem? (i := 19) rfl)) rfl (fun hb1 => ?_) (fun hb1 => ?_)
    · refine y_il (e_205 (68, .iload 5, 2) (List.mem_of_getElem? (i := 36) rfl)) rfl ?_
      refine y_ifc (e_205 (70, .ifCond .le 15, 3) (List.mem_of_getElem? (i := 37) rfl)) rfl (fun hb2 => ?_) (fun hb2 => ?_)
      · refine y_il (e_205 (85, .iload 7, 2) (List.mem_of_getElem? (i := 45) rfl)) rfl ?_
        refine y_ifc (e_205 (87, .ifCond .eq 10, 3) (List.mem_of_getElem? (i := 46) rfl)) rfl (fun hb3 => ?_) (fun hb3 => ?_)
        · refine y_iln (e_205 (97, .iload_n 2, 1) (List.mem_of_getElem? (i := 51) rfl)) rfl ?_
          refine y_il (e_205 (98, .iload 8, 2) (List.mem_of_getElem? (i := 52) rfl)) rfl ?_
          refine y_st (e_205 (100, .iadd, 1) (List.mem_of_getElem? (i := 53) rfl)) ⟨rfl, rfl, rfl, rfl⟩ ?_
          refine y_ret (e_205 (101, .ireturn, 1) (List.mem_of_getElem? (i := 54) rfl)) ⟨rfl, y_ri⟩ ⟨?_, rfl⟩
          simp only [f_strides, hb0, hb1, hb2, hb3, if_true, if_false, Bool.false_eq_true] <;> rfl
        · refine y_iln (e_205 (90, .iload_n 2, 1) (List.mem_of_getElem? (i := 47) rfl)) rfl ?_
          refine y_il (e_205 (91, .iload 8, 2) (List.mem_of_getElem? (i := 48) rfl)) rfl ?_
          refine y_st (e_205 (93, .isub, 1) (List.mem_of_getElem? (i := 49) rfl)) ⟨rfl, rfl, rfl, rfl⟩ ?_
          refine y_st (e_205 (94, .goto 7, 3) (List.mem_of_getElem? (i := 50) rfl)) ⟨rfl, rfl, rfl, rfl⟩ ?_
          refine y_ret (e_205 (101, .ireturn, 1) (List.mem_of_getElem? (i := 54) rfl)) ⟨rfl, y_ri⟩ ⟨?_, rfl⟩
          simp only [f_strides, hb0, hb1, hb2, hb3, if_true, if_false, Bool.false_eq_true] <;> rfl
      · exact absurd (hb1.symm.trans hb2) (by decide)
    · refine y_il (e_205 (36, .iload 5, 2) (List.mem_of_getElem? (i := 20) rfl)) rfl ?_
      refine y_st (e_205 (38, .iconst 1, 1) (List.mem_of_getElem? (i := 21) rfl)) ⟨rfl, rfl, rfl, rfl⟩ ?_
      refine y_icm (e_205 (39, .if_icmp .ne 7, 3) (List.mem_of_getElem? (i := 22) rfl)) rfl (fun hb2 => ?_) (fun hb2 => ?_)
      · refine y_st (e_205 (46, .iconst 0, 1) (List.mem_of_getElem? (i := 25) rfl)) ⟨rfl, rfl, rfl, rfl⟩ ?_
        refine y_il (e_205 (47, .iload 7, 2) (List.mem_of_getElem? (i := 26) rfl)) rfl ?_
        refine y_icm (e_205 (49, .if_icmp .ne 19, 3) (List.mem_of_getElem? (i := 27) rfl)) rfl (fun hb3 => ?_) (fun hb3 => ?_)
        · refine y_il (e_205 (68, .iload 5, 2) (List.mem_of_getElem? (i := 36) rfl)) rfl ?_
          refine y_ifc (e_205 (70, .ifCond .le 15, 3) (List.mem_of_getElem? (i := 37) rfl)) rfl (fun hb4 => ?_) (fun hb4 => ?_)
          · exact absurd (hb1.symm.trans hb4) (by decide)
          · refine y_aln (e_205 (73, .aload_n 0, 1) (List.mem_of_getElem? (i := 38) rfl)) rfl ?_
            refine y_iln (e_205 (74, .iload_n 2, 1) (List.mem_of_getElem? (i := 39) rfl)) rfl ?_
            refine y_c2 (K' := fun r G' => r = some (.int (f_forceAt f x)) ∧ G' = G) (e_205 (75, .invokevirtual 251, 3) (List.mem_of_getElem? (i := 40) rfl)) ⟨rfl, rfl, rfl⟩ t_17_251 ⟨by decide, by decide, by decide, by decide⟩ m_195_ok rfl (by decide) (y_recv hI ta ⟨rfl, rfl⟩) (Nat.le_of_ble_eq_true rfl) (Nat.le_of_ble_eq_true rfl) (g_forceAt hI ta s6 tb hs hq _) (fun r1 G1 h1 => ?_)
            obtain ⟨rfl, hG⟩ := h1
            rw [hG]
            simp only [Option.toList_some, Option.toList_none, List.cons_append, List.nil_append]
            refine y_st (e_205 (78, .iconst 4, 1) (List.mem_of_getElem? (i := 41) rfl)) ⟨rfl, rfl, rfl, rfl⟩ ?_
            refine y_icm (e_205 (79, .if_icmp .lt 6, 3) (List.mem_of_getElem? (i := 42) rfl)) rfl (fun hb5 => ?_) (fun hb5 => ?_)
            · refine y_il (e_205 (85, .iload 7, 2) (List.mem_of_getElem? (i := 45) rfl)) rfl ?_
              refine y_ifc (e_205 (87, .ifCond .eq 10, 3) (List.mem_of_getElem? (i := 46) rfl)) rfl (fun hb6 => ?_) (fun hb6 => ?_)
              · refine y_iln (e_205 (97, .iload_n 2, 1) (List.mem_of_getElem? (i := 51) rfl)) rfl ?_
                refine y_il (e_205 (98, .iload 8, 2) (List.mem_of_getElem? (i := 52) rfl)) rfl ?_
                refine y_st (e_205 (100, .iadd, 1) (List.mem_of_getElem? (i := 53) rfl)) ⟨rfl, rfl, rfl, rfl⟩ ?_
                refine y_ret (e_205 (101, .ireturn, 1) (List.mem_of_getElem? (i := 54) rfl)) ⟨rfl, y_ri⟩ ⟨?_, rfl⟩
                simp only [f_strides, hb0, hb1, hb2, hb3, hb4, hb5, hb6, if_true, if_false, Bool.false_eq_true] <;> rfl
              · refine y_iln (e_205 (90, .iload_n 2, 1) (List.mem_of_getElem? (i := 47) rfl)) rfl ?_
                refine y_il (e_205 (91, .iload 8, 2) (List.mem_of_getElem? (i := 48) rfl)) rfl ?_
                refine y_st (e_205 (93, .isub, 1) (List.mem_of_getElem? (i := 49) rfl)) ⟨rfl, rfl, rfl, rfl⟩ ?_
                refine y_st (e_205 (94, .goto 7, 3) (List.mem_of_getElem? (i := 50) rfl)) ⟨rfl, rfl, rfl, rfl⟩ ?_
                refine y_ret (e_205 (101, .ireturn, 1) (List.mem_of_getElem? (i := 54) rfl)) ⟨rfl, y_ri⟩ ⟨?_, rfl⟩
                simp only [f_strides, hb0, hb1, hb2, hb3, hb4, hb5, hb6, if_true, if_false, Bool.false_eq_true] <;> rfl
            · refine y_st (e_205 (82, .iconst 0, 1) (List.mem_of_getElem? (i := 43) rfl)) ⟨rfl, rfl, rfl, rfl⟩ ?_
              refine y_is (e_205 (83, .istore 8, 2) (List.mem_of_getElem? (i := 44) rfl)) (by decide) ?_
              refine y_il (e_205 (85, .iload 7, 2) (List.mem_of_getElem? (i := 45) rfl)) rfl ?_
              refine y_ifc (e_205 (87, .ifCond .eq 10, 3) (List.mem_of_getElem? (i := 46) rfl)) rfl (fun hb6 => ?_) (fun hb6 => ?_)
              · refine y_iln (e_205 (97, .iload_n 2, 1) (List.mem_of_getElem? (i := 51) rfl)) rfl ?_
                refine y_il (e_205 (98, .iload 8, 2) (List.mem_of_getElem? (i := 52) rfl)) rfl ?_
                refine y_st (e_205 (100, .iadd, 1) (List.mem_of_getElem? (i := 53) rfl)) ⟨rfl, rfl, rfl, rfl⟩ ?_
                refine y_ret (e_205 (101, .ireturn, 1) (List.mem_of_getElem? (i := 54) rfl)) ⟨rfl, y_ri⟩ ⟨?_, rfl⟩
                simp only [f_strides, hb0, hb1, hb2, hb3, hb4, hb5, hb6, if_true, if_false, Bool.false_eq_true] <;> rfl
              · refine y_iln (e_205 (90, .iload_n 2, 1) (List.mem_of_getElem? (i := 47) rfl)) rfl ?_
                refine y_il (e_205 (91, .iload 8, 2) (List.mem_of_getElem? (i := 48) rfl)) rfl ?_
                refine y_st (e_205 (93, .isub, 1) (List.mem_of_getElem? (i := 49) rfl)) ⟨rfl, rfl, rfl, rfl⟩ ?_
                refine y_st (e_205 (94, .goto 7, 3) (List.mem_of_getElem? (i := 50) rfl)) ⟨rfl, rfl, rfl, rfl⟩ ?_
                refine y_ret (e_205 (101, .ireturn, 1) (List.mem_of_getElem? (i := 54) rfl)) ⟨rfl, y_ri⟩ ⟨?_, rfl⟩
                simp only [f_strides, hb0, hb1, hb2, hb3, hb4, hb5, hb6, if_true, if_false, Bool.false_eq_true] <;> rfl
        · refine y_il (e_205 (52, .iload 6, 2) (List.mem_of_getElem? (i := 28) rfl)) rfl ?_
          refine y_st (e_205 (54, .iconst 1, 1) (List.mem_of_getElem? (i := 29) rfl)) ⟨rfl, rfl, rfl, rfl⟩ ?_
          refine y_icm (e_205 (55, .if_icmp .le 7, 3) (List.mem_of_getElem? (i := 30) rfl)) rfl (fun hb4 => ?_) (fun hb4 => ?_)
          · refine y_st (e_205 (62, .iconst 1, 1) (List.mem_of_getElem? (i := 33) rfl)) ⟨rfl, rfl, rfl, rfl⟩ ?_
            refine y_is (e_205 (63, .istore 8, 2) (List.mem_of_getElem? (i := 34) rfl)) (by decide) ?_
            refine y_st (e_205 (65, .goto 20, 3) (List.mem_of_getElem? (i := 35) rfl)) ⟨rfl, rfl, rfl, rfl⟩ ?_
            refine y_il (e_205 (85, .iload 7, 2) (List.mem_of_getElem? (i := 45) rfl)) rfl ?_
            refine y_ifc (e_205 (87, .ifCond .eq 10, 3) (List.mem_of_getElem? (i := 46) rfl)) rfl (fun hb5 => ?_) (fun hb5 => ?_)
            · refine y_iln (e_205 (97, .iload_n 2, 1) (List.mem_of_getElem? (i := 51) rfl)) rfl ?_
              refine y_il (e_205 (98, .iload 8, 2) (List.mem_of_getElem? (i := 52) rfl)) rfl ?_
              refine y_st (e_205 (100, .iadd, 1) (List.mem_of_getElem? (i := 53) rfl)) ⟨rfl, rfl, rfl, rfl⟩ ?_
              refine y_ret (e_205 (101, .ireturn, 1) (List.mem_of_getElem? (i := 54) rfl)) ⟨rfl, y_ri⟩ ⟨?_, rfl⟩
              simp only [f_strides, hb0, hb1, hb2, hb3, hb4, hb5, if_true, if_false, Bool.false_eq_true] <;> rfl
            · refine y_iln (e_205 (90, .iload_n 2, 1) (List.mem_of_getElem? (i := 47) rfl)) rfl ?_
              refine y_il (e_205 (91, .iload 8, 2) (List.mem_of_getElem? (i := 48) rfl)) rfl ?_
              refine y_st (e_205 (93, .isub, 1) (List.mem_of_getElem? (i := 49) rfl)) ⟨rfl, rfl, rfl, rfl⟩ ?_
              refine y_st (e_205 (94, .goto 7, 3) (List.mem_of_getElem? (i := 50) rfl)) ⟨rfl, rfl, rfl, rfl⟩ ?_
              refine y_ret (e_205 (101, .ireturn, 1) (List.mem_of_getElem? (i := 54) rfl)) ⟨rfl, y_ri⟩ ⟨?_, rfl⟩
              simp only [f_strides, hb0, hb1, hb2, hb3, hb4, hb5, if_true, if_false, Bool.false_eq_true] <;> rfl
          · refine y_st (e_205 (58, .iconst 2, 1) (List.mem_of_getElem? (i := 31) rfl)) ⟨rfl, rfl, rfl, rfl⟩ ?_
            refine y_st (e_205 (59, .goto 4, 3) (List.mem_of_getElem? (i := 32) rfl)) ⟨rfl, rfl, rfl, rfl⟩ ?_
            refine y_is (e_205 (63, .istore 8, 2) (List.mem_of_getElem? (i := 34) rfl)) (by decide) ?_
            refine y_st (e_205 (65, .goto 20, 3) (List.mem_of_getElem? (i := 35) rfl)) ⟨rfl, rfl, rfl, rfl⟩ ?_
            refine y_il (e_205 (85, .iload 7, 2) (List.mem_of_getElem? (i := 45) rfl)) rfl ?_
            refine y_ifc (e_205 (87, .ifCond .eq 10, 3) (List.mem_of_getElem? (i := 46) rfl)) rfl (fun hb5 => ?_) (fun hb5 => ?_)
            · refine y_iln (e_205 (97, .iload_n 2, 1) (List.mem_of_getElem? (i := 51) rfl)) rfl ?_
              refine y_il (e_205 (98, .iload 8, 2) (List.mem_of_getElem? (i := 52) rfl)) rfl ?_
              refine y_st (e_205 (100, .iadd, 1) (List.mem_of_getElem? (i := 53) rfl)) ⟨rfl, rfl, rfl, rfl⟩ ?_
              refine y_ret (e_205 (101, .ireturn, 1) (List.mem_of_getElem? (i := 54) rfl)) ⟨rfl, y_ri⟩ ⟨?_, rfl⟩
              simp only [f_strides, hb0, hb1, hb2, hb3, hb4, hb5, if_true, if_false, Bool.false_eq_true] <;> rfl
            · refine y_iln (e_205 (90, .iload_n 2, 1) (List.mem_of_getElem? (i := 47) rfl)) rfl ?_
              refine y_il (e_205 (91, .iload 8, 2) (List.mem_of_getElem? (i := 48) rfl)) rfl ?_
              refine y_st (e_205 (93, .isub, 1) (List.mem_of_getElem? (i := 49) rfl)) ⟨rfl, rfl, rfl, rfl⟩ ?_
              refine y_st (e_205 (94, .goto 7, 3) (List.mem_of_getElem? (i := 50) rfl)) ⟨rfl, rfl, rfl, rfl⟩ ?_
              refine y_ret (e_205 (101, .ireturn, 1) (List.mem_of_getElem? (i := 54) rfl)) ⟨rfl, y_ri⟩ ⟨?_, rfl⟩
              simp only [f_strides, hb0, hb1, hb2, hb3, hb4, hb5, if_true, if_false, Bool.false_eq_true] <;> rfl
      · refine y_st (e_205 (42, .iconst 1, 1) (List.mem_of_getElem? (i := 23) rfl)) ⟨rfl, rfl, rfl, rfl⟩ ?_
        refine y_st (e_205 (43, .goto 4, 3) (List.mem_of_getElem? (i := 24) rfl)) ⟨rfl, rfl, rfl, rfl⟩ ?_
        refine y_il (e_205 (47, .iload 7, 2) (List.mem_of_getElem? (i := 26) rfl)) rfl ?_
        refine y_icm (e_205 (49, .if_icmp .ne 19, 3) (List.mem_of_getElem? (i := 27) rfl)) rfl (fun hb3 => ?_) (fun hb3 => ?_)
        · refine y_il (e_205 (68, .iload 5, 2) (List.mem_of_getElem? (i := 36) rfl)) rfl ?_
          refine y_ifc (e_205 (70, .ifCond .le 15, 3) (List.mem_of_getElem? (i := 37) rfl)) rfl (fun hb4 => ?_) (fun hb4 => ?_)
          · exact absurd (hb1.symm.trans hb4) (by decide)
          · refine y_aln (e_205 (73, .aload_n 0, 1) (List.mem_of_getElem? (i := 38) rfl)) rfl ?_
            refine y_iln (e_205 (74, .iload_n 2, 1) (List.mem_of_getElem? (i := 39) rfl)) rfl ?_
            refine y_c2 (K' := fun r G' => r = some (.int (f_forceAt f x)) ∧ G' = G) (e_205 (75, .invokevirtual 251, 3) (List.mem_of_getElem? (i := 40) rfl)) ⟨rfl, rfl, rfl⟩ t_17_251 ⟨by decide, by decide, by decide, by decide⟩ m_195_ok rfl (by decide) (y_recv hI ta ⟨rfl, rfl⟩) (Nat.le_of_ble_eq_true rfl) (Nat.le_of_ble_eq_true rfl) (g_forceAt hI ta s6 tb hs hq _) (fun r1 G1 h1 => ?_)
            obtain ⟨rfl, hG⟩ := h1
            rw [hG]
            simp only [Option.toList_some, Option.toList_none, List.cons_append, List.nil_append]
            refine y_st (e_205 (78, .iconst 4, 1) (List.mem_of_getElem? (i := 41) rfl)) ⟨rfl, rfl, rfl, rfl⟩ ?_
            refine y_icm (e_205 (79, .if_icmp .lt 6, 3) (List.mem_of_getElem? (i := 42) rfl)) rfl (fun hb5 => ?_) (fun hb5 => ?_)
            · refine y_il (e_205 (85, .iload 7, 2) (List.mem_of_getElem? (i := 45) rfl)) rfl ?_
              refine y_ifc (e_205 (87, .ifCond .eq 10, 3) (List.mem_of_getElem? (i := 46) rfl)) rfl (fun hb6 => ?_) (fun hb6 => ?_)
              · refine y_iln (e_205 (97, .iload_n 2, 1) (List.mem_of_getElem? (i := 51) rfl)) rfl ?_
                refine y_il (e_205 (98, .iload 8, 2) (List.mem_of_getElem? (i := 52) rfl)) rfl ?_
                refine y_st (e_205 (100, .iadd, 1) (List.mem_of_getElem? (i := 53) rfl)) ⟨rfl, rfl, rfl, rfl⟩ ?_
                refine y_ret (e_205 (101, .ireturn, 1) (List.mem_of_getElem? (i := 54) rfl)) ⟨rfl, y_ri⟩ ⟨?_, rfl⟩
                simp only [f_strides, hb0, hb1, hb2, hb3, hb4, hb5, hb6, if_true, if_false, Bool.false_eq_true] <;> rfl
              · refine y_iln (e_205 (90, .iload_n 2, 1) (List.mem_of_getElem? (i := 47) rfl)) rfl ?_
                refine y_il (e_205 (91, .iload 8, 2) (List.mem_of_getElem? (i := 48) rfl)) rfl ?_
                refine y_st (e_205 (93, .isub, 1) (List.mem_of_getElem? (i := 49) rfl)) ⟨rfl, rfl, rfl, rfl⟩ ?_
                refine y_st (e_205 (94, .goto 7, 3) (List.mem_of_getElem? (i := 50) rfl)) ⟨rfl, rfl, rfl, rfl⟩ ?_
                refine y_ret (e_205 (101, .ireturn, 1) (List.mem_of_getElem? (i := 54) rfl)) ⟨rfl, y_ri⟩ ⟨?_, rfl⟩
                simp only [f_strides, hb0, hb1, hb2, hb3, hb4, hb5, hb6, if_true, if_false, Bool.false_eq_true] <;> rfl
            · refine y_st (e_205 (82, .iconst 0, 1) (List.mem_of_getElem? (i := 43) rfl)) ⟨rfl, rfl, rfl, rfl⟩ ?_
              refine y_is (e_205 (83, .istore 8, 2) (List.mem_of_getElem? (i := 44) rfl)) (by decide) ?_
              refine y_il (e_205 (85, .iload 7, 2) (List.mem_of_getElem? (i := 45) rfl)) rfl ?_
              refine y_ifc (e_205 (87, .ifCond .eq 10, 3) (List.mem_of_getElem? (i := 46) rfl)) rfl (fun hb6 => ?_) (fun hb6 => ?_)
              · refine y_iln (e_205 (97, .iload_n 2, 1) (List.mem_of_getElem? (i := 51) rfl)) rfl ?_
                refine y_il (e_205 (98, .iload 8, 2) (List.mem_of_getElem? (i := 52) rfl)) rfl ?_
                refine y_st (e_205 (100, .iadd, 1) (List.mem_of_getElem? (i := 53) rfl)) ⟨rfl, rfl, rfl, rfl⟩ ?_
                refine y_ret (e_205 (101, .ireturn, 1) (List.mem_of_getElem? (i := 54) rfl)) ⟨rfl, y_ri⟩ ⟨?_, rfl⟩
                simp only [f_strides, hb0, hb1, hb2, hb3, hb4, hb5, hb6, if_true, if_false, Bool.false_eq_true] <;> rfl
              · refine y_iln (e_205 (90, .iload_n 2, 1) (List.mem_of_getElem? (i := 47) rfl)) rfl ?_
                refine y_il (e_205 (91, .iload 8, 2) (List.mem_of_getElem? (i := 48) rfl)) rfl ?_
                refine y_st (e_205 (93, .isub, 1) (List.mem_of_getElem? (i := 49) rfl)) ⟨rfl, rfl, rfl, rfl⟩ ?_
                refine y_st (e_205 (94, .goto 7, 3) (List.mem_of_getElem? (i := 50) rfl)) ⟨rfl, rfl, rfl, rfl⟩ ?_
                refine y_ret (e_205 (101, .ireturn, 1) (List.mem_of_getElem? (i := 54) rfl)) ⟨rfl, y_ri⟩ ⟨?_, rfl⟩
                simp only [f_strides, hb0, hb1, hb2, hb3, hb4, hb5, hb6, if_true, if_false, Bool.false_eq_true] <;> rfl
        · refine y_il (e_205 (52, .iload 6, 2) (List.mem_of_getElem? (i := 28) rfl)) rfl ?_
          refine y_st (e_205 (54, .iconst 1, 1) (List.mem_of_getElem? (i := 29) rfl)) ⟨rfl, rfl, rfl, rfl⟩ ?_
          refine y_icm (e_205 (55, .if_icmp .le 7, 3) (List.mem_of_getElem? (i := 30) rfl)) rfl (fun hb4 => ?_) (fun hb4 => ?_)
          · refine y_st (e_205 (62, .iconst 1, 1) (List.mem_of_getElem? (i := 33) rfl)) ⟨rfl, rfl, rfl, rfl⟩ ?_
            refine y_is (e_205 (63, .istore 8, 2) (List.mem_of_getElem? (i := 34) rfl)) (by decide) ?_
            refine y_st (e_205 (65, .goto 20, 3) (List.mem_of_getElem? (i := 35) rfl)) ⟨rfl, rfl, rfl, rfl⟩ ?_
            refine y_il (e_205 (85, .iload 7, 2) (List.mem_of_getElem? (i := 45) rfl)) rfl ?_
            refine y_ifc (e_205 (87, .ifCond .eq 10, 3) (List.mem_of_getElem? (i := 46) rfl)) rfl (fun hb5 => ?_) (fun hb5 => ?_)
            · refine y_iln (e_205 (97, .iload_n 2, 1) (List.mem_of_getElem? (i := 51) rfl)) rfl ?_
              refine y_il (e_205 (98, .iload 8, 2) (List.mem_of_getElem? (i := 52) rfl)) rfl ?_
              refine y_st (e_205 (100, .iadd, 1) (List.mem_of_getElem? (i := 53) rfl)) ⟨rfl, rfl, rfl, rfl⟩ ?_
              refine y_ret (e_205 (101, .ireturn, 1) (List.mem_of_getElem? (i := 54) rfl)) ⟨rfl, y_ri⟩ ⟨?_, rfl⟩
              simp only [f_strides, hb0, hb1, hb2, hb3, hb4, hb5, if_true, if_false, Bool.false_eq_true] <;> rfl
            · refine y_iln (e_205 (90, .iload_n 2, 1) (List.mem_of_getElem? (i := 47) rfl)) rfl ?_
              refine y_il (e_205 (91, .iload 8, 2) (List.mem_of_getElem? (i := 48) rfl)) rfl ?_
              refine y_st (e_205 (93, .isub, 1) (List.mem_of_getElem? (i := 49) rfl)) ⟨rfl, rfl, rfl, rfl⟩ ?_
              refine y_st (e_205 (94, .goto 7, 3) (List.mem_of_getElem? (i := 50) rfl)) ⟨rfl, rfl, rfl, rfl⟩ ?_
              refine y_ret (e_205 (101, .ireturn, 1) (List.mem_of_getElem? (i := 54) rfl)) ⟨rfl, y_ri⟩ ⟨?_, rfl⟩
              simp only [f_strides, hb0, hb1, hb2, hb3, hb4, hb5, if_true, if_false, Bool.false_eq_true] <;> rfl
          · refine y_st (e_205 (58, .iconst 2, 1) (List.mem_of_getElem? (i := 31) rfl)) ⟨rfl, rfl, rfl, rfl⟩ ?_
            refine y_st (e_205 (59, .goto 4, 3) (List.mem_of_getElem? (i := 32) rfl)) ⟨rfl, rfl, rfl, rfl⟩ ?_
            refine y_is (e_205 (63, .istore 8, 2) (List.mem_of_getElem? (i := 34) rfl)) (by decide) ?_
            refine y_st (e_205 (65, .goto 20, 3) (List.mem_of_getElem? (i := 35) rfl)) ⟨rfl, rfl, rfl, rfl⟩ ?_
            refine y_il (e_205 (85, .iload 7, 2) (List.mem_of_getElem? (i := 45) rfl)) rfl ?_
            refine y_ifc (e_205 (87, .ifCond .eq 10, 3) (List.mem_of_getElem? (i := 46) rfl)) rfl (fun hb5 => ?_) (fun hb5 => ?_)
            · refine y_iln (e_205 (97, .iload_n 2, 1) (List.mem_of_getElem? (i := 51) rfl)) rfl ?_
              refine y_il (e_205 (98, .iload 8, 2) (List.mem_of_getElem? (i := 52) rfl)) rfl ?_
              refine y_st (e_205 (100, .iadd, 1) (List.mem_of_getElem? (i := 53) rfl)) ⟨rfl, rfl, rfl, rfl⟩ ?_
              refine y_ret (e_205 (101, .ireturn, 1) (List.mem_of_getElem? (i := 54) rfl)) ⟨rfl, y_ri⟩ ⟨?_, rfl⟩
              simp only [f_strides, hb0, hb1, hb2, hb3, hb4, hb5, if_true, if_false, Bool.false_eq_true] <;> rfl
            · refine y_iln (e_205 (90, .iload_n 2, 1) (List.mem_of_getElem? (i := 47) rfl)) rfl ?_
              refine y_il (e_205 (91, .iload 8, 2) (List.mem_of_getElem? (i := 48) rfl)) rfl ?_
              refine y_st (e_205 (93, .isub, 1) (List.mem_of_getElem? (i := 49) rfl)) ⟨rfl, rfl, rfl, rfl⟩ ?_
              refine y_st (e_205 (94, .goto 7, 3) (List.mem_of_getElem? (i := 50) rfl)) ⟨rfl, rfl, rfl, rfl⟩ ?_
              refine y_ret (e_205 (101, .ireturn, 1) (List.mem_of_getElem? (i := 54) rfl)) ⟨rfl, y_ri⟩ ⟨?_, rfl⟩
              simp only [f_strides, hb0, hb1, hb2, hb3, hb4, hb5, if_true, if_false, Bool.false_eq_true] <;> rfl
