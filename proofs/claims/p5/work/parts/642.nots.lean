def d_248 : xD := [(0, .aload_n 0, 1), (1, .getfield 371, 3), (4, .ifCond .le 50, 3), (7, .aload_n 0, 1), (8, .getfield 62, 3), (11, .aload_n 0, 1), (12, .getfield 371, 3), (15, .iconst 1, 1), (16, .isub, 1), (17, .iaload, 1), (18, .bipush 20, 2), (20, .if_icmp .ne 34, 3), (23, .aload_n 0, 1), (24, .dup, 1), (25, .getfield 371, 3), (28, .iconst 1, 1), (29, .isub, 1), (30, .putfield 371, 3), (33, .aload_n 0, 1), (34, .dup, 1), (35, .getfield 378, 3), (38, .iconst 1, 1), (39, .isub, 1), (40, .putfield 378, 3), (43, .aload_n 0, 1), (44, .bipush 20, 2), (46, .iconst 0, 1), (47, .iconst 0, 1), (48, .invokevirtual 374, 3), (51, .goto (-51), 3), (54, .return_, 1)]
set_option maxRecDepth 100000 in
theorem d_248_ok : x_dchk 248 d_248 = true := by decide +kernel
def m_248 : pM := (⟨"BreathingHillModel", "nots", "()V"⟩, 1821, 1, none, 17, 0, false, 10, 103, 1820, 82)
set_option maxRecDepth 100000 in
theorem m_248_ok : pm_tab[248]? = some m_248 := rfl
theorem e_248 : ∀ q ∈ d_248, decode m_248.code q.1 = .ok (q.2.1, q.2.2) := y_dec d_248_ok m_248_ok
def d_250 : xD := [(0, .aload_n 0, 1), (1, .getfield 371, 3), (4, .ifCond .le 69, 3), (7, .aload_n 0, 1), (8, .getfield 62, 3), (11, .aload_n 0, 1), (12, .getfield 371, 3), (15, .iconst 1, 1), (16, .isub, 1), (17, .iaload, 1), (18, .bipush 21, 2), (20, .if_icmp .eq 25, 3), (23, .aload_n 0, 1), (24, .getfield 62, 3), (27, .aload_n 0, 1), (28, .getfield 371, 3), (31, .iconst 1, 1), (32, .isub, 1), (33, .iaload, 1), (34, .bipush 22, 2), (36, .if_icmp .ne 37, 3), (39, .iload_n 1, 1), (40, .bipush 22, 2), (42, .if_icmp .ne 31, 3), (45, .aload_n 0, 1), (46, .dup, 1), (47, .getfield 371, 3), (50, .iconst 1, 1), (51, .isub, 1), (52, .putfield 371, 3), (55, .aload_n 0, 1), (56, .aload_n 0, 1), (57, .getfield 62, 3), (60, .aload_n 0, 1), (61, .getfield 371, 3), (64, .iaload, 1), (65, .iconst 0, 1), (66, .iconst 0, 1), (67, .invokevirtual 374, 3), (70, .goto (-70), 3), (73, .return_, 1)]
set_option maxRecDepth 100000 in
theorem d_250_ok : x_dchk 250 d_250 = true := by decide +kernel
def m_250 : pM := (⟨"BreathingHillModel", "joins", "(I)V"⟩, 1829, 2, none, 17, 1, false, 10, 103, 1828, 84)
set_option maxRecDepth 100000 in
theorem m_250_ok : pm_tab[250]? = some m_250 := rfl
theorem e_250 : ∀ q ∈ d_250, decode m_250.code q.1 = .ok (q.2.1, q.2.2) := y_dec d_250_ok m_250_ok
def z_S (th : List Nat) (G : List pE) (a rb sb : Nat) (F : Nat → Option Value) (rd st : Nat → Int32) (c t : Int32) (w : Int) : Prop := z_V th G a rb sb F rd st ∧ F 36 = some (.int c) ∧ F 38 = some (.int t) ∧ 0 ≤ c.toInt ∧ 0 ≤ t.toInt ∧ c.toInt + t.toInt ≤ 40 ∧ z_W rd c.toInt.toNat ∧ z_D rd c.toInt.toNat = z_B st t.toInt.toNat + w
/-- the fields that nots and joins leave -/
def z_K (F F' : Nat → Option Value) : Prop := ∀ k, k ≠ 36 → k ≠ 38 → k ≠ 39 → F' k = F k
theorem y_sub1 {t : Int32} (h1 : 1 ≤ t.toInt) : (t - Int32.ofInt 1).toInt = t.toInt - 1 := by
  have := x_i32 t
  rw [Int32.toInt_sub, show (Int32.ofInt 1).toInt = 1 from rfl, Jvm.Kit.bmod32 (by omega) (by omega)]
theorem y_add1 {t : Int32} (h1 : t.toInt ≤ 1000) : (t + Int32.ofInt 1).toInt = t.toInt + 1 := by
  have := x_i32 t
  rw [y_add (by rw [show (Int32.ofInt 1).toInt = 1 from rfl]; omega) (by rw [show (Int32.ofInt 1).toInt = 1 from rfl]; omega), show (Int32.ofInt 1).toInt = 1 from rfl]
theorem z_V.int {th : List Nat} {G : List pE} {a rb sb i : Nat} {F : Nat → Option Value} {rd st : Nat → Int32} {lo hi : Int} (h : z_V th G a rb sb F rd st) (e : x_at (x_tb 10).2.2.2 i = some (0, lo, hi)) : ∃ x : Int32, F i = some (.int x) ∧ lo ≤ x.toInt ∧ x.toInt ≤ hi := by
  obtain ⟨w, k1, x, rfl, k2⟩ := (h.1.2.2 a 10 h.2.1).2 i _ e
  rw [h.2.2.1] at k1
  exact ⟨x, k1, k2⟩
theorem z_B_at {st : Nat → Int32} {t : Int32} (h1 : 1 ≤ t.toInt) : z_B st t.toInt.toNat = z_B st (t.toInt - 1).toNat + (if st (t.toInt - 1).toNat = 21 ∨ st (t.toInt - 1).toNat = 22 then 1 else 0) := by
  obtain ⟨n, hn⟩ : ∃ n : Nat, t.toInt.toNat = n + 1 := ⟨t.toInt.toNat - 1, by omega⟩
  rw [hn, show (t.toInt - 1).toNat = n by omega]
  rfl
set_option maxHeartbeats 2000000 in
set_option maxRecDepth 100000 in
theorem g_nots {th : List Nat} {xs : Nat → Int32} {L J d a rb sb : Nat} {st : Nat → Int32} : ∀ (n : Nat) (F : Nat → Option Value) (rd : Nat → Int32) (G : List pE) (c t : Int32), t.toInt = n → z_S th G a rb sb F rd st c t 1 → x_Gd xs L J (d + 1) m_248 (fun r G' => r = none ∧ x_eff th E_sen G G' ∧ ∃ F' rd' c' t', z_S th G' a rb sb F' rd' st c' t' 1 ∧ z_K F F' ∧ c'.toInt + t'.toInt = c.toInt + t.toInt) 0 [(0, .ref a)] [] G := by
  intro n
  induction n with
  | zero =>
    intro F rd G c t hn hS
    obtain ⟨hV, hc, ht, c0, t0, ct, hW, hD⟩ := id hS
    have ta := hV.2.1
    refine y_aln (e_248 (0, .aload_n 0, 1) (List.mem_of_getElem? (i := 0) rfl)) rfl ?_
    refine y_getf hV.1 ta (e_248 (1, .getfield 371, 3) (List.mem_of_getElem? (i := 1) rfl)) u_17_371 ⟨rfl, rfl⟩ ((hV.2.2.1 38).trans ht) ?_
    refine y_ifc (e_248 (4, .ifCond .le 50, 3) (List.mem_of_getElem? (i := 2) rfl)) rfl (fun hb => ?_) (fun hb => ?_)
    · refine y_ret (e_248 (54, .return_, 1) (List.mem_of_getElem? (i := 30) rfl)) ⟨rfl, rfl⟩ ⟨rfl, x_eff.rf, F, rd, c, t, hS, fun _ _ _ _ => rfl, rfl⟩
    · have := y_hI.2.2.2.2.2.2.2.1 hb
      rw [show (0 : Int32).toInt = 0 from rfl] at this
      omega
  | succ n ih =>
    intro F rd G c t hn hS
    obtain ⟨hV, hc, ht, c0, t0, ct, hW, hD⟩ := id hS
    have ta := hV.2.1
    have ts := hV.2.2.2.2.2.2.1
    have t1 := y_sub1 (t := t) (by omega)
    have hst : x_sl G sb (t - Int32.ofInt 1).toInt.toNat = some (.int (st (t.toInt - 1).toNat)) := by
      rw [t1]
      exact hV.2.2.2.2.2.2.2.2 _ (by omega)
    refine y_aln (e_248 (0, .aload_n 0, 1) (List.mem_of_getElem? (i := 0) rfl)) rfl ?_
    refine y_getf hV.1 ta (e_248 (1, .getfield 371, 3) (List.mem_of_getElem? (i := 1) rfl)) u_17_371 ⟨rfl, rfl⟩ ((hV.2.2.1 38).trans ht) ?_
    refine y_ifc (e_248 (4, .ifCond .le 50, 3) (List.mem_of_getElem? (i := 2) rfl)) rfl (fun hb => ?_) (fun hb => ?_)
    · refine y_ret (e_248 (54, .return_, 1) (List.mem_of_getElem? (i := 30) rfl)) ⟨rfl, rfl⟩ ⟨rfl, x_eff.rf, F, rd, c, t, hS, fun _ _ _ _ => rfl, rfl⟩
    · refine y_aln (e_248 (7, .aload_n 0, 1) (List.mem_of_getElem? (i := 3) rfl)) rfl ?_
      refine y_getf hV.1 ta (e_248 (8, .getfield 62, 3) (List.mem_of_getElem? (i := 4) rfl)) u_17_62 ⟨rfl, rfl⟩ ((hV.2.2.1 35).trans hV.2.2.2.2.1) ?_
      refine y_aln (e_248 (11, .aload_n 0, 1) (List.mem_of_getElem? (i := 5) rfl)) rfl ?_
      refine y_getf hV.1 ta (e_248 (12, .getfield 371, 3) (List.mem_of_getElem? (i := 6) rfl)) u_17_371 ⟨rfl, rfl⟩ ((hV.2.2.1 38).trans ht) ?_
      refine y_st (e_248 (15, .iconst 1, 1) (List.mem_of_getElem? (i := 7) rfl)) ⟨rfl, rfl, rfl, rfl⟩ ?_
      refine y_st (e_248 (16, .isub, 1) (List.mem_of_getElem? (i := 8) rfl)) ⟨rfl, rfl, rfl, rfl⟩ ?_
      refine y_iald hV.1 ts (e_248 (17, .iaload, 1) (List.mem_of_getElem? (i := 9) rfl)) ⟨rfl, rfl⟩ (by omega) hst ?_
      refine y_st (e_248 (18, .bipush 20, 2) (List.mem_of_getElem? (i := 10) rfl)) ⟨rfl, rfl, rfl, rfl⟩ ?_
      refine y_icm (e_248 (20, .if_icmp .ne 34, 3) (List.mem_of_getElem? (i := 11) rfl)) rfl (fun b1 => ?_) (fun b1 => ?_)
      · refine y_ret (e_248 (54, .return_, 1) (List.mem_of_getElem? (i := 30) rfl)) ⟨rfl, rfl⟩ ⟨rfl, x_eff.rf, F, rd, c, t, hS, fun _ _ _ _ => rfl, rfl⟩
      · have e20 := y_hI.2.2.2.1 b1
        refine y_aln (e_248 (23, .aload_n 0, 1) (List.mem_of_getElem? (i := 12) rfl)) rfl ?_
        refine y_st (e_248 (24, .dup, 1) (List.mem_of_getElem? (i := 13) rfl)) ⟨rfl, rfl, rfl, rfl⟩ ?_
        refine y_getf hV.1 ta (e_248 (25, .getfield 371, 3) (List.mem_of_getElem? (i := 14) rfl)) u_17_371 ⟨rfl, rfl⟩ ((hV.2.2.1 38).trans ht) ?_
        refine y_st (e_248 (28, .iconst 1, 1) (List.mem_of_getElem? (i := 15) rfl)) ⟨rfl, rfl, rfl, rfl⟩ ?_
        refine y_st (e_248 (29, .isub, 1) (List.mem_of_getElem? (i := 16) rfl)) ⟨rfl, rfl, rfl, rfl⟩ ?_
        refine y_putf (f := (0, 0, 45)) hV.1 ta (e_248 (30, .putfield 371, 3) (List.mem_of_getElem? (i := 17) rfl)) u_17_371 ⟨rfl, rfl, by decide, rfl, rfl⟩ ⟨_, rfl, by show (0 : Int) ≤ _; omega, by show _ ≤ (45 : Int); omega⟩ (fun G1 u1 => ?_)
        have hV1 := hV.putF u1 (y_okI rfl (by show (0 : Int) ≤ _; omega) (by show _ ≤ (45 : Int); omega)) ⟨by decide, by decide⟩
        have ef1 := x_eff.upd (E := E_sen) u1 ta (q := (10, 36, 40)) List.mem_cons_self rfl (by decide) (by decide)
        obtain ⟨dp, hdp, -⟩ := hV1.int (i := 39) rfl
        refine y_aln (e_248 (33, .aload_n 0, 1) (List.mem_of_getElem? (i := 18) rfl)) rfl ?_
        refine y_st (e_248 (34, .dup, 1) (List.mem_of_getElem? (i := 19) rfl)) ⟨rfl, rfl, rfl, rfl⟩ ?_
        refine y_getf hV1.1 ta (e_248 (35, .getfield 378, 3) (List.mem_of_getElem? (i := 20) rfl)) u_17_378 ⟨rfl, rfl⟩ ((hV1.2.2.1 39).trans hdp) ?_
        refine y_st (e_248 (38, .iconst 1, 1) (List.mem_of_getElem? (i := 21) rfl)) ⟨rfl, rfl, rfl, rfl⟩ ?_
        refine y_st (e_248 (39, .isub, 1) (List.mem_of_getElem? (i := 22) rfl)) ⟨rfl, rfl, rfl, rfl⟩ ?_
        refine y_putf (f := (0, -2147483648, 2147483647)) hV1.1 ta (e_248 (40, .putfield 378, 3) (List.mem_of_getElem? (i := 23) rfl)) u_17_378 ⟨rfl, rfl, by decide, rfl, rfl⟩ ⟨_, rfl, (x_i32 _).1, (x_i32 _).2⟩ (fun G2 u2 => ?_)
        have hV2 := hV1.putF u2 (y_okA rfl) ⟨by decide, by decide⟩
        have ef2 := x_eff.upd (E := E_sen) u2 ta (q := (10, 36, 40)) List.mem_cons_self rfl (by decide) (by decide)
        refine y_aln (e_248 (43, .aload_n 0, 1) (List.mem_of_getElem? (i := 24) rfl)) rfl ?_
        refine y_st (e_248 (44, .bipush 20, 2) (List.mem_of_getElem? (i := 25) rfl)) ⟨rfl, rfl, rfl, rfl⟩ ?_
        refine y_st (e_248 (46, .iconst 0, 1) (List.mem_of_getElem? (i := 26) rfl)) ⟨rfl, rfl, rfl, rfl⟩ ?_
        refine y_st (e_248 (47, .iconst 0, 1) (List.mem_of_getElem? (i := 27) rfl)) ⟨rfl, rfl, rfl, rfl⟩ ?_
        refine y_c4 (K' := _) (e_248 (48, .invokevirtual 374, 3) (List.mem_of_getElem? (i := 28) rfl)) ⟨rfl, rfl, rfl⟩ t_17_374 ⟨by decide, by decide, by decide, by decide⟩ m_249_ok rfl (by decide) (y_recv hV2.1 ta ⟨rfl, rfl⟩) (Nat.le_of_ble_eq_true rfl) (Nat.le_of_ble_eq_true rfl) (g_code (d := d) hV2 (c := c) hc c0 (by omega) (Int8.ofInt 20).toInt32 (Int32.ofInt 0) (Int32.ofInt 0)) (fun r1 G3 h1 => ?_)
        obtain ⟨rfl, ef3, rd3, hV3, hx, hr⟩ := h1
        simp only [Option.toList_some, Option.toList_none, List.cons_append, List.nil_append]
        refine y_st (e_248 (51, .goto (-51), 3) (List.mem_of_getElem? (i := 29) rfl)) ⟨rfl, rfl, rfl, rfl⟩ ?_
        have e1 := y_add1 (t := c) (by omega)
        have ec : (c + 1).toInt.toNat = c.toInt.toNat + 1 := by
          have : (c + 1).toInt = c.toInt + 1 := e1
          omega
        have bt := z_B_at (st := st) (t := t) (by omega)
        rw [e20, if_neg (by decide)] at bt
        obtain ⟨z1, z2⟩ := z_W_s hr hx hW (fun _ => by have := z_B_nn st t.toInt.toNat; omega) (fun h => absurd h (by decide))
        rw [if_pos (by decide)] at z2
        refine (ih _ rd3 G3 (c + 1) (t - Int32.ofInt 1) (by omega) ⟨hV3, rfl, rfl, by have : (c + 1).toInt = c.toInt + 1 := e1; omega, by omega, by have : (c + 1).toInt = c.toInt + 1 := e1; omega, by rw [ec]; exact z1, by rw [ec, z2, t1]; omega⟩).mono (fun r G' h => ?_)
        obtain ⟨h1, h2, F', rd', c', t', h3, h4, h5⟩ := h
        refine ⟨h1, ((ef1.tr ef2).tr ef3).tr h2, F', rd', c', t', h3, fun k k1 k2 k3 => ?_, by have : (c + 1).toInt = c.toInt + 1 := e1; omega⟩
        rw [h4 k k1 k2 k3]
        dsimp only
        rw [if_neg k1, if_neg k3, if_neg k2]
set_option maxHeartbeats 2000000 in
set_option maxRecDepth 100000 in
theorem g_joins {th : List Nat} {xs : Nat → Int32} {L J d a rb sb : Nat} {st : Nat → Int32} {till : Int32} : ∀ (n : Nat) (F : Nat → Option Value) (rd : Nat → Int32) (G : List pE) (c t : Int32), t.toInt = n → z_S th G a rb sb F rd st c t 1 → x_Gd xs L J (d + 1) m_250 (fun r G' => r = none ∧ x_eff th E_sen G G' ∧ ∃ F' rd' c' t', z_S th G' a rb sb F' rd' st c' t' 1 ∧ z_K F F' ∧ c'.toInt + t'.toInt = c.toInt + t.toInt ∧ (till = 22 → t'.toInt = 0 ∨ ¬ (st (t'.toInt - 1).toNat = 21 ∨ st (t'.toInt - 1).toNat = 22))) 0 [(0, .ref a), (1, .int till)] [] G := by
  intro n
  induction n with
  | zero =>
    intro F rd G c t hn hS
    obtain ⟨hV, hc, ht, c0, t0, ct, hW, hD⟩ := id hS
    have ta := hV.2.1
    refine y_aln (e_250 (0, .aload_n 0, 1) (List.mem_of_getElem? (i := 0) rfl)) rfl ?_
    refine y_getf hV.1 ta (e_250 (1, .getfield 371, 3) (List.mem_of_getElem? (i := 1) rfl)) u_17_371 ⟨rfl, rfl⟩ ((hV.2.2.1 38).trans ht) ?_
    refine y_ifc (e_250 (4, .ifCond .le 69, 3) (List.mem_of_getElem? (i := 2) rfl)) rfl (fun hb => ?_) (fun hb => ?_)
    · refine y_ret (e_250 (73, .return_, 1) (List.mem_of_getElem? (i := 40) rfl)) ⟨rfl, rfl⟩ ⟨rfl, x_eff.rf, F, rd, c, t, hS, fun _ _ _ _ => rfl, rfl, fun z => Or.inl (by omega)⟩
    · have := y_hI.2.2.2.2.2.2.2.1 hb
      rw [show (0 : Int32).toInt = 0 from rfl] at this
      omega
  | succ n ih =>
    intro F rd G c t hn hS
    obtain ⟨hV, hc, ht, c0, t0, ct, hW, hD⟩ := id hS
    have ta := hV.2.1
    have ts := hV.2.2.2.2.2.2.1
    have t1 := y_sub1 (t := t) (by omega)
    have hst : x_sl G sb (t - Int32.ofInt 1).toInt.toNat = some (.int (st (t.toInt - 1).toNat)) := by
      rw [t1]
      exact hV.2.2.2.2.2.2.2.2 _ (by omega)
    have at45 : (st (t.toInt - 1).toNat = 21 ∨ st (t.toInt - 1).toNat = 22) → x_Gd xs L J (d + 1) m_250 (fun r G' => r = none ∧ x_eff th E_sen G G' ∧ ∃ F' rd' c' t', z_S th G' a rb sb F' rd' st c' t' 1 ∧ z_K F F' ∧ c'.toInt + t'.toInt = c.toInt + t.toInt ∧ (till = 22 → t'.toInt = 0 ∨ ¬ (st (t'.toInt - 1).toNat = 21 ∨ st (t'.toInt - 1).toNat = 22))) 45 [(0, .ref a), (1, .int till)] [] G := by
      intro hbin
      refine y_aln (e_250 (45, .aload_n 0, 1) (List.mem_of_getElem? (i := 24) rfl)) rfl ?_
      refine y_st (e_250 (46, .dup, 1) (List.mem_of_getElem? (i := 25) rfl)) ⟨rfl, rfl, rfl, rfl⟩ ?_
      refine y_getf hV.1 ta (e_250 (47, .getfield 371, 3) (List.mem_of_getElem? (i := 26) rfl)) u_17_371 ⟨rfl, rfl⟩ ((hV.2.2.1 38).trans ht) ?_
      refine y_st (e_250 (50, .iconst 1, 1) (List.mem_of_getElem? (i := 27) rfl)) ⟨rfl, rfl, rfl, rfl⟩ ?_
      refine y_st (e_250 (51, .isub, 1) (List.mem_of_getElem? (i := 28) rfl)) ⟨rfl, rfl, rfl, rfl⟩ ?_
      refine y_putf (f := (0, 0, 45)) hV.1 ta (e_250 (52, .putfield 371, 3) (List.mem_of_getElem? (i := 29) rfl)) u_17_371 ⟨rfl, rfl, by decide, rfl, rfl⟩ ⟨_, rfl, by show (0 : Int) ≤ _; omega, by show _ ≤ (45 : Int); omega⟩ (fun G1 u1 => ?_)
      have hV1 := hV.putF u1 (y_okI rfl (by show (0 : Int) ≤ _; omega) (by show _ ≤ (45 : Int); omega)) ⟨by decide, by decide⟩
      have ef1 := x_eff.upd (E := E_sen) u1 ta (q := (10, 36, 40)) List.mem_cons_self rfl (by decide) (by decide)
      have hst1 : x_sl G1 sb (t - Int32.ofInt 1).toInt.toNat = some (.int (st (t.toInt - 1).toNat)) := by
        rw [t1]
        exact hV1.2.2.2.2.2.2.2.2 _ (by omega)
      refine y_aln (e_250 (55, .aload_n 0, 1) (List.mem_of_getElem? (i := 30) rfl)) rfl ?_
      refine y_aln (e_250 (56, .aload_n 0, 1) (List.mem_of_getElem? (i := 31) rfl)) rfl ?_
      refine y_getf hV1.1 ta (e_250 (57, .getfield 62, 3) (List.mem_of_getElem? (i := 32) rfl)) u_17_62 ⟨rfl, rfl⟩ ((hV1.2.2.1 35).trans hV1.2.2.2.2.1) ?_
      refine y_aln (e_250 (60, .aload_n 0, 1) (List.mem_of_getElem? (i := 33) rfl)) rfl ?_
      refine y_getf hV1.1 ta (e_250 (61, .getfield 371, 3) (List.mem_of_getElem? (i := 34) rfl)) u_17_371 ⟨rfl, rfl⟩ ((hV1.2.2.1 38).trans rfl) ?_
      refine y_iald hV1.1 ts (e_250 (64, .iaload, 1) (List.mem_of_getElem? (i := 35) rfl)) ⟨rfl, rfl⟩ (by omega) hst1 ?_
      refine y_st (e_250 (65, .iconst 0, 1) (List.mem_of_getElem? (i := 36) rfl)) ⟨rfl, rfl, rfl, rfl⟩ ?_
      refine y_st (e_250 (66, .iconst 0, 1) (List.mem_of_getElem? (i := 37) rfl)) ⟨rfl, rfl, rfl, rfl⟩ ?_
      refine y_c4 (K' := _) (e_250 (67, .invokevirtual 374, 3) (List.mem_of_getElem? (i := 38) rfl)) ⟨rfl, rfl, rfl⟩ t_17_374 ⟨by decide, by decide, by decide, by decide⟩ m_249_ok rfl (by decide) (y_recv hV1.1 ta ⟨rfl, rfl⟩) (Nat.le_of_ble_eq_true rfl) (Nat.le_of_ble_eq_true rfl) (g_code (d := d) hV1 (c := c) hc c0 (by omega) (st (t.toInt - 1).toNat) (Int32.ofInt 0) (Int32.ofInt 0)) (fun r1 G3 h1 => ?_)
      obtain ⟨rfl, ef3, rd3, hV3, hx, hr⟩ := h1
      simp only [Option.toList_some, Option.toList_none, List.cons_append, List.nil_append]
      refine y_st (e_250 (70, .goto (-70), 3) (List.mem_of_getElem? (i := 39) rfl)) ⟨rfl, rfl, rfl, rfl⟩ ?_
      have e1 : (c + 1).toInt = c.toInt + 1 := y_add1 (t := c) (by omega)
      have ec : (c + 1).toInt.toNat = c.toInt.toNat + 1 := by omega
      have bt := z_B_at (st := st) (t := t) (by omega)
      rw [if_pos hbin] at bt
      have nn := z_B_nn st (t.toInt - 1).toNat
      have n20 : ¬ st (t.toInt - 1).toNat = 20 := fun h => by rw [h] at hbin; exact absurd hbin (by decide)
      obtain ⟨z1, z2⟩ := z_W_s hr hx hW (fun h => absurd h n20) (fun _ => by omega)
      rw [if_neg n20, if_pos hbin] at z2
      refine (ih _ rd3 G3 (c + 1) (t - Int32.ofInt 1) (by omega) ⟨hV3, rfl, rfl, by omega, by omega, by omega, by rw [ec]; exact z1, by rw [ec, z2, t1]; omega⟩).mono (fun r G' h => ?_)
      obtain ⟨h1, h2, F', rd', c', t', h3, h4, h5, h6⟩ := h
      refine ⟨h1, (ef1.tr ef3).tr h2, F', rd', c', t', h3, fun k k1 k2 k3 => ?_, by omega, h6⟩
      rw [h4 k k1 k2 k3]
      dsimp only
      rw [if_neg k1, if_neg k2]
    refine y_aln (e_250 (0, .aload_n 0, 1) (List.mem_of_getElem? (i := 0) rfl)) rfl ?_
    refine y_getf hV.1 ta (e_250 (1, .getfield 371, 3) (List.mem_of_getElem? (i := 1) rfl)) u_17_371 ⟨rfl, rfl⟩ ((hV.2.2.1 38).trans ht) ?_
    refine y_ifc (e_250 (4, .ifCond .le 69, 3) (List.mem_of_getElem? (i := 2) rfl)) rfl (fun hb => ?_) (fun hb => ?_)
    · have := y_hI.2.2.2.2.2.2.1 hb
      rw [show (0 : Int32).toInt = 0 from rfl] at this
      omega
    · refine y_aln (e_250 (7, .aload_n 0, 1) (List.mem_of_getElem? (i := 3) rfl)) rfl ?_
      refine y_getf hV.1 ta (e_250 (8, .getfield 62, 3) (List.mem_of_getElem? (i := 4) rfl)) u_17_62 ⟨rfl, rfl⟩ ((hV.2.2.1 35).trans hV.2.2.2.2.1) ?_
      refine y_aln (e_250 (11, .aload_n 0, 1) (List.mem_of_getElem? (i := 5) rfl)) rfl ?_
      refine y_getf hV.1 ta (e_250 (12, .getfield 371, 3) (List.mem_of_getElem? (i := 6) rfl)) u_17_371 ⟨rfl, rfl⟩ ((hV.2.2.1 38).trans ht) ?_
      refine y_st (e_250 (15, .iconst 1, 1) (List.mem_of_getElem? (i := 7) rfl)) ⟨rfl, rfl, rfl, rfl⟩ ?_
      refine y_st (e_250 (16, .isub, 1) (List.mem_of_getElem? (i := 8) rfl)) ⟨rfl, rfl, rfl, rfl⟩ ?_
      refine y_iald hV.1 ts (e_250 (17, .iaload, 1) (List.mem_of_getElem? (i := 9) rfl)) ⟨rfl, rfl⟩ (by omega) hst ?_
      refine y_st (e_250 (18, .bipush 21, 2) (List.mem_of_getElem? (i := 10) rfl)) ⟨rfl, rfl, rfl, rfl⟩ ?_
      refine y_icm (e_250 (20, .if_icmp .eq 25, 3) (List.mem_of_getElem? (i := 11) rfl)) rfl (fun b1 => ?_) (fun b1 => ?_)
      · exact at45 (Or.inl (y_hI.1 b1))
      · refine y_aln (e_250 (23, .aload_n 0, 1) (List.mem_of_getElem? (i := 12) rfl)) rfl ?_
        refine y_getf hV.1 ta (e_250 (24, .getfield 62, 3) (List.mem_of_getElem? (i := 13) rfl)) u_17_62 ⟨rfl, rfl⟩ ((hV.2.2.1 35).trans hV.2.2.2.2.1) ?_
        refine y_aln (e_250 (27, .aload_n 0, 1) (List.mem_of_getElem? (i := 14) rfl)) rfl ?_
        refine y_getf hV.1 ta (e_250 (28, .getfield 371, 3) (List.mem_of_getElem? (i := 15) rfl)) u_17_371 ⟨rfl, rfl⟩ ((hV.2.2.1 38).trans ht) ?_
        refine y_st (e_250 (31, .iconst 1, 1) (List.mem_of_getElem? (i := 16) rfl)) ⟨rfl, rfl, rfl, rfl⟩ ?_
        refine y_st (e_250 (32, .isub, 1) (List.mem_of_getElem? (i := 17) rfl)) ⟨rfl, rfl, rfl, rfl⟩ ?_
        refine y_iald hV.1 ts (e_250 (33, .iaload, 1) (List.mem_of_getElem? (i := 18) rfl)) ⟨rfl, rfl⟩ (by omega) hst ?_
        refine y_st (e_250 (34, .bipush 22, 2) (List.mem_of_getElem? (i := 19) rfl)) ⟨rfl, rfl, rfl, rfl⟩ ?_
        refine y_icm (e_250 (36, .if_icmp .ne 37, 3) (List.mem_of_getElem? (i := 20) rfl)) rfl (fun b2 => ?_) (fun b2 => ?_)
        · refine y_ret (e_250 (73, .return_, 1) (List.mem_of_getElem? (i := 40) rfl)) ⟨rfl, rfl⟩ ⟨rfl, x_eff.rf, F, rd, c, t, hS, fun _ _ _ _ => rfl, rfl, fun z => Or.inr (fun h => h.elim (y_hI.2.1 b1) (y_hI.2.2.1 b2))⟩
        · refine y_iln (e_250 (39, .iload_n 1, 1) (List.mem_of_getElem? (i := 21) rfl)) rfl ?_
          refine y_st (e_250 (40, .bipush 22, 2) (List.mem_of_getElem? (i := 22) rfl)) ⟨rfl, rfl, rfl, rfl⟩ ?_
          refine y_icm (e_250 (42, .if_icmp .ne 31, 3) (List.mem_of_getElem? (i := 23) rfl)) rfl (fun b3 => ?_) (fun b3 => ?_)
          · refine y_ret (e_250 (73, .return_, 1) (List.mem_of_getElem? (i := 40) rfl)) ⟨rfl, rfl⟩ ⟨rfl, x_eff.rf, F, rd, c, t, hS, fun _ _ _ _ => rfl, rfl, fun z => absurd z (y_hI.2.2.1 b3)⟩
          · exact at45 (Or.inr (y_hI.2.2.2.1 b2))
