theorem y_fref {th : List Nat} {G : List pE} {a i t u : Nat} (hI : xI x_tb th G) (ta : th[a]? = some t) (e : x_at (x_tb t).2.2.2 i = some (u + 10, 0, 0)) : ∃ b : Nat, x_sl G a i = some (.ref b) ∧ th[b]? = some u := by
  obtain ⟨w, k1, b, rfl, k2⟩ := (hI.2.2 a t ta).2 i _ e
  exact ⟨b, k1, k2⟩
theorem y_arr {th : List Nat} {G : List pE} {b t n : Nat} {lo hi : Int} (hI : xI x_tb th G) (tb : th[b]? = some t) (e : (x_tb t).2.2.2 = [(n, (0, lo, hi))]) : ∃ f : Nat → Int32, ∀ i, i < n → x_sl G b i = some (.int (f i)) := by
  have h : ∀ i, i < n → ∃ x : Int32, x_sl G b i = some (.int x) := fun i hi => by
    obtain ⟨w, k1, x, rfl, -⟩ := (hI.2.2 b t tb).2 i (0, lo, _) (by rw [e]; exact y_one hi)
    exact ⟨x, k1⟩
  refine ⟨fun i => if h' : i < n then Classical.choose (h i h') else 0, fun i hi => ?_⟩
  dsimp only
  rw [dif_pos hi]
  exact Classical.choose_spec (h i hi)
theorem z_view {th : List Nat} {G : List pE} {a : Nat} (hI : xI x_tb th G) (ta : th[a]? = some 10) : ∃ rb sb rd st, z_V th G a rb sb (fun k => x_sl G a k) rd st := by
  obtain ⟨rb, h1, h2⟩ := y_fref (i := 8) (u := 38) hI ta rfl
  obtain ⟨sb, h3, h4⟩ := y_fref (i := 35) (u := 45) hI ta rfl
  obtain ⟨rd, h5⟩ := y_arr (t := 38) (n := 135) hI h2 rfl
  obtain ⟨st, h6⟩ := y_arr (t := 45) (n := 45) hI h4 rfl
  exact ⟨rb, sb, rd, st, hI, ta, fun _ => rfl, h1, h3, h2, h4, h5, h6⟩
theorem z_V.other {th : List Nat} {G G1 : List pE} {a rb sb b t i : Nat} {v : Value} {F : Nat → Option Value} {rd st : Nat → Int32} (h : z_V th G a rb sb F rd st) (u : x_upd G G1 b i v) (tb : th[b]? = some t) (ht : t ≠ 10 ∧ t ≠ 38 ∧ t ≠ 45) (hx : ∀ f', x_at (x_tb t).2.2.2 i = some f' → xf_ok th f' v) : z_V th G1 a rb sb F rd st := by
  obtain ⟨hI, h1, h2, h3, h4, h5, h6, h7, h8⟩ := h
  have n1 : a ≠ b := fun z => by rw [z, tb] at h1; exact ht.1 (Option.some.inj h1)
  have n2 : rb ≠ b := fun z => by rw [z, tb] at h5; exact ht.2.1 (Option.some.inj h5)
  have n3 : sb ≠ b := fun z => by rw [z, tb] at h6; exact ht.2.2 (Option.some.inj h6)
  refine ⟨hI.upd u tb hx, h1, fun k => ?_, h3, h4, h5, h6, fun j hj => ?_, fun j hj => ?_⟩
  · rw [u.2.1, if_neg (fun z => n1 z.1)]; exact h2 k
  · rw [u.2.1, if_neg (fun z => n2 z.1)]; exact h7 j hj
  · rw [u.2.1, if_neg (fun z => n3 z.1)]; exact h8 j hj
theorem z_dep {f : Nat → Option Value} {rd : Nat → Int32} {c : Nat} (h : ∀ j, j < 3 * c → f (144 + j) = some (.int (rd j))) : ∀ i, i ≤ c → x_dep f i = z_D rd i
  | 0, _ => rfl
  | i + 1, hi => by
    unfold x_dep z_D
    rw [h (3 * i) (by omega), z_dep h i (by omega)]
theorem z_Qs {f f0 : Nat → Option Value} {rd : Nat → Int32} {c : Int32} (h0 : x_Qs f0) (hk : ∀ k, k < 143 → f k = f0 k) (hc : f 143 = some (.int c)) (c0 : 0 ≤ c.toInt) (h : ∀ j, j < 3 * c.toInt.toNat → f (144 + j) = some (.int (rd j))) (hW : z_W rd c.toInt.toNat) : x_Qs f := by
  refine ⟨fun n x t h1 h2 h3 h4 => h0.1 n x t (by rw [← hk 3 (by omega)]; exact h1) h2 h3 (by rw [← hk _ (by omega)]; exact h4), fun n x i h1 h2 h3 => ?_⟩
  rw [hc] at h1
  cases h1
  have hi : i < c.toInt.toNat := by omega
  rw [h (3 * i) (by omega)] at h3
  cases h3
  rw [z_dep h i (by omega)]
  exact hW i hi
def E_snt : List (Nat × Nat × Nat) := E_n0 ++ E_beh ++ [(36, 143, 323)]
/-- what sentence() leaves -/
def z_N (th : List Nat) (G : List pE) (a : Nat) (r : Option Value) (G' : List pE) : Prop := (∃ x, r = some (.int x)) ∧ xI x_tb th G' ∧ x_Q th G' ∧ x_eff th E_snt G G' ∧ x_sl G' a 2 = some (.int 0)
section ZT
variable {th : List Nat} {xs : Nat → Int32} {L J d a rb sb sc : Nat} {G0 : List pE}
/-- s while the codes come into it -/
def z_T (th : List Nat) (G0 G : List pE) (a rb sb sc : Nat) (F : Nat → Option Value) (rd st : Nat → Int32) (c i : Int32) : Prop := z_V th G a rb sb F rd st ∧ F 36 = some (.int c) ∧ F 6 = some (.ref sc) ∧ th[sc]? = some 36 ∧ 0 ≤ c.toInt ∧ c.toInt ≤ 40 ∧ 0 ≤ i.toInt ∧ i.toInt ≤ 3 * c.toInt ∧ (∀ k, k < 143 → x_sl G sc k = x_sl G0 sc k) ∧ x_sl G sc 143 = some (.int c) ∧ (∀ j, j < i.toInt.toNat → x_sl G sc (144 + j) = some (.int (rd j))) ∧ x_eff th [(36, 143, 323)] G0 G
theorem E_s36 : ∀ j, j < 180 → x_at (x_tb 36).2.2.2 (144 + j) = some (0, -2147483648, 2147483647) := by decide +kernel
set_option maxHeartbeats 2000000 in
set_option maxRecDepth 100000 in
theorem g_scopy {K : Option Value → List pE → Prop} {F : Nat → Option Value} {rd st : Nat → Int32} {c : Int32} (hK : ∀ x G' i, z_T th G0 G' a rb sb sc F rd st c i → i.toInt = 3 * c.toInt → K (some (.int x)) G') : ∀ (n : Nat) (G : List pE) (lv : pL) (i : Int32), z_T th G0 G a rb sb sc F rd st c i → (3 * c.toInt - i.toInt).toNat = n → pm_get lv 0 = some (.ref a) → pm_get lv 2 = some (.int i) → x_Gd xs L J d m_247 K 146 lv [] G := by
  intro n
  induction n with
  | zero =>
    intro G lv i hT hn g0 g2
    obtain ⟨hV, hc, h6, tc, c0, c1, i0, i1, hk, h143, hj, hE⟩ := id hT
    have ta := hV.2.1
    have m3 := y_mul3 c0 (by omega)
    obtain ⟨on, hon, -⟩ := hV.int (i := 37) rfl
    refine y_iln (e_247 (146, .iload_n 2, 1) (List.mem_of_getElem? (i := 79) rfl)) g2 ?_
    refine y_st (e_247 (147, .iconst 3, 1) (List.mem_of_getElem? (i := 80) rfl)) ⟨rfl, rfl, rfl, rfl⟩ ?_
    refine y_aln (e_247 (148, .aload_n 0, 1) (List.mem_of_getElem? (i := 81) rfl)) g0 ?_
    refine y_getf hV.1 ta (e_247 (149, .getfield 368, 3) (List.mem_of_getElem? (i := 82) rfl)) u_17_368 ⟨rfl, rfl⟩ ((hV.2.2.1 36).trans hc) ?_
    refine y_st (e_247 (152, .imul, 1) (List.mem_of_getElem? (i := 83) rfl)) ⟨rfl, rfl, rfl, rfl⟩ ?_
    refine y_icm (e_247 (153, .if_icmp .ge 25, 3) (List.mem_of_getElem? (i := 84) rfl)) rfl (fun hb => ?_) (fun hb => ?_)
    · refine y_aln (e_247 (178, .aload_n 0, 1) (List.mem_of_getElem? (i := 97) rfl)) g0 ?_
      refine y_getf hV.1 ta (e_247 (179, .getfield 384, 3) (List.mem_of_getElem? (i := 98) rfl)) u_17_384 ⟨rfl, rfl⟩ ((hV.2.2.1 37).trans hon) ?_
      refine y_ret (e_247 (182, .ireturn, 1) (List.mem_of_getElem? (i := 99) rfl)) ⟨rfl, y_ri⟩ (hK _ _ i hT (by omega))
    · have := y_hI.2.2.2.2.2.1 hb
      omega
  | succ n ih =>
    intro G lv i hT hn g0 g2
    obtain ⟨hV, hc, h6, tc, c0, c1, i0, i1, hk, h143, hj, hE⟩ := id hT
    have ta := hV.2.1
    have tr := hV.2.2.2.2.2.1
    have m3 := y_mul3 c0 (by omega)
    have e144 : ((Int16.ofInt 144).toInt32).toInt = 144 := by decide
    have ei : ((Int16.ofInt 144).toInt32 + i).toInt = 144 + i.toInt := by rw [y_add (by omega) (by omega)]; omega
    have e1 := y_add1 (t := i) (by omega)
    refine y_iln (e_247 (146, .iload_n 2, 1) (List.mem_of_getElem? (i := 79) rfl)) g2 ?_
    refine y_st (e_247 (147, .iconst 3, 1) (List.mem_of_getElem? (i := 80) rfl)) ⟨rfl, rfl, rfl, rfl⟩ ?_
    refine y_aln (e_247 (148, .aload_n 0, 1) (List.mem_of_getElem? (i := 81) rfl)) g0 ?_
    refine y_getf hV.1 ta (e_247 (149, .getfield 368, 3) (List.mem_of_getElem? (i := 82) rfl)) u_17_368 ⟨rfl, rfl⟩ ((hV.2.2.1 36).trans hc) ?_
    refine y_st (e_247 (152, .imul, 1) (List.mem_of_getElem? (i := 83) rfl)) ⟨rfl, rfl, rfl, rfl⟩ ?_
    refine y_icm (e_247 (153, .if_icmp .ge 25, 3) (List.mem_of_getElem? (i := 84) rfl)) rfl (fun hb => ?_) (fun hb => ?_)
    · have := y_hI.2.2.2.2.1 hb
      omega
    · refine y_aln (e_247 (156, .aload_n 0, 1) (List.mem_of_getElem? (i := 85) rfl)) g0 ?_
      refine y_getf hV.1 ta (e_247 (157, .getfield 33, 3) (List.mem_of_getElem? (i := 86) rfl)) u_17_33 ⟨rfl, rfl⟩ ((hV.2.2.1 6).trans h6) ?_
      refine y_st (e_247 (160, .sipush 144, 3) (List.mem_of_getElem? (i := 87) rfl)) ⟨rfl, rfl, rfl, rfl⟩ ?_
      refine y_iln (e_247 (163, .iload_n 2, 1) (List.mem_of_getElem? (i := 88) rfl)) g2 ?_
      refine y_st (e_247 (164, .iadd, 1) (List.mem_of_getElem? (i := 89) rfl)) ⟨rfl, rfl, rfl, rfl⟩ ?_
      refine y_aln (e_247 (165, .aload_n 0, 1) (List.mem_of_getElem? (i := 90) rfl)) g0 ?_
      refine y_getf hV.1 ta (e_247 (166, .getfield 40, 3) (List.mem_of_getElem? (i := 91) rfl)) u_17_40 ⟨rfl, rfl⟩ ((hV.2.2.1 8).trans hV.2.2.2.1) ?_
      refine y_iln (e_247 (169, .iload_n 2, 1) (List.mem_of_getElem? (i := 92) rfl)) g2 ?_
      refine y_iald hV.1 tr (e_247 (170, .iaload, 1) (List.mem_of_getElem? (i := 93) rfl)) ⟨rfl, rfl⟩ i0 (hV.2.2.2.2.2.2.2.1 i.toInt.toNat (by omega)) ?_
      refine y_iast hV.1 tc (e_247 (171, .iastore, 1) (List.mem_of_getElem? (i := 94) rfl)) ⟨rfl, rfl⟩ ⟨by omega, by show _ < (324 : Int); omega⟩ (fun G1 u1 => ?_)
      rw [show ((Int16.ofInt 144).toInt32 + i).toInt.toNat = 144 + i.toInt.toNat by omega] at u1
      have hx : ∀ f', x_at (x_tb 36).2.2.2 (144 + i.toInt.toNat) = some f' → xf_ok th f' (.int (rd i.toInt.toNat)) := y_okA (E_s36 _ (by omega))
      refine y_iinc (e_247 (172, .iinc 2 1, 3) (List.mem_of_getElem? (i := 95) rfl)) g2 (by decide) ?_
      refine y_st (e_247 (175, .goto (-29), 3) (List.mem_of_getElem? (i := 96) rfl)) ⟨rfl, rfl, rfl, rfl⟩ ?_
      refine ih G1 _ (i + Int32.ofInt 1) ⟨hV.other u1 tc ⟨by decide, by decide, by decide⟩ hx, hc, h6, tc, c0, c1, by omega, by omega, fun k hk1 => ?_, ?_, fun j hj1 => ?_, hE.tr (x_eff.upd u1 tc (q := (36, 143, 323)) List.mem_cons_self rfl (by show 143 ≤ 144 + i.toInt.toNat; omega) (by show 144 + i.toInt.toNat ≤ 323; omega))⟩ (by omega) (y_gpr g0 (by decide)) x_get_self
      · rw [u1.2.1, if_neg (fun z => by omega)]
        exact hk k hk1
      · rw [u1.2.1, if_neg (fun z => by omega)]
        exact h143
      · rw [u1.2.1]
        by_cases hji : j = i.toInt.toNat
        · rw [if_pos ⟨rfl, by omega⟩, hji]
        · rw [if_neg (fun z => by omega)]
          exact hj j (by omega)
end ZT
section ZU
variable {th : List Nat} {xs : Nat → Int32} {L J d a : Nat}
set_option maxHeartbeats 2000000 in
set_option maxRecDepth 100000 in
theorem g_sentence (hd : 302 ≤ d) {G : List pE} (hI : xI x_tb th G) (ta : th[a]? = some 10) (hU : ∀ b b' : Nat, th[b]? = some 36 → th[b']? = some 36 → b = b') (hQ : x_Q th G) : x_Gd xs L J (d + 3) m_247 (z_N th G a) 0 [(0, .ref a)] [] G := by
  refine sg_sn0_go (d := d + 2) (by omega) (v := (y_v [(a : Int)])) (G0 := G) ⟨y_v_Bd (List.forall_mem_cons.mpr ⟨(y_cellB hI ta), (fun _ h => absurd h List.not_mem_nil)⟩), (fun _ h => absurd h List.not_mem_nil), (List.forall_mem_cons.mpr ⟨⟨_, rfl, a, rfl, (by simp only [xl_ev, xt_ev, y_v, List.getD_cons_succ, List.getD_cons_zero]; omega), ta⟩, (fun _ h => absurd h List.not_mem_nil)⟩), trivial, (fun _ h => absurd h List.not_mem_nil), hI⟩ x_eff.rf (fun r G' h => ?_) (fun n hn vn lv G1 hag hS1 hE1 => ?_)
  · obtain ⟨v', -, -, -, -, p, hp, -, -, pa⟩ := h
    exact absurd hp List.not_mem_nil
  · obtain rfl : n = _ := List.mem_singleton.mp hn
    have e0 : vn 0 = (a : Int) := hag 0 (by decide)
    have hI1 := hS1.2.2.2.2.2
    obtain ⟨rb, sb, rd, st, hV⟩ := z_view hI1 ta
    have l0 := hS1.loCe (i := 0) (t := 10) (l := ([(0, 1)], 0)) (a := a) (List.mem_of_getElem? (i := 0) rfl) (by simp only [xl_ev, xt_ev]; omega)
    have l1 := hS1.lo0e (i := 1) (l := ([], 1)) (x := 1) (List.mem_of_getElem? (i := 1) rfl) rfl
    have f2 := hS1.fa0e (i := 2) (t := 10) (cl := ([(0, 1)], 0)) (l := ([], 0)) (a := a) (x := 0) (List.mem_of_getElem? (i := 0) rfl) (by simp only [xl_ev, xt_ev]; omega) rfl
    have f36 := hS1.fa0e (i := 36) (t := 10) (cl := ([(0, 1)], 0)) (l := ([], 0)) (a := a) (x := 0) (List.mem_of_getElem? (i := 1) rfl) (by simp only [xl_ev, xt_ev]; omega) rfl
    have f37 := hS1.fa0e (i := 37) (t := 10) (cl := ([(0, 1)], 0)) (l := ([], 0)) (a := a) (x := 0) (List.mem_of_getElem? (i := 2) rfl) (by simp only [xl_ev, xt_ev]; omega) rfl
    have f38 := hS1.fa0e (i := 38) (t := 10) (cl := ([(0, 1)], 0)) (l := ([], 0)) (a := a) (x := 0) (List.mem_of_getElem? (i := 3) rfl) (by simp only [xl_ev, xt_ev]; omega) rfl
    have f40 := hS1.fa0e (i := 40) (t := 10) (cl := ([(0, 1)], 0)) (l := ([], 0)) (a := a) (x := 0) (List.mem_of_getElem? (i := 4) rfl) (by simp only [xl_ev, xt_ev]; omega) rfl
    have z0 : (0 : Int32).toInt = 0 := rfl
    have hS : z_S th G1 a rb sb (fun k => x_sl G1 a k) rd st 0 0 0 := ⟨hV, f36, f38, by decide, by decide, by decide, fun i hi => absurd hi (Nat.not_lt_zero _), rfl⟩
    have hQ1 : x_Q th G1 := x_Q_eff (by decide) hE1 hQ
    have hE1' : x_eff th E_snt G G1 := hE1.sub (by decide)
    refine g_sloop (d := d) (G0 := G1) hd (fun x G' ef hI' => ⟨⟨x, rfl⟩, hI', x_Q_eff (by decide) ef hQ1, hE1'.tr (ef.sub (by decide)), by rw [ef.at ta rfl]; exact f2⟩) (fun F2 rd2 st2 c2 t2 G2 lv2 hS2 ht2 ef2 g0 => ?_) _ _ rd st G1 lv 0 0 0 0 0 (Nat.le_refl _) hS f37 f40 rfl (Or.inl rfl) (by decide) (by decide) (by decide) l0 l1 x_eff.rf
    obtain ⟨hV2, hc2, ht3, c0, t0, ct, hW, hD⟩ := id hS2
    obtain ⟨sc, h6, tc⟩ := y_fref (i := 6) (u := 36) hV2.1 ta rfl
    have h6' : F2 6 = some (.ref sc) := (hV2.2.2.1 6).symm.trans h6
    have e143 : ((Int16.ofInt 143).toInt32).toInt = 143 := by decide
    have hQ2 := x_Q_eff (by decide) ef2 hQ1
    refine y_aln (e_247 (132, .aload_n 0, 1) (List.mem_of_getElem? (i := 71) rfl)) g0 ?_
    refine y_getf hV2.1 ta (e_247 (133, .getfield 33, 3) (List.mem_of_getElem? (i := 72) rfl)) u_17_33 ⟨rfl, rfl⟩ ((hV2.2.2.1 6).trans h6') ?_
    refine y_st (e_247 (136, .sipush 143, 3) (List.mem_of_getElem? (i := 73) rfl)) ⟨rfl, rfl, rfl, rfl⟩ ?_
    refine y_aln (e_247 (139, .aload_n 0, 1) (List.mem_of_getElem? (i := 74) rfl)) g0 ?_
    refine y_getf hV2.1 ta (e_247 (140, .getfield 368, 3) (List.mem_of_getElem? (i := 75) rfl)) u_17_368 ⟨rfl, rfl⟩ ((hV2.2.2.1 36).trans hc2) ?_
    refine y_iast hV2.1 tc (e_247 (143, .iastore, 1) (List.mem_of_getElem? (i := 76) rfl)) ⟨rfl, rfl⟩ ⟨by omega, by show _ < (324 : Int); omega⟩ (fun G3 u3 => ?_)
    rw [show ((Int16.ofInt 143).toInt32).toInt.toNat = 143 by omega] at u3
    have hx : ∀ f', x_at (x_tb 36).2.2.2 143 = some f' → xf_ok th f' (.int c2) := y_okI (lo := 0) (hi := 45) rfl c0 (by omega)
    have hV3 := hV2.other u3 tc ⟨by decide, by decide, by decide⟩ hx
    refine y_st (e_247 (144, .iconst 0, 1) (List.mem_of_getElem? (i := 77) rfl)) ⟨rfl, rfl, rfl, rfl⟩ ?_
    refine y_isn (e_247 (145, .istore_n 2, 1) (List.mem_of_getElem? (i := 78) rfl)) (by decide) ?_
    refine g_scopy (G0 := G2) (sc := sc) (c := c2) (fun x G' i hT hi => ?_) _ G3 _ 0 ⟨hV3, hc2, h6', tc, c0, by omega, by decide, by rw [z0]; omega, fun k hk => by rw [u3.2.1, if_neg (fun z => by omega)], by rw [u3.2.1, if_pos ⟨rfl, rfl⟩], fun j hj => absurd hj (by rw [z0]; exact Nat.not_lt_zero _), x_eff.upd u3 tc (q := (36, 143, 323)) List.mem_cons_self rfl (by decide) (by decide)⟩ rfl (y_gpr g0 (by decide)) x_get_self
    obtain ⟨hV4, hc4, h64, tc4, c04, c14, i04, i14, hk4, h143, hj4, hE4⟩ := id hT
    refine ⟨⟨x, rfl⟩, hV4.1, fun b hb => ?_, (hE1'.tr (ef2.sub (by decide))).tr (hE4.sub (by decide)), ?_⟩
    · obtain rfl := hU b sc hb tc
      exact z_Qs (hQ2 b tc) hk4 h143 c04 (fun j hj => hj4 j (by omega)) hW
    · rw [hE4.at ta rfl, ef2.at ta rfl]
      exact f2
end ZU
