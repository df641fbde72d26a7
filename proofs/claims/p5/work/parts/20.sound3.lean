-- ===== the abstract step holds: arrays written; all steps =====
section XF
variable {tb : Nat → xT} {th : List Nat} {E : List (Nat × Nat × Nat)} {m0 own nL pc : Nat} {ini : Bool} {xs : Nat → Int32} {L J : Nat} {v : Nat → Int} {cs : List xL} {lo : List (Nat × xV)} {st : List xV} {fa : List xA} {nx : Nat} {lv : pL} {ws : List Value} {G : List pE} {out : List (Nat × xG)}
theorem x_one_at {r : List (Nat × xF)} {f g : xF} {i : Nat} (h : x_one r = some f) (hi : x_at r i = some g) : g = f := by
  unfold x_one at h
  split at h
  · cases h
    unfold x_at at hi
    split at hi
    · cases hi; rfl
    · unfold x_at at hi
      cases hi
  · cases h
theorem x_nar_bool (x : Int32) : 0 ≤ (vp_nar .boolean x).toInt ∧ (vp_nar .boolean x).toInt ≤ 1 := by
  have h : vp_nar .boolean x = x &&& 1 := rfl
  rw [h]
  have := x_and_le (x := x) (y := 1) (by decide)
  exact this
set_option maxHeartbeats 1000000 in
theorem xs_aaload  (hT : x_wf tb) (hS : x_S tb th v (cs, lo, st, fa, nx) lv ws G) (h : x_step tb E m0 own nL (.aaload) pc cs lo st fa nx = some out) : x_Go tb th E m0 own nL ini xs L J (.aaload) pc v lv ws G out := by
  obtain ⟨hB, hC, hlo, hst, hfa, hI⟩ := id hS
  have hC : x_Cs cs v := hC
  dsimp only [x_step] at h
  split at h
  · rename_i lj b r
    obtain ⟨w1, r1, rfl, g1, hs1⟩ := x_gs_cons hst
    obtain ⟨w2, r2, rfl, g2, hs2⟩ := x_gs_cons hs1
    obtain ⟨j, rfl, ej⟩ := x_g0 g1
    split at h
    · rename_i h5
      split at h
      · rename_i hix
        cases h
        obtain ⟨bk, bl⟩ := b
        obtain rfl : bk = 5 := h5
        obtain rfl : w2 = .ref pm_KB := g2
        obtain ⟨n, n1, n2, n3, n4, -⟩ := x_idx_ok (cs := cs) hB hC hix ej
        exact ⟨_, List.mem_singleton.mpr rfl, v, lv, .ref (pm_TB + n) :: r2, G, x_ag.rf, by dsimp only [pm_step]; rw [if_pos rfl, n4, n2]; rfl, x_psh hS ⟨_, rfl, by simp [pm_isTok, n1]⟩ hs2, x_eff.rf⟩
      · cases h
    · split at h
      · rename_i hk
        obtain ⟨c, rfl, ec, tc⟩ := x_g_cell g2 hk.1
        obtain ⟨e, he, hsh⟩ := (hI.2.2 c _ tc).1
        obtain ⟨n, n1, n2, n3, n4, -⟩ := x_idx_ok (cs := cs) hB hC hk.2.2.2 ej
        obtain ⟨c9, g, rfl⟩ := x_arr_ref hsh hk.2.1 hk.2.2.1
        have hpm : pm_step own nL ini xs L J .aaload pc lv (.int j :: .ref c :: r2) G = some (pc + 1, lv, va_rf (g n) :: r2, G, 0, 0) := by
          dsimp only [pm_step]
          rw [if_neg (hI.cell tc).2.2.2, he]
          show (if pm_bad j _ = true ∨ _ < 4 ∨ 9 < _ then none else some (pc + 1, lv, va_rf (g j.toNatClampNeg) :: r2, G, 0, 0)) = _
          rw [n4, n2, if_neg (by rintro (z | z | z) <;> first | cases z | omega)]
        split at h
        · rename_i f hone
          obtain ⟨f2, hf2⟩ := hT _ n n1
          obtain rfl := x_one_at hone hf2
          obtain ⟨w0, z1, z2⟩ := (hI.2.2 c _ tc).2 n _ hf2
          have hsl : x_sl G c n = some (va_rf (g n)) := by unfold x_sl; rw [he]; show (if n < _ then _ else _) = _; rw [if_pos n1]
          rw [hsl] at z1
          cases z1
          split at h
          · rename_i h34
            cases h
            refine ⟨_, List.mem_singleton.mpr rfl, v, lv, _, G, x_ag.rf, hpm, x_psh hS ?_ hs2, x_eff.rf⟩
            unfold xf_ok at z2
            rcases h34 with h3 | h3 <;> (rw [h3] at z2 ⊢; exact z2)
          · split at h
            · rename_i hh
              cases h
              obtain ⟨u, hu⟩ : ∃ u, f2.1 = u + 10 := ⟨f2.1 - 10, by omega⟩
              unfold xf_ok at z2
              rw [hu] at z2 ⊢
              obtain ⟨k, hkr, hku⟩ := z2
              rw [hkr] at hpm
              have hkl := (hI.cell hku).1
              obtain ⟨a1, a2, a3, a4, a5, a6⟩ := x_S_up (i := nx) (x := (k : Int)) hS hh.2.2 (by omega) (by unfold pm_TB at hkl; omega)
              exact ⟨_, List.mem_singleton.mpr rfl, _, lv, _, G, x_ag.up hh.2.1, hpm, ⟨a1, a2, a3, ⟨x_g_of_cell (by rw [xl_s_ev]; simp [x_up]) hku, a4.2.2⟩, a5, a6⟩, x_eff.rf⟩
            · cases h
        · cases h
      · cases h
  · cases h
set_option maxHeartbeats 1000000 in
theorem xs_iastore  (hS : x_S tb th v (cs, lo, st, fa, nx) lv ws G) (h : x_step tb E m0 own nL (.iastore) pc cs lo st fa nx = some out) : x_Go tb th E m0 own nL ini xs L J (.iastore) pc v lv ws G out := by
  obtain ⟨hB, hC, hlo, hst, hfa, hI⟩ := id hS
  have hC : x_Cs cs v := hC
  dsimp only [x_step] at h
  split at h
  · rename_i lx lj b r
    obtain ⟨w1, r1, rfl, g1, hs1⟩ := x_gs_cons hst
    obtain ⟨w2, r2, rfl, g2, hs2⟩ := x_gs_cons hs1
    obtain ⟨w3, r3, rfl, g3, hs3⟩ := x_gs_cons hs2
    split at h
    · rename_i hk
      cases h
      obtain ⟨j, rfl, ej⟩ := x_g0 g2
      obtain ⟨c, rfl, ec, tc⟩ := x_g_cell g3 hk.1
      obtain ⟨e, he, hsh⟩ := (hI.2.2 c _ tc).1
      obtain ⟨x, rfl, ex⟩ := x_g0 g1
      obtain ⟨n, n1, n2, n3, n4, n5, n6, n7, n8⟩ := x_idx_ok (cs := cs) hB hC hk.2.2.2.1 ej
      obtain ⟨f, rfl⟩ := x_arr_int hsh hk.2.1 (by omega)
      have hu := x_upd_int (x := x) he n1
      obtain ⟨q9, e1, e2, e3, e4⟩ := x_cov_ok hk.2.2.2.2.2
      refine ⟨_, List.mem_singleton.mpr rfl, v, lv, r3, _, x_ag.rf, ?_, ⟨hB, hC, hlo, hs3, fun f9 hf9 => ?_, hI.upd hu tc (fun f8 h8 => ?_)⟩, x_eff.upd hu tc e1 e2 (Nat.le_trans e3 n7) (Nat.le_trans n8 e4)⟩
      · dsimp only [pm_step]
        rw [he]
        have hc0 := hk.2.2.1
        rw [hc0]
        show (if pm_bad j _ = true then none else some (pc + 1, lv, r3, G.set c (.inl (0, _, .inl (upd f j.toNatClampNeg x))), 0, 0)) = _
        rw [n4, n2]
        rfl
      · rcases List.mem_append.mp hf9 with hf9 | hf9
        · split at hf9
          · rename_i hj0
            rw [List.mem_singleton.mp hf9]
            have hn : lj.2.toNat = n := by
              have : xl_ev lj v = lj.2 := by unfold xl_ev; rw [hj0]; simp [xt_ev]
              omega
            refine ⟨c, ec, tc, .int x, ?_, g1⟩
            show x_sl _ c lj.2.toNat = _
            rw [hn, hu.2.1]
            simp
          · cases hf9
        · exact x_kill_ok hu tc n7 n8 hfa f9 hf9
      · have hm := x_over_mem (lw := x_lb cs lj) (hi := x_ub cs lj) _ 0 n h8 (by omega) (by omega)
        have hz := List.all_eq_true.mp hk.2.2.2.2.1 f8 hm
        rw [Bool.and_eq_true] at hz
        exact x_fit_ok hB hC hz.2 g1
    · cases h
  · cases h
set_option maxHeartbeats 1000000 in
theorem xs_bastore  (hS : x_S tb th v (cs, lo, st, fa, nx) lv ws G) (h : x_step tb E m0 own nL (.bastore) pc cs lo st fa nx = some out) : x_Go tb th E m0 own nL ini xs L J (.bastore) pc v lv ws G out := by
  obtain ⟨hB, hC, hlo, hst, hfa, hI⟩ := id hS
  have hC : x_Cs cs v := hC
  dsimp only [x_step] at h
  split at h
  · rename_i lx lj b r
    obtain ⟨w1, r1, rfl, g1, hs1⟩ := x_gs_cons hst
    obtain ⟨w2, r2, rfl, g2, hs2⟩ := x_gs_cons hs1
    obtain ⟨w3, r3, rfl, g3, hs3⟩ := x_gs_cons hs2
    split at h
    · rename_i hk
      cases h
      obtain ⟨j, rfl, ej⟩ := x_g0 g2
      obtain ⟨c, rfl, ec, tc⟩ := x_g_cell g3 hk.1
      obtain ⟨e, he, hsh⟩ := (hI.2.2 c _ tc).1
      obtain ⟨x, rfl, ex⟩ := x_g0 g1
      obtain ⟨n, n1, n2, n3, n4, n5, n6, n7, n8⟩ := x_idx_ok (cs := cs) hB hC hk.2.2.2.1 ej
      obtain ⟨f, rfl⟩ := x_arr_int hsh hk.2.1 (by omega)
      obtain ⟨q9, e1, e2, e3, e4⟩ := x_cov_ok hk.2.2.2.2.2
      rcases hk.2.2.1 with hc | hc
      · have hu := x_upd_int (x := vp_nar .byte x) he n1
        refine ⟨_, List.mem_singleton.mpr rfl, v, lv, r3, _, x_ag.rf, ?_, ⟨hB, hC, hlo, hs3, fun f9 hf9 => x_kill_ok hu tc n7 n8 hfa f9 hf9, hI.upd hu tc (fun f8 h8 => ?_)⟩, x_eff.upd hu tc e1 e2 (Nat.le_trans e3 n7) (Nat.le_trans n8 e4)⟩
        · dsimp only [pm_step]
          rw [he, hc]
          show (if pm_bad j _ = true then none else some (pc + 1, lv, r3, G.set c (.inl (1, _, .inl (upd f j.toNatClampNeg (vp_nar .byte x)))), 0, 0)) = _
          rw [n4, n2]
          rfl
        · have hm := x_over_mem (lw := x_lb cs lj) (hi := x_ub cs lj) _ 0 n h8 (by omega) (by omega)
          have hz := List.all_eq_true.mp hk.2.2.2.2.1 f8 hm
          rw [Bool.and_eq_true, hc] at hz
          have h0 : f8.1 = 0 := by simpa using hz.1
          have hz2 := hz.2
          have hz2 := of_decide_eq_true hz2
          have k := x_i2b_le x
          unfold xf_ok
          rw [h0]
          exact ⟨_, rfl, by rw [vp_nar_byte]; omega, by rw [vp_nar_byte]; omega⟩
      · have hu := x_upd_int (x := vp_nar .boolean x) he n1
        refine ⟨_, List.mem_singleton.mpr rfl, v, lv, r3, _, x_ag.rf, ?_, ⟨hB, hC, hlo, hs3, fun f9 hf9 => x_kill_ok hu tc n7 n8 hfa f9 hf9, hI.upd hu tc (fun f8 h8 => ?_)⟩, x_eff.upd hu tc e1 e2 (Nat.le_trans e3 n7) (Nat.le_trans n8 e4)⟩
        · dsimp only [pm_step]
          rw [he, hc]
          show (if pm_bad j _ = true then none else some (pc + 1, lv, r3, G.set c (.inl (2, _, .inl (upd f j.toNatClampNeg (vp_nar .boolean x)))), 0, 0)) = _
          rw [n4, n2]
          rfl
        · have hm := x_over_mem (lw := x_lb cs lj) (hi := x_ub cs lj) _ 0 n h8 (by omega) (by omega)
          have hz := List.all_eq_true.mp hk.2.2.2.2.1 f8 hm
          rw [Bool.and_eq_true, hc] at hz
          have h0 : f8.1 = 0 := by simpa using hz.1
          have hz2 := hz.2
          have hz2 := of_decide_eq_true hz2
          have k := x_nar_bool x
          unfold xf_ok
          rw [h0]
          exact ⟨_, rfl, by omega, by omega⟩
    · cases h
  · cases h
set_option maxHeartbeats 1000000 in
theorem xs_lastore  (hS : x_S tb th v (cs, lo, st, fa, nx) lv ws G) (h : x_step tb E m0 own nL (.lastore) pc cs lo st fa nx = some out) : x_Go tb th E m0 own nL ini xs L J (.lastore) pc v lv ws G out := by
  obtain ⟨hB, hC, hlo, hst, hfa, hI⟩ := id hS
  have hC : x_Cs cs v := hC
  dsimp only [x_step] at h
  split at h
  · rename_i lx lj b r
    obtain ⟨w1, r1, rfl, g1, hs1⟩ := x_gs_cons hst
    obtain ⟨w2, r2, rfl, g2, hs2⟩ := x_gs_cons hs1
    obtain ⟨w3, r3, rfl, g3, hs3⟩ := x_gs_cons hs2
    split at h
    · rename_i hk
      cases h
      obtain ⟨j, rfl, ej⟩ := x_g0 g2
      obtain ⟨c, rfl, ec, tc⟩ := x_g_cell g3 hk.1
      obtain ⟨e, he, hsh⟩ := (hI.2.2 c _ tc).1
      obtain ⟨x, rfl⟩ := g1
      obtain ⟨n, n1, n2, n3, n4, n5, n6, n7, n8⟩ := x_idx_ok (cs := cs) hB hC hk.2.2.2.1 ej
      obtain ⟨f, rfl⟩ := x_arr_long hsh hk.2.1 hk.2.2.1
      have hu := x_upd_long (x := x) he n1
      obtain ⟨q9, e1, e2, e3, e4⟩ := x_cov_ok hk.2.2.2.2.2
      refine ⟨_, List.mem_singleton.mpr rfl, v, lv, r3, _, x_ag.rf, ?_, ⟨hB, hC, hlo, hs3, fun f9 hf9 => x_kill_ok hu tc n7 n8 hfa f9 hf9, hI.upd hu tc (fun f8 h8 => ?_)⟩, x_eff.upd hu tc e1 e2 (Nat.le_trans e3 n7) (Nat.le_trans n8 e4)⟩
      · dsimp only [pm_step]
        rw [he]
        show (if pm_bad j _ = true then none else some (pc + 1, lv, r3, G.set c (.inl (3, _, .inr (.inl (vp_updL f j.toNatClampNeg x)))), 0, 0)) = _
        rw [n4, n2]
        rfl
      · have hm := x_over_mem (lw := x_lb cs lj) (hi := x_ub cs lj) _ 0 n h8 (by omega) (by omega)
        have h0 : f8.1 = 1 := by simpa using List.all_eq_true.mp hk.2.2.2.2.1 f8 hm
        unfold xf_ok
        rw [h0]
        exact ⟨_, rfl⟩
    · cases h
  · cases h
set_option maxHeartbeats 1000000 in
theorem xs_aastore  (hS : x_S tb th v (cs, lo, st, fa, nx) lv ws G) (h : x_step tb E m0 own nL (.aastore) pc cs lo st fa nx = some out) : x_Go tb th E m0 own nL ini xs L J (.aastore) pc v lv ws G out := by
  obtain ⟨hB, hC, hlo, hst, hfa, hI⟩ := id hS
  have hC : x_Cs cs v := hC
  dsimp only [x_step] at h
  split at h
  · rename_i a lj b r
    obtain ⟨w1, r1, rfl, g1, hs1⟩ := x_gs_cons hst
    obtain ⟨w2, r2, rfl, g2, hs2⟩ := x_gs_cons hs1
    obtain ⟨w3, r3, rfl, g3, hs3⟩ := x_gs_cons hs2
    split at h
    · rename_i hk
      cases h
      obtain ⟨j, rfl, ej⟩ := x_g0 g2
      obtain ⟨c, rfl, ec, tc⟩ := x_g_cell g3 hk.1
      obtain ⟨e, he, hsh⟩ := (hI.2.2 c _ tc).1
      obtain ⟨n, n1, n2, n3, n4, n5, n6, n7, n8⟩ := x_idx_ok (cs := cs) hB hC hk.2.2.2.1 ej
      obtain ⟨c9, g, rfl⟩ := x_arr_ref hsh hk.2.1 hk.2.2.1
      obtain ⟨q9, e1, e2, e3, e4⟩ := x_cov_ok hk.2.2.2.2.2.1
      have hfits : ∀ f8, x_at (tb (b.1 - 10)).2.2.2 n = some f8 → xf_ok th f8 w1 := by
        intro f8 h8
        have hm := x_over_mem (lw := x_lb cs lj) (hi := x_ub cs lj) _ 0 n h8 (by omega) (by omega)
        have hz := List.all_eq_true.mp hk.2.2.2.2.1 f8 hm
        rw [Bool.and_eq_true] at hz
        exact x_fit_ok hB hC hz.2 g1
      have hbad : ¬ (pm_bad j (tb (b.1 - 10)).2.2.1 = true ∨ (tb (b.1 - 10)).2.1 < 4 ∨ 9 < (tb (b.1 - 10)).2.1) := by rw [n4]; rintro (z | z | z) <;> first | cases z | omega
      have fin : ∀ x : Option Nat, w1 = va_rf x → pm_step own nL ini xs L J .aastore pc lv (w1 :: .int j :: .ref c :: r3) G = some (pc + 1, lv, r3, G.set c (.inl ((tb (b.1 - 10)).2.1, (tb (b.1 - 10)).2.2.1, .inr (.inr (.inr (.inr (va_up g n x)))))), 0, 0) → x_Go tb th E m0 own nL ini xs L J .aastore pc v lv (w1 :: .int j :: .ref c :: r3) G [(pc + 1, (cs, lo, r, x_kill fa (b.1 - 10) (x_lb cs lj).toNat (x_ub cs lj).toNat, nx))] := by
        intro x hx hp
        have hu := x_upd_ref (x := x) he n1
        rw [← hx] at hu
        exact ⟨_, List.mem_singleton.mpr rfl, v, lv, r3, _, x_ag.rf, hp, ⟨hB, hC, hlo, hs3, fun f9 hf9 => x_kill_ok hu tc n7 n8 hfa f9 hf9, hI.upd hu tc hfits⟩, x_eff.upd hu tc e1 e2 (Nat.le_trans e3 n7) (Nat.le_trans n8 e4)⟩
      obtain ⟨ak, al⟩ := a
      have tokc : ∀ k : Nat, w1 = .ref k → pm_isTok k = true → (tb (b.1 - 10)).2.1 = 4 → x_Go tb th E m0 own nL ini xs L J .aastore pc v lv (w1 :: .int j :: .ref c :: r3) G [(pc + 1, (cs, lo, r, x_kill fa (b.1 - 10) (x_lb cs lj).toNat (x_ub cs lj).toNat, nx))] := by
        intro k hkr tk h4
        refine fin (some k) hkr ?_
        rw [hkr]
        dsimp only [pm_step]
        rw [he]
        dsimp only
        rw [if_neg hbad, if_pos tk, if_pos h4, n2]
      rcases hk.2.2.2.2.2.2 with ⟨h3, h4⟩ | ⟨h3, h4⟩ | ⟨h3, h5, h6, h7⟩
      · obtain rfl : ak = 3 := h3
        obtain ⟨k, hkr, tk⟩ := g1
        exact tokc k hkr tk h4
      · obtain rfl : ak = 4 := h3
        rcases g1 with hkr | ⟨k, hkr, tk⟩
        · refine fin none hkr ?_
          rw [hkr]
          dsimp only [pm_step]
          rw [he]
          dsimp only
          rw [if_neg hbad, n2]
        · exact tokc k hkr tk h4
      · obtain ⟨k, hkr, ek, tk⟩ := x_g_cell g1 h3
        obtain ⟨e2, he2, hsh2⟩ := (hI.2.2 k _ tk).1
        obtain ⟨fs2, rfl, -⟩ := x_obj hsh2 h5
        refine fin (some k) hkr ?_
        rw [hkr]
        dsimp only [pm_step]
        rw [he]
        dsimp only
        rw [if_neg hbad, if_neg (by rw [(hI.cell tk).2.1]; decide), he2]
        dsimp only
        rw [if_pos ⟨h7, h6⟩, n2]
    · cases h
  · cases h
set_option maxHeartbeats 4000000 in
/-- the abstract step holds -/
theorem xs_step {i : Instr} (hT : x_wf tb) (hS : x_S tb th v (cs, lo, st, fa, nx) lv ws G) (h : x_step tb E m0 own nL i pc cs lo st fa nx = some out) : x_Go tb th E m0 own nL ini xs L J i pc v lv ws G out := by
  cases i
  case iconst => exact xs_iconst hS h
  case bipush => exact xs_bipush hS h
  case sipush => exact xs_sipush hS h
  case lconst => exact xs_lconst hS h
  case iload => exact xs_iload hS h
  case iload_n => exact xs_iload_n hS h
  case lload => exact xs_lload hS h
  case lload_n => exact xs_lload_n hS h
  case aload => exact xs_aload hS h
  case aload_n => exact xs_aload_n hS h
  case istore => exact xs_istore hS h
  case istore_n => exact xs_istore_n hS h
  case astore => exact xs_astore hS h
  case astore_n => exact xs_astore_n hS h
  case iinc => exact xs_iinc hS h
  case iadd => exact xs_iadd hS h
  case isub => exact xs_isub hS h
  case imul => exact xs_imul hS h
  case iand => exact xs_iand hS h
  case ior => exact xs_ior hS h
  case ixor => exact xs_ixor hS h
  case ishr => exact xs_ishr hS h
  case idiv => exact xs_idiv hS h
  case irem => exact xs_irem hS h
  case ishl => exact xs_ishl hS h
  case iushr => exact xs_iushr hS h
  case i2l => exact xs_i2l hS h
  case i2b => exact xs_i2b hS h
  case ladd => exact xs_ladd hS h
  case lmul => exact xs_lmul hS h
  case lor => exact xs_lor hS h
  case lshl => exact xs_lshl hS h
  case lcmp => exact xs_lcmp hS h
  case dup => exact xs_dup hS h
  case pop => exact xs_pop hS h
  case dup2 => exact xs_dup2 hS h
  case ifCond => exact xs_ifCond hS h
  case if_icmp => exact xs_if_icmp hS h
  case goto => exact xs_goto hS h
  case ldc => exact xs_ldc hS h
  case ldc_w => exact xs_ldc_w hS h
  case ldc2_w => exact xs_ldc2_w hS h
  case getstatic => exact xs_getstatic hS h
  case if_acmp => exact xs_if_acmp hS h
  case tableswitch => exact xs_tableswitch hS h
  case lookupswitch => exact xs_lookupswitch hS h
  case getfield => exact xs_getfield hS h
  case putfield => exact xs_putfield hS h
  case laload => exact xs_laload hS h
  case arraylength => exact xs_arraylength hS h
  case iastore => exact xs_iastore hS h
  case bastore => exact xs_bastore hS h
  case lastore => exact xs_lastore hS h
  case aastore => exact xs_aastore hS h
  case iaload => exact xs_iaload hT hS h
  case baload => exact xs_baload hT hS h
  case aaload => exact xs_aaload hT hS h
  all_goals cases h
end XF
