theorem x_shl1 {y : Int32} (h1 : 0 ≤ y.toInt) (h2 : y.toInt ≤ 7) : 1 ≤ ((1 : Int32) <<< (y &&& 31)).toInt ∧ ((1 : Int32) <<< (y &&& 31)).toInt ≤ 128 := by
  obtain ⟨n, n1, rfl, n3⟩ := x_of_nn h1
  have : n ≤ 7 := by omega
  rcases (show n = 0 ∨ n = 1 ∨ n = 2 ∨ n = 3 ∨ n = 4 ∨ n = 5 ∨ n = 6 ∨ n = 7 by omega) with rfl | rfl | rfl | rfl | rfl | rfl | rfl | rfl <;> decide
theorem x_ushr8 (x : Int32) : 0 ≤ (x.toUInt32 >>> ((8 : Int32).toUInt32 &&& Int32.toUInt32 31)).toInt32.toInt := by
  have e : ∀ z : Int32, z.toInt = z.toBitVec.toInt := fun _ => rfl
  have h := pk_ushr x 8 8 (by decide)
  have hl := x.toBitVec.isLt
  rw [e, BitVec.toInt_eq_toNat_cond, h, if_pos (by omega)]
  omega
-- ===== the abstract step holds: locals, stack, numbers, branches =====
section XD
variable {tb : Nat → xT} {th : List Nat} {E : List (Nat × Nat × Nat)} {m0 own nL pc : Nat} {ini : Bool} {xs : Nat → Int32} {L J : Nat} {v : Nat → Int} {cs : List xL} {lo : List (Nat × xV)} {st : List xV} {fa : List xA} {nx : Nat} {lv : pL} {ws : List Value} {G : List pE} {out : List (Nat × xG)}
set_option maxHeartbeats 1000000 in
theorem xs_iconst {k : Int} (hS : x_S tb th v (cs, lo, st, fa, nx) lv ws G) (h : x_step tb E m0 own nL (.iconst k) pc cs lo st fa nx = some out) : x_Go tb th E m0 own nL ini xs L J (.iconst k) pc v lv ws G out := by
  obtain ⟨hB, hC, hlo, hst, hfa, hI⟩ := id hS
  have hC : x_Cs cs v := hC
  dsimp only [x_step] at h
  cases h
  exact ⟨_, List.mem_singleton.mpr rfl, v, lv, _, G, x_ag.rf, rfl, x_psh hS ⟨_, rfl, by rw [xl_c_ev]⟩ hst, x_eff.rf⟩
set_option maxHeartbeats 1000000 in
theorem xs_bipush {k : Int} (hS : x_S tb th v (cs, lo, st, fa, nx) lv ws G) (h : x_step tb E m0 own nL (.bipush k) pc cs lo st fa nx = some out) : x_Go tb th E m0 own nL ini xs L J (.bipush k) pc v lv ws G out := by
  obtain ⟨hB, hC, hlo, hst, hfa, hI⟩ := id hS
  have hC : x_Cs cs v := hC
  dsimp only [x_step] at h
  cases h
  exact ⟨_, List.mem_singleton.mpr rfl, v, lv, _, G, x_ag.rf, rfl, x_psh hS ⟨_, rfl, by rw [xl_c_ev]⟩ hst, x_eff.rf⟩
set_option maxHeartbeats 1000000 in
theorem xs_sipush {k : Int} (hS : x_S tb th v (cs, lo, st, fa, nx) lv ws G) (h : x_step tb E m0 own nL (.sipush k) pc cs lo st fa nx = some out) : x_Go tb th E m0 own nL ini xs L J (.sipush k) pc v lv ws G out := by
  obtain ⟨hB, hC, hlo, hst, hfa, hI⟩ := id hS
  have hC : x_Cs cs v := hC
  dsimp only [x_step] at h
  cases h
  exact ⟨_, List.mem_singleton.mpr rfl, v, lv, _, G, x_ag.rf, rfl, x_psh hS ⟨_, rfl, by rw [xl_c_ev]⟩ hst, x_eff.rf⟩
set_option maxHeartbeats 1000000 in
theorem xs_lconst {k : Fin 2} (hS : x_S tb th v (cs, lo, st, fa, nx) lv ws G) (h : x_step tb E m0 own nL (.lconst k) pc cs lo st fa nx = some out) : x_Go tb th E m0 own nL ini xs L J (.lconst k) pc v lv ws G out := by
  obtain ⟨hB, hC, hlo, hst, hfa, hI⟩ := id hS
  have hC : x_Cs cs v := hC
  dsimp only [x_step] at h
  cases h
  exact ⟨_, List.mem_singleton.mpr rfl, v, lv, _, G, x_ag.rf, rfl, x_psh hS ⟨_, rfl⟩ hst, x_eff.rf⟩
set_option maxHeartbeats 1000000 in
theorem xs_iload {k : Nat} (hS : x_S tb th v (cs, lo, st, fa, nx) lv ws G) (h : x_step tb E m0 own nL (.iload k) pc cs lo st fa nx = some out) : x_Go tb th E m0 own nL ini xs L J (.iload k) pc v lv ws G out := by
  obtain ⟨hB, hC, hlo, hst, hfa, hI⟩ := id hS
  have hC : x_Cs cs v := hC
  dsimp only [x_step] at h
  split at h
  · rename_i l hg
    cases h
    obtain ⟨w, hw, gw⟩ := x_lget_ok hg hlo
    obtain ⟨x, rfl, ex⟩ := x_g0 gw
    exact ⟨_, List.mem_singleton.mpr rfl, v, lv, _, G, x_ag.rf, by dsimp only [pm_step]; rw [hw], x_psh hS gw hst, x_eff.rf⟩
  · cases h
set_option maxHeartbeats 1000000 in
theorem xs_iload_n {k : Fin 4} (hS : x_S tb th v (cs, lo, st, fa, nx) lv ws G) (h : x_step tb E m0 own nL (.iload_n k) pc cs lo st fa nx = some out) : x_Go tb th E m0 own nL ini xs L J (.iload_n k) pc v lv ws G out := by
  obtain ⟨hB, hC, hlo, hst, hfa, hI⟩ := id hS
  have hC : x_Cs cs v := hC
  dsimp only [x_step] at h
  split at h
  · rename_i l hg
    cases h
    obtain ⟨w, hw, gw⟩ := x_lget_ok hg hlo
    obtain ⟨x, rfl, ex⟩ := x_g0 gw
    exact ⟨_, List.mem_singleton.mpr rfl, v, lv, _, G, x_ag.rf, by dsimp only [pm_step]; rw [hw], x_psh hS gw hst, x_eff.rf⟩
  · cases h
set_option maxHeartbeats 1000000 in
theorem xs_lload {k : Nat} (hS : x_S tb th v (cs, lo, st, fa, nx) lv ws G) (h : x_step tb E m0 own nL (.lload k) pc cs lo st fa nx = some out) : x_Go tb th E m0 own nL ini xs L J (.lload k) pc v lv ws G out := by
  obtain ⟨hB, hC, hlo, hst, hfa, hI⟩ := id hS
  have hC : x_Cs cs v := hC
  dsimp only [x_step] at h
  split at h
  · rename_i l hg
    cases h
    obtain ⟨w, hw, gw⟩ := x_lget_ok hg hlo
    obtain ⟨x, rfl⟩ := gw
    exact ⟨_, List.mem_singleton.mpr rfl, v, lv, _, G, x_ag.rf, by dsimp only [pm_step]; rw [hw], x_psh hS ⟨x, rfl⟩ hst, x_eff.rf⟩
  · cases h
set_option maxHeartbeats 1000000 in
theorem xs_lload_n {k : Fin 4} (hS : x_S tb th v (cs, lo, st, fa, nx) lv ws G) (h : x_step tb E m0 own nL (.lload_n k) pc cs lo st fa nx = some out) : x_Go tb th E m0 own nL ini xs L J (.lload_n k) pc v lv ws G out := by
  obtain ⟨hB, hC, hlo, hst, hfa, hI⟩ := id hS
  have hC : x_Cs cs v := hC
  dsimp only [x_step] at h
  split at h
  · rename_i l hg
    cases h
    obtain ⟨w, hw, gw⟩ := x_lget_ok hg hlo
    obtain ⟨x, rfl⟩ := gw
    exact ⟨_, List.mem_singleton.mpr rfl, v, lv, _, G, x_ag.rf, by dsimp only [pm_step]; rw [hw], x_psh hS ⟨x, rfl⟩ hst, x_eff.rf⟩
  · cases h
set_option maxHeartbeats 1000000 in
theorem xs_aload {k : Nat} (hS : x_S tb th v (cs, lo, st, fa, nx) lv ws G) (h : x_step tb E m0 own nL (.aload k) pc cs lo st fa nx = some out) : x_Go tb th E m0 own nL ini xs L J (.aload k) pc v lv ws G out := by
  obtain ⟨hB, hC, hlo, hst, hfa, hI⟩ := id hS
  have hC : x_Cs cs v := hC
  dsimp only [x_step] at h
  split at h
  · rename_i a hg
    split at h
    · rename_i h3
      cases h
      obtain ⟨w, hw, gw⟩ := x_lget_ok hg hlo
      rcases x_g_ref gw h3 with ⟨b, rfl⟩ | rfl
      · exact ⟨_, List.mem_singleton.mpr rfl, v, lv, _, G, x_ag.rf, by dsimp only [pm_step]; rw [hw], x_psh hS gw hst, x_eff.rf⟩
      · exact ⟨_, List.mem_singleton.mpr rfl, v, lv, _, G, x_ag.rf, by dsimp only [pm_step]; rw [hw], x_psh hS gw hst, x_eff.rf⟩
    · cases h
  · cases h
set_option maxHeartbeats 1000000 in
theorem xs_aload_n {k : Fin 4} (hS : x_S tb th v (cs, lo, st, fa, nx) lv ws G) (h : x_step tb E m0 own nL (.aload_n k) pc cs lo st fa nx = some out) : x_Go tb th E m0 own nL ini xs L J (.aload_n k) pc v lv ws G out := by
  obtain ⟨hB, hC, hlo, hst, hfa, hI⟩ := id hS
  have hC : x_Cs cs v := hC
  dsimp only [x_step] at h
  split at h
  · rename_i a hg
    split at h
    · rename_i h3
      cases h
      obtain ⟨w, hw, gw⟩ := x_lget_ok hg hlo
      rcases x_g_ref gw h3 with ⟨b, rfl⟩ | rfl
      · exact ⟨_, List.mem_singleton.mpr rfl, v, lv, _, G, x_ag.rf, by dsimp only [pm_step]; rw [hw], x_psh hS gw hst, x_eff.rf⟩
      · exact ⟨_, List.mem_singleton.mpr rfl, v, lv, _, G, x_ag.rf, by dsimp only [pm_step]; rw [hw], x_psh hS gw hst, x_eff.rf⟩
    · cases h
  · cases h
set_option maxHeartbeats 1000000 in
theorem xs_istore {k : Nat} (hS : x_S tb th v (cs, lo, st, fa, nx) lv ws G) (h : x_step tb E m0 own nL (.istore k) pc cs lo st fa nx = some out) : x_Go tb th E m0 own nL ini xs L J (.istore k) pc v lv ws G out := by
  obtain ⟨hB, hC, hlo, hst, hfa, hI⟩ := id hS
  have hC : x_Cs cs v := hC
  dsimp only [x_step] at h
  split at h
  · split at h
    · rename_i hk
      cases h
      obtain ⟨w1, r1, rfl, g1, hs1⟩ := x_gs_cons hst
      obtain ⟨x, rfl, ex⟩ := x_g0 g1
      exact ⟨_, List.mem_singleton.mpr rfl, v, _, _, G, x_ag.rf, by dsimp only [pm_step]; rw [if_pos hk], ⟨hB, hC, x_lput_ok hlo g1, hs1, hfa, hI⟩, x_eff.rf⟩
    · cases h
  · cases h
set_option maxHeartbeats 1000000 in
theorem xs_istore_n {k : Fin 4} (hS : x_S tb th v (cs, lo, st, fa, nx) lv ws G) (h : x_step tb E m0 own nL (.istore_n k) pc cs lo st fa nx = some out) : x_Go tb th E m0 own nL ini xs L J (.istore_n k) pc v lv ws G out := by
  obtain ⟨hB, hC, hlo, hst, hfa, hI⟩ := id hS
  have hC : x_Cs cs v := hC
  dsimp only [x_step] at h
  split at h
  · split at h
    · rename_i hk
      cases h
      obtain ⟨w1, r1, rfl, g1, hs1⟩ := x_gs_cons hst
      obtain ⟨x, rfl, ex⟩ := x_g0 g1
      exact ⟨_, List.mem_singleton.mpr rfl, v, _, _, G, x_ag.rf, by dsimp only [pm_step]; rw [if_pos hk], ⟨hB, hC, x_lput_ok hlo g1, hs1, hfa, hI⟩, x_eff.rf⟩
    · cases h
  · cases h
set_option maxHeartbeats 1000000 in
theorem xs_astore {k : Nat} (hS : x_S tb th v (cs, lo, st, fa, nx) lv ws G) (h : x_step tb E m0 own nL (.astore k) pc cs lo st fa nx = some out) : x_Go tb th E m0 own nL ini xs L J (.astore k) pc v lv ws G out := by
  obtain ⟨hB, hC, hlo, hst, hfa, hI⟩ := id hS
  have hC : x_Cs cs v := hC
  dsimp only [x_step] at h
  split at h
  · split at h
    · rename_i hk
      cases h
      obtain ⟨w1, r1, rfl, g1, hs1⟩ := x_gs_cons hst
      rcases x_g_ref g1 hk.2 with ⟨b, rfl⟩ | rfl
      · exact ⟨_, List.mem_singleton.mpr rfl, v, _, _, G, x_ag.rf, by dsimp only [pm_step]; rw [if_pos hk.1], ⟨hB, hC, x_lput_ok hlo g1, hs1, hfa, hI⟩, x_eff.rf⟩
      · exact ⟨_, List.mem_singleton.mpr rfl, v, _, _, G, x_ag.rf, by dsimp only [pm_step]; rw [if_pos hk.1], ⟨hB, hC, x_lput_ok hlo g1, hs1, hfa, hI⟩, x_eff.rf⟩
    · cases h
  · cases h
set_option maxHeartbeats 1000000 in
theorem xs_astore_n {k : Fin 4} (hS : x_S tb th v (cs, lo, st, fa, nx) lv ws G) (h : x_step tb E m0 own nL (.astore_n k) pc cs lo st fa nx = some out) : x_Go tb th E m0 own nL ini xs L J (.astore_n k) pc v lv ws G out := by
  obtain ⟨hB, hC, hlo, hst, hfa, hI⟩ := id hS
  have hC : x_Cs cs v := hC
  dsimp only [x_step] at h
  split at h
  · split at h
    · rename_i hk
      cases h
      obtain ⟨w1, r1, rfl, g1, hs1⟩ := x_gs_cons hst
      rcases x_g_ref g1 hk.2 with ⟨b, rfl⟩ | rfl
      · exact ⟨_, List.mem_singleton.mpr rfl, v, _, _, G, x_ag.rf, by dsimp only [pm_step]; rw [if_pos hk.1], ⟨hB, hC, x_lput_ok hlo g1, hs1, hfa, hI⟩, x_eff.rf⟩
      · exact ⟨_, List.mem_singleton.mpr rfl, v, _, _, G, x_ag.rf, by dsimp only [pm_step]; rw [if_pos hk.1], ⟨hB, hC, x_lput_ok hlo g1, hs1, hfa, hI⟩, x_eff.rf⟩
    · cases h
  · cases h
set_option maxHeartbeats 1000000 in
theorem xs_iinc {k : Nat} {j : Int} (hS : x_S tb th v (cs, lo, st, fa, nx) lv ws G) (h : x_step tb E m0 own nL (.iinc k j) pc cs lo st fa nx = some out) : x_Go tb th E m0 own nL ini xs L J (.iinc k j) pc v lv ws G out := by
  obtain ⟨hB, hC, hlo, hst, hfa, hI⟩ := id hS
  have hC : x_Cs cs v := hC
  dsimp only [x_step] at h
  split at h
  · rename_i l hg
    obtain ⟨w, hw, gw⟩ := x_lget_ok hg hlo
    obtain ⟨x, rfl, ex⟩ := x_g0 gw
    split at h
    · rename_i hk
      split at h
      · rename_i hr
        cases h
        obtain ⟨r1, r2⟩ := x_rng_ok hB hC hr
        have e1 : (x + Int32.ofInt j).toInt = xl_ev (xl_add l (xl_c (Int32.ofInt j).toInt)) v := by
          rw [xl_add_ev, xl_c_ev] at r1 r2 ⊢
          rw [Int32.toInt_add, ex, Jvm.Kit.bmod32 r1 r2]
        exact ⟨_, List.mem_singleton.mpr rfl, v, _, _, G, x_ag.rf, by dsimp only [pm_step]; rw [hw]; dsimp only; rw [if_pos hk], ⟨hB, hC, x_lput_ok (w := .int (x + Int32.ofInt j)) hlo ⟨_, rfl, e1⟩, hst, hfa, hI⟩, x_eff.rf⟩
      · split at h
        · rename_i hh
          cases h
          obtain ⟨b1, b2⟩ := x_i32 (x + Int32.ofInt j)
          obtain ⟨a1, a2, a3, a4, a5, a6⟩ := x_S_up (i := nx) (x := (x + Int32.ofInt j).toInt) hS hh.2 b1 b2
          exact ⟨_, List.mem_singleton.mpr rfl, _, _, _, G, x_ag.up hh.1, by dsimp only [pm_step]; rw [hw]; dsimp only; rw [if_pos hk], ⟨a1, a2, x_lput_ok (w := .int (x + Int32.ofInt j)) a3 ⟨_, rfl, by rw [xl_s_ev]; simp [x_up]⟩, a4, a5, a6⟩, x_eff.rf⟩
        · cases h
    · cases h
  · cases h
set_option maxHeartbeats 1000000 in
theorem xs_iadd  (hS : x_S tb th v (cs, lo, st, fa, nx) lv ws G) (h : x_step tb E m0 own nL (.iadd) pc cs lo st fa nx = some out) : x_Go tb th E m0 own nL ini xs L J (.iadd) pc v lv ws G out := by
  obtain ⟨hB, hC, hlo, hst, hfa, hI⟩ := id hS
  have hC : x_Cs cs v := hC
  dsimp only [x_step] at h
  split at h
  · rename_i ly lx r
    obtain ⟨w1, r1, rfl, g1, hs1⟩ := x_gs_cons hst
    obtain ⟨w2, r2, rfl, g2, hs2⟩ := x_gs_cons hs1
    obtain ⟨y, rfl, ey⟩ := x_g0 g1
    obtain ⟨x, rfl, ex⟩ := x_g0 g2
    split at h
    · rename_i hr
      cases h
      obtain ⟨b1, b2⟩ := x_rng_ok hB hC hr
      rw [xl_add_ev] at b1 b2
      exact ⟨_, List.mem_singleton.mpr rfl, v, lv, _, G, x_ag.rf, rfl, x_psh hS ⟨_, rfl, by rw [Int32.toInt_add, ex, ey, xl_add_ev, Jvm.Kit.bmod32 b1 b2]⟩ hs2, x_eff.rf⟩
    · obtain ⟨q, q1, v', q2, q3, q4⟩ := x_hv_ok (rest := r2) hS h (x + y) (fun v' hS' hv' => ⟨fun c hc => absurd hc List.not_mem_nil, hS'.2.2.2.1.2.2⟩)
      exact ⟨q, q1, v', lv, _, G, q2, by rw [q3]; rfl, q4, x_eff.rf⟩
  · cases h
set_option maxHeartbeats 1000000 in
theorem xs_isub  (hS : x_S tb th v (cs, lo, st, fa, nx) lv ws G) (h : x_step tb E m0 own nL (.isub) pc cs lo st fa nx = some out) : x_Go tb th E m0 own nL ini xs L J (.isub) pc v lv ws G out := by
  obtain ⟨hB, hC, hlo, hst, hfa, hI⟩ := id hS
  have hC : x_Cs cs v := hC
  dsimp only [x_step] at h
  split at h
  · rename_i ly lx r
    obtain ⟨w1, r1, rfl, g1, hs1⟩ := x_gs_cons hst
    obtain ⟨w2, r2, rfl, g2, hs2⟩ := x_gs_cons hs1
    obtain ⟨y, rfl, ey⟩ := x_g0 g1
    obtain ⟨x, rfl, ex⟩ := x_g0 g2
    split at h
    · rename_i hr
      cases h
      obtain ⟨b1, b2⟩ := x_rng_ok hB hC hr
      rw [xl_sub_ev] at b1 b2
      exact ⟨_, List.mem_singleton.mpr rfl, v, lv, _, G, x_ag.rf, rfl, x_psh hS ⟨_, rfl, by rw [Int32.toInt_sub, ex, ey, xl_sub_ev, Jvm.Kit.bmod32 b1 b2]⟩ hs2, x_eff.rf⟩
    · obtain ⟨q, q1, v', q2, q3, q4⟩ := x_hv_ok (rest := r2) hS h (x - y) (fun v' hS' hv' => ⟨fun c hc => absurd hc List.not_mem_nil, hS'.2.2.2.1.2.2⟩)
      exact ⟨q, q1, v', lv, _, G, q2, by rw [q3]; rfl, q4, x_eff.rf⟩
  · cases h
set_option maxHeartbeats 1000000 in
theorem xs_imul  (hS : x_S tb th v (cs, lo, st, fa, nx) lv ws G) (h : x_step tb E m0 own nL (.imul) pc cs lo st fa nx = some out) : x_Go tb th E m0 own nL ini xs L J (.imul) pc v lv ws G out := by
  obtain ⟨hB, hC, hlo, hst, hfa, hI⟩ := id hS
  have hC : x_Cs cs v := hC
  dsimp only [x_step] at h
  split at h
  · rename_i ly lx r
    obtain ⟨w1, r1, rfl, g1, hs1⟩ := x_gs_cons hst
    obtain ⟨w2, r2, rfl, g2, hs2⟩ := x_gs_cons hs1
    obtain ⟨y, rfl, ey⟩ := x_g0 g1
    obtain ⟨x, rfl, ex⟩ := x_g0 g2
    split at h
    · rename_i hr
      cases h
      obtain ⟨b1, b2⟩ := x_rng_ok hB hC hr.2
      rw [xl_mul_ev] at b1 b2
      have hx2 : xl_ev lx v = lx.2 := by unfold xl_ev; rw [hr.1]; simp [xt_ev]
      exact ⟨_, List.mem_singleton.mpr rfl, v, lv, _, G, x_ag.rf, rfl, x_psh hS ⟨_, rfl, by rw [Int32.toInt_mul, ex, ey, xl_mul_ev, hx2, Jvm.Kit.bmod32 b1 b2]⟩ hs2, x_eff.rf⟩
    · split at h
      · rename_i hr
        cases h
        obtain ⟨b1, b2⟩ := x_rng_ok hB hC hr.2
        rw [xl_mul_ev, Int.mul_comm] at b1 b2
        have hy2 : xl_ev ly v = ly.2 := by unfold xl_ev; rw [hr.1]; simp [xt_ev]
        exact ⟨_, List.mem_singleton.mpr rfl, v, lv, _, G, x_ag.rf, rfl, x_psh hS ⟨_, rfl, by rw [Int32.toInt_mul, ex, ey, xl_mul_ev, hy2, Jvm.Kit.bmod32 b1 b2, Int.mul_comm]⟩ hs2, x_eff.rf⟩
      · obtain ⟨q, q1, v', q2, q3, q4⟩ := x_hv_ok (rest := r2) hS h (x * y) (fun v' hS' hv' => ⟨fun c hc => absurd hc List.not_mem_nil, hS'.2.2.2.1.2.2⟩)
        exact ⟨q, q1, v', lv, _, G, q2, by rw [q3]; rfl, q4, x_eff.rf⟩
  · cases h
set_option maxHeartbeats 1000000 in
theorem xs_iand  (hS : x_S tb th v (cs, lo, st, fa, nx) lv ws G) (h : x_step tb E m0 own nL (.iand) pc cs lo st fa nx = some out) : x_Go tb th E m0 own nL ini xs L J (.iand) pc v lv ws G out := by
  obtain ⟨hB, hC, hlo, hst, hfa, hI⟩ := id hS
  have hC : x_Cs cs v := hC
  dsimp only [x_step] at h
  split at h
  · rename_i ly lx r
    obtain ⟨w1, r1, rfl, g1, hs1⟩ := x_gs_cons hst
    obtain ⟨w2, r2, rfl, g2, hs2⟩ := x_gs_cons hs1
    obtain ⟨y, rfl, ey⟩ := x_g0 g1
    obtain ⟨x, rfl, ex⟩ := x_g0 g2
    split at h
    · rename_i hy0
      have k1 := x_ent_ok hB hC hy0
      have k2 := x_and_le (x := x) (y := y) (by omega)
      refine (?_ : ∃ q ∈ out, ∃ v', x_ag m0 v v' ∧ q.1 = pc + 1 ∧ x_S tb th v' q.2 lv (.int (x &&& y) :: r2) G).elim (fun q hq => ?_)
      · refine x_hv_ok hS h (x &&& y) (fun v' hS' hv' => ⟨?_, hS'.2.2.2.1.2.2⟩)
        obtain ⟨y', hy', ey'⟩ := x_g0 hS'.2.2.2.1.1
        obtain ⟨x', hx', ex'⟩ := x_g0 hS'.2.2.2.1.2.1
        cases hy'
        cases hx'
        intro c hc
        rcases List.mem_cons.mp hc with rfl | hc
        · rw [xl_s_ev, hv']; exact k2.1
        · rw [List.mem_singleton.mp hc]
          rw [xl_sub_ev, xl_s_ev, hv']; omega
      · obtain ⟨q1, v', q2, q3, q4⟩ := hq
        exact ⟨q, q1, v', lv, _, G, q2, by rw [q3]; rfl, q4, x_eff.rf⟩
    · split at h
      · rename_i hx0
        have k1 := x_ent_ok hB hC hx0
        have k2 := x_and_le (x := y) (y := x) (by omega)
        rw [x_and_comm] at k2
        refine (?_ : ∃ q ∈ out, ∃ v', x_ag m0 v v' ∧ q.1 = pc + 1 ∧ x_S tb th v' q.2 lv (.int (x &&& y) :: r2) G).elim (fun q hq => ?_)
        · refine x_hv_ok hS h (x &&& y) (fun v' hS' hv' => ⟨?_, hS'.2.2.2.1.2.2⟩)
          obtain ⟨y', hy', ey'⟩ := x_g0 hS'.2.2.2.1.1
          obtain ⟨x', hx', ex'⟩ := x_g0 hS'.2.2.2.1.2.1
          cases hy'
          cases hx'
          intro c hc
          rcases List.mem_cons.mp hc with rfl | hc
          · rw [xl_s_ev, hv']; exact k2.1
          · rw [List.mem_singleton.mp hc]
            rw [xl_sub_ev, xl_s_ev, hv']; omega
        · obtain ⟨q1, v', q2, q3, q4⟩ := hq
          exact ⟨q, q1, v', lv, _, G, q2, by rw [q3]; rfl, q4, x_eff.rf⟩
      · obtain ⟨q, q1, v', q2, q3, q4⟩ := x_hv_ok (rest := r2) hS h (x &&& y) (fun v' hS' hv' => ⟨fun c hc => absurd hc List.not_mem_nil, hS'.2.2.2.1.2.2⟩)
        exact ⟨q, q1, v', lv, _, G, q2, by rw [q3]; rfl, q4, x_eff.rf⟩
  · cases h
set_option maxHeartbeats 1000000 in
theorem xs_ior  (hS : x_S tb th v (cs, lo, st, fa, nx) lv ws G) (h : x_step tb E m0 own nL (.ior) pc cs lo st fa nx = some out) : x_Go tb th E m0 own nL ini xs L J (.ior) pc v lv ws G out := by
  obtain ⟨hB, hC, hlo, hst, hfa, hI⟩ := id hS
  have hC : x_Cs cs v := hC
  dsimp only [x_step] at h
  split at h
  · rename_i ly lx r
    obtain ⟨w1, r1, rfl, g1, hs1⟩ := x_gs_cons hst
    obtain ⟨w2, r2, rfl, g2, hs2⟩ := x_gs_cons hs1
    obtain ⟨y, rfl, ey⟩ := x_g0 g1
    obtain ⟨x, rfl, ex⟩ := x_g0 g2
    split at h
    · rename_i hh
      simp only [Bool.and_eq_true] at hh
      have k1 := x_ent_ok hB hC hh.1.1.1
      have k2 := x_ent_ok hB hC hh.1.1.2
      have k3 := x_ent_ok hB hC hh.1.2
      have k4 := x_ent_ok hB hC hh.2
      rw [xl_sub_ev, xl_c_ev] at k3 k4
      have k5 := x_or255 (x := x) (y := y) (by omega) (by omega)
      refine (?_ : ∃ q ∈ out, ∃ v', x_ag m0 v v' ∧ q.1 = pc + 1 ∧ x_S tb th v' q.2 lv (.int (x ||| y) :: r2) G).elim (fun q hq => ?_)
      · refine x_hv_ok hS h (x ||| y) (fun v' hS' hv' => ⟨?_, hS'.2.2.2.1.2.2⟩)
        obtain ⟨y', hy', ey'⟩ := x_g0 hS'.2.2.2.1.1
        obtain ⟨x', hx', ex'⟩ := x_g0 hS'.2.2.2.1.2.1
        cases hy'
        cases hx'
        intro c hc
        rcases List.mem_cons.mp hc with rfl | hc
        · rw [xl_s_ev, hv']; exact k5.1
        · rw [List.mem_singleton.mp hc]
          rw [xl_sub_ev, xl_s_ev, xl_c_ev, hv']; omega
      · obtain ⟨q1, v', q2, q3, q4⟩ := hq
        exact ⟨q, q1, v', lv, _, G, q2, by rw [q3]; rfl, q4, x_eff.rf⟩
    · obtain ⟨q, q1, v', q2, q3, q4⟩ := x_hv_ok (rest := r2) hS h (x ||| y) (fun v' hS' hv' => ⟨fun c hc => absurd hc List.not_mem_nil, hS'.2.2.2.1.2.2⟩)
      exact ⟨q, q1, v', lv, _, G, q2, by rw [q3]; rfl, q4, x_eff.rf⟩
  · cases h
set_option maxHeartbeats 1000000 in
theorem xs_ixor  (hS : x_S tb th v (cs, lo, st, fa, nx) lv ws G) (h : x_step tb E m0 own nL (.ixor) pc cs lo st fa nx = some out) : x_Go tb th E m0 own nL ini xs L J (.ixor) pc v lv ws G out := by
  obtain ⟨hB, hC, hlo, hst, hfa, hI⟩ := id hS
  have hC : x_Cs cs v := hC
  dsimp only [x_step] at h
  split at h
  · rename_i ly lx r
    obtain ⟨w1, r1, rfl, g1, hs1⟩ := x_gs_cons hst
    obtain ⟨w2, r2, rfl, g2, hs2⟩ := x_gs_cons hs1
    obtain ⟨y, rfl, ey⟩ := x_g0 g1
    obtain ⟨x, rfl, ex⟩ := x_g0 g2
    obtain ⟨q, q1, v', q2, q3, q4⟩ := x_hv_ok (rest := r2) hS h (x ^^^ y) (fun v' hS' hv' => ⟨fun c hc => absurd hc List.not_mem_nil, hS'.2.2.2.1.2.2⟩)
    exact ⟨q, q1, v', lv, _, G, q2, by rw [q3]; rfl, q4, x_eff.rf⟩
  · cases h
set_option maxHeartbeats 1000000 in
theorem xs_ishr  (hS : x_S tb th v (cs, lo, st, fa, nx) lv ws G) (h : x_step tb E m0 own nL (.ishr) pc cs lo st fa nx = some out) : x_Go tb th E m0 own nL ini xs L J (.ishr) pc v lv ws G out := by
  obtain ⟨hB, hC, hlo, hst, hfa, hI⟩ := id hS
  have hC : x_Cs cs v := hC
  dsimp only [x_step] at h
  split at h
  · rename_i ly lx r
    obtain ⟨w1, r1, rfl, g1, hs1⟩ := x_gs_cons hst
    obtain ⟨w2, r2, rfl, g2, hs2⟩ := x_gs_cons hs1
    obtain ⟨y, rfl, ey⟩ := x_g0 g1
    obtain ⟨x, rfl, ex⟩ := x_g0 g2
    obtain ⟨q, q1, v', q2, q3, q4⟩ := x_hv_ok (rest := r2) hS h (x >>> (y &&& 31)) (fun v' hS' hv' => ⟨fun c hc => absurd hc List.not_mem_nil, hS'.2.2.2.1.2.2⟩)
    exact ⟨q, q1, v', lv, _, G, q2, by rw [q3]; rfl, q4, x_eff.rf⟩
  · cases h
set_option maxHeartbeats 1000000 in
theorem xs_idiv  (hS : x_S tb th v (cs, lo, st, fa, nx) lv ws G) (h : x_step tb E m0 own nL (.idiv) pc cs lo st fa nx = some out) : x_Go tb th E m0 own nL ini xs L J (.idiv) pc v lv ws G out := by
  obtain ⟨hB, hC, hlo, hst, hfa, hI⟩ := id hS
  have hC : x_Cs cs v := hC
  dsimp only [x_step] at h
  split at h
  · rename_i ly lx r
    obtain ⟨w1, r1, rfl, g1, hs1⟩ := x_gs_cons hst
    obtain ⟨w2, r2, rfl, g2, hs2⟩ := x_gs_cons hs1
    obtain ⟨y, rfl, ey⟩ := x_g0 g1
    obtain ⟨x, rfl, ex⟩ := x_g0 g2
    split at h
    · rename_i hz
      have k0 := x_ent_ok hB hC hz
      rw [xl_add_ev, xl_c_ev] at k0
      have hne : ¬ y = 0 := fun z => by rw [z] at ey; have : (0 : Int32).toInt = 0 := rfl; omega
      obtain ⟨q, q1, v', q2, q3, q4⟩ := x_hv_ok (rest := r2) hS h (x / y) (fun v' hS' hv' => ⟨fun c hc => absurd hc List.not_mem_nil, hS'.2.2.2.1.2.2⟩)
      exact ⟨q, q1, v', lv, _, G, q2, by rw [q3]; dsimp only [pm_step]; rw [if_neg hne], q4, x_eff.rf⟩
    · cases h
  · cases h
set_option maxHeartbeats 1000000 in
theorem xs_irem  (hS : x_S tb th v (cs, lo, st, fa, nx) lv ws G) (h : x_step tb E m0 own nL (.irem) pc cs lo st fa nx = some out) : x_Go tb th E m0 own nL ini xs L J (.irem) pc v lv ws G out := by
  obtain ⟨hB, hC, hlo, hst, hfa, hI⟩ := id hS
  have hC : x_Cs cs v := hC
  dsimp only [x_step] at h
  split at h
  · rename_i ly lx r
    obtain ⟨w1, r1, rfl, g1, hs1⟩ := x_gs_cons hst
    obtain ⟨w2, r2, rfl, g2, hs2⟩ := x_gs_cons hs1
    obtain ⟨y, rfl, ey⟩ := x_g0 g1
    obtain ⟨x, rfl, ex⟩ := x_g0 g2
    split at h
    · rename_i hz
      have k0 := x_ent_ok hB hC hz
      rw [xl_add_ev, xl_c_ev] at k0
      have hne : ¬ y = 0 := fun z => by rw [z] at ey; have : (0 : Int32).toInt = 0 := rfl; omega
      split at h
      · rename_i hx0
        have k1 := x_ent_ok hB hC hx0
        have k2 := x_rem_le (x := x) (y := y) (by omega) (by omega)
        refine (?_ : ∃ q ∈ out, ∃ v', x_ag m0 v v' ∧ q.1 = pc + 1 ∧ x_S tb th v' q.2 lv (.int (x - x / y * y) :: r2) G).elim (fun q hq => ?_)
        · refine x_hv_ok hS h (x - x / y * y) (fun v' hS' hv' => ⟨?_, hS'.2.2.2.1.2.2⟩)
          obtain ⟨y', hy', ey'⟩ := x_g0 hS'.2.2.2.1.1
          obtain ⟨x', hx', ex'⟩ := x_g0 hS'.2.2.2.1.2.1
          cases hy'
          cases hx'
          intro c hc
          rcases List.mem_cons.mp hc with rfl | hc
          · rw [xl_s_ev, hv']; exact k2.1
          · rw [List.mem_singleton.mp hc]
            rw [xl_sub_ev, xl_s_ev, xl_add_ev, xl_c_ev, hv']; omega
        · obtain ⟨q1, v', q2, q3, q4⟩ := hq
          exact ⟨q, q1, v', lv, _, G, q2, by rw [q3]; dsimp only [pm_step]; rw [if_neg hne], q4, x_eff.rf⟩
      · obtain ⟨q, q1, v', q2, q3, q4⟩ := x_hv_ok (rest := r2) hS h (x - x / y * y) (fun v' hS' hv' => ⟨fun c hc => absurd hc List.not_mem_nil, hS'.2.2.2.1.2.2⟩)
        exact ⟨q, q1, v', lv, _, G, q2, by rw [q3]; dsimp only [pm_step]; rw [if_neg hne], q4, x_eff.rf⟩
    · cases h
  · cases h
set_option maxHeartbeats 1000000 in
theorem xs_ishl  (hS : x_S tb th v (cs, lo, st, fa, nx) lv ws G) (h : x_step tb E m0 own nL (.ishl) pc cs lo st fa nx = some out) : x_Go tb th E m0 own nL ini xs L J (.ishl) pc v lv ws G out := by
  obtain ⟨hB, hC, hlo, hst, hfa, hI⟩ := id hS
  have hC : x_Cs cs v := hC
  dsimp only [x_step] at h
  split at h
  · rename_i ly lx r
    obtain ⟨w1, r1, rfl, g1, hs1⟩ := x_gs_cons hst
    obtain ⟨w2, r2, rfl, g2, hs2⟩ := x_gs_cons hs1
    obtain ⟨y, rfl, ey⟩ := x_g0 g1
    obtain ⟨x, rfl, ex⟩ := x_g0 g2
    split at h
    · rename_i hh
      have k1 := x_ent_ok hB hC hh.2.1
      have k2 := x_ent_ok hB hC hh.2.2
      rw [xl_sub_ev, xl_c_ev] at k2
      rw [hh.1, xl_c_ev] at ex
      obtain rfl : x = 1 := Int32.toInt_inj.mp ex
      have k3 := x_shl1 (y := y) (by omega) (by omega)
      refine (?_ : ∃ q ∈ out, ∃ v', x_ag m0 v v' ∧ q.1 = pc + 1 ∧ x_S tb th v' q.2 lv (.int (1 <<< (y &&& 31)) :: r2) G).elim (fun q hq => ?_)
      · refine x_hv_ok hS h (1 <<< (y &&& 31)) (fun v' hS' hv' => ⟨?_, hS'.2.2.2.1.2.2⟩)
        obtain ⟨y', hy', ey'⟩ := x_g0 hS'.2.2.2.1.1
        obtain ⟨x', hx', ex'⟩ := x_g0 hS'.2.2.2.1.2.1
        cases hy'
        cases hx'
        intro c hc
        rcases List.mem_cons.mp hc with rfl | hc
        · rw [xl_add_ev, xl_s_ev, xl_c_ev, hv']; omega
        · rw [List.mem_singleton.mp hc]
          rw [xl_sub_ev, xl_s_ev, xl_c_ev, hv']; omega
      · obtain ⟨q1, v', q2, q3, q4⟩ := hq
        exact ⟨q, q1, v', lv, _, G, q2, by rw [q3]; rfl, q4, x_eff.rf⟩
    · obtain ⟨q, q1, v', q2, q3, q4⟩ := x_hv_ok (rest := r2) hS h (x <<< (y &&& 31)) (fun v' hS' hv' => ⟨fun c hc => absurd hc List.not_mem_nil, hS'.2.2.2.1.2.2⟩)
      exact ⟨q, q1, v', lv, _, G, q2, by rw [q3]; rfl, q4, x_eff.rf⟩
  · cases h
set_option maxHeartbeats 1000000 in
theorem xs_iushr  (hS : x_S tb th v (cs, lo, st, fa, nx) lv ws G) (h : x_step tb E m0 own nL (.iushr) pc cs lo st fa nx = some out) : x_Go tb th E m0 own nL ini xs L J (.iushr) pc v lv ws G out := by
  obtain ⟨hB, hC, hlo, hst, hfa, hI⟩ := id hS
  have hC : x_Cs cs v := hC
  dsimp only [x_step] at h
  split at h
  · rename_i ly lx r
    obtain ⟨w1, r1, rfl, g1, hs1⟩ := x_gs_cons hst
    obtain ⟨w2, r2, rfl, g2, hs2⟩ := x_gs_cons hs1
    obtain ⟨y, rfl, ey⟩ := x_g0 g1
    obtain ⟨x, rfl, ex⟩ := x_g0 g2
    split at h
    · rename_i hh
      rw [hh, xl_c_ev] at ey
      obtain rfl : y = 8 := Int32.toInt_inj.mp ey
      have k3 := x_ushr8 x
      refine (?_ : ∃ q ∈ out, ∃ v', x_ag m0 v v' ∧ q.1 = pc + 1 ∧ x_S tb th v' q.2 lv (.int ((x.toUInt32 >>> ((8 : Int32).toUInt32 &&& Int32.toUInt32 31)).toInt32) :: r2) G).elim (fun q hq => ?_)
      · refine x_hv_ok hS h ((x.toUInt32 >>> ((8 : Int32).toUInt32 &&& Int32.toUInt32 31)).toInt32) (fun v' hS' hv' => ⟨?_, hS'.2.2.2.1.2.2⟩)
        obtain ⟨y', hy', ey'⟩ := x_g0 hS'.2.2.2.1.1
        obtain ⟨x', hx', ex'⟩ := x_g0 hS'.2.2.2.1.2.1
        cases hy'
        cases hx'
        intro c hc
        rw [List.mem_singleton.mp hc, xl_s_ev, hv']
        exact k3
      · obtain ⟨q1, v', q2, q3, q4⟩ := hq
        exact ⟨q, q1, v', lv, _, G, q2, by rw [q3]; rfl, q4, x_eff.rf⟩
    · obtain ⟨q, q1, v', q2, q3, q4⟩ := x_hv_ok (rest := r2) hS h ((x.toUInt32 >>> (y.toUInt32 &&& Int32.toUInt32 31)).toInt32) (fun v' hS' hv' => ⟨fun c hc => absurd hc List.not_mem_nil, hS'.2.2.2.1.2.2⟩)
      exact ⟨q, q1, v', lv, _, G, q2, by rw [q3]; rfl, q4, x_eff.rf⟩
  · cases h
set_option maxHeartbeats 1000000 in
theorem xs_i2l  (hS : x_S tb th v (cs, lo, st, fa, nx) lv ws G) (h : x_step tb E m0 own nL (.i2l) pc cs lo st fa nx = some out) : x_Go tb th E m0 own nL ini xs L J (.i2l) pc v lv ws G out := by
  obtain ⟨hB, hC, hlo, hst, hfa, hI⟩ := id hS
  have hC : x_Cs cs v := hC
  dsimp only [x_step] at h
  split at h
  · cases h
    obtain ⟨w1, r1, rfl, g1, hs1⟩ := x_gs_cons hst
    obtain ⟨x, rfl, ex⟩ := x_g0 g1
    exact ⟨_, List.mem_singleton.mpr rfl, v, lv, _, G, x_ag.rf, rfl, x_psh hS ⟨_, rfl⟩ hs1, x_eff.rf⟩
  · cases h
set_option maxHeartbeats 1000000 in
theorem xs_i2b  (hS : x_S tb th v (cs, lo, st, fa, nx) lv ws G) (h : x_step tb E m0 own nL (.i2b) pc cs lo st fa nx = some out) : x_Go tb th E m0 own nL ini xs L J (.i2b) pc v lv ws G out := by
  obtain ⟨hB, hC, hlo, hst, hfa, hI⟩ := id hS
  have hC : x_Cs cs v := hC
  dsimp only [x_step] at h
  split at h
  · rename_i lx r
    obtain ⟨w1, r1, rfl, g1, hs1⟩ := x_gs_cons hst
    obtain ⟨x, rfl, ex⟩ := x_g0 g1
    have k := x_i2b_le x
    refine (?_ : ∃ q ∈ out, ∃ v', x_ag m0 v v' ∧ q.1 = pc + 1 ∧ x_S tb th v' q.2 lv (.int (x.toInt8.toInt32) :: r1) G).elim (fun q hq => ?_)
    · refine x_hv_ok hS h (x.toInt8.toInt32) (fun v' hS' hv' => ⟨?_, hS'.2.2.2.1.2⟩)
      intro c hc
      rcases List.mem_cons.mp hc with rfl | hc
      · rw [xl_add_ev, xl_s_ev, xl_c_ev, hv']; omega
      · rw [List.mem_singleton.mp hc]
        rw [xl_sub_ev, xl_s_ev, xl_c_ev, hv']; omega
    · obtain ⟨q1, v', q2, q3, q4⟩ := hq
      exact ⟨q, q1, v', lv, _, G, q2, by rw [q3]; rfl, q4, x_eff.rf⟩
  · cases h
set_option maxHeartbeats 1000000 in
theorem xs_ladd  (hS : x_S tb th v (cs, lo, st, fa, nx) lv ws G) (h : x_step tb E m0 own nL (.ladd) pc cs lo st fa nx = some out) : x_Go tb th E m0 own nL ini xs L J (.ladd) pc v lv ws G out := by
  obtain ⟨hB, hC, hlo, hst, hfa, hI⟩ := id hS
  have hC : x_Cs cs v := hC
  dsimp only [x_step] at h
  split at h
  · cases h
    obtain ⟨w1, r1, rfl, g1, hs1⟩ := x_gs_cons hst
    obtain ⟨w2, r2, rfl, g2, hs2⟩ := x_gs_cons hs1
    obtain ⟨y, rfl⟩ := g1
    obtain ⟨x, rfl⟩ := g2
    exact ⟨_, List.mem_singleton.mpr rfl, v, lv, _, G, x_ag.rf, rfl, x_psh hS ⟨_, rfl⟩ hs2, x_eff.rf⟩
  · cases h
set_option maxHeartbeats 1000000 in
theorem xs_lmul  (hS : x_S tb th v (cs, lo, st, fa, nx) lv ws G) (h : x_step tb E m0 own nL (.lmul) pc cs lo st fa nx = some out) : x_Go tb th E m0 own nL ini xs L J (.lmul) pc v lv ws G out := by
  obtain ⟨hB, hC, hlo, hst, hfa, hI⟩ := id hS
  have hC : x_Cs cs v := hC
  dsimp only [x_step] at h
  split at h
  · cases h
    obtain ⟨w1, r1, rfl, g1, hs1⟩ := x_gs_cons hst
    obtain ⟨w2, r2, rfl, g2, hs2⟩ := x_gs_cons hs1
    obtain ⟨y, rfl⟩ := g1
    obtain ⟨x, rfl⟩ := g2
    exact ⟨_, List.mem_singleton.mpr rfl, v, lv, _, G, x_ag.rf, rfl, x_psh hS ⟨_, rfl⟩ hs2, x_eff.rf⟩
  · cases h
set_option maxHeartbeats 1000000 in
theorem xs_lor  (hS : x_S tb th v (cs, lo, st, fa, nx) lv ws G) (h : x_step tb E m0 own nL (.lor) pc cs lo st fa nx = some out) : x_Go tb th E m0 own nL ini xs L J (.lor) pc v lv ws G out := by
  obtain ⟨hB, hC, hlo, hst, hfa, hI⟩ := id hS
  have hC : x_Cs cs v := hC
  dsimp only [x_step] at h
  split at h
  · cases h
    obtain ⟨w1, r1, rfl, g1, hs1⟩ := x_gs_cons hst
    obtain ⟨w2, r2, rfl, g2, hs2⟩ := x_gs_cons hs1
    obtain ⟨y, rfl⟩ := g1
    obtain ⟨x, rfl⟩ := g2
    exact ⟨_, List.mem_singleton.mpr rfl, v, lv, _, G, x_ag.rf, rfl, x_psh hS ⟨_, rfl⟩ hs2, x_eff.rf⟩
  · cases h
set_option maxHeartbeats 1000000 in
theorem xs_lshl  (hS : x_S tb th v (cs, lo, st, fa, nx) lv ws G) (h : x_step tb E m0 own nL (.lshl) pc cs lo st fa nx = some out) : x_Go tb th E m0 own nL ini xs L J (.lshl) pc v lv ws G out := by
  obtain ⟨hB, hC, hlo, hst, hfa, hI⟩ := id hS
  have hC : x_Cs cs v := hC
  dsimp only [x_step] at h
  split at h
  · cases h
    obtain ⟨w1, r1, rfl, g1, hs1⟩ := x_gs_cons hst
    obtain ⟨w2, r2, rfl, g2, hs2⟩ := x_gs_cons hs1
    obtain ⟨y, rfl, ey⟩ := x_g0 g1
    obtain ⟨x, rfl⟩ := g2
    exact ⟨_, List.mem_singleton.mpr rfl, v, lv, _, G, x_ag.rf, rfl, x_psh hS ⟨_, rfl⟩ hs2, x_eff.rf⟩
  · cases h
set_option maxHeartbeats 1000000 in
theorem xs_lcmp  (hS : x_S tb th v (cs, lo, st, fa, nx) lv ws G) (h : x_step tb E m0 own nL (.lcmp) pc cs lo st fa nx = some out) : x_Go tb th E m0 own nL ini xs L J (.lcmp) pc v lv ws G out := by
  obtain ⟨hB, hC, hlo, hst, hfa, hI⟩ := id hS
  have hC : x_Cs cs v := hC
  dsimp only [x_step] at h
  split at h
  · rename_i ly lx r
    obtain ⟨w1, r1, rfl, g1, hs1⟩ := x_gs_cons hst
    obtain ⟨w2, r2, rfl, g2, hs2⟩ := x_gs_cons hs1
    obtain ⟨y, rfl⟩ := g1
    obtain ⟨x, rfl⟩ := g2
    obtain ⟨q, q1, v', q2, q3, q4⟩ := x_hv_ok (rest := r2) hS h (lg_cmp x y) (fun v' hS' hv' => ⟨fun c hc => absurd hc List.not_mem_nil, hS'.2.2.2.1.2.2⟩)
    exact ⟨q, q1, v', lv, _, G, q2, by rw [q3]; rfl, q4, x_eff.rf⟩
  · cases h
set_option maxHeartbeats 1000000 in
theorem xs_dup  (hS : x_S tb th v (cs, lo, st, fa, nx) lv ws G) (h : x_step tb E m0 own nL (.dup) pc cs lo st fa nx = some out) : x_Go tb th E m0 own nL ini xs L J (.dup) pc v lv ws G out := by
  obtain ⟨hB, hC, hlo, hst, hfa, hI⟩ := id hS
  have hC : x_Cs cs v := hC
  dsimp only [x_step] at h
  split at h
  · split at h
    · cases h
    · rename_i hn
      cases h
      obtain ⟨w1, r1, rfl, g1, hs1⟩ := x_gs_cons hst
      exact ⟨_, List.mem_singleton.mpr rfl, v, lv, w1 :: w1 :: r1, G, x_ag.rf, by dsimp only [pm_step]; rw [if_pos (x_g_cat g1 hn)], ⟨hB, hC, hlo, ⟨g1, g1, hs1⟩, hfa, hI⟩, x_eff.rf⟩
  · cases h
set_option maxHeartbeats 1000000 in
theorem xs_pop  (hS : x_S tb th v (cs, lo, st, fa, nx) lv ws G) (h : x_step tb E m0 own nL (.pop) pc cs lo st fa nx = some out) : x_Go tb th E m0 own nL ini xs L J (.pop) pc v lv ws G out := by
  obtain ⟨hB, hC, hlo, hst, hfa, hI⟩ := id hS
  have hC : x_Cs cs v := hC
  dsimp only [x_step] at h
  split at h
  · split at h
    · cases h
    · rename_i hn
      cases h
      obtain ⟨w1, r1, rfl, g1, hs1⟩ := x_gs_cons hst
      exact ⟨_, List.mem_singleton.mpr rfl, v, lv, _, G, x_ag.rf, by dsimp only [pm_step]; rw [if_pos (x_g_cat g1 hn)], ⟨hB, hC, hlo, hs1, hfa, hI⟩, x_eff.rf⟩
  · cases h
set_option maxHeartbeats 1000000 in
theorem xs_dup2  (hS : x_S tb th v (cs, lo, st, fa, nx) lv ws G) (h : x_step tb E m0 own nL (.dup2) pc cs lo st fa nx = some out) : x_Go tb th E m0 own nL ini xs L J (.dup2) pc v lv ws G out := by
  obtain ⟨hB, hC, hlo, hst, hfa, hI⟩ := id hS
  have hC : x_Cs cs v := hC
  dsimp only [x_step] at h
  split at h
  · split at h
    · cases h
    · rename_i hn
      cases h
      obtain ⟨w1, r1, rfl, g1, hs1⟩ := x_gs_cons hst
      obtain ⟨w2, r2, rfl, g2, hs2⟩ := x_gs_cons hs1
      exact ⟨_, List.mem_singleton.mpr rfl, v, lv, w1 :: w2 :: w1 :: w2 :: r2, G, x_ag.rf, by dsimp only [pm_step]; rw [if_pos ⟨x_g_cat g1 (fun z => hn (Or.inl z)), x_g_cat g2 (fun z => hn (Or.inr z))⟩], ⟨hB, hC, hlo, ⟨g1, g2, g1, g2, hs2⟩, hfa, hI⟩, x_eff.rf⟩
  · cases h
set_option maxHeartbeats 1000000 in
theorem xs_ifCond {c : ClassFile.Cond} {k : Int} (hS : x_S tb th v (cs, lo, st, fa, nx) lv ws G) (h : x_step tb E m0 own nL (.ifCond c k) pc cs lo st fa nx = some out) : x_Go tb th E m0 own nL ini xs L J (.ifCond c k) pc v lv ws G out := by
  obtain ⟨hB, hC, hlo, hst, hfa, hI⟩ := id hS
  have hC : x_Cs cs v := hC
  dsimp only [x_step] at h
  split at h
  · rename_i l r
    obtain ⟨w1, r1, rfl, g1, hs1⟩ := x_gs_cons hst
    obtain ⟨x, rfl, ex⟩ := x_g0 g1
    have hS1 : x_S tb th v (cs, lo, r, fa, nx) lv r1 G := ⟨hB, hC, hlo, hs1, hfa, hI⟩
    obtain ⟨q, q1, q2, q3⟩ := x_br_ok (x := x) (y := 0) (n0 := nx) hS1 (by have : (0 : Int32).toInt = 0 := rfl; omega) h
    exact ⟨q, q1, v, lv, _, G, x_ag.rf, q3, q2, x_eff.rf⟩
  · cases h
set_option maxHeartbeats 1000000 in
theorem xs_if_icmp {c : ClassFile.Cond} {k : Int} (hS : x_S tb th v (cs, lo, st, fa, nx) lv ws G) (h : x_step tb E m0 own nL (.if_icmp c k) pc cs lo st fa nx = some out) : x_Go tb th E m0 own nL ini xs L J (.if_icmp c k) pc v lv ws G out := by
  obtain ⟨hB, hC, hlo, hst, hfa, hI⟩ := id hS
  have hC : x_Cs cs v := hC
  dsimp only [x_step] at h
  split at h
  · rename_i ly lx r
    obtain ⟨w1, r1, rfl, g1, hs1⟩ := x_gs_cons hst
    obtain ⟨w2, r2, rfl, g2, hs2⟩ := x_gs_cons hs1
    obtain ⟨y, rfl, ey⟩ := x_g0 g1
    obtain ⟨x, rfl, ex⟩ := x_g0 g2
    have hS1 : x_S tb th v (cs, lo, r, fa, nx) lv r2 G := ⟨hB, hC, hlo, hs2, hfa, hI⟩
    obtain ⟨q, q1, q2, q3⟩ := x_br_ok (x := x) (y := y) (n0 := nx) hS1 (by rw [xl_sub_ev]; omega) h
    exact ⟨q, q1, v, lv, _, G, x_ag.rf, q3, q2, x_eff.rf⟩
  · cases h
set_option maxHeartbeats 1000000 in
theorem xs_goto {k : Int} (hS : x_S tb th v (cs, lo, st, fa, nx) lv ws G) (h : x_step tb E m0 own nL (.goto k) pc cs lo st fa nx = some out) : x_Go tb th E m0 own nL ini xs L J (.goto k) pc v lv ws G out := by
  obtain ⟨hB, hC, hlo, hst, hfa, hI⟩ := id hS
  have hC : x_Cs cs v := hC
  dsimp only [x_step] at h
  split at h
  · rename_i t ht
    cases h
    exact ⟨_, List.mem_singleton.mpr rfl, v, lv, _, G, x_ag.rf, by dsimp only [pm_step]; rw [ht], hS, x_eff.rf⟩
  · cases h
end XD
