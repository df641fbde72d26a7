theorem z_tapeL_len (n : Nat) : (z_tapeL n).length = 1 := rfl
theorem z_lreadL_len (n : Nat) : (z_lreadL n).length = 2 := rfl
theorem z_logcL_len (n : Nat) : (z_logcL n).length = 3 := rfl
theorem z_thingL_len (n : Nat) : (z_thingL n).length = 0 := rfl
theorem z_bhL0_len (n : Nat) : (z_bhL0 n).length = 78 := by
  unfold z_bhL0
  simp only [List.length_append, List.length_cons, List.length_nil, z_hillL_len, z_sentL_len, z_tapeL_len, z_lreadL_len, z_logcL_len, z_thingL_len]
set_option maxHeartbeats 4000000 in
set_option maxRecDepth 100000 in
theorem z_bhL0_57 (n : Nat) : (z_bhL0 n)[57]? = some (.inl (8, 8, .inr (.inr (.inr (.inr (fun _ => none)))))) := by
  unfold z_bhL0
  rw [List.getElem?_append_left (by simp only [List.length_append, List.length_cons, List.length_nil, z_hillL_len, z_sentL_len, z_tapeL_len, z_lreadL_len, z_logcL_len, z_thingL_len]; omega)]
  rw [List.getElem?_append_left (by simp only [List.length_append, List.length_cons, List.length_nil, z_hillL_len, z_sentL_len, z_tapeL_len, z_lreadL_len, z_logcL_len, z_thingL_len]; omega)]
  rw [List.getElem?_append_left (by simp only [List.length_append, List.length_cons, List.length_nil, z_hillL_len, z_sentL_len, z_tapeL_len, z_lreadL_len, z_logcL_len, z_thingL_len]; omega)]
  rw [List.getElem?_append_left (by simp only [List.length_append, List.length_cons, List.length_nil, z_hillL_len, z_sentL_len, z_tapeL_len, z_lreadL_len, z_logcL_len, z_thingL_len]; omega)]
  rw [List.getElem?_append_left (by simp only [List.length_append, List.length_cons, List.length_nil, z_hillL_len, z_sentL_len, z_tapeL_len, z_lreadL_len, z_logcL_len, z_thingL_len]; omega)]
  rw [List.getElem?_append_left (by simp only [List.length_append, List.length_cons, List.length_nil, z_hillL_len, z_sentL_len, z_tapeL_len, z_lreadL_len, z_logcL_len, z_thingL_len]; omega)]
  rw [List.getElem?_append_left (by simp only [List.length_append, List.length_cons, List.length_nil, z_hillL_len, z_sentL_len, z_tapeL_len, z_lreadL_len, z_logcL_len, z_thingL_len]; omega)]
  rw [List.getElem?_append_left (by simp only [List.length_append, List.length_cons, List.length_nil, z_hillL_len, z_sentL_len, z_tapeL_len, z_lreadL_len, z_logcL_len, z_thingL_len]; omega)]
  rw [List.getElem?_append_left (by simp only [List.length_append, List.length_cons, List.length_nil, z_hillL_len, z_sentL_len, z_tapeL_len, z_lreadL_len, z_logcL_len, z_thingL_len]; omega)]
  rw [List.getElem?_append_right (by simp only [List.length_append, List.length_cons, List.length_nil, z_hillL_len, z_sentL_len, z_tapeL_len, z_lreadL_len, z_logcL_len, z_thingL_len]; omega)]
  simp only [List.length_append, List.length_cons, List.length_nil, z_hillL_len, z_sentL_len, z_tapeL_len, z_lreadL_len, z_logcL_len, z_thingL_len]
  rfl
set_option maxHeartbeats 4000000 in
set_option maxRecDepth 100000 in
theorem z_bhL0_68 (n : Nat) : (z_bhL0 n)[68]? = some (.inl (8, 2, .inr (.inr (.inr (.inr (fun _ => none)))))) := by
  unfold z_bhL0
  rw [List.getElem?_append_left (by simp only [List.length_append, List.length_cons, List.length_nil, z_hillL_len, z_sentL_len, z_tapeL_len, z_lreadL_len, z_logcL_len, z_thingL_len]; omega)]
  rw [List.getElem?_append_left (by simp only [List.length_append, List.length_cons, List.length_nil, z_hillL_len, z_sentL_len, z_tapeL_len, z_lreadL_len, z_logcL_len, z_thingL_len]; omega)]
  rw [List.getElem?_append_left (by simp only [List.length_append, List.length_cons, List.length_nil, z_hillL_len, z_sentL_len, z_tapeL_len, z_lreadL_len, z_logcL_len, z_thingL_len]; omega)]
  rw [List.getElem?_append_left (by simp only [List.length_append, List.length_cons, List.length_nil, z_hillL_len, z_sentL_len, z_tapeL_len, z_lreadL_len, z_logcL_len, z_thingL_len]; omega)]
  rw [List.getElem?_append_left (by simp only [List.length_append, List.length_cons, List.length_nil, z_hillL_len, z_sentL_len, z_tapeL_len, z_lreadL_len, z_logcL_len, z_thingL_len]; omega)]
  rw [List.getElem?_append_left (by simp only [List.length_append, List.length_cons, List.length_nil, z_hillL_len, z_sentL_len, z_tapeL_len, z_lreadL_len, z_logcL_len, z_thingL_len]; omega)]
  rw [List.getElem?_append_right (by simp only [List.length_append, List.length_cons, List.length_nil, z_hillL_len, z_sentL_len, z_tapeL_len, z_lreadL_len, z_logcL_len, z_thingL_len]; omega)]
  simp only [List.length_append, List.length_cons, List.length_nil, z_hillL_len, z_sentL_len, z_tapeL_len, z_lreadL_len, z_logcL_len, z_thingL_len]
  rfl
set_option maxHeartbeats 4000000 in
set_option maxRecDepth 100000 in
theorem z_bhL0_69 (n : Nat) : (z_bhL0 n)[69]? = some (.inl (9, 2, .inr (.inr (.inr (.inr (fun _ => none)))))) := by
  unfold z_bhL0
  rw [List.getElem?_append_left (by simp only [List.length_append, List.length_cons, List.length_nil, z_hillL_len, z_sentL_len, z_tapeL_len, z_lreadL_len, z_logcL_len, z_thingL_len]; omega)]
  rw [List.getElem?_append_left (by simp only [List.length_append, List.length_cons, List.length_nil, z_hillL_len, z_sentL_len, z_tapeL_len, z_lreadL_len, z_logcL_len, z_thingL_len]; omega)]
  rw [List.getElem?_append_left (by simp only [List.length_append, List.length_cons, List.length_nil, z_hillL_len, z_sentL_len, z_tapeL_len, z_lreadL_len, z_logcL_len, z_thingL_len]; omega)]
  rw [List.getElem?_append_left (by simp only [List.length_append, List.length_cons, List.length_nil, z_hillL_len, z_sentL_len, z_tapeL_len, z_lreadL_len, z_logcL_len, z_thingL_len]; omega)]
  rw [List.getElem?_append_left (by simp only [List.length_append, List.length_cons, List.length_nil, z_hillL_len, z_sentL_len, z_tapeL_len, z_lreadL_len, z_logcL_len, z_thingL_len]; omega)]
  rw [List.getElem?_append_right (by simp only [List.length_append, List.length_cons, List.length_nil, z_hillL_len, z_sentL_len, z_tapeL_len, z_lreadL_len, z_logcL_len, z_thingL_len]; omega)]
  simp only [List.length_append, List.length_cons, List.length_nil, z_hillL_len, z_sentL_len, z_tapeL_len, z_lreadL_len, z_logcL_len, z_thingL_len]
  rfl
def z_i8 (H : List pE) (p : Nat) (g : Nat → Option Nat) (j : Nat) : List pE := hp H p (.inl (8, 2, .inr (.inr (.inr (.inr (va_up g j (some H.length))))))) (z_hill (H.length + 1) :: z_hillL (H.length + 1))
def z_i9 (H : List pE) (p : Nat) (g : Nat → Option Nat) (j : Nat) : List pE := hp H p (.inl (9, 2, .inr (.inr (.inr (.inr (va_up g j (some H.length))))))) (z_sent (H.length + 1) :: z_sentL (H.length + 1))
theorem q_aln {xs : Nat → Int32} {L d n k pc : Nat} {M : pM} {r : Option Value} {G' G : List pE} {lv : pL} {st : List Value} {j : Fin 4} {x : Nat} (hd : decode M.code pc = .ok (Instr.aload_n j, 1)) (hg : pm_get lv (j : Nat) = some (.ref x)) (hk : q_Gd xs L d M r G' n k (pc + 1) lv (.ref x :: st) G) : q_Gd xs L d M r G' n k pc lv st G := q_s0 hd ⟨rfl, rfl, rfl, by dsimp only [pm_step]; rw [hg]⟩ hk
theorem q_iln {xs : Nat → Int32} {L d n k pc : Nat} {M : pM} {r : Option Value} {G' G : List pE} {lv : pL} {st : List Value} {j : Fin 4} {x : Int32} (hd : decode M.code pc = .ok (Instr.iload_n j, 1)) (hg : pm_get lv (j : Nat) = some (.int x)) (hk : q_Gd xs L d M r G' n k (pc + 1) lv (.int x :: st) G) : q_Gd xs L d M r G' n k pc lv st G := q_s0 hd ⟨rfl, rfl, rfl, by dsimp only [pm_step]; rw [hg]⟩ hk
section QC
variable {xs : Nat → Int32} {L d n k : Nat} {r : Option Value} {G' H : List pE} {t p : Nat} {fs : List Value} {g : Nat → Option Nat} {j : Int32} {lv : pL}
set_option maxHeartbeats 4000000 in
set_option maxRecDepth 100000 in
theorem q_in8 (hr : H.length + 100 ≤ pm_TB) (ht : H[t]? = some (.inr (9, fs))) (h4 : fs[8]? = some (.ref p)) (hp0 : H[p]? = some (.inl (8, 2, .inr (.inr (.inr (.inr g)))))) (hne : p ≠ t) (g0 : pm_get lv 0 = some (.ref t)) (g1 : pm_get lv 1 = some (.int j)) (hj : pm_bad j 2 = false) (hk : q_Gd xs L (d + 3) m_0 r G' n k 208 lv [] (z_i8 H p g j.toNatClampNeg)) : q_Gd xs L (d + 3) m_0 r G' (n + 26) (k + 163) 195 lv [] H := by
  have hTB : pm_TB = 1000000 := rfl
  have htl := (List.getElem?_eq_some_iff.mp ht).1
  have hpl := (List.getElem?_eq_some_iff.mp hp0).1
  have key : q_Gd xs L (d + 3) m_0 r G' (n + 26) (k + 163) 195 lv [] (hp H p (.inl (8, 2, .inr (.inr (.inr (.inr g))))) []) := by
    refine q_aln (e_0 (195, .aload_n 0, 1) (List.mem_of_getElem? (i := 99) rfl)) g0 ?_
    refine q_getO ht hne (q_tok (by omega)) (e_0 (196, .getfield 51, 3) (List.mem_of_getElem? (i := 100) rfl)) u_0_51 rfl h4 ?_
    refine q_iln (e_0 (199, .iload_n 1, 1) (List.mem_of_getElem? (i := 101) rfl)) g1 ?_
    refine q_mk (m := 25) (n1 := 25) (k1 := 155) (zE := z_hill) (zL := z_hillL) (e_0 (200, .new 23, 3) (List.mem_of_getElem? (i := 102) rfl)) (e_0 (203, .dup, 1) (List.mem_of_getElem? (i := 103) rfl)) (e_0 (204, .invokespecial 25, 3) (List.mem_of_getElem? (i := 104) rfl)) v_0_23 (by decide) t_0_25 (by decide) m_4_ok ⟨rfl, rfl, by decide⟩ (Nat.le_of_ble_eq_true rfl) (by show H.length + 0 + 1 + 25 ≤ pm_TB; omega) (fun _ _ a1 a2 a3 => q_hill a1 a2 a3) ?_
    refine q_aasT hpl rfl (q_tok (by show H.length + 0 < pm_TB; omega)) (e_0 (207, .aastore, 1) (List.mem_of_getElem? (i := 105) rfl)) ⟨hj, by decide, by decide, by decide, by decide⟩ ?_
    exact hk
  rw [hp_id hp0] at key
  exact key
set_option maxHeartbeats 4000000 in
set_option maxRecDepth 100000 in
theorem q_in9 (hr : H.length + 100 ≤ pm_TB) (ht : H[t]? = some (.inr (9, fs))) (h4 : fs[9]? = some (.ref p)) (hp0 : H[p]? = some (.inl (9, 2, .inr (.inr (.inr (.inr g)))))) (hne : p ≠ t) (g0 : pm_get lv 0 = some (.ref t)) (g1 : pm_get lv 1 = some (.int j)) (hj : pm_bad j 2 = false) (hk : q_Gd xs L (d + 3) m_0 r G' n k 221 lv [] (z_i9 H p g j.toNatClampNeg)) : q_Gd xs L (d + 3) m_0 r G' (n + 5) (k + 166) 208 lv [] H := by
  have hTB : pm_TB = 1000000 := rfl
  have htl := (List.getElem?_eq_some_iff.mp ht).1
  have hpl := (List.getElem?_eq_some_iff.mp hp0).1
  have key : q_Gd xs L (d + 3) m_0 r G' (n + 5) (k + 166) 208 lv [] (hp H p (.inl (9, 2, .inr (.inr (.inr (.inr g))))) []) := by
    refine q_aln (e_0 (208, .aload_n 0, 1) (List.mem_of_getElem? (i := 106) rfl)) g0 ?_
    refine q_getO ht hne (q_tok (by omega)) (e_0 (209, .getfield 54, 3) (List.mem_of_getElem? (i := 107) rfl)) u_0_54 rfl h4 ?_
    refine q_iln (e_0 (212, .iload_n 1, 1) (List.mem_of_getElem? (i := 108) rfl)) g1 ?_
    refine q_mk (m := 4) (n1 := 4) (k1 := 160) (zE := z_sent) (zL := z_sentL) (e_0 (213, .new 41, 3) (List.mem_of_getElem? (i := 109) rfl)) (e_0 (216, .dup, 1) (List.mem_of_getElem? (i := 110) rfl)) (e_0 (217, .invokespecial 43, 3) (List.mem_of_getElem? (i := 111) rfl)) v_0_41 (by decide) t_0_43 (by decide) m_9_ok ⟨rfl, rfl, by decide⟩ (Nat.le_of_ble_eq_true rfl) (by show H.length + 0 + 1 + 4 ≤ pm_TB; omega) (fun _ _ a1 a2 a3 => q_sent a1 a2 a3) ?_
    refine q_aasT hpl rfl (q_tok (by show H.length + 0 < pm_TB; omega)) (e_0 (220, .aastore, 1) (List.mem_of_getElem? (i := 112) rfl)) ⟨hj, by decide, by decide, by decide, by decide⟩ ?_
    exact hk
  rw [hp_id hp0] at key
  exact key
end QC
def z_Ha (G : List pE) (t : Nat) : List pE := hp G t (z_bh G.length) (z_bhL0 G.length)
def z_Hb (G : List pE) (t : Nat) : List pE := hp (z_Ha G t) (G.length + 57) (.inl (8, 8, .inr (.inr (.inr (.inr (z_ga (G.length + 78) 26 8)))))) (z_hills (G.length + 78) 8)
def z_Hc (G : List pE) (t : Nat) : List pE := z_i8 (z_Hb G t) (G.length + 68) (fun _ => none) 0
def z_Hd (G : List pE) (t : Nat) : List pE := z_i9 (z_Hc G t) (G.length + 69) (fun _ => none) 0
def z_He (G : List pE) (t : Nat) : List pE := z_i8 (z_Hd G t) (G.length + 68) (va_up (fun _ => none) 0 (some (G.length + 286))) 1
def z_Hf (G : List pE) (t : Nat) : List pE := z_i9 (z_He G t) (G.length + 69) (va_up (fun _ => none) 0 (some (G.length + 312))) 1
