section QB
variable {xs : Nat → Int32} {L d n k : Nat} {r : Option Value} {G' G : List pE} {t p b : Nat} {fs : List Value}
set_option maxHeartbeats 4000000 in
set_option maxRecDepth 100000 in
theorem q_bl1_0 (hb : G.length = b) (hr : b + 300 ≤ pm_TB) (ht : G[t]? = some (.inr (9, fs))) (h4 : fs[4]? = some (.ref p)) (hp0 : p < G.length) (hne : p ≠ t) (hk : q_Gd xs L (d + 3) m_0 r G' n k 160 [(1, .int (Int32.ofInt 1)), (0, .ref t)] [] (hp G p (.inl (8, 8, .inr (.inr (.inr (.inr (z_ga b 26 1)))))) (z_hills b 1))) : q_Gd xs L (d + 3) m_0 r G' (n + 26) (k + 163) 160 [(1, .int (Int32.ofInt 0)), (0, .ref t)] [] (hp G p (.inl (8, 8, .inr (.inr (.inr (.inr (z_ga b 26 0)))))) (z_hills b 0)) := by
  have hTB : pm_TB = 1000000 := rfl
  have htl := (List.getElem?_eq_some_iff.mp ht).1
  refine q_s0 (e_0 (160, .iload_n 1, 1) (List.mem_of_getElem? (i := 80) rfl)) ⟨rfl, rfl, rfl, rfl⟩ ?_
  refine q_s0 (e_0 (161, .aload_n 0, 1) (List.mem_of_getElem? (i := 81) rfl)) ⟨rfl, rfl, rfl, rfl⟩ ?_
  refine q_getO ht hne (q_tok (by omega)) (e_0 (162, .getfield 33, 3) (List.mem_of_getElem? (i := 82) rfl)) u_0_33 rfl h4 ?_
  refine q_alenT hp0 (by decide) (by omega) (e_0 (165, .arraylength, 1) (List.mem_of_getElem? (i := 83) rfl)) ?_
  refine q_s0 (e_0 (166, .if_icmp .ge 22, 3) (List.mem_of_getElem? (i := 84) rfl)) ⟨rfl, rfl, rfl, rfl⟩ ?_
  show q_Gd _ _ _ _ _ _ _ _ 169 _ [] _
  refine q_s0 (e_0 (169, .aload_n 0, 1) (List.mem_of_getElem? (i := 85) rfl)) ⟨rfl, rfl, rfl, rfl⟩ ?_
  refine q_getO ht hne (q_tok (by omega)) (e_0 (170, .getfield 33, 3) (List.mem_of_getElem? (i := 86) rfl)) u_0_33 rfl h4 ?_
  refine q_s0 (e_0 (173, .iload_n 1, 1) (List.mem_of_getElem? (i := 87) rfl)) ⟨rfl, rfl, rfl, rfl⟩ ?_
  have hz := z_hills_len b 0
  refine q_mk (m := 25) (n1 := 25) (k1 := 155) (zE := z_hill) (zL := z_hillL) (e_0 (174, .new 23, 3) (List.mem_of_getElem? (i := 88) rfl)) (e_0 (177, .dup, 1) (List.mem_of_getElem? (i := 89) rfl)) (e_0 (178, .invokespecial 25, 3) (List.mem_of_getElem? (i := 90) rfl)) v_0_23 (by decide) t_0_25 (by decide) m_4_ok ⟨rfl, rfl, by decide⟩ (Nat.le_of_ble_eq_true rfl) (by rw [hz]; omega) (fun _ _ a1 a2 a3 => q_hill a1 a2 a3) ?_
  refine q_aasT hp0 rfl (q_tok (by rw [hz]; omega)) (e_0 (181, .aastore, 1) (List.mem_of_getElem? (i := 91) rfl)) ⟨by decide, by decide, by decide, by decide, by decide⟩ ?_
  rw [hz, hb]
  refine q_s0 (e_0 (182, .iinc 1 1, 3) (List.mem_of_getElem? (i := 92) rfl)) ⟨rfl, rfl, rfl, rfl⟩ ?_
  refine q_s0 (e_0 (185, .goto (-25), 3) (List.mem_of_getElem? (i := 93) rfl)) ⟨rfl, rfl, rfl, rfl⟩ ?_
  exact hk
set_option maxHeartbeats 4000000 in
set_option maxRecDepth 100000 in
theorem q_bl1_1 (hb : G.length = b) (hr : b + 300 ≤ pm_TB) (ht : G[t]? = some (.inr (9, fs))) (h4 : fs[4]? = some (.ref p)) (hp0 : p < G.length) (hne : p ≠ t) (hk : q_Gd xs L (d + 3) m_0 r G' n k 160 [(1, .int (Int32.ofInt 2)), (0, .ref t)] [] (hp G p (.inl (8, 8, .inr (.inr (.inr (.inr (z_ga b 26 2)))))) (z_hills b 2))) : q_Gd xs L (d + 3) m_0 r G' (n + 26) (k + 163) 160 [(1, .int (Int32.ofInt 1)), (0, .ref t)] [] (hp G p (.inl (8, 8, .inr (.inr (.inr (.inr (z_ga b 26 1)))))) (z_hills b 1)) := by
  have hTB : pm_TB = 1000000 := rfl
  have htl := (List.getElem?_eq_some_iff.mp ht).1
  refine q_s0 (e_0 (160, .iload_n 1, 1) (List.mem_of_getElem? (i := 80) rfl)) ⟨rfl, rfl, rfl, rfl⟩ ?_
  refine q_s0 (e_0 (161, .aload_n 0, 1) (List.mem_of_getElem? (i := 81) rfl)) ⟨rfl, rfl, rfl, rfl⟩ ?_
  refine q_getO ht hne (q_tok (by omega)) (e_0 (162, .getfield 33, 3) (List.mem_of_getElem? (i := 82) rfl)) u_0_33 rfl h4 ?_
  refine q_alenT hp0 (by decide) (by omega) (e_0 (165, .arraylength, 1) (List.mem_of_getElem? (i := 83) rfl)) ?_
  refine q_s0 (e_0 (166, .if_icmp .ge 22, 3) (List.mem_of_getElem? (i := 84) rfl)) ⟨rfl, rfl, rfl, rfl⟩ ?_
  show q_Gd _ _ _ _ _ _ _ _ 169 _ [] _
  refine q_s0 (e_0 (169, .aload_n 0, 1) (List.mem_of_getElem? (i := 85) rfl)) ⟨rfl, rfl, rfl, rfl⟩ ?_
  refine q_getO ht hne (q_tok (by omega)) (e_0 (170, .getfield 33, 3) (List.mem_of_getElem? (i := 86) rfl)) u_0_33 rfl h4 ?_
  refine q_s0 (e_0 (173, .iload_n 1, 1) (List.mem_of_getElem? (i := 87) rfl)) ⟨rfl, rfl, rfl, rfl⟩ ?_
  have hz := z_hills_len b 1
  refine q_mk (m := 25) (n1 := 25) (k1 := 155) (zE := z_hill) (zL := z_hillL) (e_0 (174, .new 23, 3) (List.mem_of_getElem? (i := 88) rfl)) (e_0 (177, .dup, 1) (List.mem_of_getElem? (i := 89) rfl)) (e_0 (178, .invokespecial 25, 3) (List.mem_of_getElem? (i := 90) rfl)) v_0_23 (by decide) t_0_25 (by decide) m_4_ok ⟨rfl, rfl, by decide⟩ (Nat.le_of_ble_eq_true rfl) (by rw [hz]; omega) (fun _ _ a1 a2 a3 => q_hill a1 a2 a3) ?_
  refine q_aasT hp0 rfl (q_tok (by rw [hz]; omega)) (e_0 (181, .aastore, 1) (List.mem_of_getElem? (i := 91) rfl)) ⟨by decide, by decide, by decide, by decide, by decide⟩ ?_
  rw [hz, hb]
  refine q_s0 (e_0 (182, .iinc 1 1, 3) (List.mem_of_getElem? (i := 92) rfl)) ⟨rfl, rfl, rfl, rfl⟩ ?_
  refine q_s0 (e_0 (185, .goto (-25), 3) (List.mem_of_getElem? (i := 93) rfl)) ⟨rfl, rfl, rfl, rfl⟩ ?_
  exact hk
set_option maxHeartbeats 4000000 in
set_option maxRecDepth 100000 in
theorem q_bl1_2 (hb : G.length = b) (hr : b + 300 ≤ pm_TB) (ht : G[t]? = some (.inr (9, fs))) (h4 : fs[4]? = some (.ref p)) (hp0 : p < G.length) (hne : p ≠ t) (hk : q_Gd xs L (d + 3) m_0 r G' n k 160 [(1, .int (Int32.ofInt 3)), (0, .ref t)] [] (hp G p (.inl (8, 8, .inr (.inr (.inr (.inr (z_ga b 26 3)))))) (z_hills b 3))) : q_Gd xs L (d + 3) m_0 r G' (n + 26) (k + 163) 160 [(1, .int (Int32.ofInt 2)), (0, .ref t)] [] (hp G p (.inl (8, 8, .inr (.inr (.inr (.inr (z_ga b 26 2)))))) (z_hills b 2)) := by
  have hTB : pm_TB = 1000000 := rfl
  have htl := (List.getElem?_eq_some_iff.mp ht).1
  refine q_s0 (e_0 (160, .iload_n 1, 1) (List.mem_of_getElem? (i := 80) rfl)) ⟨rfl, rfl, rfl, rfl⟩ ?_
  refine q_s0 (e_0 (161, .aload_n 0, 1) (List.mem_of_getElem? (i := 81) rfl)) ⟨rfl, rfl, rfl, rfl⟩ ?_
  refine q_getO ht hne (q_tok (by omega)) (e_0 (162, .getfield 33, 3) (List.mem_of_getElem? (i := 82) rfl)) u_0_33 rfl h4 ?_
  refine q_alenT hp0 (by decide) (by omega) (e_0 (165, .arraylength, 1) (List.mem_of_getElem? (i := 83) rfl)) ?_
  refine q_s0 (e_0 (166, .if_icmp .ge 22, 3) (List.mem_of_getElem? (i := 84) rfl)) ⟨rfl, rfl, rfl, rfl⟩ ?_
  show q_Gd _ _ _ _ _ _ _ _ 169 _ [] _
  refine q_s0 (e_0 (169, .aload_n 0, 1) (List.mem_of_getElem? (i := 85) rfl)) ⟨rfl, rfl, rfl, rfl⟩ ?_
  refine q_getO ht hne (q_tok (by omega)) (e_0 (170, .getfield 33, 3) (List.mem_of_getElem? (i := 86) rfl)) u_0_33 rfl h4 ?_
  refine q_s0 (e_0 (173, .iload_n 1, 1) (List.mem_of_getElem? (i := 87) rfl)) ⟨rfl, rfl, rfl, rfl⟩ ?_
  have hz := z_hills_len b 2
  refine q_mk (m := 25) (n1 := 25) (k1 := 155) (zE := z_hill) (zL := z_hillL) (e_0 (174, .new 23, 3) (List.mem_of_getElem? (i := 88) rfl)) (e_0 (177, .dup, 1) (List.mem_of_getElem? (i := 89) rfl)) (e_0 (178, .invokespecial 25, 3) (List.mem_of_getElem? (i := 90) rfl)) v_0_23 (by decide) t_0_25 (by decide) m_4_ok ⟨rfl, rfl, by decide⟩ (Nat.le_of_ble_eq_true rfl) (by rw [hz]; omega) (fun _ _ a1 a2 a3 => q_hill a1 a2 a3) ?_
  refine q_aasT hp0 rfl (q_tok (by rw [hz]; omega)) (e_0 (181, .aastore, 1) (List.mem_of_getElem? (i := 91) rfl)) ⟨by decide, by decide, by decide, by decide, by decide⟩ ?_
  rw [hz, hb]
  refine q_s0 (e_0 (182, .iinc 1 1, 3) (List.mem_of_getElem? (i := 92) rfl)) ⟨rfl, rfl, rfl, rfl⟩ ?_
  refine q_s0 (e_0 (185, .goto (-25), 3) (List.mem_of_getElem? (i := 93) rfl)) ⟨rfl, rfl, rfl, rfl⟩ ?_
  exact hk
set_option maxHeartbeats 4000000 in
set_option maxRecDepth 100000 in
theorem q_bl1_3 (hb : G.length = b) (hr : b + 300 ≤ pm_TB) (ht : G[t]? = some (.inr (9, fs))) (h4 : fs[4]? = some (.ref p)) (hp0 : p < G.length) (hne : p ≠ t) (hk : q_Gd xs L (d + 3) m_0 r G' n k 160 [(1, .int (Int32.ofInt 4)), (0, .ref t)] [] (hp G p (.inl (8, 8, .inr (.inr (.inr (.inr (z_ga b 26 4)))))) (z_hills b 4))) : q_Gd xs L (d + 3) m_0 r G' (n + 26) (k + 163) 160 [(1, .int (Int32.ofInt 3)), (0, .ref t)] [] (hp G p (.inl (8, 8, .inr (.inr (.inr (.inr (z_ga b 26 3)))))) (z_hills b 3)) := by
  have hTB : pm_TB = 1000000 := rfl
  have htl := (List.getElem?_eq_some_iff.mp ht).1
  refine q_s0 (e_0 (160, .iload_n 1, 1) (List.mem_of_getElem? (i := 80) rfl)) ⟨rfl, rfl, rfl, rfl⟩ ?_
  refine q_s0 (e_0 (161, .aload_n 0, 1) (List.mem_of_getElem? (i := 81) rfl)) ⟨rfl, rfl, rfl, rfl⟩ ?_
  refine q_getO ht hne (q_tok (by omega)) (e_0 (162, .getfield 33, 3) (List.mem_of_getElem? (i := 82) rfl)) u_0_33 rfl h4 ?_
  refine q_alenT hp0 (by decide) (by omega) (e_0 (165, .arraylength, 1) (List.mem_of_getElem? (i := 83) rfl)) ?_
  refine q_s0 (e_0 (166, .if_icmp .ge 22, 3) (List.mem_of_getElem? (i := 84) rfl)) ⟨rfl, rfl, rfl, rfl⟩ ?_
  show q_Gd _ _ _ _ _ _ _ _ 169 _ [] _
  refine q_s0 (e_0 (169, .aload_n 0, 1) (List.mem_of_getElem? (i := 85) rfl)) ⟨rfl, rfl, rfl, rfl⟩ ?_
  refine q_getO ht hne (q_tok (by omega)) (e_0 (170, .getfield 33, 3) (List.mem_of_getElem? (i := 86) rfl)) u_0_33 rfl h4 ?_
  refine q_s0 (e_0 (173, .iload_n 1, 1) (List.mem_of_getElem? (i := 87) rfl)) ⟨rfl, rfl, rfl, rfl⟩ ?_
  have hz := z_hills_len b 3
  refine q_mk (m := 25) (n1 := 25) (k1 := 155) (zE := z_hill) (zL := z_hillL) (e_0 (174, .new 23, 3) (List.mem_of_getElem? (i := 88) rfl)) (e_0 (177, .dup, 1) (List.mem_of_getElem? (i := 89) rfl)) (e_0 (178, .invokespecial 25, 3) (List.mem_of_getElem? (i := 90) rfl)) v_0_23 (by decide) t_0_25 (by decide) m_4_ok ⟨rfl, rfl, by decide⟩ (Nat.le_of_ble_eq_true rfl) (by rw [hz]; omega) (fun _ _ a1 a2 a3 => q_hill a1 a2 a3) ?_
  refine q_aasT hp0 rfl (q_tok (by rw [hz]; omega)) (e_0 (181, .aastore, 1) (List.mem_of_getElem? (i := 91) rfl)) ⟨by decide, by decide, by decide, by decide, by decide⟩ ?_
  rw [hz, hb]
  refine q_s0 (e_0 (182, .iinc 1 1, 3) (List.mem_of_getElem? (i := 92) rfl)) ⟨rfl, rfl, rfl, rfl⟩ ?_
  refine q_s0 (e_0 (185, .goto (-25), 3) (List.mem_of_getElem? (i := 93) rfl)) ⟨rfl, rfl, rfl, rfl⟩ ?_
  exact hk
set_option maxHeartbeats 4000000 in
set_option maxRecDepth 100000 in
theorem q_bl1_4 (hb : G.length = b) (hr : b + 300 ≤ pm_TB) (ht : G[t]? = some (.inr (9, fs))) (h4 : fs[4]? = some (.ref p)) (hp0 : p < G.length) (hne : p ≠ t) (hk : q_Gd xs L (d + 3) m_0 r G' n k 160 [(1, .int (Int32.ofInt 5)), (0, .ref t)] [] (hp G p (.inl (8, 8, .inr (.inr (.inr (.inr (z_ga b 26 5)))))) (z_hills b 5))) : q_Gd xs L (d + 3) m_0 r G' (n + 26) (k + 163) 160 [(1, .int (Int32.ofInt 4)), (0, .ref t)] [] (hp G p (.inl (8, 8, .inr (.inr (.inr (.inr (z_ga b 26 4)))))) (z_hills b 4)) := by
  have hTB : pm_TB = 1000000 := rfl
  have htl := (List.getElem?_eq_some_iff.mp ht).1
  refine q_s0 (e_0 (160, .iload_n 1, 1) (List.mem_of_getElem? (i := 80) rfl)) ⟨rfl, rfl, rfl, rfl⟩ ?_
  refine q_s0 (e_0 (161, .aload_n 0, 1) (List.mem_of_getElem? (i := 81) rfl)) ⟨rfl, rfl, rfl, rfl⟩ ?_
  refine q_getO ht hne (q_tok (by omega)) (e_0 (162, .getfield 33, 3) (List.mem_of_getElem? (i := 82) rfl)) u_0_33 rfl h4 ?_
  refine q_alenT hp0 (by decide) (by omega) (e_0 (165, .arraylength, 1) (List.mem_of_getElem? (i := 83) rfl)) ?_
  refine q_s0 (e_0 (166, .if_icmp .ge 22, 3) (List.mem_of_getElem? (i := 84) rfl)) ⟨rfl, rfl, rfl, rfl⟩ ?_
  show q_Gd _ _ _ _ _ _ _ _ 169 _ [] _
  refine q_s0 (e_0 (169, .aload_n 0, 1) (List.mem_of_getElem? (i := 85) rfl)) ⟨rfl, rfl, rfl, rfl⟩ ?_
  refine q_getO ht hne (q_tok (by omega)) (e_0 (170, .getfield 33, 3) (List.mem_of_getElem? (i := 86) rfl)) u_0_33 rfl h4 ?_
  refine q_s0 (e_0 (173, .iload_n 1, 1) (List.mem_of_getElem? (i := 87) rfl)) ⟨rfl, rfl, rfl, rfl⟩ ?_
  have hz := z_hills_len b 4
  refine q_mk (m := 25) (n1 := 25) (k1 := 155) (zE := z_hill) (zL := z_hillL) (e_0 (174, .new 23, 3) (List.mem_of_getElem? (i := 88) rfl)) (e_0 (177, .dup, 1) (List.mem_of_getElem? (i := 89) rfl)) (e_0 (178, .invokespecial 25, 3) (List.mem_of_getElem? (i := 90) rfl)) v_0_23 (by decide) t_0_25 (by decide) m_4_ok ⟨rfl, rfl, by decide⟩ (Nat.le_of_ble_eq_true rfl) (by rw [hz]; omega) (fun _ _ a1 a2 a3 => q_hill a1 a2 a3) ?_
  refine q_aasT hp0 rfl (q_tok (by rw [hz]; omega)) (e_0 (181, .aastore, 1) (List.mem_of_getElem? (i := 91) rfl)) ⟨by decide, by decide, by decide, by decide, by decide⟩ ?_
  rw [hz, hb]
  refine q_s0 (e_0 (182, .iinc 1 1, 3) (List.mem_of_getElem? (i := 92) rfl)) ⟨rfl, rfl, rfl, rfl⟩ ?_
  refine q_s0 (e_0 (185, .goto (-25), 3) (List.mem_of_getElem? (i := 93) rfl)) ⟨rfl, rfl, rfl, rfl⟩ ?_
  exact hk
set_option maxHeartbeats 4000000 in
set_option maxRecDepth 100000 in
theorem q_bl1_5 (hb : G.length = b) (hr : b + 300 ≤ pm_TB) (ht : G[t]? = some (.inr (9, fs))) (h4 : fs[4]? = some (.ref p)) (hp0 : p < G.length) (hne : p ≠ t) (hk : q_Gd xs L (d + 3) m_0 r G' n k 160 [(1, .int (Int32.ofInt 6)), (0, .ref t)] [] (hp G p (.inl (8, 8, .inr (.inr (.inr (.inr (z_ga b 26 6)))))) (z_hills b 6))) : q_Gd xs L (d + 3) m_0 r G' (n + 26) (k + 163) 160 [(1, .int (Int32.ofInt 5)), (0, .ref t)] [] (hp G p (.inl (8, 8, .inr (.inr (.inr (.inr (z_ga b 26 5)))))) (z_hills b 5)) := by
  have hTB : pm_TB = 1000000 := rfl
  have htl := (List.getElem?_eq_some_iff.mp ht).1
  refine q_s0 (e_0 (160, .iload_n 1, 1) (List.mem_of_getElem? (i := 80) rfl)) ⟨rfl, rfl, rfl, rfl⟩ ?_
  refine q_s0 (e_0 (161, .aload_n 0, 1) (List.mem_of_getElem? (i := 81) rfl)) ⟨rfl, rfl, rfl, rfl⟩ ?_
  refine q_getO ht hne (q_tok (by omega)) (e_0 (162, .getfield 33, 3) (List.mem_of_getElem? (i := 82) rfl)) u_0_33 rfl h4 ?_
  refine q_alenT hp0 (by decide) (by omega) (e_0 (165, .arraylength, 1) (List.mem_of_getElem? (i := 83) rfl)) ?_
  refine q_s0 (e_0 (166, .if_icmp .ge 22, 3) (List.mem_of_getElem? (i := 84) rfl)) ⟨rfl, rfl, rfl, rfl⟩ ?_
  show q_Gd _ _ _ _ _ _ _ _ 169 _ [] _
  refine q_s0 (e_0 (169, .aload_n 0, 1) (List.mem_of_getElem? (i := 85) rfl)) ⟨rfl, rfl, rfl, rfl⟩ ?_
  refine q_getO ht hne (q_tok (by omega)) (e_0 (170, .getfield 33, 3) (List.mem_of_getElem? (i := 86) rfl)) u_0_33 rfl h4 ?_
  refine q_s0 (e_0 (173, .iload_n 1, 1) (List.mem_of_getElem? (i := 87) rfl)) ⟨rfl, rfl, rfl, rfl⟩ ?_
  have hz := z_hills_len b 5
  refine q_mk (m := 25) (n1 := 25) (k1 := 155) (zE := z_hill) (zL := z_hillL) (e_0 (174, .new 23, 3) (List.mem_of_getElem? (i := 88) rfl)) (e_0 (177, .dup, 1) (List.mem_of_getElem? (i := 89) rfl)) (e_0 (178, .invokespecial 25, 3) (List.mem_of_getElem? (i := 90) rfl)) v_0_23 (by decide) t_0_25 (by decide) m_4_ok ⟨rfl, rfl, by decide⟩ (Nat.le_of_ble_eq_true rfl) (by rw [hz]; omega) (fun _ _ a1 a2 a3 => q_hill a1 a2 a3) ?_
  refine q_aasT hp0 rfl (q_tok (by rw [hz]; omega)) (e_0 (181, .aastore, 1) (List.mem_of_getElem? (i := 91) rfl)) ⟨by decide, by decide, by decide, by decide, by decide⟩ ?_
  rw [hz, hb]
  refine q_s0 (e_0 (182, .iinc 1 1, 3) (List.mem_of_getElem? (i := 92) rfl)) ⟨rfl, rfl, rfl, rfl⟩ ?_
  refine q_s0 (e_0 (185, .goto (-25), 3) (List.mem_of_getElem? (i := 93) rfl)) ⟨rfl, rfl, rfl, rfl⟩ ?_
  exact hk
set_option maxHeartbeats 4000000 in
set_option maxRecDepth 100000 in
theorem q_bl1_6 (hb : G.length = b) (hr : b + 300 ≤ pm_TB) (ht : G[t]? = some (.inr (9, fs))) (h4 : fs[4]? = some (.ref p)) (hp0 : p < G.length) (hne : p ≠ t) (hk : q_Gd xs L (d + 3) m_0 r G' n k 160 [(1, .int (Int32.ofInt 7)), (0, .ref t)] [] (hp G p (.inl (8, 8, .inr (.inr (.inr (.inr (z_ga b 26 7)))))) (z_hills b 7))) : q_Gd xs L (d + 3) m_0 r G' (n + 26) (k + 163) 160 [(1, .int (Int32.ofInt 6)), (0, .ref t)] [] (hp G p (.inl (8, 8, .inr (.inr (.inr (.inr (z_ga b 26 6)))))) (z_hills b 6)) := by
  have hTB : pm_TB = 1000000 := rfl
  have htl := (List.getElem?_eq_some_iff.mp ht).1
  refine q_s0 (e_0 (160, .iload_n 1, 1) (List.mem_of_getElem? (i := 80) rfl)) ⟨rfl, rfl, rfl, rfl⟩ ?_
  refine q_s0 (e_0 (161, .aload_n 0, 1) (List.mem_of_getElem? (i := 81) rfl)) ⟨rfl, rfl, rfl, rfl⟩ ?_
  refine q_getO ht hne (q_tok (by omega)) (e_0 (162, .getfield 33, 3) (List.mem_of_getElem? (i := 82) rfl)) u_0_33 rfl h4 ?_
  refine q_alenT hp0 (by decide) (by omega) (e_0 (165, .arraylength, 1) (List.mem_of_getElem? (i := 83) rfl)) ?_
  refine q_s0 (e_0 (166, .if_icmp .ge 22, 3) (List.mem_of_getElem? (i := 84) rfl)) ⟨rfl, rfl, rfl, rfl⟩ ?_
  show q_Gd _ _ _ _ _ _ _ _ 169 _ [] _
  refine q_s0 (e_0 (169, .aload_n 0, 1) (List.mem_of_getElem? (i := 85) rfl)) ⟨rfl, rfl, rfl, rfl⟩ ?_
  refine q_getO ht hne (q_tok (by omega)) (e_0 (170, .getfield 33, 3) (List.mem_of_getElem? (i := 86) rfl)) u_0_33 rfl h4 ?_
  refine q_s0 (e_0 (173, .iload_n 1, 1) (List.mem_of_getElem? (i := 87) rfl)) ⟨rfl, rfl, rfl, rfl⟩ ?_
  have hz := z_hills_len b 6
  refine q_mk (m := 25) (n1 := 25) (k1 := 155) (zE := z_hill) (zL := z_hillL) (e_0 (174, .new 23, 3) (List.mem_of_getElem? (i := 88) rfl)) (e_0 (177, .dup, 1) (List.mem_of_getElem? (i := 89) rfl)) (e_0 (178, .invokespecial 25, 3) (List.mem_of_getElem? (i := 90) rfl)) v_0_23 (by decide) t_0_25 (by decide) m_4_ok ⟨rfl, rfl, by decide⟩ (Nat.le_of_ble_eq_true rfl) (by rw [hz]; omega) (fun _ _ a1 a2 a3 => q_hill a1 a2 a3) ?_
  refine q_aasT hp0 rfl (q_tok (by rw [hz]; omega)) (e_0 (181, .aastore, 1) (List.mem_of_getElem? (i := 91) rfl)) ⟨by decide, by decide, by decide, by decide, by decide⟩ ?_
  rw [hz, hb]
  refine q_s0 (e_0 (182, .iinc 1 1, 3) (List.mem_of_getElem? (i := 92) rfl)) ⟨rfl, rfl, rfl, rfl⟩ ?_
  refine q_s0 (e_0 (185, .goto (-25), 3) (List.mem_of_getElem? (i := 93) rfl)) ⟨rfl, rfl, rfl, rfl⟩ ?_
  exact hk
set_option maxHeartbeats 4000000 in
set_option maxRecDepth 100000 in
theorem q_bl1_7 (hb : G.length = b) (hr : b + 300 ≤ pm_TB) (ht : G[t]? = some (.inr (9, fs))) (h4 : fs[4]? = some (.ref p)) (hp0 : p < G.length) (hne : p ≠ t) (hk : q_Gd xs L (d + 3) m_0 r G' n k 160 [(1, .int (Int32.ofInt 8)), (0, .ref t)] [] (hp G p (.inl (8, 8, .inr (.inr (.inr (.inr (z_ga b 26 8)))))) (z_hills b 8))) : q_Gd xs L (d + 3) m_0 r G' (n + 26) (k + 163) 160 [(1, .int (Int32.ofInt 7)), (0, .ref t)] [] (hp G p (.inl (8, 8, .inr (.inr (.inr (.inr (z_ga b 26 7)))))) (z_hills b 7)) := by
  have hTB : pm_TB = 1000000 := rfl
  have htl := (List.getElem?_eq_some_iff.mp ht).1
  refine q_s0 (e_0 (160, .iload_n 1, 1) (List.mem_of_getElem? (i := 80) rfl)) ⟨rfl, rfl, rfl, rfl⟩ ?_
  refine q_s0 (e_0 (161, .aload_n 0, 1) (List.mem_of_getElem? (i := 81) rfl)) ⟨rfl, rfl, rfl, rfl⟩ ?_
  refine q_getO ht hne (q_tok (by omega)) (e_0 (162, .getfield 33, 3) (List.mem_of_getElem? (i := 82) rfl)) u_0_33 rfl h4 ?_
  refine q_alenT hp0 (by decide) (by omega) (e_0 (165, .arraylength, 1) (List.mem_of_getElem? (i := 83) rfl)) ?_
  refine q_s0 (e_0 (166, .if_icmp .ge 22, 3) (List.mem_of_getElem? (i := 84) rfl)) ⟨rfl, rfl, rfl, rfl⟩ ?_
  show q_Gd _ _ _ _ _ _ _ _ 169 _ [] _
  refine q_s0 (e_0 (169, .aload_n 0, 1) (List.mem_of_getElem? (i := 85) rfl)) ⟨rfl, rfl, rfl, rfl⟩ ?_
  refine q_getO ht hne (q_tok (by omega)) (e_0 (170, .getfield 33, 3) (List.mem_of_getElem? (i := 86) rfl)) u_0_33 rfl h4 ?_
  refine q_s0 (e_0 (173, .iload_n 1, 1) (List.mem_of_getElem? (i := 87) rfl)) ⟨rfl, rfl, rfl, rfl⟩ ?_
  have hz := z_hills_len b 7
  refine q_mk (m := 25) (n1 := 25) (k1 := 155) (zE := z_hill) (zL := z_hillL) (e_0 (174, .new 23, 3) (List.mem_of_getElem? (i := 88) rfl)) (e_0 (177, .dup, 1) (List.mem_of_getElem? (i := 89) rfl)) (e_0 (178, .invokespecial 25, 3) (List.mem_of_getElem? (i := 90) rfl)) v_0_23 (by decide) t_0_25 (by decide) m_4_ok ⟨rfl, rfl, by decide⟩ (Nat.le_of_ble_eq_true rfl) (by rw [hz]; omega) (fun _ _ a1 a2 a3 => q_hill a1 a2 a3) ?_
  refine q_aasT hp0 rfl (q_tok (by rw [hz]; omega)) (e_0 (181, .aastore, 1) (List.mem_of_getElem? (i := 91) rfl)) ⟨by decide, by decide, by decide, by decide, by decide⟩ ?_
  rw [hz, hb]
  refine q_s0 (e_0 (182, .iinc 1 1, 3) (List.mem_of_getElem? (i := 92) rfl)) ⟨rfl, rfl, rfl, rfl⟩ ?_
  refine q_s0 (e_0 (185, .goto (-25), 3) (List.mem_of_getElem? (i := 93) rfl)) ⟨rfl, rfl, rfl, rfl⟩ ?_
  exact hk
set_option maxHeartbeats 4000000 in
set_option maxRecDepth 100000 in
theorem q_bl1_8 (hb : G.length = b) (hr : b + 300 ≤ pm_TB) (ht : G[t]? = some (.inr (9, fs))) (h4 : fs[4]? = some (.ref p)) (hp0 : p < G.length) (hne : p ≠ t) (hk : q_Gd xs L (d + 3) m_0 r G' n k 188 [(1, .int (Int32.ofInt 8)), (0, .ref t)] [] (hp G p (.inl (8, 8, .inr (.inr (.inr (.inr (z_ga b 26 8)))))) (z_hills b 8))) : q_Gd xs L (d + 3) m_0 r G' n k 160 [(1, .int (Int32.ofInt 8)), (0, .ref t)] [] (hp G p (.inl (8, 8, .inr (.inr (.inr (.inr (z_ga b 26 8)))))) (z_hills b 8)) := by
  have hTB : pm_TB = 1000000 := rfl
  have htl := (List.getElem?_eq_some_iff.mp ht).1
  refine q_s0 (e_0 (160, .iload_n 1, 1) (List.mem_of_getElem? (i := 80) rfl)) ⟨rfl, rfl, rfl, rfl⟩ ?_
  refine q_s0 (e_0 (161, .aload_n 0, 1) (List.mem_of_getElem? (i := 81) rfl)) ⟨rfl, rfl, rfl, rfl⟩ ?_
  refine q_getO ht hne (q_tok (by omega)) (e_0 (162, .getfield 33, 3) (List.mem_of_getElem? (i := 82) rfl)) u_0_33 rfl h4 ?_
  refine q_alenT hp0 (by decide) (by omega) (e_0 (165, .arraylength, 1) (List.mem_of_getElem? (i := 83) rfl)) ?_
  refine q_s0 (e_0 (166, .if_icmp .ge 22, 3) (List.mem_of_getElem? (i := 84) rfl)) ⟨rfl, rfl, rfl, rfl⟩ ?_
  exact hk
end QB
