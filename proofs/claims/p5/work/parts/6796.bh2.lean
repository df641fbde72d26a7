section QD
variable {xs : Nat → Int32} {L d : Nat} {G : List pE} {t : Nat}
theorem hp_p {G Ls : List pE} {p a : Nat} {e : pE} {x : Option pE} (ha : a < G.length) (h : G[a]? = x) (hne : p ≠ a) : (hp G p e Ls)[a]? = x := (hp_o ha hne).trans h
set_option maxHeartbeats 4000000 in
set_option maxRecDepth 100000 in
theorem q_bh (ht : t < G.length) (hl : G.length + 500 ≤ pm_TB) (h0 : G[t]? = some (.inr (9, [.null, .null, .null, .null, .null, .int (Int32.ofInt 0), .null, .null, .null, .null, .null, .null, .null, .int (Int32.ofInt 0), .null, .null, .int (Int32.ofInt 0), .int (Int32.ofInt 0)]))) : q_Gd xs L (d + 3) m_0 none (z_Hf G t) 348 3738 0 (lv_args 0 [.ref t]) [] G := by
  have hTB : pm_TB = 1000000 := rfl
  have la : (z_Ha G t).length = G.length + 78 := by unfold z_Ha; rw [hp_len, z_bhL0_len]
  have lb : (z_Hb G t).length = G.length + 286 := by unfold z_Hb; rw [hp_len, la, z_hills_len]
  have lc : (z_Hc G t).length = G.length + 312 := by unfold z_Hc z_i8; rw [hp_len, lb, List.length_cons, z_hillL_len]
  have ld : (z_Hd G t).length = G.length + 317 := by unfold z_Hd z_i9; rw [hp_len, lc, List.length_cons, z_sentL_len]
  have le : (z_He G t).length = G.length + 343 := by unfold z_He z_i8; rw [hp_len, ld, List.length_cons, z_hillL_len]
  have at_ : (z_Ha G t)[t]? = some (z_bh G.length) := hp_t ht
  have a57 : (z_Ha G t)[G.length + 57]? = some (.inl (8, 8, .inr (.inr (.inr (.inr (fun _ => none)))))) := hp_l.trans (z_bhL0_57 _)
  have a68 : (z_Ha G t)[G.length + 68]? = some (.inl (8, 2, .inr (.inr (.inr (.inr (fun _ => none)))))) := hp_l.trans (z_bhL0_68 _)
  have a69 : (z_Ha G t)[G.length + 69]? = some (.inl (9, 2, .inr (.inr (.inr (.inr (fun _ => none)))))) := hp_l.trans (z_bhL0_69 _)
  have bt : (z_Hb G t)[t]? = some (z_bh G.length) := hp_p (by omega) at_ (by omega)
  have b68 : (z_Hb G t)[G.length + 68]? = _ := hp_p (by omega) a68 (by omega)
  have b69 : (z_Hb G t)[G.length + 69]? = _ := hp_p (by omega) a69 (by omega)
  have ct_ : (z_Hc G t)[t]? = some (z_bh G.length) := hp_p (by omega) bt (by omega)
  have c69 : (z_Hc G t)[G.length + 69]? = _ := hp_p (by omega) b69 (by omega)
  have c68 : (z_Hc G t)[G.length + 68]? = some (.inl (8, 2, .inr (.inr (.inr (.inr (va_up (fun _ => none) 0 (some (G.length + 286)))))))) := by
    unfold z_Hc z_i8
    rw [hp_t (by omega), lb]
  have dt : (z_Hd G t)[t]? = some (z_bh G.length) := hp_p (by omega) ct_ (by omega)
  have d68 : (z_Hd G t)[G.length + 68]? = _ := hp_p (by omega) c68 (by omega)
  have d69 : (z_Hd G t)[G.length + 69]? = some (.inl (9, 2, .inr (.inr (.inr (.inr (va_up (fun _ => none) 0 (some (G.length + 312)))))))) := by
    unfold z_Hd z_i9
    rw [hp_t (by omega), lc]
  have et : (z_He G t)[t]? = some (z_bh G.length) := hp_p (by omega) dt (by omega)
  have e69 : (z_He G t)[G.length + 69]? = _ := hp_p (by omega) d69 (by omega)
  refine q_bhA (n := 270) (k := 1962) ht (by omega) h0 ?_
  refine q_s0 (e_0 (158, .iconst 0, 1) (List.mem_of_getElem? (i := 78) rfl)) ⟨rfl, rfl, rfl, rfl⟩ ?_
  refine q_s0 (e_0 (159, .istore_n 1, 1) (List.mem_of_getElem? (i := 79) rfl)) ⟨rfl, rfl, rfl, rfl⟩ ?_
  show q_Gd _ _ _ _ _ _ 270 1962 160 [(1, .int (Int32.ofInt 0)), (0, .ref t)] [] (z_Ha G t)
  rw [← hp_id a57]
  refine q_bl1_0 (n := 244) (k := 1799) la (by omega) at_ rfl (by omega) (by omega) ?_
  refine q_bl1_1 (n := 218) (k := 1636) la (by omega) at_ rfl (by omega) (by omega) ?_
  refine q_bl1_2 (n := 192) (k := 1473) la (by omega) at_ rfl (by omega) (by omega) ?_
  refine q_bl1_3 (n := 166) (k := 1310) la (by omega) at_ rfl (by omega) (by omega) ?_
  refine q_bl1_4 (n := 140) (k := 1147) la (by omega) at_ rfl (by omega) (by omega) ?_
  refine q_bl1_5 (n := 114) (k := 984) la (by omega) at_ rfl (by omega) (by omega) ?_
  refine q_bl1_6 (n := 88) (k := 821) la (by omega) at_ rfl (by omega) (by omega) ?_
  refine q_bl1_7 (n := 62) (k := 658) la (by omega) at_ rfl (by omega) (by omega) ?_
  refine q_bl1_8 la (by omega) at_ rfl (by omega) (by omega) ?_
  refine q_s0 (e_0 (188, .iconst 0, 1) (List.mem_of_getElem? (i := 94) rfl)) ⟨rfl, rfl, rfl, rfl⟩ ?_
  refine q_s0 (e_0 (189, .istore_n 1, 1) (List.mem_of_getElem? (i := 95) rfl)) ⟨rfl, rfl, rfl, rfl⟩ ?_
  show q_Gd _ _ _ _ _ _ 62 658 190 [(1, .int (Int32.ofInt 0)), (0, .ref t)] [] (z_Hb G t)
  refine q_s0 (e_0 (190, .iload_n 1, 1) (List.mem_of_getElem? (i := 96) rfl)) ⟨rfl, rfl, rfl, rfl⟩ ?_
  refine q_s0 (e_0 (191, .iconst 2, 1) (List.mem_of_getElem? (i := 97) rfl)) ⟨rfl, rfl, rfl, rfl⟩ ?_
  refine q_s0 (e_0 (192, .if_icmp .ge 35, 3) (List.mem_of_getElem? (i := 98) rfl)) ⟨rfl, rfl, rfl, rfl⟩ ?_
  refine q_in8 (n := 36) (k := 495) (j := Int32.ofInt 0) (by omega) bt rfl b68 (by omega) rfl rfl (by decide) ?_
  refine q_in9 (n := 31) (k := 329) (j := Int32.ofInt 0) (H := z_Hc G t) (by omega) ct_ rfl c69 (by omega) rfl rfl (by decide) ?_
  refine q_s0 (e_0 (221, .iinc 1 1, 3) (List.mem_of_getElem? (i := 113) rfl)) ⟨rfl, rfl, rfl, rfl⟩ ?_
  refine q_s0 (e_0 (224, .goto (-34), 3) (List.mem_of_getElem? (i := 114) rfl)) ⟨rfl, rfl, rfl, rfl⟩ ?_
  show q_Gd _ _ _ _ _ _ 31 329 190 [(1, .int (Int32.ofInt 1)), (0, .ref t)] [] (z_Hd G t)
  refine q_s0 (e_0 (190, .iload_n 1, 1) (List.mem_of_getElem? (i := 96) rfl)) ⟨rfl, rfl, rfl, rfl⟩ ?_
  refine q_s0 (e_0 (191, .iconst 2, 1) (List.mem_of_getElem? (i := 97) rfl)) ⟨rfl, rfl, rfl, rfl⟩ ?_
  refine q_s0 (e_0 (192, .if_icmp .ge 35, 3) (List.mem_of_getElem? (i := 98) rfl)) ⟨rfl, rfl, rfl, rfl⟩ ?_
  refine q_in8 (n := 5) (k := 166) (j := Int32.ofInt 1) (by omega) dt rfl d68 (by omega) rfl rfl (by decide) ?_
  refine q_in9 (n := 0) (k := 0) (j := Int32.ofInt 1) (H := z_He G t) (by omega) et rfl e69 (by omega) rfl rfl (by decide) ?_
  refine q_s0 (e_0 (221, .iinc 1 1, 3) (List.mem_of_getElem? (i := 113) rfl)) ⟨rfl, rfl, rfl, rfl⟩ ?_
  refine q_s0 (e_0 (224, .goto (-34), 3) (List.mem_of_getElem? (i := 114) rfl)) ⟨rfl, rfl, rfl, rfl⟩ ?_
  show q_Gd _ _ _ _ _ _ 0 0 190 [(1, .int (Int32.ofInt 2)), (0, .ref t)] [] (z_Hf G t)
  refine q_s0 (e_0 (190, .iload_n 1, 1) (List.mem_of_getElem? (i := 96) rfl)) ⟨rfl, rfl, rfl, rfl⟩ ?_
  refine q_s0 (e_0 (191, .iconst 2, 1) (List.mem_of_getElem? (i := 97) rfl)) ⟨rfl, rfl, rfl, rfl⟩ ?_
  refine q_s0 (e_0 (192, .if_icmp .ge 35, 3) (List.mem_of_getElem? (i := 98) rfl)) ⟨rfl, rfl, rfl, rfl⟩ ?_
  exact q_ret (e_0 (227, .return_, 1) (List.mem_of_getElem? (i := 115) rfl)) ⟨rfl, rfl⟩
end QD
