section QM
variable {xs : Nat → Int32} {L d : Nat} {M : pM} {r : Option Value} {G' : List pE} {n k pc : Nat} {lv : pL} {st : List Value} {G Ls : List pE} {t : Nat} {E : pE}
/-- new, dup, the constructor -/
theorem q_mk {kk k2 n1 k1 m : Nat} {q : Nat × Nat × Nat × Nat × Nat × Nat × Nat × Nat} {q2 : Nat × Nat × Nat × Nat × Nat} {M' : pM} {zE : Nat → pE} {zL : Nat → List pE} (d1 : decode M.code pc = .ok (.new kk, 3)) (d2 : decode M.code (pc + 3) = .ok (.dup, 1)) (d3 : decode M.code (pc + 3 + 1) = .ok (.invokespecial k2, 3)) (hq : pm_ntab.find? (fun r => r.1 == M.own && r.2.1 == kk) = some q) (hc : q.2.2.1 < 11) (hf : pm_ctab.find? (fun r => r.1 == M.own && r.2.1 == k2) = some q2) (hk2 : q2.2.2.1 = 3 ∨ q2.2.2.1 = 6) (hM' : pm_tab[q2.2.2.2.1]? = some M') (hna : pm_na M' = 1 ∧ M'.st = false ∧ 1 ≤ M'.maxL) (hs : 1 + (st.map fun v => v.category).sum ≤ 8) (hl : G.length + Ls.length + 1 + m ≤ pm_TB)
    (spec : ∀ (G : List pE) (t : Nat), t < G.length → G.length + m ≤ pm_TB → G[t]? = some (.inr (q.2.2.1, pm_d q.2.2.1)) → q_Gd xs L d M' none (hp G t (zE G.length) (zL G.length)) n1 k1 0 (lv_args 0 [.ref t]) [] G)
    (hk : q_Gd xs L (d + 1) M r G' n k (pc + 3 + 1 + 3) lv (.ref (G.length + Ls.length) :: st) (hp G t E (Ls ++ zE (G.length + Ls.length + 1) :: zL (G.length + Ls.length + 1)))) : q_Gd xs L (d + 1) M r G' (n + n1 + 1) (k + k1 + pm_N q.2.2.1) pc lv st (hp G t E Ls) := by
  have hlen : (hp G t E (Ls ++ [.inr (q.2.2.1, pm_d q.2.2.1)])).length = G.length + Ls.length + 1 := by
    rw [hp_len, List.length_append, List.length_singleton]; omega
  refine q_new d1 hq ⟨hc, by omega⟩ ?_
  refine q_s0 d2 ⟨rfl, rfl, rfl, rfl⟩ ?_
  refine q_call d3 ⟨rfl, rfl, rfl⟩ hf (by omega) hM' hna.1 (by omega) ?_ ?_ ?_ (spec _ (G.length + Ls.length) (by rw [hlen]; omega) (by rw [hlen]; omega) ?_) ?_
  · unfold pm_recv
    rw [hna.2.1]
    rcases hk2 with z | z <;> (rw [z]; try rfl)
  · exact hna.2.2
  · rw [List.map_cons, List.sum_cons]
    exact hs
  · rw [hp_l, List.getElem?_append_right (Nat.le_refl _), Nat.sub_self]
    rfl
  · rw [hp_hp, hlen]
    rw [List.set_append_right _ _ (Nat.le_refl _), Nat.sub_self]
    show q_Gd xs L (d + 1) M r G' n k (pc + 3 + 1 + 3) lv (.ref (G.length + Ls.length) :: st) (hp G t E ((Ls ++ [zE (G.length + Ls.length + 1)]) ++ zL (G.length + Ls.length + 1)))
    rw [List.append_assoc]
    exact hk
theorem q_alen {i N tt : Nat} {x : _} (hl : Ls[i]? = some (.inl (tt, N, x))) (htt : tt < 10) (hi : G.length + i < pm_TB) (hd : decode M.code pc = .ok (.arraylength, 1)) (hk : q_Gd xs L d M r G' n k (pc + 1) lv (.int (Int32.ofNat N) :: st) (hp G t E Ls)) : q_Gd xs L d M r G' n k pc lv (.ref (G.length + i) :: st) (hp G t E Ls) := by
  have e1 : pm_SB = 2000000 := rfl
  have e2 : pm_KB = 3000000 := rfl
  have e3 : pm_TB = 1000000 := rfl
  refine q_s0 hd ⟨rfl, rfl, rfl, ?_⟩ hk
  dsimp only [pm_step]
  rw [if_neg (show ¬ (G.length + i = pm_SB) by omega), if_neg (show ¬ (G.length + i = pm_KB) by omega), hp_l, hl]
  dsimp only
  rw [if_pos htt]
theorem q_lasL {i N : Nat} {f : Nat → Int64} {x : Int64} {j : Int32} (hl : Ls[i]? = some (.inl (3, N, .inr (.inl f)))) (hd : decode M.code pc = .ok (.lastore, 1)) (hj : pm_bad j N = false) (hk : q_Gd xs L d M r G' n k (pc + 1) lv st (hp G t E (Ls.set i (.inl (3, N, .inr (.inl (vp_updL f j.toNatClampNeg x))))))) : q_Gd xs L d M r G' n k pc lv (.long x :: .int j :: .ref (G.length + i) :: st) (hp G t E Ls) := by
  refine q_s0 hd ⟨rfl, rfl, rfl, ?_⟩ hk
  dsimp only [pm_step]
  rw [hp_l, hl]
  show (if pm_bad j N = true then none else some (pc + 1, lv, st, (hp G t E Ls).set (G.length + i) (.inl (3, N, .inr (.inl (vp_updL f j.toNatClampNeg x)))), 0, 0)) = _
  rw [hj, hp_sl]
  rfl
end QM
