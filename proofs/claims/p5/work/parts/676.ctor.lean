-- ===== runs that make cells =====
def q_Gd (xs : Nat → Int32) (L d : Nat) (M : pM) (r : Option Value) (G' : List pE) (n k : Nat) (pc : Nat) (lv : pL) (ws : List Value) (G : List pE) : Prop := ∃ f0, ∀ f, f0 ≤ f → ∀ c s, pm_run xs L 0 f d M pc lv ws G c s = some (r, G', c + n, s + k)
/-- this cell t, new cells Ls -/
def hp (G : List pE) (t : Nat) (E : pE) (Ls : List pE) : List pE := G.set t E ++ Ls
def pm_d (c : Nat) : List Value := (List.range (pm_N c)).map (fun j => defaultValue (pm_ty c j))
section QH
variable {G Ls X : List pE} {t i : Nat} {E E' e : pE}
theorem hp_len : (hp G t E Ls).length = G.length + Ls.length := by
  unfold hp
  rw [List.length_append, List.length_set]
theorem hp_t (ht : t < G.length) : (hp G t E Ls)[t]? = some E := by
  unfold hp
  rw [List.getElem?_append_left (by rw [List.length_set]; exact ht), List.getElem?_set_self ht]
theorem hp_l : (hp G t E Ls)[G.length + i]? = Ls[i]? := by
  unfold hp
  rw [List.getElem?_append_right (by rw [List.length_set]; omega), List.length_set]
  congr 1
  omega
theorem hp_st (ht : t < G.length) : (hp G t E Ls).set t E' = hp G t E' Ls := by
  unfold hp
  rw [List.set_append_left _ _ (by rw [List.length_set]; exact ht), List.set_set]
theorem hp_sl : (hp G t E Ls).set (G.length + i) e = hp G t E (Ls.set i e) := by
  unfold hp
  rw [List.set_append_right _ _ (by rw [List.length_set]; omega), List.length_set]
  congr 2
  omega
theorem hp_app : hp G t E Ls ++ X = hp G t E (Ls ++ X) := by
  unfold hp
  rw [List.append_assoc]
theorem hp_id (h : G[t]? = some E) : hp G t E [] = G := by
  unfold hp
  rw [List.append_nil]
  have hl := (List.getElem?_eq_some_iff.mp h)
  obtain ⟨h1, h2⟩ := hl
  rw [← h2]
  exact List.set_getElem_self h1
theorem hp_hp : hp (hp G t E Ls) (G.length + i) E' X = hp G t E (Ls.set i E' ++ X) := by
  show (hp G t E Ls).set (G.length + i) E' ++ X = _
  rw [hp_sl, hp_app]
end QH
section QG
variable {xs : Nat → Int32} {L d : Nat} {M : pM} {r : Option Value} {G' : List pE} {n k pc : Nat} {lv : pL} {ws st : List Value} {G Ls : List pE} {t : Nat} {E : pE}
theorem q_ret {i : Instr} {nn : Nat} (hd : decode M.code pc = .ok (i, nn)) (hr : pm_len i nn = nn ∧ pm_ret i M.ret ws = some r) : q_Gd xs L d M r G 0 0 pc lv ws G := by
  refine ⟨1, fun f hf c s => ?_⟩
  obtain ⟨f, rfl⟩ : ∃ k, f = k + 1 := ⟨f - 1, by omega⟩
  rw [pm_run, hd]
  dsimp only
  rw [if_pos hr.1, hr.2]
  rfl
theorem q_st {i : Instr} {nn pc' dc ds : Nat} {lv' : pL} {ws' : List Value} {G1 : List pE} (hd : decode M.code pc = .ok (i, nn)) (hs : pm_len i nn = nn ∧ x_isRet i = false ∧ pm_call i = none ∧ pm_step M.own M.maxL (decide (M.y.name = "<init>")) xs L 0 i pc lv ws G = some (pc', lv', ws', G1, dc, ds)) (hk : q_Gd xs L d M r G' n k pc' lv' ws' G1) : q_Gd xs L d M r G' (n + dc) (k + ds) pc lv ws G := by
  obtain ⟨f0, hf0⟩ := hk
  refine ⟨f0 + 1, fun f hf c s => ?_⟩
  obtain ⟨f, rfl⟩ : ∃ k, f = k + 1 := ⟨f - 1, by omega⟩
  rw [pm_run, hd]
  dsimp only
  rw [if_pos hs.1, x_ret_none hs.2.1, hs.2.2.1]
  dsimp only
  rw [hs.2.2.2]
  dsimp only
  rw [hf0 f (by omega), show c + (n + dc) = c + dc + n by omega, show s + (k + ds) = s + ds + k by omega]
theorem q_s0 {i : Instr} {nn pc' : Nat} {lv' : pL} {ws' : List Value} {G1 : List pE} (hd : decode M.code pc = .ok (i, nn)) (hs : pm_len i nn = nn ∧ x_isRet i = false ∧ pm_call i = none ∧ pm_step M.own M.maxL (decide (M.y.name = "<init>")) xs L 0 i pc lv ws G = some (pc', lv', ws', G1, 0, 0)) (hk : q_Gd xs L d M r G' n k pc' lv' ws' G1) : q_Gd xs L d M r G' n k pc lv ws G := q_st hd hs hk
theorem q_obj {i : Instr} {nn a kk : Nat} {q : Nat × Nat × Nat × Nat × Nat} (hd : decode M.code pc = .ok (i, nn)) (hn : pm_len i nn = nn ∧ x_isRet i = false ∧ pm_call i = some (3, kk)) (hf : pm_ctab.find? (fun r => r.1 == M.own && r.2.1 == kk) = some q) (h0 : q.2.2.1 = 0) (hs : (st.map fun v => v.category).sum ≤ 8) (hk : q_Gd xs L (d + 1) M r G' n k (pc + 3) lv st G) : q_Gd xs L (d + 1) M r G' n k pc lv (.ref a :: st) G := by
  obtain ⟨f0, hf0⟩ := hk
  refine ⟨f0 + 1, fun f hf' c s => ?_⟩
  obtain ⟨f, rfl⟩ : ∃ k, f = k + 1 := ⟨f - 1, by omega⟩
  rw [pm_run, hd]
  dsimp only
  rw [if_pos hn.1, x_ret_none hn.2.1, hn.2.2]
  dsimp only
  rw [hf]
  dsimp only
  rw [h0]
  show (if 3 = 3 ∧ 0 < d + 1 ∧ (st.map fun v => v.category).sum ≤ 8 then pm_run xs L 0 f (d + 1) M (pc + 3) lv st G c s else none) = _
  rw [if_pos ⟨rfl, by omega, hs⟩]
  exact hf0 f (by omega) c s
theorem q_call {i : Instr} {nn kk w n1 k1 : Nat} {q : Nat × Nat × Nat × Nat × Nat} {M' : pM} {x1 : Value} {r1 : Option Value} {G1 : List pE} (hd : decode M.code pc = .ok (i, nn)) (hn : pm_len i nn = nn ∧ x_isRet i = false ∧ pm_call i = some (w, kk)) (hf : pm_ctab.find? (fun r => r.1 == M.own && r.2.1 == kk) = some q) (h0 : q.2.2.1 ≠ 0 ∧ q.2.2.1 ≠ 7 ∧ q.2.2.1 ≠ 8 ∧ q.2.2.1 ≠ 9) (hM' : pm_tab[q.2.2.2.1]? = some M') (hna : pm_na M' = 1) (hkd : q.2.2.1 = w ∨ q.2.2.1 = w + 3) (hr : pm_recv q.2.2.1 M' [x1] G = true) (hl : (lg_sl [x1]).length ≤ M'.maxL) (hs : (st.map fun v => v.category).sum ≤ 8)
    (h1 : q_Gd xs L d M' r1 G1 n1 k1 0 (lv_args 0 [x1]) [] G) (hk : q_Gd xs L (d + 1) M r G' n k (pc + 3) lv (r1.toList ++ st) G1) : q_Gd xs L (d + 1) M r G' (n + n1) (k + k1) pc lv (x1 :: st) G := by
  obtain ⟨f1, hf1⟩ := h1
  obtain ⟨f2, hf2⟩ := hk
  have e1 : ((x1 :: st).take (pm_na M')).reverse = [x1] := by rw [hna]; rfl
  have e2 : (x1 :: st).drop (pm_na M') = st := by rw [hna]; rfl
  refine ⟨f1 + f2 + 1, fun f hf0 c s => ?_⟩
  obtain ⟨f, rfl⟩ : ∃ k, f = k + 1 := ⟨f - 1, by omega⟩
  rw [pm_run, hd]
  dsimp only
  rw [if_pos hn.1, x_ret_none hn.2.1, hn.2.2]
  dsimp only
  rw [hf]
  dsimp only
  split
  · rename_i h; exact absurd h h0.1
  · rename_i h; exact absurd h h0.2.1
  · rename_i h; exact absurd h h0.2.2.1
  · rename_i h; exact absurd h h0.2.2.2
  · rw [hM']
    dsimp only
    rw [if_pos ⟨hkd, by rw [hna]; exact Nat.le_add_left _ _, by rw [e1]; exact hr, by rw [e1]; exact hl, by rw [e2]; exact hs⟩, e1, e2, hf1 f (by omega)]
    dsimp only
    rw [hf2 f (by omega), show c + (n + n1) = c + (0 + n1) + n by omega, show s + (k + k1) = s + (0 + k1) + k by omega]
/-- a run without new cells -/
theorem q_of {d : Nat} (h : x_runs xs L 0 d M pc lv ws G r G') (hp : ∀ f c s, pm_run xs L 0 f d M pc lv ws G c s = (pm_run xs L 0 f d M pc lv ws G 0 0).map (fun z => (z.1, z.2.1, c + z.2.2.1, s + z.2.2.2))) : q_Gd xs L d M r G' 0 0 pc lv ws G := by
  obtain ⟨f0, h0⟩ := h
  refine ⟨f0, fun f hf c s => ?_⟩
  rw [hp, h0 f hf]
  rfl
theorem q_putT {kk : Nat} {q : Nat × Nat × Nat × Nat × Nat × Nat} {v : Value} {ci : Nat} {fs : List Value} (ht : t < G.length) (hd : decode M.code pc = .ok (.putfield kk, 3)) (hq : pm_ftab.find? (fun r => r.1 == M.own && r.2.1 == kk) = some q) (hc : ci = q.2.2.1 ∧ q.2.2.2.1 < fs.length ∧ narrow (pm_ty ci q.2.2.2.1) v = v ∧ fits (pm_ty ci q.2.2.2.1) v = true ∧ (pm_fin ci q.2.2.2.1 = true → decide (M.y.name = "<init>") = true ∧ pm_own M.own = pm_cn ci ∧ q.2.2.2.2.1 = 0)) (hk : q_Gd xs L d M r G' n k (pc + 3) lv st (hp G t (.inr (ci, fs.set q.2.2.2.1 v)) Ls)) : q_Gd xs L d M r G' n k pc lv (v :: .ref t :: st) (hp G t (.inr (ci, fs)) Ls) := by
  refine q_s0 hd ⟨rfl, rfl, rfl, ?_⟩ hk
  dsimp only [pm_step]
  rw [hq]
  dsimp only
  rw [hp_t ht]
  dsimp only
  rw [if_pos hc, hp_st ht]
theorem q_getT {kk : Nat} {q : Nat × Nat × Nat × Nat × Nat × Nat} {v : Value} {ci : Nat} {fs : List Value} (ht : t < G.length) (hT : pm_isTok t = false) (hd : decode M.code pc = .ok (.getfield kk, 3)) (hq : pm_ftab.find? (fun r => r.1 == M.own && r.2.1 == kk) = some q) (hc : ci = q.2.2.1) (hv : fs[q.2.2.2.1]? = some v) (hk : q_Gd xs L d M r G' n k (pc + 3) lv (v :: st) (hp G t (.inr (ci, fs)) Ls)) : q_Gd xs L d M r G' n k pc lv (.ref t :: st) (hp G t (.inr (ci, fs)) Ls) := by
  refine q_s0 hd ⟨rfl, rfl, rfl, ?_⟩ hk
  dsimp only [pm_step]
  rw [hT]
  rw [if_neg (by decide), hq]
  dsimp only
  rw [hp_t ht]
  dsimp only
  rw [if_pos hc, hv]
theorem q_new {kk : Nat} {q : Nat × Nat × Nat × Nat × Nat × Nat × Nat × Nat} (hd : decode M.code pc = .ok (.new kk, 3)) (hq : pm_ntab.find? (fun r => r.1 == M.own && r.2.1 == kk) = some q) (hc : q.2.2.1 < 11 ∧ G.length + Ls.length < pm_TB) (hk : q_Gd xs L d M r G' n k (pc + 3) lv (.ref (G.length + Ls.length) :: st) (hp G t E (Ls ++ [.inr (q.2.2.1, pm_d q.2.2.1)]))) : q_Gd xs L d M r G' (n + 1) (k + pm_N q.2.2.1) pc lv st (hp G t E Ls) := by
  refine q_st hd ⟨rfl, rfl, rfl, ?_⟩ hk
  dsimp only [pm_step]
  rw [hq]
  dsimp only
  rw [hp_len, if_pos ⟨hc.1, hc.2, rfl⟩, hp_app]
  rfl
theorem q_newa {ty : ArrayType} {N : Int32} (hd : decode M.code pc = .ok (.newarray ty, 2)) (hc : ¬ (N < 0 ∨ 10000 < N.toNatClampNeg ∨ 3 < pm_atype ty)) (hl : G.length + Ls.length < pm_TB) (hk : q_Gd xs L d M r G' n k (pc + 2) lv (.ref (G.length + Ls.length) :: st) (hp G t E (Ls ++ [.inl (pm_atype ty, pm_blank (pm_atype ty) N.toNatClampNeg)]))) : q_Gd xs L d M r G' (n + 1) (k + N.toNatClampNeg) pc lv (.int N :: st) (hp G t E Ls) := by
  refine q_st hd ⟨rfl, rfl, rfl, ?_⟩ hk
  dsimp only [pm_step]
  rw [hp_len, if_neg (fun z => by
    rcases z with z | z | z | z | z
    · exact hc (Or.inl z)
    · exact hc (Or.inr (Or.inl z))
    · exact hc (Or.inr (Or.inr z))
    · omega
    · exact z rfl), hp_app]
theorem q_anew {kk : Nat} {q : Nat × Nat × Nat × Nat × Nat × Nat × Nat × Nat} {N : Int32} (hd : decode M.code pc = .ok (.anewarray kk, 3)) (hq : pm_ntab.find? (fun r => r.1 == M.own && r.2.1 == kk) = some q) (hc : ¬ (N < 0 ∨ 10000 < N.toNatClampNeg ∨ q.2.2.2.1 < 4 ∨ 9 < q.2.2.2.1)) (hl : G.length + Ls.length < pm_TB) (hk : q_Gd xs L d M r G' n k (pc + 3) lv (.ref (G.length + Ls.length) :: st) (hp G t E (Ls ++ [.inl (q.2.2.2.1, N.toNatClampNeg, .inr (.inr (.inr (.inr (fun _ => none)))))]))) : q_Gd xs L d M r G' (n + 1) (k + N.toNatClampNeg) pc lv (.int N :: st) (hp G t E Ls) := by
  refine q_st hd ⟨rfl, rfl, rfl, ?_⟩ hk
  dsimp only [pm_step]
  rw [hq]
  dsimp only
  rw [hp_len, if_neg (fun z => by
    rcases z with z | z | z | z | z | z
    · exact hc (Or.inl z)
    · exact hc (Or.inr (Or.inl z))
    · exact hc (Or.inr (Or.inr (Or.inl z)))
    · exact hc (Or.inr (Or.inr (Or.inr z)))
    · omega
    · exact z rfl), hp_app]
theorem q_iasL {i N : Nat} {f : Nat → Int32} {x j : Int32} (hl : Ls[i]? = some (.inl (0, N, .inl f))) (hd : decode M.code pc = .ok (.iastore, 1)) (hj : pm_bad j N = false) (hk : q_Gd xs L d M r G' n k (pc + 1) lv st (hp G t E (Ls.set i (.inl (0, N, .inl (upd f j.toNatClampNeg x)))))) : q_Gd xs L d M r G' n k pc lv (.int x :: .int j :: .ref (G.length + i) :: st) (hp G t E Ls) := by
  refine q_s0 hd ⟨rfl, rfl, rfl, ?_⟩ hk
  dsimp only [pm_step]
  rw [hp_l, hl]
  show (if pm_bad j N = true then none else some (pc + 1, lv, st, (hp G t E Ls).set (G.length + i) (.inl (0, N, .inl (upd f j.toNatClampNeg x))), 0, 0)) = _
  rw [hj, hp_sl]
  rfl
theorem q_aasL {i iv N tt ci : Nat} {g : Nat → Option Nat} {fs : List Value} {j : Int32} (hl : Ls[i]? = some (.inl (tt, N, .inr (.inr (.inr (.inr g)))))) (hv : Ls[iv]? = some (.inr (ci, fs))) (hT : pm_isTok (G.length + iv) = false) (hd : decode M.code pc = .ok (.aastore, 1)) (hj : pm_bad j N = false ∧ ¬ tt < 4 ∧ ¬ 9 < tt ∧ pm_cn ci = pm_arrC tt ∧ ci < 11) (hk : q_Gd xs L d M r G' n k (pc + 1) lv st (hp G t E (Ls.set i (.inl (tt, N, .inr (.inr (.inr (.inr (va_up g j.toNatClampNeg (some (G.length + iv)))))))))) ) : q_Gd xs L d M r G' n k pc lv (.ref (G.length + iv) :: .int j :: .ref (G.length + i) :: st) (hp G t E Ls) := by
  refine q_s0 hd ⟨rfl, rfl, rfl, ?_⟩ hk
  dsimp only [pm_step]
  rw [hp_l, hl]
  try dsimp only
  rw [if_neg (fun z => by
    rcases z with z | z | z
    · rw [hj.1] at z; cases z
    · exact hj.2.1 z
    · exact hj.2.2.1 z), hT]
  rw [if_neg (by decide), hp_l, hv]
  dsimp only
  rw [if_pos ⟨hj.2.2.2.1, hj.2.2.2.2⟩, hp_sl]
end QG
theorem q_tok {a : Nat} (h : a < pm_TB) : pm_isTok a = false := by
  unfold pm_isTok
  rw [Bool.and_eq_false_iff]
  exact Or.inl (decide_eq_false (by omega))
