section QN
variable {xs : Nat → Int32} {L d : Nat} {M : pM} {r : Option Value} {G' : List pE} {n k pc : Nat} {lv : pL} {st : List Value} {G Ls : List pE} {t : Nat} {E : pE}
theorem hp_o {a : Nat} (ha : a < G.length) (hne : t ≠ a) : (hp G t E Ls)[a]? = G[a]? := by
  unfold hp
  rw [List.getElem?_append_left (by rw [List.length_set]; exact ha), List.getElem?_set_ne hne]
/-- a field of another cell -/
theorem q_getO {kk a : Nat} {q : Nat × Nat × Nat × Nat × Nat × Nat} {v : Value} {ci : Nat} {fs : List Value} (ha : G[a]? = some (.inr (ci, fs))) (hne : t ≠ a) (hT : pm_isTok a = false) (hd : decode M.code pc = .ok (.getfield kk, 3)) (hq : pm_ftab.find? (fun r => r.1 == M.own && r.2.1 == kk) = some q) (hc : ci = q.2.2.1) (hv : fs[q.2.2.2.1]? = some v) (hk : q_Gd xs L d M r G' n k (pc + 3) lv (v :: st) (hp G t E Ls)) : q_Gd xs L d M r G' n k pc lv (.ref a :: st) (hp G t E Ls) := by
  refine q_s0 hd ⟨rfl, rfl, rfl, ?_⟩ hk
  dsimp only [pm_step]
  rw [hT]
  rw [if_neg (by decide), hq]
  dsimp only
  rw [hp_o (List.getElem?_eq_some_iff.mp ha).1 hne, ha]
  dsimp only
  rw [if_pos hc, hv]
theorem q_alenT {N tt : Nat} {x : _} (ht : t < G.length) (htt : tt < 10) (hi : t < pm_TB) (hd : decode M.code pc = .ok (.arraylength, 1)) (hk : q_Gd xs L d M r G' n k (pc + 1) lv (.int (Int32.ofNat N) :: st) (hp G t (.inl (tt, N, x)) Ls)) : q_Gd xs L d M r G' n k pc lv (.ref t :: st) (hp G t (.inl (tt, N, x)) Ls) := by
  have e1 : pm_SB = 2000000 := rfl
  have e2 : pm_KB = 3000000 := rfl
  have e3 : pm_TB = 1000000 := rfl
  refine q_s0 hd ⟨rfl, rfl, rfl, ?_⟩ hk
  dsimp only [pm_step]
  rw [if_neg (show ¬ (t = pm_SB) by omega), if_neg (show ¬ (t = pm_KB) by omega), hp_t ht]
  dsimp only
  rw [if_pos htt]
theorem q_aasT {N tt ci : Nat} {g : Nat → Option Nat} {A X : List pE} {e : pE} {fs : List Value} {j : Int32} (ht : t < G.length) (he : e = .inr (ci, fs)) (hT : pm_isTok (G.length + A.length) = false) (hd : decode M.code pc = .ok (.aastore, 1)) (hj : pm_bad j N = false ∧ ¬ tt < 4 ∧ ¬ 9 < tt ∧ pm_cn ci = pm_arrC tt ∧ ci < 11) (hk : q_Gd xs L d M r G' n k (pc + 1) lv st (hp G t (.inl (tt, N, .inr (.inr (.inr (.inr (va_up g j.toNatClampNeg (some (G.length + A.length)))))))) (A ++ e :: X))) : q_Gd xs L d M r G' n k pc lv (.ref (G.length + A.length) :: .int j :: .ref t :: st) (hp G t (.inl (tt, N, .inr (.inr (.inr (.inr g))))) (A ++ e :: X)) := by
  refine q_s0 hd ⟨rfl, rfl, rfl, ?_⟩ hk
  have hv : (A ++ e :: X)[A.length]? = some (.inr (ci, fs)) := by
    rw [List.getElem?_append_right (Nat.le_refl _), Nat.sub_self, he]
    rfl
  dsimp only [pm_step]
  rw [hp_t ht]
  try dsimp only
  rw [if_neg (fun z => by
    rcases z with z | z | z
    · rw [hj.1] at z; cases z
    · exact hj.2.1 z
    · exact hj.2.2.1 z), hT]
  rw [if_neg (by decide), hp_l, hv]
  dsimp only
  rw [if_pos ⟨hj.2.2.2.1, hj.2.2.2.2⟩, hp_st ht]
end QN
/-- an array of cells that were made one behind the other -/
def z_ga (b w : Nat) : Nat → Nat → Option Nat
  | 0 => fun _ => none
  | k + 1 => va_up (z_ga b w k) k (some (b + w * k))
def z_hills (b : Nat) : Nat → List pE
  | 0 => []
  | k + 1 => z_hills b k ++ z_hill (b + 26 * k + 1) :: z_hillL (b + 26 * k + 1)
theorem z_hillL_len (n : Nat) : (z_hillL n).length = 25 := rfl
theorem z_sentL_len (n : Nat) : (z_sentL n).length = 4 := rfl
theorem z_hills_len (b : Nat) : ∀ k, (z_hills b k).length = 26 * k
  | 0 => rfl
  | k + 1 => by
    unfold z_hills
    rw [List.length_append, List.length_cons, z_hillL_len, z_hills_len b k]
    omega
