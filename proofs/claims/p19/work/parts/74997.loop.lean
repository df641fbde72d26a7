-- ===== a letter's hours =====
def l_J (S : Nat → Int32) (v W C P F : Int32) : Prop := W = v ∨ W = Int32.ofInt 3 ∨ (W = Int32.ofInt 2 ∧ F = v ∧ 0 ≤ P.toInt ∧ P.toInt < (S 2).toInt ∧ 1 ≤ C.toInt ∧ C.toInt < (S (13 + P.toInt.toNat)).toInt)
theorem l_J.I {S : Nat → Int32} {v W C P F : Int32} (h : l_J S v W C P F) (hv : v = 0 ∨ v = 1) : l_I S W C P F := by
  rcases h with rfl | h | ⟨h1, rfl, h2⟩
  · rcases hv with z | z
    · exact Or.inl z
    · exact Or.inr (Or.inl z)
  · exact Or.inr (Or.inr (Or.inl h))
  · exact Or.inr (Or.inr (Or.inr ⟨h1, hv, h2⟩))
theorem l_pf_le {S : Nat → Int32} {w : Int32} : ∀ (k p : Nat), l_pf S w k p ≤ p + k
  | 0, p => Nat.le_refl _
  | k + 1, p => by
    unfold l_pf
    split
    · omega
    · have := l_pf_le (S := S) (w := w) k (p + 1)
      omega
/-- what an hour gives -/
def l_G (S : Nat → Int32) (v : Int32) (s : Int32 × Int32 × Int32 × Int32 × Bool) : Prop := (s.2.2.2.2 = false → l_J S v s.1 s.2.1 s.2.2.1 s.2.2.2.1) ∧ (s.2.2.2.2 = true → s.1 ≠ v)
theorem l_J.st {S : Nat → Int32} {v w h W C P F : Int32} (H : l_J S v W C P F) (hR : l_R S) (hv : v = 0 ∨ v = 1) : l_G S v (l_st S w h W C P F) := by
  have stay : l_G S v (W, C, P, F, false) := ⟨fun _ => H, fun z => by cases z⟩
  have hnp := hR.2.2.1
  unfold l_st
  by_cases c3 : W = Int32.ofInt 3
  · rw [if_pos c3]
    exact stay
  rw [if_neg c3]
  by_cases c2 : W = Int32.ofInt 2
  · rw [if_pos c2]
    obtain ⟨-, hF, p0, p1, hc1, hcl⟩ := (H.resolve_left (fun z => by rw [c2] at z; rcases hv with rfl | rfl <;> exact absurd z (by decide))).resolve_left c3
    by_cases a : l_air S F h = 0
    · rw [if_pos a]
      exact stay
    rw [if_neg a]
    generalize (if l_air S F h = Int32.ofInt 1 then Int32.ofInt 1 else Int32.ofInt (-1)) = D
    by_cases y1 : (C + D).toInt ≤ 0
    · rw [if_pos y1]
      exact ⟨fun _ => Or.inl hF, fun z => by cases z⟩
    rw [if_neg y1]
    by_cases y2 : (S (13 + P.toInt.toNat)).toInt ≤ (C + D).toInt
    · rw [if_pos y2]
      refine ⟨fun z => (by cases z), fun _ => ?_⟩
      show Int32.ofInt 1 - F ≠ v
      rw [hF]
      rcases hv with rfl | rfl <;> decide
    · rw [if_neg y2]
      exact ⟨fun _ => Or.inr (Or.inr ⟨c2, hF, p0, p1, by show 1 ≤ (C + D).toInt; omega, by show (C + D).toInt < (S (13 + P.toInt.toNat)).toInt; omega⟩), fun z => by cases z⟩
  rw [if_neg c2]
  have hW : W = v := by
    rcases H with z | z | z
    · exact z
    · exact absurd z c3
    · exact absurd z.1 c2
  by_cases a : l_air S W h = 0
  · rw [if_pos a]
    exact stay
  rw [if_neg a]
  by_cases a2 : l_air S W h = Int32.ofInt 2
  · rw [if_pos a2]
    by_cases y : (S W.toInt.toNat).toInt ≤ (C + l_fc S C / w).toInt
    · rw [if_pos y]
      exact ⟨fun _ => Or.inr (Or.inl rfl), fun z => by cases z⟩
    · rw [if_neg y]
      exact ⟨fun _ => Or.inl hW, fun z => by cases z⟩
  rw [if_neg a2]
  by_cases y : 0 < C.toInt
  · rw [if_pos y]
    exact ⟨fun _ => Or.inl hW, fun z => by cases z⟩
  rw [if_neg y]
  by_cases y2 : 0 < (l_fc S C / w).toInt ∧ l_pf S w (S 2).toInt.toNat 0 < (S 2).toInt.toNat
  · rw [if_pos y2]
    have e : (Int32.ofNat (l_pf S w (S 2).toInt.toNat 0)).toInt = (l_pf S w (S 2).toInt.toNat 0 : Int) := Int32.toInt_ofNat_of_lt (by omega)
    refine ⟨fun _ => Or.inr (Or.inr ⟨rfl, hW, ?_, ?_, ?_, ?_⟩), fun z => by cases z⟩
    · show 0 ≤ (Int32.ofNat _).toInt
      omega
    · show (Int32.ofNat _).toInt < _
      omega
    · show (1 : Int) ≤ (Int32.ofInt 1).toInt
      decide
    · show (Int32.ofInt 1).toInt < (S (13 + (Int32.ofNat (l_pf S w (S 2).toInt.toNat 0)).toInt.toNat)).toInt
      have := hR.2.2.2 (Int32.ofNat (l_pf S w (S 2).toInt.toNat 0)).toInt.toNat (by omega)
      rw [show (Int32.ofInt 1).toInt = 1 from rfl]
      omega
  · rw [if_neg y2]
    exact stay
/-- the hours that a letter wants: m more may pass, k have -/
def l_lp (S : Nat → Int32) (w h : Int32) : Nat → Int32 → Int32 → Int32 → Int32 → Int32 → Int32
  | 0, _, _, _, _, _ => Int32.ofInt (-1)
  | m + 1, k, W, C, P, F => if (l_st S w (h + k) W C P F).2.2.2.2 = true then k + Int32.ofInt 1 else l_lp S w h m (k + Int32.ofInt 1) (l_st S w (h + k) W C P F).1 (l_st S w (h + k) W C P F).2.1 (l_st S w (h + k) W C P F).2.2.1 (l_st S w (h + k) W C P F).2.2.2.1
theorem l_st3 {S : Nat → Int32} {w h C P F : Int32} : l_st S w h (Int32.ofInt 3) C P F = (Int32.ofInt 3, C, P, F, false) := by
  unfold l_st
  rw [if_pos rfl]
theorem l_lp3 {S : Nat → Int32} {w h : Int32} : ∀ (m : Nat) (k C P F : Int32), l_lp S w h m k (Int32.ofInt 3) C P F = Int32.ofInt (-1)
  | 0, _, _, _, _ => rfl
  | m + 1, k, C, P, F => by
    unfold l_lp
    rw [l_st3]
    exact l_lp3 m _ C P F
