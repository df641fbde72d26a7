-- ===== both sides in step: tokens =====
section PR
variable {tk : Nat} {num mu tok : Int32} {nm wd : Int64}
theorem t_Winj : ∀ x, x < 25 → ∀ y, y < 25 → t_W x = t_W y → x = y := by decide +kernel
theorem TR.nb (h : TR tk num nm tok mu wd) : (tk = 2 ↔ tok = Int32.ofInt 2) ∧ (tk = 2 → num = mu) := by
  rcases h with ⟨rfl, rfl⟩ | ⟨rfl, rfl⟩ | ⟨rfl, rfl, rfl⟩ | ⟨j, hj, rfl, rfl, -⟩ | ⟨rfl, -, ⟨x, hx, rfl, -⟩ | ⟨rfl, -⟩⟩
  · exact ⟨⟨fun z => absurd z (by decide), fun z => absurd z (by decide)⟩, fun z => absurd z (by decide)⟩
  · exact ⟨⟨fun z => absurd z (by decide), fun z => absurd z (by decide)⟩, fun z => absurd z (by decide)⟩
  · exact ⟨⟨fun _ => rfl, fun _ => rfl⟩, fun _ => rfl⟩
  · exact ⟨⟨fun z => by omega, fun z => absurd z (by decide)⟩, fun z => by omega⟩
  · exact ⟨⟨fun z => by omega, fun z => absurd z (by decide)⟩, fun z => by omega⟩
  · exact ⟨⟨fun z => absurd z (by decide), fun z => absurd z (by decide)⟩, fun z => absurd z (by decide)⟩
theorem TR.no {lo hi : Int} (h : TR tk num nm tok mu wd) (c : ¬ (tk = 2 ∧ lo ≤ num.toInt ∧ num.toInt ≤ hi)) : (tk ≠ 2 ∨ num.toInt < lo ∨ hi < num.toInt) ∧ (tok ≠ Int32.ofInt 2 ∨ mu.toInt < lo ∨ hi < mu.toInt) := by
  by_cases e : tk = 2
  · have e2 := h.nb.2 e
    rw [← e2]
    have : num.toInt < lo ∨ hi < num.toInt := by omega
    exact ⟨Or.inr this, Or.inr this⟩
  · exact ⟨Or.inl e, Or.inl (fun z => e (h.nb.1.mpr z))⟩
theorem TR.word (h : TR tk num nm tok mu wd) {x : Nat} (hx : x < 25) : tk = 10 + x ↔ tok = Int32.ofInt 1 ∧ wd = t_W x := by
  rcases h with ⟨rfl, rfl⟩ | ⟨rfl, rfl⟩ | ⟨rfl, rfl, rfl⟩ | ⟨j, hj, rfl, rfl, -⟩ | ⟨rfl, -, ⟨y, hy, rfl, rfl⟩ | ⟨rfl, hw⟩⟩
  · exact ⟨fun z => by omega, fun z => absurd z.1 (by decide)⟩
  · exact ⟨fun z => by omega, fun z => absurd z.1 (by decide)⟩
  · exact ⟨fun z => by omega, fun z => absurd z.1 (by decide)⟩
  · exact ⟨fun z => by omega, fun z => absurd z.1 (by decide)⟩
  · exact ⟨fun z => ⟨rfl, by rw [show y = x by omega]⟩, fun z => by rw [t_Winj y hy x hx z.2]⟩
  · exact ⟨fun z => by omega, fun z => absurd z.2 (hw x hx)⟩
theorem TR.name (h : TR tk num nm tok mu wd) : (tk = 3 ↔ tok = Int32.ofInt 1 ∧ ∀ x : Nat, x < 25 → wd ≠ t_W x) ∧ (tk = 3 → NR nm wd) := by
  rcases h with ⟨rfl, rfl⟩ | ⟨rfl, rfl⟩ | ⟨rfl, rfl, rfl⟩ | ⟨j, hj, rfl, rfl, -⟩ | ⟨rfl, hr, ⟨y, hy, rfl, rfl⟩ | ⟨rfl, hw⟩⟩
  · exact ⟨⟨fun z => by omega, fun z => absurd z.1 (by decide)⟩, fun z => by omega⟩
  · exact ⟨⟨fun z => by omega, fun z => absurd z.1 (by decide)⟩, fun z => by omega⟩
  · exact ⟨⟨fun z => by omega, fun z => absurd z.1 (by decide)⟩, fun z => by omega⟩
  · exact ⟨⟨fun z => by omega, fun z => absurd z.1 (by decide)⟩, fun z => by omega⟩
  · exact ⟨⟨fun z => by omega, fun z => absurd rfl (z.2 y hy)⟩, fun z => by omega⟩
  · exact ⟨⟨fun _ => ⟨rfl, hw⟩, fun _ => rfl⟩, fun _ => hr⟩
theorem TR.end9 (h : TR tk num nm tok mu wd) : tk = 0 ↔ tok = Int32.ofInt 0 := by
  rcases h with ⟨rfl, rfl⟩ | ⟨rfl, rfl⟩ | ⟨rfl, rfl, rfl⟩ | ⟨j, hj, rfl, rfl, -⟩ | ⟨rfl, hr, ⟨y, hy, rfl, rfl⟩ | ⟨rfl, hw⟩⟩
  · exact ⟨fun _ => rfl, fun _ => rfl⟩
  · exact ⟨fun z => by omega, fun z => absurd z (by decide)⟩
  · exact ⟨fun z => by omega, fun z => absurd z (by decide)⟩
  · exact ⟨fun z => by omega, fun z => absurd z (by decide)⟩
  · exact ⟨fun z => by omega, fun z => absurd z (by decide)⟩
  · exact ⟨fun z => by omega, fun z => absurd z (by decide)⟩
theorem TR.semi (h : TR tk num nm tok mu wd) : tk = 4 ↔ tok = Int32.ofInt 3 ∧ mu = (Int8.ofInt 59).toInt32 := by
  rcases h with ⟨rfl, rfl⟩ | ⟨rfl, rfl⟩ | ⟨rfl, rfl, rfl⟩ | ⟨j, hj, rfl, rfl, hm⟩ | ⟨rfl, hr, ⟨y, hy, rfl, rfl⟩ | ⟨rfl, hw⟩⟩
  · exact ⟨fun z => by omega, fun z => absurd z.1 (by decide)⟩
  · exact ⟨fun z => by omega, fun z => absurd z.1 (by decide)⟩
  · exact ⟨fun z => by omega, fun z => absurd z.1 (by decide)⟩
  · constructor
    · intro z
      obtain rfl : j = 0 := by omega
      exact ⟨rfl, Int32.toInt_inj.mp hm⟩
    · rintro ⟨-, rfl⟩
      have key : ∀ j, j < 6 → ((Int8.ofInt 59).toInt32.toInt = ([59, 60, 61, 62, 40, 41] : List Int).getD j 0) → j = 0 := by decide +kernel
      rw [key j hj hm]
  · exact ⟨fun z => by omega, fun z => absurd z.1 (by decide)⟩
  · exact ⟨fun z => by omega, fun z => absurd z.1 (by decide)⟩
theorem TR.lt (h : TR tk num nm tok mu wd) : tk < 35 := by
  rcases h with ⟨rfl, rfl⟩ | ⟨rfl, rfl⟩ | ⟨rfl, rfl, rfl⟩ | ⟨j, hj, rfl, rfl, hm⟩ | ⟨rfl, hr, ⟨y, hy, rfl, rfl⟩ | ⟨rfl, hw⟩⟩ <;> omega
/-- both read on -/
theorem t_nx {f : Nat → Int32} {n lim P : Int32} (hn : n.toInt ≤ 940) (hP : 0 ≤ P.toInt ∧ P.toInt ≤ n.toInt) (hfb : ∀ i, i < 940 → -128 ≤ (f i).toInt ∧ (f i).toInt ≤ 127) (num : Int32) (nm : Int64) (mn : Int32) (wd : Int64) :
    ∃ (nx : Int32) (tk : Nat) (pl num' : Int32) (nm' : Int64) (tok mn' sp' : Int32) (wd' : Int64), (0 ≤ nx.toInt ∧ nx.toInt ≤ n.toInt) ∧ (P.toInt < nx.toInt ∨ (P.toInt ≤ nx.toInt ∧ (tk = 0 ∨ tk = 1))) ∧ TR tk num' nm' tok mn' wd' ∧ NXc f n lim P num nm nx tk pl num' nm' ∧ NXm f n lim P mn wd nx tok pl sp' mn' wd' := by
  obtain ⟨nx, tk, pl, num', nm', tok, mn', sp', wd', h1, h2, h3, h4, h5, h6⟩ := k_tok2 (lim := lim) hn hP.1 hP.2 hfb num nm mn wd
  exact ⟨nx, tk, pl, num', nm', tok, mn', sp', wd', ⟨h1, h2⟩, h3, h4, h5, h6⟩
-- ===== the marks of what was told once =====
theorem t_bit_eq (v : Int32) : ∀ x : Fin 5, t_bit v (Int32.ofInt x.val) = v.toBitVec.getLsbD x.val := by
  intro x
  unfold t_bit
  have e : ∀ b : BitVec 32, ((Int32.ofBitVec (b &&& 1#32)) == (1 : Int32)) = b.getLsbD 0 := by
    intro b
    rw [BitVec.and_one_eq_setWidth_ofBool_getLsbD]
    cases b.getLsbD 0 <;> decide
  have k : ∀ x : Fin 5, ((Int32.ofInt x.val &&& 31).toBitVec.smod 32).toNat = x.val := by decide +kernel
  have s : (v >>> (Int32.ofInt x.val &&& 31)) &&& 1 = Int32.ofBitVec ((v.toBitVec.sshiftRight x.val) &&& 1#32) := by
    apply Int32.toBitVec_inj.mp
    rw [Int32.toBitVec_and, Int32.toBitVec_shiftRight]
    show v.toBitVec.sshiftRight ((Int32.ofInt x.val &&& 31).toBitVec.smod 32).toNat &&& _ = _
    rw [k x]
    rfl
  rw [s, e, BitVec.getLsbD_sshiftRight]
  have hx := x.2
  simp
  intro
  omega
end PR
