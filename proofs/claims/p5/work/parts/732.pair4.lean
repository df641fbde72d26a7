section PR4
variable {f : Nat → Int32} {n lim nx0 : Int32} {tk0 : Nat} {pl0 num0 : Int32} {nm0 : Int64} {tok0 sp0 mu0 : Int32} {wd0 : Int64} {cc hf : Nat → Int32} {np nt nl nn oc on : Int32} {ot : Nat → Nat} {tn ln mn nf : Nat → Int64}
theorem p_none (hn : n.toInt ≤ 940) (hP0 : 0 ≤ nx0.toInt ∧ nx0.toInt ≤ n.toInt) (hfb : ∀ i, i < 940 → -128 ≤ (f i).toInt ∧ (f i).toInt ≤ 127) (hD : DR cc np nt nl nn oc ot tn ln mn hf nf on) (tr0 : TR tk0 num0 nm0 tok0 mu0 wd0) (hno : ∀ q, q ∈ [15, 16, 18, 19, 10, 11, 12, 13, 14] → tk0 ≠ q) : LPf f n lim nx0 tk0 pl0 num0 nm0 tok0 sp0 mu0 wd0 cc np nt nl nn oc ot tn ln mn hf nf on := by
  have hm : ∀ x : Nat, (x < 7 ∨ x = 8 ∨ x = 9) → 10 + x ∈ [15, 16, 18, 19, 10, 11, 12, 13, 14] ∨ x = 7 := by
    intro x hx
    have : ∀ x : Fin 10, (x.val < 7 ∨ x.val = 8 ∨ x.val = 9) → 10 + x.val ∈ [15, 16, 18, 19, 10, 11, 12, 13, 14] ∨ x.val = 7 := by decide +kernel
    exact this ⟨x, by omega⟩ hx
  have hw : ∀ x : Nat, (x < 7 ∨ x = 8 ∨ x = 9) → ¬ (tok0 = Int32.ofInt 1 ∧ wd0 = t_W x) := fun x hx z => by
    rcases hm x hx with c | c
    · exact hno _ c ((tr0.word (x := x) (by omega)).mpr z)
    · omega
  exact ⟨pl0, (Int32.ofInt 1), fun ft fp xs L J d G h => c_none h hno, fun th am mb hb nb rb xs L J d G h => v_none h hw⟩
theorem p_line (hn : n.toInt ≤ 940) (hP0 : 0 ≤ nx0.toInt ∧ nx0.toInt ≤ n.toInt) (hfb : ∀ i, i < 940 → -128 ≤ (f i).toInt ∧ (f i).toInt ≤ 127) (hD : DR cc np nt nl nn oc ot tn ln mn hf nf on) (tr0 : TR tk0 num0 nm0 tok0 mu0 wd0) : LPf f n lim nx0 tk0 pl0 num0 nm0 tok0 sp0 mu0 wd0 cc np nt nl nn oc ot tn ln mn hf nf on ∨ LPo f n lim nx0 tk0 pl0 num0 nm0 tok0 sp0 mu0 wd0 cc np nt nl nn oc ot tn ln mn hf nf on := by
  by_cases c1 : tk0 = 15
  · exact p_passage hn hP0 hfb hD tr0 c1
  by_cases c2 : tk0 = 16
  · exact p_thing hn hP0 hfb hD tr0 c2
  by_cases c3 : tk0 = 18
  · exact p_mill hn hP0 hfb hD tr0 c3
  by_cases c4 : tk0 = 19
  · exact p_man hn hP0 hfb hD tr0 c4
  by_cases c5 : tk0 = 10
  · exact p_long hn hP0 hfb hD tr0 c5
  by_cases c6 : tk0 = 11
  · exact p_breath hn hP0 hfb hD tr0 c6
  by_cases c7 : tk0 = 12
  · exact p_force hn hP0 hfb hD tr0 c7
  by_cases c8 : tk0 = 13
  · exact p_fade hn hP0 hfb hD tr0 c8
  by_cases c9 : tk0 = 14
  · exact p_held hn hP0 hfb hD tr0 c9
  refine Or.inl (p_none hn hP0 hfb hD tr0 ?_)
  intro q hq e
  simp only [List.mem_cons, List.not_mem_nil, or_false] at hq
  omega
end PR4
