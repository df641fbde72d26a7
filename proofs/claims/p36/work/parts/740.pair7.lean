section PR7
theorem DR.init {cc : Nat → Int32} {ot : Nat → Nat} {tn ln mn nf : Nat → Int64} : DR (fun j => if j = 1 then (Int8.ofInt 10).toInt32 else (fun j => if j = 0 then (Int8.ofInt 10).toInt32 else cc j) j) (Int32.ofInt 0) (Int32.ofInt 0) (Int32.ofInt 0) (Int32.ofInt 0) (Int32.ofInt 0) ot tn ln mn z_cl nf (Int32.ofInt 0) := by
  have n0 : ∀ i : Nat, ¬ (i : Int) < (Int32.ofInt 0).toInt := fun i => by show ¬ (i : Int) < 0; omega
  refine ⟨rfl, rfl, rfl, rfl, rfl, rfl, by decide, by decide, by decide, by decide, by decide, fun i hi => absurd hi (n0 i), fun i hi => absurd hi (n0 i), fun i hi => absurd hi (n0 i), fun x => ?_, fun i j hi _ _ => absurd hi (n0 i), fun i hi => absurd hi (n0 i)⟩
  have e : ∀ x : Fin 5, t_bit (Int32.ofInt 0) (Int32.ofInt x.val) = false := by decide +kernel
  rw [e x]
  constructor
  · intro z
    cases z
  · rintro (⟨i, hi, -⟩ | ⟨-, z⟩)
    · exact absurd hi (n0 i)
    · exact absurd z (by decide)
end PR7
