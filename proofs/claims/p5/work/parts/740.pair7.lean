section PR7
theorem DR.init {cc : Nat → Int32} {ot : Nat → Nat} {tn ln mn nf : Nat → Int64} : DR (fun j => if j = 12 then Int32.ofInt (-1) else (fun j => if j = 11 then (Int8.ofInt 20).toInt32 else (fun j => if j = 10 then Int32.ofInt 4 else (fun j => if j = 6 + 3 then Int32.ofInt 1 else (fun j => if j = 6 + 2 then Int32.ofInt 5 else (fun j => if j = 6 + 1 then Int32.ofInt 1 else (fun j => if j = 6 + 0 then Int32.ofInt 5 else (fun j => if j = 1 then (Int8.ofInt 10).toInt32 else (fun j => if j = 0 then (Int8.ofInt 10).toInt32 else cc j) j) j) j) j) j) j) j) j) (Int32.ofInt 0) (Int32.ofInt 0) (Int32.ofInt 0) (Int32.ofInt 0) (Int32.ofInt 0) ot tn ln mn z_cl nf (Int32.ofInt 0) := by
  have n0 : ∀ i : Nat, ¬ (i : Int) < (Int32.ofInt 0).toInt := fun i => by show ¬ (i : Int) < 0; omega
  refine ⟨rfl, rfl, rfl, rfl, rfl, rfl, by decide, by decide, by decide, by decide, by decide, fun i hi => absurd hi (n0 i), fun i hi => absurd hi (n0 i), fun i hi => absurd hi (n0 i), fun x => ?_, fun i j hi _ _ => absurd hi (n0 i), fun i hi => absurd hi (n0 i), fun j a b => ?_, fun i hi => absurd hi (n0 i)⟩
  rotate_left
  · rcases (show j = 6 ∨ j = 7 ∨ j = 8 ∨ j = 9 ∨ j = 10 ∨ j = 11 ∨ j = 12 by omega) with rfl | rfl | rfl | rfl | rfl | rfl | rfl <;> rfl
  have e : ∀ x : Fin 5, t_bit (Int32.ofInt 0) (Int32.ofInt x.val) = false := by decide +kernel
  rw [e x]
  constructor
  · intro z
    cases z
  · rintro (⟨i, hi, -⟩ | ⟨-, z⟩)
    · exact absurd hi (n0 i)
    · exact absurd z (by decide)
end PR7
