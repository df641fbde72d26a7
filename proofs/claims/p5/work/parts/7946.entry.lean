-- ===== the entry: what the Statement gives =====
theorem st_arrP {args : Array Value} {s : State} {ty : FieldType} (h : (Cond.arrayClass ty).before args s = true) : ∃ cA, ArrOfT s cA ty ∧ s.vm.findClass ("[" ++ ty.toString) = some cA := by
  obtain ⟨cA, kA, comp, h1, h2, h3⟩ := Cond.arrayClass_spec h
  exact ⟨cA, fun n z => ⟨fun k h => (by cases h), kA, h2, comp, h3⟩, h1⟩
theorem st_arrO {args : Array Value} {s : State} {C : String} (h : (Cond.arrayOver (.object C)).before args s = true) : ∃ cA, ArrOfT s cA (.object C) ∧ va_RA s cA (.object C) := by
  obtain ⟨comp, c, k, h1, h2, h3, h4, h5⟩ := Cond.arrayOver_spec h
  exact ⟨c, fun n z => ⟨fun k h => (by cases h), k, h3, comp, h4⟩, k, comp, h3, h4, h1, h5⟩
theorem st_arr {args : Array Value} {s : State} (hw : ∀ w ∈ lw_tbl, w.before args s = true) (t : Nat) : ∃ cA, ArrOfT s cA (pm_arr t) ∧ va_RA s cA (pm_arr t) := by
  match t with
  | 0 => exact st_arrP (hw _ (List.mem_of_getElem? (pm_aword (t := 0) (by decide))))
  | 1 => exact st_arrP (hw _ (List.mem_of_getElem? (pm_aword (t := 1) (by decide))))
  | 2 => exact st_arrP (hw _ (List.mem_of_getElem? (pm_aword (t := 2) (by decide))))
  | 3 => exact st_arrP (hw _ (List.mem_of_getElem? (pm_aword (t := 3) (by decide))))
  | 4 => exact st_arrO (hw (.arrayOver (.object "BreathingHill$Token")) (by decide +kernel))
  | 5 => exact st_arrO (hw (.arrayOver (.object "BreathingHill$Thing")) (by decide +kernel))
  | 6 => exact st_arrO (hw (.arrayOver (.object "BreathingHill$Mill")) (by decide +kernel))
  | 7 => exact st_arrO (hw (.arrayOver (.object "BreathingHill$Man")) (by decide +kernel))
  | 8 => exact st_arrO (hw (.arrayOver (.object "BreathingHill$Hill")) (by decide +kernel))
  | t + 9 => exact st_arrO (hw (.arrayOver (.object "BreathingHill$Sentence")) (by decide +kernel))
theorem st_i0 : ∀ w ∈ u_ws RX0 TX0 8, w ∈ lw_tbl := by decide +kernel
theorem st_i1 : ∀ w ∈ u_ws RX1 TX1 9, w ∈ lw_tbl := by decide +kernel
theorem st_i2 : ∀ w ∈ u_ws RX2 TX2 3, w ∈ lw_tbl := by decide +kernel
theorem st_i3 : ∀ w ∈ u_ws RX3 TX3 6, w ∈ lw_tbl := by decide +kernel
theorem st_i4 : ∀ w ∈ u_ws RX4 TX4 4, w ∈ lw_tbl := by decide +kernel
theorem st_i5 : ∀ w ∈ u_ws RX5 TX5 4, w ∈ lw_tbl := by decide +kernel
theorem st_i6 : ∀ w ∈ u_ws RX6 TX6 6, w ∈ lw_tbl := by decide +kernel
theorem st_i7 : ∀ w ∈ u_ws RX7 TX7 10, w ∈ lw_tbl := by decide +kernel
theorem st_i8 : ∀ w ∈ u_ws RX8 TX8 10, w ∈ lw_tbl := by decide +kernel
theorem st_i9 : ∀ w ∈ u_ws RX10 TX10 18, w ∈ lw_tbl := by decide +kernel
theorem st_i10 : ∀ w ∈ u_ws RX11 TX11 45, w ∈ lw_tbl := by decide +kernel
theorem st_cls {args : Array Value} {s : State} (hw : ∀ w ∈ lw_tbl, w.before args s = true) (k : Nat) : ∃ z : ClassId × (Nat → Nat), ∀ q, vwCl[k]? = some q → u_Kn s q.1 q.2.1 q.2.2 z.1 z.2 := by
  match k with
  | 0 =>
    obtain ⟨cC, iS, h⟩ := u_known (C := RX0) (T := TX0) (N := 8) (n := 8) hw st_i0 (hw (.instantiable RX0 8) (by decide +kernel))
    exact ⟨(cC, iS), fun q hq => by cases hq; exact h⟩
  | 1 =>
    obtain ⟨cC, iS, h⟩ := u_known (C := RX1) (T := TX1) (N := 9) (n := 9) hw st_i1 (hw (.instantiable RX1 9) (by decide +kernel))
    exact ⟨(cC, iS), fun q hq => by cases hq; exact h⟩
  | 2 =>
    obtain ⟨cC, iS, h⟩ := u_known (C := RX2) (T := TX2) (N := 3) (n := 3) hw st_i2 (hw (.instantiable RX2 3) (by decide +kernel))
    exact ⟨(cC, iS), fun q hq => by cases hq; exact h⟩
  | 3 =>
    obtain ⟨cC, iS, h⟩ := u_known (C := RX3) (T := TX3) (N := 6) (n := 6) hw st_i3 (hw (.instantiable RX3 6) (by decide +kernel))
    exact ⟨(cC, iS), fun q hq => by cases hq; exact h⟩
  | 4 =>
    obtain ⟨cC, iS, h⟩ := u_known (C := RX4) (T := TX4) (N := 4) (n := 4) hw st_i4 (hw (.instantiable RX4 4) (by decide +kernel))
    exact ⟨(cC, iS), fun q hq => by cases hq; exact h⟩
  | 5 =>
    obtain ⟨cC, iS, h⟩ := u_known (C := RX5) (T := TX5) (N := 4) (n := 4) hw st_i5 (hw (.instantiable RX5 4) (by decide +kernel))
    exact ⟨(cC, iS), fun q hq => by cases hq; exact h⟩
  | 6 =>
    obtain ⟨cC, iS, h⟩ := u_known (C := RX6) (T := TX6) (N := 6) (n := 6) hw st_i6 (hw (.instantiable RX6 6) (by decide +kernel))
    exact ⟨(cC, iS), fun q hq => by cases hq; exact h⟩
  | 7 =>
    obtain ⟨cC, iS, h⟩ := u_known (C := RX7) (T := TX7) (N := 10) (n := 10) hw st_i7 (hw (.instantiable RX7 10) (by decide +kernel))
    exact ⟨(cC, iS), fun q hq => by cases hq; exact h⟩
  | 8 =>
    obtain ⟨cC, iS, h⟩ := u_known (C := RX8) (T := TX8) (N := 10) (n := 10) hw st_i8 (hw (.instantiable RX8 10) (by decide +kernel))
    exact ⟨(cC, iS), fun q hq => by cases hq; exact h⟩
  | 9 =>
    obtain ⟨cC, iS, h⟩ := u_known (C := RX10) (T := TX10) (N := 18) (n := 18) hw st_i9 (hw (.instantiable RX10 18) (by decide +kernel))
    exact ⟨(cC, iS), fun q hq => by cases hq; exact h⟩
  | 10 =>
    obtain ⟨cC, iS, h⟩ := u_known (C := RX11) (T := TX11) (N := 45) (n := 45) hw st_i10 (hw (.instantiable RX11 45) (by decide +kernel))
    exact ⟨(cC, iS), fun q hq => by cases hq; exact h⟩
  | k + 11 => exact ⟨(0, fun _ => 0), fun q hq => by simp [vwCl] at hq⟩
theorem st_f1 : ∀ k, k < 35 → Cond.exactly (.static "BreathingHill$Token" (pm_tok.getD k "") "LBreathingHill$Token;") "BreathingHill$Token" ∈ flatC (Jvm.Cond.and given_1 narrow_1) := by decide +kernel
theorem st_f2 : ∀ k, k < 35 → Cond.eq (.field (.static "BreathingHill$Token" (pm_tok.getD k "") "LBreathingHill$Token;") "BreathingHill$Token" "code" "J") (.long (pm_tokc.getD k 0)) ∈ flatC (Jvm.Cond.and given_1 narrow_1) := by decide +kernel
theorem st_f3 : ∀ k, k < 35 → Cond.eq (.field (.static "BreathingHill$Token" (pm_tok.getD k "") "LBreathingHill$Token;") "java/lang/Enum" "ordinal" "I") (.int (Int32.ofNat k)) ∈ flatC (Jvm.Cond.and given_1 narrow_1) := by decide +kernel
theorem st_f4 : ∀ k, k < 35 → Cond.eq (.elem (.static "BreathingHill$Tape" "TOKENS" "[LBreathingHill$Token;") (.int (Int32.ofNat k))) (.static "BreathingHill$Token" (pm_tok.getD k "") "LBreathingHill$Token;") ∈ flatC (Jvm.Cond.and given_1 narrow_1) := by decide +kernel
theorem st_f5 : Cond.arrayOf (.static "BreathingHill$Tape" "TOKENS" "[LBreathingHill$Token;") (.object "BreathingHill$Token") ∈ flatC (Jvm.Cond.and given_1 narrow_1) ∧ Cond.eq (.length (.static "BreathingHill$Tape" "TOKENS" "[LBreathingHill$Token;")) (.int 35) ∈ flatC (Jvm.Cond.and given_1 narrow_1) := by decide +kernel
theorem st_l1 : ∀ k, k < 35 → Cond.laysStatic "BreathingHill$Token" (pm_tok.getD k "") "LBreathingHill$Token;" ∈ lw_tbl := by decide +kernel
theorem st_l2 : Cond.laysStatic "BreathingHill$Tape" "TOKENS" "[LBreathingHill$Token;" ∈ lw_tbl ∧ Cond.initialized "BreathingHill$Tape" ∈ lw_tbl ∧ Cond.initialized "BreathingHill$Token" ∈ lw_tbl := by decide +kernel
theorem st_tok {args : Array Value} {s : State} {A : Nat → Prop} (hw : ∀ w ∈ lw_tbl, w.before args s = true) (hg : (Jvm.Cond.and given_1 narrow_1).before args s = true) (hA : ∀ a : Nat, a < s.heap.size → ¬ A a) : ∃ (tad : Nat → Nat) (tks : Nat), (∀ k, k < 35 → va_Z "BreathingHill$Token" (pm_tok.getD k "") "LBreathingHill$Token;" (.ref (tad k)) A s s.heap ∧ va_O "BreathingHill$Token" (tad k) A s s.heap ∧ va_OF "BreathingHill$Token" "code" "J" (.long (pm_tokc.getD k 0)) (tad k) A s s.heap)
    ∧ va_Z "BreathingHill$Tape" "TOKENS" "[LBreathingHill$Token;" (.ref tks) A s s.heap ∧ va_T (.object "BreathingHill$Token") tks 35 (fun j => .ref (tad j)) A s s.heap
    ∧ (∀ i j, i < 35 → j < 35 → tad i = tad j → i = j) ∧ ∃ cC, s.vm.findClass "BreathingHill$Token" = some cC ∧ ∃ k : Class, s.vm.classes[cC]? = some k := by
  have hs := flat_of_before _ hg
  have h0 : ∀ k : Nat, ∃ t : Nat, k < 35 → (Term.static "BreathingHill$Token" (pm_tok.getD k "") "LBreathingHill$Token;").eval args s none [] s = some (.ref t) ∧ va_O "BreathingHill$Token" t A s s.heap := by
    intro k
    by_cases hk : k < 35
    · obtain ⟨a, c, cell, kk, q1, q2, q3, q4, q5, q6, -⟩ := Cond.exactly_spec (hs _ (st_f1 k hk))
      exact ⟨a, fun _ => ⟨q1, cell, q3, q5, by rw [q6]; exact q2, hA a (Array.getElem?_eq_some_iff.mp q3).1⟩⟩
    · exact ⟨0, fun h => absurd h hk⟩
  obtain ⟨tad, had⟩ := Classical.axiomOfChoice h0
  have hE := va_Efof (N := 35) (nm := pm_tok) (v := fun k => .long (pm_tokc.getD k 0)) (tm := fun k => .long (pm_tokc.getD k 0)) (ad := tad) (fun k hk => (had k hk).1) (fun k hk => hs _ (st_f2 k hk)) (fun _ _ => rfl) hA
  obtain ⟨tks, ht, hT⟩ := va_Tof (N := 35) (f := fun j => .ref (tad j)) (A := A) (by decide) (hs _ st_f5.1) (va_eqt (hs _ st_f5.2)) (fun j hj => va_eqv (hs _ (st_f4 j hj)) (had j hj).1) hA
  refine ⟨tad, tks, fun k hk => ⟨va_Zref (hw _ (st_l1 k hk)) (hw _ st_l2.2.2) (had k hk).1 hA, (had k hk).2, hE k hk⟩, va_Zref (hw _ st_l2.1) (hw _ st_l2.2.1) ht hA, hT, fun i j hi hj e => ?_, ?_⟩
  · have e1 := va_eqt (hs _ (st_f3 i hi))
    have e2 := va_eqt (hs _ (st_f3 j hj))
    rw [va_fe (had i hi).1, e] at e1
    rw [va_fe (had j hj).1, e1] at e2
    have e3 : (Int32.ofNat i).toInt = (Int32.ofNat j).toInt := congrArg Int32.toInt (Value.int.inj (Option.some.inj e2))
    rw [show (Int32.ofNat i).toInt = (i : Int) from nI_toInt (by omega), show (Int32.ofNat j).toInt = (j : Int) from nI_toInt (by omega)] at e3
    omega
  · obtain ⟨a, c, cell, kk, q1, q2, q3, q4, -⟩ := Cond.exactly_spec (hs _ (st_f1 0 (by decide)))
    exact ⟨c, q2, kk, q4⟩
