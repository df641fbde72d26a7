-- ===== a line, on both sides =====
def LPf (f : Nat → Int32) (n lim nx : Int32) (tk : Nat) (pl num : Int32) (nm : Int64) (tok sp mu : Int32) (wd : Int64) (cc : Nat → Int32) (np nt nl nn oc : Int32) (ot : Nat → Nat) (tn ln mn : Nat → Int64) (hf : Nat → Int32) (nf : Nat → Int64) (on : Int32) : Prop :=
  ∃ pl' q' : Int32, (∀ (ft fp : Int32) (xs : Nat → Int32) (L J d : Nat) (G : List pE), CS f n lim nx tk pl num nm ft fp cc np nt nl nn oc ot tn ln mn G → x_Gd xs L J (d + 6) m_25 (fun r G' => r = some (.int 0) ∧ x_sl G' 1 9 = some (.int pl') ∧ x_sl G' 1 8 = some (.int q')) 0 (lv_args 0 [.ref 3, .ref 1, .ref 32]) [] G) ∧
    (∀ (th : List Nat) (am mb hb nb rb : Nat) (xs : Nat → Int32) (L J d : Nat) (G : List pE), MS th am mb hb nb rb f n lim nx tok pl sp mu wd hf nf on G → x_Gd xs L J (d + 6) m_167 (fun r G' => r = some (.int 0) ∧ x_sl G' am 16 = some (.int pl') ∧ x_sl G' am 15 = some (.int q')) 0 (lv_args 0 [.ref am]) [] G)
def LPo (f : Nat → Int32) (n lim nx : Int32) (tk : Nat) (pl num : Int32) (nm : Int64) (tok sp mu : Int32) (wd : Int64) (cc : Nat → Int32) (np nt nl nn oc : Int32) (ot : Nat → Nat) (tn ln mn : Nat → Int64) (hf : Nat → Int32) (nf : Nat → Int64) (on : Int32) : Prop :=
  ∃ (nx' : Int32) (tk' : Nat) (pl' num' : Int32) (nm' : Int64) (tok' sp' mu' : Int32) (wd' : Int64) (cc' : Nat → Int32) (np' nt' nl' nn' oc' : Int32) (ot' : Nat → Nat) (tn' ln' mn' : Nat → Int64) (hf' : Nat → Int32) (nf' : Nat → Int64) (on' : Int32),
    (0 ≤ nx'.toInt ∧ nx'.toInt ≤ n.toInt) ∧ (nx.toInt < nx'.toInt ∧ (tk' = 4 → nx.toInt + 2 ≤ nx'.toInt)) ∧ TR tk' num' nm' tok' mu' wd' ∧ DR cc' np' nt' nl' nn' oc' ot' tn' ln' mn' hf' nf' on' ∧
    (∀ (ft fp : Int32) (xs : Nat → Int32) (L J d : Nat) (G : List pE), CS f n lim nx tk pl num nm ft fp cc np nt nl nn oc ot tn ln mn G → x_Gd xs L J (d + 6) m_25 (fun r G' => r = some (.int 1) ∧ CS f n lim nx' tk' pl' num' nm' ft fp cc' np' nt' nl' nn' oc' ot' tn' ln' mn' G') 0 (lv_args 0 [.ref 3, .ref 1, .ref 32]) [] G) ∧
    (∀ (th : List Nat) (am mb hb nb rb : Nat) (xs : Nat → Int32) (L J d : Nat) (G : List pE), MS th am mb hb nb rb f n lim nx tok pl sp mu wd hf nf on G → x_Gd xs L J (d + 6) m_167 (fun r G' => r = some (.int 1) ∧ MS th am mb hb nb rb f n lim nx' tok' pl' sp' mu' wd' hf' nf' on' G') 0 (lv_args 0 [.ref am]) [] G)
section PR3
variable {f : Nat → Int32} {n lim nx0 : Int32} {tk0 : Nat} {pl0 num0 : Int32} {nm0 : Int64} {tok0 sp0 mu0 : Int32} {wd0 : Int64} {cc hf : Nat → Int32} {np nt nl nn oc on : Int32} {ot : Nat → Nat} {tn ln mn nf : Nat → Int64}
theorem TR.km {tk : Nat} {num mu tok : Int32} {nm wd : Int64} (h : TR tk num nm tok mu wd) : t_km tok = t_kd tk := by
  unfold t_km t_kd
  exact ite_congr (propext h.nb.1.symm) (fun _ => rfl) (fun _ => rfl)
theorem TR.kf {tk : Nat} {num mu tok : Int32} {nm wd : Int64} (h : TR tk num nm tok mu wd) : t_kf tok wd = t_kn tk := by
  unfold t_kf t_kn
  exact ite_congr (propext h.name.1.symm) (fun _ => rfl) (fun _ => rfl)
theorem DR.cell (h : DR cc np nt nl nn oc ot tn ln mn hf nf on) {v : Int32} (a : 0 ≤ v.toInt) (b : v.toInt ≤ 1) : cc v.toInt.toNat = hf v.toInt.toNat := by
  rcases (show v.toInt.toNat = 0 ∨ v.toInt.toNat = 1 by omega) with e | e
  · rw [e]; exact h.c0
  · rw [e]; exact h.c1
theorem TR.nno {tk : Nat} {num mu tok : Int32} {nm wd : Int64} (h : TR tk num nm tok mu wd) (hD : DR cc np nt nl nn oc ot tn ln mn hf nf on) (c : ¬ (tk = 3 ∧ ¬ c_Told nt nl nn tn ln mn nm)) : (tk ≠ 3 ∨ c_Told nt nl nn tn ln mn nm) ∧ (¬ (tok = Int32.ofInt 1 ∧ ∀ x : Nat, x < 25 → wd ≠ t_W x) ∨ t_Told hf nf wd) := by
  by_cases e : tk = 3
  · have z : c_Told nt nl nn tn ln mn nm := Classical.byContradiction (fun z => c ⟨e, z⟩)
    exact ⟨Or.inr z, Or.inr ((hD.told (h.name.2 e)).mp z)⟩
  · exact ⟨Or.inl e, Or.inl (fun z => e (h.name.1.mpr z))⟩
set_option maxHeartbeats 2000000 in
theorem p_force (hn : n.toInt ≤ 940) (hP0 : 0 ≤ nx0.toInt ∧ nx0.toInt ≤ n.toInt) (hfb : ∀ i, i < 940 → -128 ≤ (f i).toInt ∧ (f i).toInt ≤ 127) (hD : DR cc np nt nl nn oc ot tn ln mn hf nf on) (tr0 : TR tk0 num0 nm0 tok0 mu0 wd0) (htk : tk0 = 12) : LPf f n lim nx0 tk0 pl0 num0 nm0 tok0 sp0 mu0 wd0 cc np nt nl nn oc ot tn ln mn hf nf on ∨ LPo f n lim nx0 tk0 pl0 num0 nm0 tok0 sp0 mu0 wd0 cc np nt nl nn oc ot tn ln mn hf nf on := by
  have hw := (tr0.word (x := 2) (by decide)).mp htk
  subst htk
  by_cases hb0 : t_bit on (Int32.ofInt 2) = true
  · have hx := ((hD.bit ⟨2, by decide⟩).mp hb0).resolve_right (fun z => absurd z.1 (by decide))
    exact Or.inl ⟨pl0, (Int32.ofInt 3), fun ft fp xs L J d G h => c_to_force h rfl (fun _ _ z => ⟨0, z.1, Or.inl rfl⟩) (c_force_0 h hx), fun th am mb hb nb rb xs L J d G h => v_force_0 h hw hb0⟩
  have hno0 : ∀ i : Nat, (i : Int) < oc.toInt → ot i ≠ 12 := fun i hi z => hb0 ((hD.bit ⟨2, by decide⟩).mpr (Or.inl ⟨i, hi, z⟩))
  have hb0 : t_bit on (Int32.ofInt 2) = false := eq_false_of_ne_true hb0
  have h5 := hD.lt5 (k := 2) (by decide) hno0
  obtain ⟨nx1, tk1, pl1, num1, nm1, tok1, mu1, sp1, wd1, hP1, pr1, tr1, N1, M1⟩ := t_nx (lim := lim) hn hP0 hfb num0 nm0 mu0 wd0
  by_cases c1 : tk1 = 2 ∧ 1 ≤ num1.toInt ∧ num1.toInt ≤ 9
  rotate_left
  · have z := tr1.no c1
    exact Or.inl ⟨pl1, (t_kd tk1), fun ft fp xs L J d G h => c_to_force h rfl (fun _ _ z => ⟨0, z.1, Or.inl rfl⟩) (c_force_1 h hno0 h5 N1 z.1), fun th am mb hb nb rb xs L J d G h => by rw [← tr1.km]; exact v_force_1 h hw hb0 M1 z.2⟩
  obtain ⟨k1, a1, b1⟩ := c1
  have m1 := tr1.nb.1.mp k1
  have en1 := tr1.nb.2 k1
  subst en1
  have pg1 : nx0.toInt < nx1.toInt := pr1.resolve_right (fun z => by have := z.2; omega)
  obtain ⟨nx2, tk2, pl2, num2, nm2, tok2, mu2, sp2, wd2, hP2, pr2, tr2, N2, M2⟩ := t_nx (lim := lim) hn hP1 hfb num1 nm1 num1 wd1
  exact Or.inr ⟨nx2, tk2, pl2, num2, nm2, tok2, sp2, mu2, wd2, (fun j => if j = 10 then num1 else cc j), np, nt, nl, nn, (oc + Int32.ofInt 1), (fun j => if j = oc.toInt.toNat then 12 else ot j), tn, ln, mn, (fun i => if i = 10 then num1 else hf i), nf, (on ||| (Int32.ofInt 1 <<< (Int32.ofInt 2 &&& 31))), hP2, ⟨by omega, fun z => by omega⟩, tr2, hD.once (k := ⟨2, by decide⟩) hno0 hD.c0 hD.c1 rfl rfl rfl rfl (hD.ld.one (by decide)), fun ft fp xs L J d G h => c_to_force h rfl (fun _ _ z => ⟨1, z.1, Or.inr rfl⟩) (c_force_ok h hno0 h5 N1 k1 a1 b1 N2), fun th am mb hb nb rb xs L J d G h => v_force_ok h hw hb0 M1 m1 a1 b1 M2⟩
set_option maxHeartbeats 2000000 in
theorem p_fade (hn : n.toInt ≤ 940) (hP0 : 0 ≤ nx0.toInt ∧ nx0.toInt ≤ n.toInt) (hfb : ∀ i, i < 940 → -128 ≤ (f i).toInt ∧ (f i).toInt ≤ 127) (hD : DR cc np nt nl nn oc ot tn ln mn hf nf on) (tr0 : TR tk0 num0 nm0 tok0 mu0 wd0) (htk : tk0 = 13) : LPf f n lim nx0 tk0 pl0 num0 nm0 tok0 sp0 mu0 wd0 cc np nt nl nn oc ot tn ln mn hf nf on ∨ LPo f n lim nx0 tk0 pl0 num0 nm0 tok0 sp0 mu0 wd0 cc np nt nl nn oc ot tn ln mn hf nf on := by
  have hw := (tr0.word (x := 3) (by decide)).mp htk
  subst htk
  by_cases hb0 : t_bit on (Int32.ofInt 3) = true
  · have hx := ((hD.bit ⟨3, by decide⟩).mp hb0).resolve_right (fun z => absurd z.1 (by decide))
    exact Or.inl ⟨pl0, (Int32.ofInt 3), fun ft fp xs L J d G h => c_to_fade h rfl (fun _ _ z => ⟨0, z.1, Or.inl rfl⟩) (c_fade_0 h hx), fun th am mb hb nb rb xs L J d G h => v_fade_0 h hw hb0⟩
  have hno0 : ∀ i : Nat, (i : Int) < oc.toInt → ot i ≠ 13 := fun i hi z => hb0 ((hD.bit ⟨3, by decide⟩).mpr (Or.inl ⟨i, hi, z⟩))
  have hb0 : t_bit on (Int32.ofInt 3) = false := eq_false_of_ne_true hb0
  have h5 := hD.lt5 (k := 3) (by decide) hno0
  obtain ⟨nx1, tk1, pl1, num1, nm1, tok1, mu1, sp1, wd1, hP1, pr1, tr1, N1, M1⟩ := t_nx (lim := lim) hn hP0 hfb num0 nm0 mu0 wd0
  by_cases c1 : tk1 = 2 ∧ 1 ≤ num1.toInt ∧ num1.toInt ≤ 20
  rotate_left
  · have z := tr1.no c1
    exact Or.inl ⟨pl1, (t_kd tk1), fun ft fp xs L J d G h => c_to_fade h rfl (fun _ _ z => ⟨0, z.1, Or.inl rfl⟩) (c_fade_1 h hno0 h5 N1 z.1), fun th am mb hb nb rb xs L J d G h => by rw [← tr1.km]; exact v_fade_1 h hw hb0 M1 z.2⟩
  obtain ⟨k1, a1, b1⟩ := c1
  have m1 := tr1.nb.1.mp k1
  have en1 := tr1.nb.2 k1
  subst en1
  have pg1 : nx0.toInt < nx1.toInt := pr1.resolve_right (fun z => by have := z.2; omega)
  obtain ⟨nx2, tk2, pl2, num2, nm2, tok2, mu2, sp2, wd2, hP2, pr2, tr2, N2, M2⟩ := t_nx (lim := lim) hn hP1 hfb num1 nm1 num1 wd1
  exact Or.inr ⟨nx2, tk2, pl2, num2, nm2, tok2, sp2, mu2, wd2, (fun j => if j = 11 then num1 else cc j), np, nt, nl, nn, (oc + Int32.ofInt 1), (fun j => if j = oc.toInt.toNat then 13 else ot j), tn, ln, mn, (fun i => if i = 11 then num1 else hf i), nf, (on ||| (Int32.ofInt 1 <<< (Int32.ofInt 3 &&& 31))), hP2, ⟨by omega, fun z => by omega⟩, tr2, hD.once (k := ⟨3, by decide⟩) hno0 hD.c0 hD.c1 rfl rfl rfl rfl (hD.ld.one (by decide)), fun ft fp xs L J d G h => c_to_fade h rfl (fun _ _ z => ⟨1, z.1, Or.inr rfl⟩) (c_fade_ok h hno0 h5 N1 k1 a1 b1 N2), fun th am mb hb nb rb xs L J d G h => v_fade_ok h hw hb0 M1 m1 a1 b1 M2⟩
set_option maxHeartbeats 2000000 in
theorem p_held (hn : n.toInt ≤ 940) (hP0 : 0 ≤ nx0.toInt ∧ nx0.toInt ≤ n.toInt) (hfb : ∀ i, i < 940 → -128 ≤ (f i).toInt ∧ (f i).toInt ≤ 127) (hD : DR cc np nt nl nn oc ot tn ln mn hf nf on) (tr0 : TR tk0 num0 nm0 tok0 mu0 wd0) (htk : tk0 = 14) : LPf f n lim nx0 tk0 pl0 num0 nm0 tok0 sp0 mu0 wd0 cc np nt nl nn oc ot tn ln mn hf nf on ∨ LPo f n lim nx0 tk0 pl0 num0 nm0 tok0 sp0 mu0 wd0 cc np nt nl nn oc ot tn ln mn hf nf on := by
  have hw := (tr0.word (x := 4) (by decide)).mp htk
  subst htk
  by_cases hb0 : t_bit on (Int32.ofInt 4) = true
  · have hx := ((hD.bit ⟨4, by decide⟩).mp hb0).resolve_right (fun z => absurd z.1 (by decide))
    exact Or.inl ⟨pl0, (Int32.ofInt 3), fun ft fp xs L J d G h => c_to_held h rfl (fun _ _ z => ⟨0, z.1, Or.inl rfl⟩) (c_held_0 h hx), fun th am mb hb nb rb xs L J d G h => v_held_0 h hw hb0⟩
  have hno0 : ∀ i : Nat, (i : Int) < oc.toInt → ot i ≠ 14 := fun i hi z => hb0 ((hD.bit ⟨4, by decide⟩).mpr (Or.inl ⟨i, hi, z⟩))
  have hb0 : t_bit on (Int32.ofInt 4) = false := eq_false_of_ne_true hb0
  have h5 := hD.lt5 (k := 4) (by decide) hno0
  obtain ⟨nx1, tk1, pl1, num1, nm1, tok1, mu1, sp1, wd1, hP1, pr1, tr1, N1, M1⟩ := t_nx (lim := lim) hn hP0 hfb num0 nm0 mu0 wd0
  by_cases c1 : tk1 = 2 ∧ 0 ≤ num1.toInt ∧ num1.toInt ≤ 99
  rotate_left
  · have z := tr1.no c1
    exact Or.inl ⟨pl1, (t_kd tk1), fun ft fp xs L J d G h => c_to_held h rfl (fun _ _ z => ⟨0, z.1, Or.inl rfl⟩) (c_held_1 h hno0 h5 N1 z.1), fun th am mb hb nb rb xs L J d G h => by rw [← tr1.km]; exact v_held_1 h hw hb0 M1 z.2⟩
  obtain ⟨k1, a1, b1⟩ := c1
  have m1 := tr1.nb.1.mp k1
  have en1 := tr1.nb.2 k1
  subst en1
  have pg1 : nx0.toInt < nx1.toInt := pr1.resolve_right (fun z => by have := z.2; omega)
  obtain ⟨nx2, tk2, pl2, num2, nm2, tok2, mu2, sp2, wd2, hP2, pr2, tr2, N2, M2⟩ := t_nx (lim := lim) hn hP1 hfb num1 nm1 num1 wd1
  exact Or.inr ⟨nx2, tk2, pl2, num2, nm2, tok2, sp2, mu2, wd2, (fun j => if j = 12 then num1 else cc j), np, nt, nl, nn, (oc + Int32.ofInt 1), (fun j => if j = oc.toInt.toNat then 14 else ot j), tn, ln, mn, (fun i => if i = 12 then num1 else hf i), nf, (on ||| (Int32.ofInt 1 <<< (Int32.ofInt 4 &&& 31))), hP2, ⟨by omega, fun z => by omega⟩, tr2, hD.once (k := ⟨4, by decide⟩) hno0 hD.c0 hD.c1 rfl rfl rfl rfl (hD.ld.one (by decide)), fun ft fp xs L J d G h => c_to_held h rfl (fun _ _ z => ⟨1, z.1, Or.inr rfl⟩) (c_held_ok h hno0 h5 N1 k1 a1 b1 N2), fun th am mb hb nb rb xs L J d G h => v_held_ok h hw hb0 M1 m1 a1 b1 M2⟩
set_option maxHeartbeats 2000000 in
theorem p_breath (hn : n.toInt ≤ 940) (hP0 : 0 ≤ nx0.toInt ∧ nx0.toInt ≤ n.toInt) (hfb : ∀ i, i < 940 → -128 ≤ (f i).toInt ∧ (f i).toInt ≤ 127) (hD : DR cc np nt nl nn oc ot tn ln mn hf nf on) (tr0 : TR tk0 num0 nm0 tok0 mu0 wd0) (htk : tk0 = 11) : LPf f n lim nx0 tk0 pl0 num0 nm0 tok0 sp0 mu0 wd0 cc np nt nl nn oc ot tn ln mn hf nf on ∨ LPo f n lim nx0 tk0 pl0 num0 nm0 tok0 sp0 mu0 wd0 cc np nt nl nn oc ot tn ln mn hf nf on := by
  have hw := (tr0.word (x := 1) (by decide)).mp htk
  subst htk
  by_cases hb0 : t_bit on (Int32.ofInt 1) = true
  · have hx := ((hD.bit ⟨1, by decide⟩).mp hb0).resolve_right (fun z => absurd z.1 (by decide))
    exact Or.inl ⟨pl0, (Int32.ofInt 3), fun ft fp xs L J d G h => c_to_breath h rfl (fun _ _ z => ⟨0, z.1, Or.inl rfl⟩) (c_breath_0 h hx), fun th am mb hb nb rb xs L J d G h => v_breath_0 h hw hb0⟩
  have hno0 : ∀ i : Nat, (i : Int) < oc.toInt → ot i ≠ 11 := fun i hi z => hb0 ((hD.bit ⟨1, by decide⟩).mpr (Or.inl ⟨i, hi, z⟩))
  have hb0 : t_bit on (Int32.ofInt 1) = false := eq_false_of_ne_true hb0
  have h5 := hD.lt5 (k := 1) (by decide) hno0
  obtain ⟨nx1, tk1, pl1, num1, nm1, tok1, mu1, sp1, wd1, hP1, pr1, tr1, N1, M1⟩ := t_nx (lim := lim) hn hP0 hfb num0 nm0 mu0 wd0
  by_cases c1 : tk1 = 2 ∧ 1 ≤ num1.toInt ∧ num1.toInt ≤ 12
  rotate_left
  · have z := tr1.no c1
    exact Or.inl ⟨pl1, (t_kd tk1), fun ft fp xs L J d G h => c_to_breath h rfl (fun _ _ z => ⟨0, z.1, Or.inl rfl⟩) (c_breath_1 h hno0 h5 N1 z.1), fun th am mb hb nb rb xs L J d G h => by rw [← tr1.km]; exact v_breath_1 h hw hb0 M1 z.2⟩
  obtain ⟨k1, a1, b1⟩ := c1
  have m1 := tr1.nb.1.mp k1
  have en1 := tr1.nb.2 k1
  subst en1
  have pg1 : nx0.toInt < nx1.toInt := pr1.resolve_right (fun z => by have := z.2; omega)
  obtain ⟨nx2, tk2, pl2, num2, nm2, tok2, mu2, sp2, wd2, hP2, pr2, tr2, N2, M2⟩ := t_nx (lim := lim) hn hP1 hfb num1 nm1 num1 wd1
  by_cases c2 : tk2 = 2 ∧ 0 ≤ num2.toInt ∧ num2.toInt ≤ 12
  rotate_left
  · have z := tr2.no c2
    exact Or.inl ⟨pl2, (t_kd tk2), fun ft fp xs L J d G h => c_to_breath h rfl (fun _ _ z => ⟨0, z.1, Or.inl rfl⟩) (c_breath_2 h hno0 h5 N1 k1 a1 b1 N2 z.1), fun th am mb hb nb rb xs L J d G h => by rw [← tr2.km]; exact v_breath_2 h hw hb0 M1 m1 a1 b1 M2 z.2⟩
  obtain ⟨k2, a2, b2⟩ := c2
  have m2 := tr2.nb.1.mp k2
  have en2 := tr2.nb.2 k2
  subst en2
  have pg2 : nx1.toInt < nx2.toInt := pr2.resolve_right (fun z => by have := z.2; omega)
  obtain ⟨nx3, tk3, pl3, num3, nm3, tok3, mu3, sp3, wd3, hP3, pr3, tr3, N3, M3⟩ := t_nx (lim := lim) hn hP2 hfb num2 nm2 num2 wd2
  by_cases c3 : tk3 = 2 ∧ 1 ≤ num3.toInt ∧ num3.toInt ≤ 12
  rotate_left
  · have z := tr3.no c3
    exact Or.inl ⟨pl3, (t_kd tk3), fun ft fp xs L J d G h => c_to_breath h rfl (fun _ _ z => ⟨0, z.1, Or.inl rfl⟩) (c_breath_3 h hno0 h5 N1 k1 a1 b1 N2 k2 a2 b2 N3 z.1), fun th am mb hb nb rb xs L J d G h => by rw [← tr3.km]; exact v_breath_3 h hw hb0 M1 m1 a1 b1 M2 m2 a2 b2 M3 z.2⟩
  obtain ⟨k3, a3, b3⟩ := c3
  have m3 := tr3.nb.1.mp k3
  have en3 := tr3.nb.2 k3
  subst en3
  have pg3 : nx2.toInt < nx3.toInt := pr3.resolve_right (fun z => by have := z.2; omega)
  obtain ⟨nx4, tk4, pl4, num4, nm4, tok4, mu4, sp4, wd4, hP4, pr4, tr4, N4, M4⟩ := t_nx (lim := lim) hn hP3 hfb num3 nm3 num3 wd3
  by_cases c4 : tk4 = 2 ∧ 0 ≤ num4.toInt ∧ num4.toInt ≤ 12
  rotate_left
  · have z := tr4.no c4
    exact Or.inl ⟨pl4, (t_kd tk4), fun ft fp xs L J d G h => c_to_breath h rfl (fun _ _ z => ⟨0, z.1, Or.inl rfl⟩) (c_breath_4 h hno0 h5 N1 k1 a1 b1 N2 k2 a2 b2 N3 k3 a3 b3 N4 z.1), fun th am mb hb nb rb xs L J d G h => by rw [← tr4.km]; exact v_breath_4 h hw hb0 M1 m1 a1 b1 M2 m2 a2 b2 M3 m3 a3 b3 M4 z.2⟩
  obtain ⟨k4, a4, b4⟩ := c4
  have m4 := tr4.nb.1.mp k4
  have en4 := tr4.nb.2 k4
  subst en4
  have pg4 : nx3.toInt < nx4.toInt := pr4.resolve_right (fun z => by have := z.2; omega)
  obtain ⟨nx5, tk5, pl5, num5, nm5, tok5, mu5, sp5, wd5, hP5, pr5, tr5, N5, M5⟩ := t_nx (lim := lim) hn hP4 hfb num4 nm4 num4 wd4
  exact Or.inr ⟨nx5, tk5, pl5, num5, nm5, tok5, sp5, mu5, wd5, (fun j => if j = 9 then num4 else (fun j => if j = 8 then num3 else (fun j => if j = 7 then num2 else (fun j => if j = 6 then num1 else cc j) j) j) j), np, nt, nl, nn, (oc + Int32.ofInt 1), (fun j => if j = oc.toInt.toNat then 11 else ot j), tn, ln, mn, (fun i => if i = 9 then num4 else (fun i => if i = 8 then num3 else (fun i => if i = 7 then num2 else (fun i => if i = 6 then num1 else hf i) i) i) i), nf, (on ||| (Int32.ofInt 1 <<< (Int32.ofInt 1 &&& 31))), hP5, ⟨by omega, fun z => by omega⟩, tr5, hD.once (k := ⟨1, by decide⟩) hno0 hD.c0 hD.c1 rfl rfl rfl rfl ((((hD.ld.one (k := 6) (by decide)).one (k := 7) (by decide)).one (k := 8) (by decide)).one (k := 9) (by decide)), fun ft fp xs L J d G h => c_to_breath h rfl (fun _ _ z => ⟨1, z.1, Or.inr rfl⟩) (c_breath_ok h hno0 h5 N1 k1 a1 b1 N2 k2 a2 b2 N3 k3 a3 b3 N4 k4 a4 b4 N5), fun th am mb hb nb rb xs L J d G h => v_breath_ok h hw hb0 M1 m1 a1 b1 M2 m2 a2 b2 M3 m3 a3 b3 M4 m4 a4 b4 M5⟩
set_option maxHeartbeats 2000000 in
theorem p_long (hn : n.toInt ≤ 940) (hP0 : 0 ≤ nx0.toInt ∧ nx0.toInt ≤ n.toInt) (hfb : ∀ i, i < 940 → -128 ≤ (f i).toInt ∧ (f i).toInt ≤ 127) (hD : DR cc np nt nl nn oc ot tn ln mn hf nf on) (tr0 : TR tk0 num0 nm0 tok0 mu0 wd0) (htk : tk0 = 10) : LPf f n lim nx0 tk0 pl0 num0 nm0 tok0 sp0 mu0 wd0 cc np nt nl nn oc ot tn ln mn hf nf on ∨ LPo f n lim nx0 tk0 pl0 num0 nm0 tok0 sp0 mu0 wd0 cc np nt nl nn oc ot tn ln mn hf nf on := by
  have hw := (tr0.word (x := 0) (by decide)).mp htk
  subst htk
  have rt := hD.rt
  have rl := hD.rl
  have rm := hD.rm
  by_cases hcnt : 0 < nt.toInt + nl.toInt + nn.toInt
  · have hb0 := (hD.bit ⟨0, by decide⟩).mpr (Or.inr ⟨rfl, hcnt⟩)
    exact Or.inl ⟨pl0, (Int32.ofInt 3), fun ft fp xs L J d G h => c_to_long h rfl (fun _ _ z => ⟨0, z.1, Or.inl rfl⟩) (c_long_0 h hcnt), fun th am mb hb nb rb xs L J d G h => v_long_0 h hw hb0⟩
  have hcnt : nt.toInt + nl.toInt + nn.toInt = 0 := by omega
  by_cases hb0 : t_bit on (Int32.ofInt 0) = true
  · have hx := ((hD.bit ⟨0, by decide⟩).mp hb0).resolve_right (fun z => absurd z.2 (by omega))
    exact Or.inl ⟨pl0, (Int32.ofInt 3), fun ft fp xs L J d G h => c_to_long h rfl (fun _ _ z => ⟨0, z.1, Or.inl rfl⟩) (c_long_1 h hcnt hx), fun th am mb hb nb rb xs L J d G h => v_long_0 h hw hb0⟩
  have hno0 : ∀ i : Nat, (i : Int) < oc.toInt → ot i ≠ 10 := fun i hi z => hb0 ((hD.bit ⟨0, by decide⟩).mpr (Or.inl ⟨i, hi, z⟩))
  have hb0 : t_bit on (Int32.ofInt 0) = false := eq_false_of_ne_true hb0
  have h5 := hD.lt5 (k := 0) (by decide) hno0
  obtain ⟨nx1, tk1, pl1, num1, nm1, tok1, mu1, sp1, wd1, hP1, pr1, tr1, N1, M1⟩ := t_nx (lim := lim) hn hP0 hfb num0 nm0 mu0 wd0
  by_cases c1 : tk1 = 2 ∧ 1 ≤ num1.toInt ∧ num1.toInt ≤ 20
  rotate_left
  · have z := tr1.no c1
    exact Or.inl ⟨pl1, (t_kd tk1), fun ft fp xs L J d G h => c_to_long h rfl (fun _ _ z => ⟨0, z.1, Or.inl rfl⟩) (c_long_2 h hcnt hno0 h5 N1 z.1), fun th am mb hb nb rb xs L J d G h => by rw [← tr1.km]; exact v_long_1 h hw hb0 M1 z.2⟩
  obtain ⟨k1, a1, b1⟩ := c1
  have m1 := tr1.nb.1.mp k1
  have en1 := tr1.nb.2 k1
  subst en1
  have pg1 : nx0.toInt < nx1.toInt := pr1.resolve_right (fun z => by have := z.2; omega)
  obtain ⟨nx2, tk2, pl2, num2, nm2, tok2, mu2, sp2, wd2, hP2, pr2, tr2, N2, M2⟩ := t_nx (lim := lim) hn hP1 hfb num1 nm1 num1 wd1
  by_cases c2 : tk2 = 2 ∧ 1 ≤ num2.toInt ∧ num2.toInt ≤ 20
  rotate_left
  · have z := tr2.no c2
    exact Or.inl ⟨pl2, (t_kd tk2), fun ft fp xs L J d G h => c_to_long h rfl (fun _ _ z => ⟨0, z.1, Or.inl rfl⟩) (c_long_3 h hcnt hno0 h5 N1 k1 a1 b1 N2 z.1), fun th am mb hb nb rb xs L J d G h => by rw [← tr2.km]; exact v_long_2 h hw hb0 M1 m1 a1 b1 M2 z.2⟩
  obtain ⟨k2, a2, b2⟩ := c2
  have m2 := tr2.nb.1.mp k2
  have en2 := tr2.nb.2 k2
  subst en2
  have pg2 : nx1.toInt < nx2.toInt := pr2.resolve_right (fun z => by have := z.2; omega)
  obtain ⟨nx3, tk3, pl3, num3, nm3, tok3, mu3, sp3, wd3, hP3, pr3, tr3, N3, M3⟩ := t_nx (lim := lim) hn hP2 hfb num2 nm2 num2 wd2
  exact Or.inr ⟨nx3, tk3, pl3, num3, nm3, tok3, sp3, mu3, wd3, (fun j => if j = 1 then num2 else (fun j => if j = 0 then num1 else cc j) j), np, nt, nl, nn, (oc + Int32.ofInt 1), (fun j => if j = oc.toInt.toNat then 10 else ot j), tn, ln, mn, (fun i => if i = 1 then num2 else (fun i => if i = 0 then num1 else hf i) i), nf, (on ||| (Int32.ofInt 1 <<< (Int32.ofInt 0 &&& 31))), hP3, ⟨by omega, fun z => by omega⟩, tr3, hD.once (k := ⟨0, by decide⟩) hno0 rfl rfl rfl rfl rfl rfl ((hD.ld.one (k := 0) (by decide)).one (k := 1) (by decide)), fun ft fp xs L J d G h => c_to_long h rfl (fun _ _ z => ⟨1, z.1, Or.inr rfl⟩) (c_long_ok h hcnt hno0 h5 N1 k1 a1 b1 N2 k2 a2 b2 N3), fun th am mb hb nb rb xs L J d G h => v_long_ok h hw hb0 M1 m1 a1 b1 M2 m2 a2 b2 M3⟩
set_option maxHeartbeats 2000000 in
theorem p_passage (hn : n.toInt ≤ 940) (hP0 : 0 ≤ nx0.toInt ∧ nx0.toInt ≤ n.toInt) (hfb : ∀ i, i < 940 → -128 ≤ (f i).toInt ∧ (f i).toInt ≤ 127) (hD : DR cc np nt nl nn oc ot tn ln mn hf nf on) (tr0 : TR tk0 num0 nm0 tok0 mu0 wd0) (htk : tk0 = 15) : LPf f n lim nx0 tk0 pl0 num0 nm0 tok0 sp0 mu0 wd0 cc np nt nl nn oc ot tn ln mn hf nf on ∨ LPo f n lim nx0 tk0 pl0 num0 nm0 tok0 sp0 mu0 wd0 cc np nt nl nn oc ot tn ln mn hf nf on := by
  have hw := (tr0.word (x := 5) (by decide)).mp htk
  subst htk
  have rp := hD.rp
  have rt := hD.rt
  have rl := hD.rl
  have rm := hD.rm
  have qp := hD.p
  have qt := hD.t
  have ql := hD.l
  have qm := hD.m
  rw [qp] at rp
  by_cases hcn : 4 ≤ (hf 2).toInt
  · skip
    exact Or.inl ⟨pl0, (Int32.ofInt 4), fun ft fp xs L J d G h => c_to_passage h rfl (fun _ _ z => ⟨0, z.1, Or.inl rfl⟩) (c_pass_0 h (by rw [qp]; exact hcn)), fun th am mb hb nb rb xs L J d G h => v_passage_0 h hw (by omega)⟩
  have hcn : (hf 2).toInt < 4 := by omega
  have e13 : ((Int8.ofInt 13).toInt32 + hf 2).toInt = 13 + (hf 2).toInt := (y_add (by show -2147483648 ≤ (13 : Int) + _; omega) (by show (13 : Int) + _ ≤ 2147483647; omega)).trans rfl
  have e17 : ((Int8.ofInt 17).toInt32 + hf 2).toInt = 17 + (hf 2).toInt := (y_add (by show -2147483648 ≤ (17 : Int) + _; omega) (by show (17 : Int) + _ ≤ 2147483647; omega)).trans rfl
  have e21 : ((Int8.ofInt 21).toInt32 + hf 2).toInt = 21 + (hf 2).toInt := (y_add (by show -2147483648 ≤ (21 : Int) + _; omega) (by show (21 : Int) + _ ≤ 2147483647; omega)).trans rfl
  obtain ⟨nx1, tk1, pl1, num1, nm1, tok1, mu1, sp1, wd1, hP1, pr1, tr1, N1, M1⟩ := t_nx (lim := lim) hn hP0 hfb num0 nm0 mu0 wd0
  by_cases c1 : tk1 = 2 ∧ 2 ≤ num1.toInt ∧ num1.toInt ≤ 9
  rotate_left
  · have z := tr1.no c1
    exact Or.inl ⟨pl1, (t_kd tk1), fun ft fp xs L J d G h => c_to_passage h rfl (fun _ _ z => ⟨0, z.1, Or.inl rfl⟩) (c_pass_1 h (by rw [qp]; exact hcn) N1 z.1), fun th am mb hb nb rb xs L J d G h => by rw [← tr1.km]; exact v_passage_1 h hw hcn M1 z.2⟩
  obtain ⟨k1, a1, b1⟩ := c1
  have m1 := tr1.nb.1.mp k1
  have en1 := tr1.nb.2 k1
  subst en1
  have pg1 : nx0.toInt < nx1.toInt := pr1.resolve_right (fun z => by have := z.2; omega)
  obtain ⟨nx2, tk2, pl2, num2, nm2, tok2, mu2, sp2, wd2, hP2, pr2, tr2, N2, M2⟩ := t_nx (lim := lim) hn hP1 hfb num1 nm1 num1 wd1
  by_cases c2 : tk2 = 2 ∧ 1 ≤ num2.toInt ∧ num2.toInt ≤ 9
  rotate_left
  · have z := tr2.no c2
    exact Or.inl ⟨pl2, (t_kd tk2), fun ft fp xs L J d G h => c_to_passage h rfl (fun _ _ z => ⟨0, z.1, Or.inl rfl⟩) (c_pass_2 h (by rw [qp]; exact hcn) N1 k1 a1 b1 N2 z.1), fun th am mb hb nb rb xs L J d G h => by rw [← tr2.km]; exact v_passage_2 h hw hcn M1 m1 a1 b1 M2 z.2⟩
  obtain ⟨k2, a2, b2⟩ := c2
  have m2 := tr2.nb.1.mp k2
  have en2 := tr2.nb.2 k2
  subst en2
  have pg2 : nx1.toInt < nx2.toInt := pr2.resolve_right (fun z => by have := z.2; omega)
  obtain ⟨nx3, tk3, pl3, num3, nm3, tok3, mu3, sp3, wd3, hP3, pr3, tr3, N3, M3⟩ := t_nx (lim := lim) hn hP2 hfb num2 nm2 num2 wd2
  by_cases c3 : tk3 = 2 ∧ 0 ≤ num3.toInt ∧ num3.toInt ≤ 7
  rotate_left
  · have z := tr3.no c3
    exact Or.inl ⟨pl3, (t_kd tk3), fun ft fp xs L J d G h => c_to_passage h rfl (fun _ _ z => ⟨0, z.1, Or.inl rfl⟩) (c_pass_3 h (by rw [qp]; exact hcn) N1 k1 a1 b1 N2 k2 a2 b2 N3 z.1), fun th am mb hb nb rb xs L J d G h => by rw [← tr3.km]; exact v_passage_3 h hw hcn M1 m1 a1 b1 M2 m2 a2 b2 M3 z.2⟩
  obtain ⟨k3, a3, b3⟩ := c3
  have m3 := tr3.nb.1.mp k3
  have en3 := tr3.nb.2 k3
  subst en3
  have pg3 : nx2.toInt < nx3.toInt := pr3.resolve_right (fun z => by have := z.2; omega)
  obtain ⟨nx4, tk4, pl4, num4, nm4, tok4, mu4, sp4, wd4, hP4, pr4, tr4, N4, M4⟩ := t_nx (lim := lim) hn hP3 hfb num3 nm3 num3 wd3
  have eL : DL (fun j => if j = 21 + np.toInt.toNat then num3 else (fun j => if j = 17 + np.toInt.toNat then num2 else (fun j => if j = 13 + np.toInt.toNat then num1 else cc j) j) j) (fun i => if i = 2 then hf 2 + Int32.ofInt 1 else (fun i => if i = ((Int8.ofInt 21).toInt32 + hf 2).toInt.toNat then num3 else (fun i => if i = ((Int8.ofInt 17).toInt32 + hf 2).toInt.toNat then num2 else (fun i => if i = ((Int8.ofInt 13).toInt32 + hf 2).toInt.toNat then num1 else hf i) i) i) i) (np + Int32.ofInt 1) := by
    have ep : (np + Int32.ofInt 1).toInt = np.toInt + 1 := y_add1 (t := np) (by rw [qp]; omega)
    have en : np.toInt = (hf 2).toInt := by rw [qp]
    refine ⟨fun j a b => ?_, fun i hi h4 => ?_⟩
    · dsimp only
      rw [if_neg (by omega), if_neg (by omega), if_neg (by omega), if_neg (by omega), if_neg (by omega), if_neg (by omega), if_neg (by omega)]
      exact hD.ld.1 j a b
    · dsimp only
      by_cases e : i = np.toInt.toNat
      · refine ⟨?_, ?_, ?_⟩
        · rw [if_neg (by omega), if_neg (by omega), if_pos (by omega), if_neg (by omega), if_neg (by omega), if_neg (by omega), if_pos (by omega)]
        · rw [if_neg (by omega), if_pos (by omega), if_neg (by omega), if_neg (by omega), if_pos (by omega)]
        · rw [if_pos (by omega), if_neg (by omega), if_pos (by omega)]
      · obtain ⟨a, b, c⟩ := hD.ld.2 i (by omega) h4
        refine ⟨?_, ?_, ?_⟩
        · rw [if_neg (by omega), if_neg (by omega), if_neg (by omega), if_neg (by omega), if_neg (by omega), if_neg (by omega), if_neg (by omega)]
          exact a
        · rw [if_neg (by omega), if_neg (by omega), if_neg (by omega), if_neg (by omega), if_neg (by omega), if_neg (by omega), if_neg (by omega)]
          exact b
        · rw [if_neg (by omega), if_neg (by omega), if_neg (by omega), if_neg (by omega), if_neg (by omega), if_neg (by omega), if_neg (by omega)]
          exact c
  exact Or.inr ⟨nx4, tk4, pl4, num4, nm4, tok4, sp4, mu4, wd4, (fun j => if j = 21 + np.toInt.toNat then num3 else (fun j => if j = 17 + np.toInt.toNat then num2 else (fun j => if j = 13 + np.toInt.toNat then num1 else cc j) j) j), (np + Int32.ofInt 1), nt, nl, nn, oc, ot, tn, ln, mn, (fun i => if i = 2 then hf 2 + Int32.ofInt 1 else (fun i => if i = ((Int8.ofInt 21).toInt32 + hf 2).toInt.toNat then num3 else (fun i => if i = ((Int8.ofInt 17).toInt32 + hf 2).toInt.toNat then num2 else (fun i => if i = ((Int8.ofInt 13).toInt32 + hf 2).toInt.toNat then num1 else hf i) i) i) i), nf, on, hP4, ⟨by omega, fun z => by omega⟩, tr4, hD.pass (by rw [qp]; exact hcn) ((if_neg (by omega)).trans ((if_neg (by omega)).trans (if_neg (by omega)))) ((if_neg (by omega)).trans ((if_neg (by omega)).trans (if_neg (by omega)))) eL ((if_neg (by omega)).trans ((if_neg (by omega)).trans ((if_neg (by omega)).trans (if_neg (by omega))))) ((if_neg (by omega)).trans ((if_neg (by omega)).trans ((if_neg (by omega)).trans (if_neg (by omega))))) (if_pos rfl) ((if_neg (by omega)).trans ((if_neg (by omega)).trans ((if_neg (by omega)).trans (if_neg (by omega))))) ((if_neg (by omega)).trans ((if_neg (by omega)).trans ((if_neg (by omega)).trans (if_neg (by omega))))) ((if_neg (by omega)).trans ((if_neg (by omega)).trans ((if_neg (by omega)).trans (if_neg (by omega))))), fun ft fp xs L J d G h => c_to_passage h rfl (fun _ _ z => ⟨1, z.1, Or.inr rfl⟩) (c_pass_ok h (by rw [qp]; exact hcn) N1 k1 a1 b1 N2 k2 a2 b2 N3 k3 a3 b3 N4), fun th am mb hb nb rb xs L J d G h => v_passage_ok h hw hcn M1 m1 a1 b1 M2 m2 a2 b2 M3 m3 a3 b3 M4⟩
set_option maxHeartbeats 2000000 in
theorem p_mill (hn : n.toInt ≤ 940) (hP0 : 0 ≤ nx0.toInt ∧ nx0.toInt ≤ n.toInt) (hfb : ∀ i, i < 940 → -128 ≤ (f i).toInt ∧ (f i).toInt ≤ 127) (hD : DR cc np nt nl nn oc ot tn ln mn hf nf on) (tr0 : TR tk0 num0 nm0 tok0 mu0 wd0) (htk : tk0 = 18) : LPf f n lim nx0 tk0 pl0 num0 nm0 tok0 sp0 mu0 wd0 cc np nt nl nn oc ot tn ln mn hf nf on ∨ LPo f n lim nx0 tk0 pl0 num0 nm0 tok0 sp0 mu0 wd0 cc np nt nl nn oc ot tn ln mn hf nf on := by
  have hw := (tr0.word (x := 8) (by decide)).mp htk
  subst htk
  have rp := hD.rp
  have rt := hD.rt
  have rl := hD.rl
  have rm := hD.rm
  have qp := hD.p
  have qt := hD.t
  have ql := hD.l
  have qm := hD.m
  rw [ql] at rl
  by_cases hcn : 4 ≤ (hf 4).toInt
  · skip
    exact Or.inl ⟨pl0, (Int32.ofInt 4), fun ft fp xs L J d G h => c_to_mill h rfl (fun _ _ z => ⟨0, z.1, Or.inl rfl⟩) (c_mill_0 h (by rw [ql]; exact hcn)), fun th am mb hb nb rb xs L J d G h => v_mill_0 h hw (by omega)⟩
  have hcn : (hf 4).toInt < 4 := by omega
  have e24 : ((Int8.ofInt 24).toInt32 + hf 4).toInt = 24 + (hf 4).toInt := (y_add (by show -2147483648 ≤ (24 : Int) + _; omega) (by show (24 : Int) + _ ≤ 2147483647; omega)).trans rfl
  have e65 : ((Int8.ofInt 65).toInt32 + hf 4).toInt = 65 + (hf 4).toInt := (y_add (by show -2147483648 ≤ (65 : Int) + _; omega) (by show (65 : Int) + _ ≤ 2147483647; omega)).trans rfl
  have e69 : ((Int8.ofInt 69).toInt32 + hf 4).toInt = 69 + (hf 4).toInt := (y_add (by show -2147483648 ≤ (69 : Int) + _; omega) (by show (69 : Int) + _ ≤ 2147483647; omega)).trans rfl
  obtain ⟨nx1, tk1, pl1, num1, nm1, tok1, mu1, sp1, wd1, hP1, pr1, tr1, N1, M1⟩ := t_nx (lim := lim) hn hP0 hfb num0 nm0 mu0 wd0
  by_cases c1 : tk1 = 3 ∧ ¬ c_Told nt nl nn tn ln mn nm1
  rotate_left
  · have z := tr1.nno hD c1
    exact Or.inl ⟨pl1, (t_kn tk1), fun ft fp xs L J d G h => c_to_mill h rfl (fun _ _ z => ⟨0, z.1, Or.inl rfl⟩) (c_mill_a h (by rw [ql]; exact hcn) N1 z.1), fun th am mb hb nb rb xs L J d G h => by rw [← tr1.kf]; exact v_mill_a h hw hcn M1 z.2⟩
  obtain ⟨k1, hT⟩ := c1
  have hname := tr1.name.1.mp k1
  have r1 := tr1.name.2 k1
  have hT' : ¬ t_Told hf nf wd1 := fun z => hT ((hD.told r1).mpr z)
  have pg1 : nx0.toInt < nx1.toInt := pr1.resolve_right (fun z => by have := z.2; omega)
  obtain ⟨nx2, tk2, pl2, num2, nm2, tok2, mu2, sp2, wd2, hP2, pr2, tr2, N2, M2⟩ := t_nx (lim := lim) hn hP1 hfb num1 nm1 mu1 wd1
  by_cases c2 : tk2 = 2 ∧ 0 ≤ num2.toInt ∧ num2.toInt ≤ 1
  rotate_left
  · have z := tr2.no c2
    exact Or.inl ⟨pl2, (t_kd tk2), fun ft fp xs L J d G h => c_to_mill h rfl (fun _ _ z => ⟨0, z.1, Or.inl rfl⟩) (c_mill_b h (by rw [ql]; exact hcn) N1 k1 hT N2 z.1), fun th am mb hb nb rb xs L J d G h => by rw [← tr2.km]; exact v_mill_b h hw hcn M1 hname hT' M2 z.2⟩
  obtain ⟨k2, a2, b2⟩ := c2
  have m2 := tr2.nb.1.mp k2
  have en2 := tr2.nb.2 k2
  subst en2
  have pg2 : nx1.toInt < nx2.toInt := pr2.resolve_right (fun z => by have := z.2; omega)
  have ecc := hD.cell a2 b2
  obtain ⟨nx3, tk3, pl3, num3, nm3, tok3, mu3, sp3, wd3, hP3, pr3, tr3, N3, M3⟩ := t_nx (lim := lim) hn hP2 hfb num2 nm2 num2 wd2
  by_cases c3 : tk3 = 2 ∧ 0 ≤ num3.toInt ∧ num3.toInt ≤ (cc num2.toInt.toNat - Int32.ofInt 1).toInt
  rotate_left
  · have z := tr3.no c3
    exact Or.inl ⟨pl3, (t_kd tk3), fun ft fp xs L J d G h => c_to_mill h rfl (fun _ _ z => ⟨0, z.1, Or.inl rfl⟩) (c_mill_c h (by rw [ql]; exact hcn) N1 k1 hT N2 k2 a2 b2 N3 z.1), fun th am mb hb nb rb xs L J d G h => by rw [← tr3.km]; exact v_mill_c h hw hcn M1 hname hT' M2 m2 a2 b2 M3 (by rw [← ecc]; exact z.2)⟩
  obtain ⟨k3, a3, b3⟩ := c3
  have m3 := tr3.nb.1.mp k3
  have en3 := tr3.nb.2 k3
  subst en3
  have pg3 : nx2.toInt < nx3.toInt := pr3.resolve_right (fun z => by have := z.2; omega)
  obtain ⟨nx4, tk4, pl4, num4, nm4, tok4, mu4, sp4, wd4, hP4, pr4, tr4, N4, M4⟩ := t_nx (lim := lim) hn hP3 hfb num3 nm3 num3 wd3
  exact Or.inr ⟨nx4, tk4, pl4, num4, nm4, tok4, sp4, mu4, wd4, cc, np, nt, (nl + Int32.ofInt 1), nn, oc, ot, tn, (fun j => if j = nl.toInt.toNat then nm1 else ln j), mn, (fun i => if i = 4 then hf 4 + Int32.ofInt 1 else (fun i => if i = ((Int8.ofInt 69).toInt32 + hf 4).toInt.toNat then num3 else if i = ((Int8.ofInt 65).toInt32 + hf 4).toInt.toNat then num2 else hf i) i), (fun i => if i = ((Int8.ofInt 24).toInt32 + hf 4).toInt.toNat then wd1 else nf i), (on ||| Int32.ofInt 1), hP4, ⟨by omega, fun z => by omega⟩, tr4, hD.mill (by rw [ql]; exact hcn) r1 (J := ((Int8.ofInt 24).toInt32 + hf 4).toInt.toNat) (by rw [ql]; omega) (hD.ld.h (fun j h1 h2 => ((if_neg (by omega)).trans ((if_neg (by omega)).trans (if_neg (by omega)))))) ((if_neg (by omega)).trans ((if_neg (by omega)).trans (if_neg (by omega)))) ((if_neg (by omega)).trans ((if_neg (by omega)).trans (if_neg (by omega)))) ((if_neg (by omega)).trans ((if_neg (by omega)).trans (if_neg (by omega)))) ((if_neg (by omega)).trans ((if_neg (by omega)).trans (if_neg (by omega)))) (if_pos rfl) ((if_neg (by omega)).trans ((if_neg (by omega)).trans (if_neg (by omega)))), fun ft fp xs L J d G h => c_to_mill h rfl (fun _ _ z => ⟨1, z.1, Or.inr rfl⟩) (c_mill_ok h (by rw [ql]; exact hcn) N1 k1 hT N2 k2 a2 b2 N3 k3 a3 b3 N4), fun th am mb hb nb rb xs L J d G h => v_mill_ok h hw hcn M1 hname hT' M2 m2 a2 b2 M3 m3 a3 (by rw [← ecc]; exact b3) M4⟩
set_option maxHeartbeats 2000000 in
theorem p_man (hn : n.toInt ≤ 940) (hP0 : 0 ≤ nx0.toInt ∧ nx0.toInt ≤ n.toInt) (hfb : ∀ i, i < 940 → -128 ≤ (f i).toInt ∧ (f i).toInt ≤ 127) (hD : DR cc np nt nl nn oc ot tn ln mn hf nf on) (tr0 : TR tk0 num0 nm0 tok0 mu0 wd0) (htk : tk0 = 19) : LPf f n lim nx0 tk0 pl0 num0 nm0 tok0 sp0 mu0 wd0 cc np nt nl nn oc ot tn ln mn hf nf on ∨ LPo f n lim nx0 tk0 pl0 num0 nm0 tok0 sp0 mu0 wd0 cc np nt nl nn oc ot tn ln mn hf nf on := by
  have hw := (tr0.word (x := 9) (by decide)).mp htk
  subst htk
  have rp := hD.rp
  have rt := hD.rt
  have rl := hD.rl
  have rm := hD.rm
  have qp := hD.p
  have qt := hD.t
  have ql := hD.l
  have qm := hD.m
  rw [qm] at rm
  by_cases hcn : 4 ≤ (hf 5).toInt
  · skip
    exact Or.inl ⟨pl0, (Int32.ofInt 4), fun ft fp xs L J d G h => c_to_man h rfl (fun _ _ z => ⟨0, z.1, Or.inl rfl⟩) (c_man_0 h (by rw [qm]; exact hcn)), fun th am mb hb nb rb xs L J d G h => v_man_0 h hw (by omega)⟩
  have hcn : (hf 5).toInt < 4 := by omega
  have e28 : ((Int8.ofInt 28).toInt32 + hf 5).toInt = 28 + (hf 5).toInt := (y_add (by show -2147483648 ≤ (28 : Int) + _; omega) (by show (28 : Int) + _ ≤ 2147483647; omega)).trans rfl
  have e73 : ((Int8.ofInt 73).toInt32 + hf 5).toInt = 73 + (hf 5).toInt := (y_add (by show -2147483648 ≤ (73 : Int) + _; omega) (by show (73 : Int) + _ ≤ 2147483647; omega)).trans rfl
  have e77 : ((Int8.ofInt 77).toInt32 + hf 5).toInt = 77 + (hf 5).toInt := (y_add (by show -2147483648 ≤ (77 : Int) + _; omega) (by show (77 : Int) + _ ≤ 2147483647; omega)).trans rfl
  obtain ⟨nx1, tk1, pl1, num1, nm1, tok1, mu1, sp1, wd1, hP1, pr1, tr1, N1, M1⟩ := t_nx (lim := lim) hn hP0 hfb num0 nm0 mu0 wd0
  by_cases c1 : tk1 = 3 ∧ ¬ c_Told nt nl nn tn ln mn nm1
  rotate_left
  · have z := tr1.nno hD c1
    exact Or.inl ⟨pl1, (t_kn tk1), fun ft fp xs L J d G h => c_to_man h rfl (fun _ _ z => ⟨0, z.1, Or.inl rfl⟩) (c_man_a h (by rw [qm]; exact hcn) N1 z.1), fun th am mb hb nb rb xs L J d G h => by rw [← tr1.kf]; exact v_man_a h hw hcn M1 z.2⟩
  obtain ⟨k1, hT⟩ := c1
  have hname := tr1.name.1.mp k1
  have r1 := tr1.name.2 k1
  have hT' : ¬ t_Told hf nf wd1 := fun z => hT ((hD.told r1).mpr z)
  have pg1 : nx0.toInt < nx1.toInt := pr1.resolve_right (fun z => by have := z.2; omega)
  obtain ⟨nx2, tk2, pl2, num2, nm2, tok2, mu2, sp2, wd2, hP2, pr2, tr2, N2, M2⟩ := t_nx (lim := lim) hn hP1 hfb num1 nm1 mu1 wd1
  by_cases c2 : tk2 = 2 ∧ 0 ≤ num2.toInt ∧ num2.toInt ≤ 1
  rotate_left
  · have z := tr2.no c2
    exact Or.inl ⟨pl2, (t_kd tk2), fun ft fp xs L J d G h => c_to_man h rfl (fun _ _ z => ⟨0, z.1, Or.inl rfl⟩) (c_man_b h (by rw [qm]; exact hcn) N1 k1 hT N2 z.1), fun th am mb hb nb rb xs L J d G h => by rw [← tr2.km]; exact v_man_b h hw hcn M1 hname hT' M2 z.2⟩
  obtain ⟨k2, a2, b2⟩ := c2
  have m2 := tr2.nb.1.mp k2
  have en2 := tr2.nb.2 k2
  subst en2
  have pg2 : nx1.toInt < nx2.toInt := pr2.resolve_right (fun z => by have := z.2; omega)
  have ecc := hD.cell a2 b2
  obtain ⟨nx3, tk3, pl3, num3, nm3, tok3, mu3, sp3, wd3, hP3, pr3, tr3, N3, M3⟩ := t_nx (lim := lim) hn hP2 hfb num2 nm2 num2 wd2
  by_cases c3 : tk3 = 2 ∧ 0 ≤ num3.toInt ∧ num3.toInt ≤ (cc num2.toInt.toNat - Int32.ofInt 1).toInt
  rotate_left
  · have z := tr3.no c3
    exact Or.inl ⟨pl3, (t_kd tk3), fun ft fp xs L J d G h => c_to_man h rfl (fun _ _ z => ⟨0, z.1, Or.inl rfl⟩) (c_man_c h (by rw [qm]; exact hcn) N1 k1 hT N2 k2 a2 b2 N3 z.1), fun th am mb hb nb rb xs L J d G h => by rw [← tr3.km]; exact v_man_c h hw hcn M1 hname hT' M2 m2 a2 b2 M3 (by rw [← ecc]; exact z.2)⟩
  obtain ⟨k3, a3, b3⟩ := c3
  have m3 := tr3.nb.1.mp k3
  have en3 := tr3.nb.2 k3
  subst en3
  have pg3 : nx2.toInt < nx3.toInt := pr3.resolve_right (fun z => by have := z.2; omega)
  obtain ⟨nx4, tk4, pl4, num4, nm4, tok4, mu4, sp4, wd4, hP4, pr4, tr4, N4, M4⟩ := t_nx (lim := lim) hn hP3 hfb num3 nm3 num3 wd3
  exact Or.inr ⟨nx4, tk4, pl4, num4, nm4, tok4, sp4, mu4, wd4, cc, np, nt, nl, (nn + Int32.ofInt 1), oc, ot, tn, ln, (fun j => if j = nn.toInt.toNat then nm1 else mn j), (fun i => if i = 5 then hf 5 + Int32.ofInt 1 else (fun i => if i = ((Int8.ofInt 77).toInt32 + hf 5).toInt.toNat then num3 else if i = ((Int8.ofInt 73).toInt32 + hf 5).toInt.toNat then num2 else hf i) i), (fun i => if i = ((Int8.ofInt 28).toInt32 + hf 5).toInt.toNat then wd1 else nf i), (on ||| Int32.ofInt 1), hP4, ⟨by omega, fun z => by omega⟩, tr4, hD.man (by rw [qm]; exact hcn) r1 (J := ((Int8.ofInt 28).toInt32 + hf 5).toInt.toNat) (by rw [qm]; omega) (hD.ld.h (fun j h1 h2 => ((if_neg (by omega)).trans ((if_neg (by omega)).trans (if_neg (by omega)))))) ((if_neg (by omega)).trans ((if_neg (by omega)).trans (if_neg (by omega)))) ((if_neg (by omega)).trans ((if_neg (by omega)).trans (if_neg (by omega)))) ((if_neg (by omega)).trans ((if_neg (by omega)).trans (if_neg (by omega)))) ((if_neg (by omega)).trans ((if_neg (by omega)).trans (if_neg (by omega)))) ((if_neg (by omega)).trans ((if_neg (by omega)).trans (if_neg (by omega)))) (if_pos rfl), fun ft fp xs L J d G h => c_to_man h rfl (fun _ _ z => ⟨1, z.1, Or.inr rfl⟩) (c_man_ok h (by rw [qm]; exact hcn) N1 k1 hT N2 k2 a2 b2 N3 k3 a3 b3 N4), fun th am mb hb nb rb xs L J d G h => v_man_ok h hw hcn M1 hname hT' M2 m2 a2 b2 M3 m3 a3 (by rw [← ecc]; exact b3) M4⟩
set_option maxHeartbeats 2000000 in
theorem p_thing (hn : n.toInt ≤ 940) (hP0 : 0 ≤ nx0.toInt ∧ nx0.toInt ≤ n.toInt) (hfb : ∀ i, i < 940 → -128 ≤ (f i).toInt ∧ (f i).toInt ≤ 127) (hD : DR cc np nt nl nn oc ot tn ln mn hf nf on) (tr0 : TR tk0 num0 nm0 tok0 mu0 wd0) (htk : tk0 = 16) : LPf f n lim nx0 tk0 pl0 num0 nm0 tok0 sp0 mu0 wd0 cc np nt nl nn oc ot tn ln mn hf nf on ∨ LPo f n lim nx0 tk0 pl0 num0 nm0 tok0 sp0 mu0 wd0 cc np nt nl nn oc ot tn ln mn hf nf on := by
  have hw := (tr0.word (x := 6) (by decide)).mp htk
  subst htk
  have rp := hD.rp
  have rt := hD.rt
  have rl := hD.rl
  have rm := hD.rm
  have qp := hD.p
  have qt := hD.t
  have ql := hD.l
  have qm := hD.m
  rw [qt] at rt
  by_cases hcn : 8 ≤ (hf 3).toInt
  · skip
    exact Or.inl ⟨pl0, (Int32.ofInt 4), fun ft fp xs L J d G h => c_to_thing h rfl (fun _ _ z => ⟨0, z.1, Or.inl rfl⟩) (c_thing_0 h (by rw [qt]; exact hcn)), fun th am mb hb nb rb xs L J d G h => v_thing_0 h hw (by omega)⟩
  have hcn : (hf 3).toInt < 8 := by omega
  have e16 : ((Int8.ofInt 16).toInt32 + hf 3).toInt = 16 + (hf 3).toInt := (y_add (by show -2147483648 ≤ (16 : Int) + _; omega) (by show (16 : Int) + _ ≤ 2147483647; omega)).trans rfl
  have e25 : ((Int8.ofInt 25).toInt32 + hf 3).toInt = 25 + (hf 3).toInt := (y_add (by show -2147483648 ≤ (25 : Int) + _; omega) (by show (25 : Int) + _ ≤ 2147483647; omega)).trans rfl
  have e33 : ((Int8.ofInt 33).toInt32 + hf 3).toInt = 33 + (hf 3).toInt := (y_add (by show -2147483648 ≤ (33 : Int) + _; omega) (by show (33 : Int) + _ ≤ 2147483647; omega)).trans rfl
  have e41 : ((Int8.ofInt 41).toInt32 + hf 3).toInt = 41 + (hf 3).toInt := (y_add (by show -2147483648 ≤ (41 : Int) + _; omega) (by show (41 : Int) + _ ≤ 2147483647; omega)).trans rfl
  have e49 : ((Int8.ofInt 49).toInt32 + hf 3).toInt = 49 + (hf 3).toInt := (y_add (by show -2147483648 ≤ (49 : Int) + _; omega) (by show (49 : Int) + _ ≤ 2147483647; omega)).trans rfl
  have e57 : ((Int8.ofInt 57).toInt32 + hf 3).toInt = 57 + (hf 3).toInt := (y_add (by show -2147483648 ≤ (57 : Int) + _; omega) (by show (57 : Int) + _ ≤ 2147483647; omega)).trans rfl
  obtain ⟨nx1, tk1, pl1, num1, nm1, tok1, mu1, sp1, wd1, hP1, pr1, tr1, N1, M1⟩ := t_nx (lim := lim) hn hP0 hfb num0 nm0 mu0 wd0
  by_cases c1 : tk1 = 3 ∧ ¬ c_Told nt nl nn tn ln mn nm1
  rotate_left
  · have z := tr1.nno hD c1
    exact Or.inl ⟨pl1, (t_kn tk1), fun ft fp xs L J d G h => c_to_thing h rfl (fun _ _ z => ⟨0, z.1, Or.inl rfl⟩) (c_thing_a h (by rw [qt]; exact hcn) N1 z.1), fun th am mb hb nb rb xs L J d G h => by rw [← tr1.kf]; exact v_thing_a h hw hcn M1 z.2⟩
  obtain ⟨k1, hT⟩ := c1
  have hname := tr1.name.1.mp k1
  have r1 := tr1.name.2 k1
  have hT' : ¬ t_Told hf nf wd1 := fun z => hT ((hD.told r1).mpr z)
  have pg1 : nx0.toInt < nx1.toInt := pr1.resolve_right (fun z => by have := z.2; omega)
  obtain ⟨nx2, tk2, pl2, num2, nm2, tok2, mu2, sp2, wd2, hP2, pr2, tr2, N2, M2⟩ := t_nx (lim := lim) hn hP1 hfb num1 nm1 mu1 wd1
  by_cases c2 : tk2 = 2 ∧ 0 ≤ num2.toInt ∧ num2.toInt ≤ 1
  rotate_left
  · have z := tr2.no c2
    exact Or.inl ⟨pl2, (t_kd tk2), fun ft fp xs L J d G h => c_to_thing h rfl (fun _ _ z => ⟨0, z.1, Or.inl rfl⟩) (c_thing_b h (by rw [qt]; exact hcn) N1 k1 hT N2 z.1), fun th am mb hb nb rb xs L J d G h => by rw [← tr2.km]; exact v_thing_b h hw hcn M1 hname hT' M2 z.2⟩
  obtain ⟨k2, a2, b2⟩ := c2
  have m2 := tr2.nb.1.mp k2
  have en2 := tr2.nb.2 k2
  subst en2
  have pg2 : nx1.toInt < nx2.toInt := pr2.resolve_right (fun z => by have := z.2; omega)
  have ecc := hD.cell a2 b2
  obtain ⟨nx3, tk3, pl3, num3, nm3, tok3, mu3, sp3, wd3, hP3, pr3, tr3, N3, M3⟩ := t_nx (lim := lim) hn hP2 hfb num2 nm2 num2 wd2
  by_cases c3 : tk3 = 2 ∧ 0 ≤ num3.toInt ∧ num3.toInt ≤ (cc num2.toInt.toNat - Int32.ofInt 1).toInt
  rotate_left
  · have z := tr3.no c3
    exact Or.inl ⟨pl3, (t_kd tk3), fun ft fp xs L J d G h => c_to_thing h rfl (fun _ _ z => ⟨0, z.1, Or.inl rfl⟩) (c_thing_c h (by rw [qt]; exact hcn) N1 k1 hT N2 k2 a2 b2 N3 z.1), fun th am mb hb nb rb xs L J d G h => by rw [← tr3.km]; exact v_thing_c h hw hcn M1 hname hT' M2 m2 a2 b2 M3 (by rw [← ecc]; exact z.2)⟩
  obtain ⟨k3, a3, b3⟩ := c3
  have m3 := tr3.nb.1.mp k3
  have en3 := tr3.nb.2 k3
  subst en3
  have pg3 : nx2.toInt < nx3.toInt := pr3.resolve_right (fun z => by have := z.2; omega)
  obtain ⟨nx4, tk4, pl4, num4, nm4, tok4, mu4, sp4, wd4, hP4, pr4, tr4, N4, M4⟩ := t_nx (lim := lim) hn hP3 hfb num3 nm3 num3 wd3
  by_cases c4 : tk4 = 2 ∧ 1 ≤ num4.toInt ∧ num4.toInt ≤ 9
  rotate_left
  · have z := tr4.no c4
    exact Or.inl ⟨pl4, (t_kd tk4), fun ft fp xs L J d G h => c_to_thing h rfl (fun _ _ z => ⟨0, z.1, Or.inl rfl⟩) (c_thing_d h (by rw [qt]; exact hcn) N1 k1 hT N2 k2 a2 b2 N3 k3 a3 b3 N4 z.1), fun th am mb hb nb rb xs L J d G h => by rw [← tr4.km]; exact v_thing_d h hw hcn M1 hname hT' M2 m2 a2 b2 M3 m3 a3 (by rw [← ecc]; exact b3) M4 z.2⟩
  obtain ⟨k4, a4, b4⟩ := c4
  have m4 := tr4.nb.1.mp k4
  have en4 := tr4.nb.2 k4
  subst en4
  have pg4 : nx3.toInt < nx4.toInt := pr4.resolve_right (fun z => by have := z.2; omega)
  obtain ⟨nx5, tk5, pl5, num5, nm5, tok5, mu5, sp5, wd5, hP5, pr5, tr5, N5, M5⟩ := t_nx (lim := lim) hn hP4 hfb num4 nm4 num4 wd4
  by_cases c5 : tk5 = 2 ∧ 0 ≤ num5.toInt ∧ num5.toInt ≤ 7
  rotate_left
  · have z := tr5.no c5
    exact Or.inl ⟨pl5, (t_kd tk5), fun ft fp xs L J d G h => c_to_thing h rfl (fun _ _ z => ⟨0, z.1, Or.inl rfl⟩) (c_thing_e h (by rw [qt]; exact hcn) N1 k1 hT N2 k2 a2 b2 N3 k3 a3 b3 N4 k4 a4 b4 N5 z.1), fun th am mb hb nb rb xs L J d G h => by rw [← tr5.km]; exact v_thing_e h hw hcn M1 hname hT' M2 m2 a2 b2 M3 m3 a3 (by rw [← ecc]; exact b3) M4 m4 a4 b4 M5 z.2⟩
  obtain ⟨k5, a5, b5⟩ := c5
  have m5 := tr5.nb.1.mp k5
  have en5 := tr5.nb.2 k5
  subst en5
  have pg5 : nx4.toInt < nx5.toInt := pr5.resolve_right (fun z => by have := z.2; omega)
  obtain ⟨nx6, tk6, pl6, num6, nm6, tok6, mu6, sp6, wd6, hP6, pr6, tr6, N6, M6⟩ := t_nx (lim := lim) hn hP5 hfb num5 nm5 num5 wd5
  by_cases hti : tk6 = 17
  rotate_left
  · have hti' : ¬ (tok6 = Int32.ofInt 1 ∧ wd6 = t_W 7) := fun z => hti ((tr6.word (x := 7) (by decide)).mpr z)
    exact Or.inr ⟨nx6, tk6, pl6, num6, nm6, tok6, sp6, mu6, wd6, cc, np, (nt + Int32.ofInt 1), nl, nn, oc, ot, (fun j => if j = nt.toInt.toNat then nm1 else tn j), ln, mn, (fun i => if i = 3 then hf 3 + Int32.ofInt 1 else (fun i => if i = ((Int8.ofInt 57).toInt32 + hf 3).toInt.toNat then Int32.ofInt 0 else (fun i => if i = ((Int8.ofInt 49).toInt32 + hf 3).toInt.toNat then num5 else (fun i => if i = ((Int8.ofInt 41).toInt32 + hf 3).toInt.toNat then num4 else (fun i => if i = ((Int8.ofInt 33).toInt32 + hf 3).toInt.toNat then num3 else if i = ((Int8.ofInt 25).toInt32 + hf 3).toInt.toNat then num2 else hf i) i) i) i) i), (fun i => if i = ((Int8.ofInt 16).toInt32 + hf 3).toInt.toNat then wd1 else nf i), (on ||| Int32.ofInt 1), hP6, ⟨by omega, fun z => by omega⟩, tr6, hD.thing (by rw [qt]; exact hcn) r1 (J := ((Int8.ofInt 16).toInt32 + hf 3).toInt.toNat) (by rw [qt]; omega) (hD.ld.h (fun j h1 h2 => ((if_neg (by omega)).trans ((if_neg (by omega)).trans ((if_neg (by omega)).trans ((if_neg (by omega)).trans ((if_neg (by omega)).trans (if_neg (by omega))))))))) ((if_neg (by omega)).trans ((if_neg (by omega)).trans ((if_neg (by omega)).trans ((if_neg (by omega)).trans ((if_neg (by omega)).trans (if_neg (by omega))))))) ((if_neg (by omega)).trans ((if_neg (by omega)).trans ((if_neg (by omega)).trans ((if_neg (by omega)).trans ((if_neg (by omega)).trans (if_neg (by omega))))))) ((if_neg (by omega)).trans ((if_neg (by omega)).trans ((if_neg (by omega)).trans ((if_neg (by omega)).trans ((if_neg (by omega)).trans (if_neg (by omega))))))) (if_pos rfl) ((if_neg (by omega)).trans ((if_neg (by omega)).trans ((if_neg (by omega)).trans ((if_neg (by omega)).trans ((if_neg (by omega)).trans (if_neg (by omega))))))) ((if_neg (by omega)).trans ((if_neg (by omega)).trans ((if_neg (by omega)).trans ((if_neg (by omega)).trans ((if_neg (by omega)).trans (if_neg (by omega))))))), fun ft fp xs L J d G h => c_to_thing h rfl (fun _ _ z => ⟨1, z.1, Or.inr rfl⟩) (c_thing_ok h (by rw [qt]; exact hcn) N1 k1 hT N2 k2 a2 b2 N3 k3 a3 b3 N4 k4 a4 b4 N5 k5 a5 b5 N6 hti), fun th am mb hb nb rb xs L J d G h => v_thing_ok h hw hcn M1 hname hT' M2 m2 a2 b2 M3 m3 a3 (by rw [← ecc]; exact b3) M4 m4 a4 b4 M5 m5 a5 b5 M6 hti'⟩
  have hti' := (tr6.word (x := 7) (by decide)).mp hti
  have pg6 : nx5.toInt < nx6.toInt := pr6.resolve_right (fun z => by have := z.2; omega)
  obtain ⟨nx7, tk7, pl7, num7, nm7, tok7, mu7, sp7, wd7, hP7, pr7, tr7, N7, M7⟩ := t_nx (lim := lim) hn hP6 hfb num6 nm6 mu6 wd6
  exact Or.inr ⟨nx7, tk7, pl7, num7, nm7, tok7, sp7, mu7, wd7, cc, np, (nt + Int32.ofInt 1), nl, nn, oc, ot, (fun j => if j = nt.toInt.toNat then nm1 else tn j), ln, mn, (fun i => if i = 3 then hf 3 + Int32.ofInt 1 else (fun i => if i = ((Int8.ofInt 57).toInt32 + hf 3).toInt.toNat then Int32.ofInt 1 else (fun i => if i = ((Int8.ofInt 49).toInt32 + hf 3).toInt.toNat then num5 else (fun i => if i = ((Int8.ofInt 41).toInt32 + hf 3).toInt.toNat then num4 else (fun i => if i = ((Int8.ofInt 33).toInt32 + hf 3).toInt.toNat then num3 else if i = ((Int8.ofInt 25).toInt32 + hf 3).toInt.toNat then num2 else hf i) i) i) i) i), (fun i => if i = ((Int8.ofInt 16).toInt32 + hf 3).toInt.toNat then wd1 else nf i), (on ||| Int32.ofInt 1), hP7, ⟨by omega, fun z => by omega⟩, tr7, hD.thing (by rw [qt]; exact hcn) r1 (J := ((Int8.ofInt 16).toInt32 + hf 3).toInt.toNat) (by rw [qt]; omega) (hD.ld.h (fun j h1 h2 => ((if_neg (by omega)).trans ((if_neg (by omega)).trans ((if_neg (by omega)).trans ((if_neg (by omega)).trans ((if_neg (by omega)).trans (if_neg (by omega))))))))) ((if_neg (by omega)).trans ((if_neg (by omega)).trans ((if_neg (by omega)).trans ((if_neg (by omega)).trans ((if_neg (by omega)).trans (if_neg (by omega))))))) ((if_neg (by omega)).trans ((if_neg (by omega)).trans ((if_neg (by omega)).trans ((if_neg (by omega)).trans ((if_neg (by omega)).trans (if_neg (by omega))))))) ((if_neg (by omega)).trans ((if_neg (by omega)).trans ((if_neg (by omega)).trans ((if_neg (by omega)).trans ((if_neg (by omega)).trans (if_neg (by omega))))))) (if_pos rfl) ((if_neg (by omega)).trans ((if_neg (by omega)).trans ((if_neg (by omega)).trans ((if_neg (by omega)).trans ((if_neg (by omega)).trans (if_neg (by omega))))))) ((if_neg (by omega)).trans ((if_neg (by omega)).trans ((if_neg (by omega)).trans ((if_neg (by omega)).trans ((if_neg (by omega)).trans (if_neg (by omega))))))), fun ft fp xs L J d G h => c_to_thing h rfl (fun _ _ z => ⟨1, z.1, Or.inr rfl⟩) (c_thing_tied h (by rw [qt]; exact hcn) N1 k1 hT N2 k2 a2 b2 N3 k3 a3 b3 N4 k4 a4 b4 N5 k5 a5 b5 N6 hti N7), fun th am mb hb nb rb xs L J d G h => v_thing_tied h hw hcn M1 hname hT' M2 m2 a2 b2 M3 m3 a3 (by rw [← ecc]; exact b3) M4 m4 a4 b4 M5 m5 a5 b5 M6 hti' M7⟩
end PR3
