-- ===== a line of the LOG, on both sides =====
def LGD (nt nn : Int32) (tn mn nf : Nat → Int64) : Prop := (0 ≤ nt.toInt ∧ nt.toInt ≤ 8) ∧ (0 ≤ nn.toInt ∧ nn.toInt ≤ 4) ∧ (∀ i : Nat, (i : Int) < nt.toInt → NR (tn i) (nf i)) ∧ (∀ i : Nat, (i : Int) < nn.toInt → NR (mn i) (nf (12 + i))) ∧ ∀ i j : Nat, (i : Int) < nt.toInt → (j : Int) < nn.toInt → nf i ≠ nf (12 + j)
def MGf (nt nn : Int32) (k : Nat) (G : List pE) : Prop := x_sl G 349 32 = some (.int (Int32.ofNat k)) ∧ x_sl G 349 6 = some (.ref 351) ∧ x_sl G 351 3 = some (.int nt) ∧ x_sl G 351 5 = some (.int nn)
theorem th0_351 : th0[351]? = some 36 ∧ th0[349]? = some 10 := by decide +kernel
section LGP
variable {f : Nat → Int32} {n lim nx : Int32} {tk : Nat} {pl num : Int32} {nm : Int64} {tok sp mu : Int32} {wd : Int64} {nt nn on : Int32} {tn mn nf : Nat → Int64} {hf : Nat → Int32} {k : Nat}
set_option maxHeartbeats 2000000 in
theorem p_lgl (hn : n.toInt ≤ 940) (hP : 0 ≤ nx.toInt ∧ nx.toInt ≤ n.toInt) (hfb : ∀ i, i < 940 → -128 ≤ (f i).toInt ∧ (f i).toInt ≤ 127) (tr : TR tk num nm tok mu wd) (hD : LGD nt nn tn mn nf) (hk : k ≤ 40) :
    (∃ q : Int32, (∀ (xs : Nat → Int32) (L J d lc : Nat) (ft fp : Int32) (G : List pE), CL f n lim nx tk pl num nm ft fp lc nt nn tn mn k G → x_Gd xs L J (d + 3) m_131 (fun r G' => r = some (.int 0) ∧ x_sl G' 1 8 = some (.int q)) 0 (lv_args 0 [.ref lc, .ref 1, .ref 6]) [] G) ∧ (∀ (xs : Nat → Int32) (L J d : Nat) (G : List pE), MS th0 349 350 352 354 355 f n lim nx tok pl sp mu wd hf nf on G → MGf nt nn k G → x_Gd xs L J (d + 3) m_244 (fun r G' => r = some (.int 0) ∧ x_sl G' 349 15 = some (.int q)) 0 (lv_args 0 [.ref 349]) [] G)) ∨
    (k < 40 ∧ ∃ (nx' : Int32) (tk' : Nat) (pl' num' : Int32) (nm' : Int64) (tok' sp' mu' : Int32) (wd' : Int64), (0 ≤ nx'.toInt ∧ nx'.toInt ≤ n.toInt) ∧ TR tk' num' nm' tok' mu' wd' ∧ (∀ (xs : Nat → Int32) (L J d lc : Nat) (ft fp : Int32) (G : List pE), CL f n lim nx tk pl num nm ft fp lc nt nn tn mn k G → x_Gd xs L J (d + 3) m_131 (fun r G' => r = some (.int 1) ∧ CL f n lim nx' tk' pl' num' nm' ft fp lc nt nn tn mn (k + 1) G') 0 (lv_args 0 [.ref lc, .ref 1, .ref 6]) [] G) ∧ (∀ (xs : Nat → Int32) (L J d : Nat) (G : List pE), MS th0 349 350 352 354 355 f n lim nx tok pl sp mu wd hf nf on G → MGf nt nn k G → x_Gd xs L J (d + 3) m_244 (fun r G' => r = some (.int 1) ∧ MS th0 349 350 352 354 355 f n lim nx' tok' pl' sp' mu' wd' hf nf on G') 0 (lv_args 0 [.ref 349]) [] G)) := by
  by_cases cN : tk = 3
  · have hw := tr.name.1.mp cN
    have hNR := tr.name.2 cN
    have hT : (∃ i : Nat, (i : Int) < nt.toInt ∧ tn i = nm) ↔ ∃ i : Nat, (i : Int) < nt.toInt ∧ nf (0 + i) = wd := by
      constructor
      · rintro ⟨i, a, b⟩
        exact ⟨i, a, by rw [Nat.zero_add]; exact ((hD.2.2.1 i a).iff hNR).mp b⟩
      · rintro ⟨i, a, b⟩
        rw [Nat.zero_add] at b
        exact ⟨i, a, ((hD.2.2.1 i a).iff hNR).mpr b⟩
    have hM : (∃ i : Nat, (i : Int) < nn.toInt ∧ mn i = nm) ↔ ∃ i : Nat, (i : Int) < nn.toInt ∧ nf (12 + i) = wd := by
      constructor
      · rintro ⟨i, a, b⟩
        exact ⟨i, a, ((hD.2.2.2.1 i a).iff hNR).mp b⟩
      · rintro ⟨i, a, b⟩
        exact ⟨i, a, ((hD.2.2.2.1 i a).iff hNR).mpr b⟩
    by_cases cT : ∃ i : Nat, (i : Int) < nt.toInt ∧ tn i = nm
    · have cTm := hT.mp cT
      have hm0 : ¬ ∃ i : Nat, (i : Int) < nn.toInt ∧ nf (12 + i) = wd := by
        rintro ⟨j, a, b⟩
        obtain ⟨i, c, e⟩ := cTm
        rw [Nat.zero_add] at e
        exact hD.2.2.2.2 i j c a (e.trans b.symm)
      by_cases k40 : k < 40
      rotate_left
      · obtain rfl : k = 40 := by omega
        exact Or.inl ⟨Int32.ofInt 4, fun xs L J d lc ft fp G h => c_lg_n h cN hD.1 hD.2.1 (fun a _ _ _ => absurd cT a) (fun lv t m ht hm hnot g0 g1 g3 g4 g5 => c_lg_many h g0 g1), fun xs L J d G h M => lm_n40 h M.1 hk M.2.1 th0_351.1 M.2.2.1 M.2.2.2 hD.1 hD.2.1 hw (Or.inl cTm) rfl⟩
      obtain ⟨nx1, tk1, pl1, num1, nm1, tok1, mu1, sp1, wd1, hP1, -, tr1, N1, M1⟩ := t_nx (lim := lim) hn hP hfb num nm mu wd
      by_cases c21 : tk1 = 21
      · obtain ⟨nx2, tk2, pl2, num2, nm2, tok2, mu2, sp2, wd2, hP2, -, tr2, N2, M2⟩ := t_nx (lim := lim) hn hP1 hfb num1 nm1 mu1 wd1
        exact Or.inr ⟨k40, nx2, tk2, pl2, num2, nm2, tok2, sp2, mu2, wd2, hP2, tr2, fun xs L J d lc ft fp G h => c_lg_n h cN hD.1 hD.2.1 (fun a _ _ _ => absurd cT a) (fun lv t m ht hm hnot g0 g1 g3 g4 g5 => c_lg_99 h k40 tr.lt N1 g0 g1 g3 g4 g5 (fun G' h' => c_lg_t1 h' c21 N2 g0 g1 g3 g4 g5 (fun z => ht.mp z cT))), fun xs L J d G h M => lm_t1 h M.1 hk M.2.1 th0_351.1 M.2.2.1 M.2.2.2 hD.1 hD.2.1 hw (Or.inl cTm) k40 M1 hm0 (Or.inr ((tr1.word (x := 11) (by decide)).mp c21)) M2⟩
      by_cases c20 : tk1 = 20
      · obtain ⟨nx2, tk2, pl2, num2, nm2, tok2, mu2, sp2, wd2, hP2, -, tr2, N2, M2⟩ := t_nx (lim := lim) hn hP1 hfb num1 nm1 mu1 wd1
        exact Or.inr ⟨k40, nx2, tk2, pl2, num2, nm2, tok2, sp2, mu2, wd2, hP2, tr2, fun xs L J d lc ft fp G h => c_lg_n h cN hD.1 hD.2.1 (fun a _ _ _ => absurd cT a) (fun lv t m ht hm hnot g0 g1 g3 g4 g5 => c_lg_99 h k40 tr.lt N1 g0 g1 g3 g4 g5 (fun G' h' => c_lg_t2 h' c20 N2 g0 g1 g3 g4 g5 (fun z => ht.mp z cT))), fun xs L J d G h M => lm_t1 h M.1 hk M.2.1 th0_351.1 M.2.2.1 M.2.2.2 hD.1 hD.2.1 hw (Or.inl cTm) k40 M1 hm0 (Or.inl ((tr1.word (x := 10) (by decide)).mp c20)) M2⟩
      exact Or.inl ⟨Int32.ofInt 1, fun xs L J d lc ft fp G h => c_lg_n h cN hD.1 hD.2.1 (fun a _ _ _ => absurd cT a) (fun lv t m ht hm hnot g0 g1 g3 g4 g5 => c_lg_99 h k40 tr.lt N1 g0 g1 g3 g4 g5 (fun G' h' => c_lg_t3 h' ⟨c21, c20⟩ g0 g1 g3 g4 g5 (fun z => ht.mp z cT))), fun xs L J d G h M => lm_t0 h M.1 hk M.2.1 th0_351.1 M.2.2.1 M.2.2.2 hD.1 hD.2.1 hw (Or.inl cTm) k40 M1 hm0 (fun z => c20 ((tr1.word (x := 10) (by decide)).mpr z)) (fun z => c21 ((tr1.word (x := 11) (by decide)).mpr z))⟩
    by_cases cM : ∃ i : Nat, (i : Int) < nn.toInt ∧ mn i = nm
    · have cMm := hM.mp cM
      by_cases k40 : k < 40
      rotate_left
      · obtain rfl : k = 40 := by omega
        exact Or.inl ⟨Int32.ofInt 4, fun xs L J d lc ft fp G h => c_lg_n h cN hD.1 hD.2.1 (fun _ a _ _ => absurd cM a) (fun lv t m ht hm hnot g0 g1 g3 g4 g5 => c_lg_many h g0 g1), fun xs L J d G h M => lm_n40 h M.1 hk M.2.1 th0_351.1 M.2.2.1 M.2.2.2 hD.1 hD.2.1 hw (Or.inr cMm) rfl⟩
      obtain ⟨nx1, tk1, pl1, num1, nm1, tok1, mu1, sp1, wd1, hP1, -, tr1, N1, M1⟩ := t_nx (lim := lim) hn hP hfb num nm mu wd
      by_cases c22 : tk1 = 22
      · have w12 := (tr1.word (x := 12) (by decide)).mp c22
        obtain ⟨nx2, tk2, pl2, num2, nm2, tok2, mu2, sp2, wd2, hP2, -, tr2, N2, M2⟩ := t_nx (lim := lim) hn hP1 hfb num1 nm1 mu1 wd1
        by_cases cn : tk2 = 2 ∧ 0 ≤ num2.toInt ∧ num2.toInt ≤ 19
        · have e := tr2.nb.2 cn.1
          obtain ⟨nx3, tk3, pl3, num3, nm3, tok3, mu3, sp3, wd3, hP3, -, tr3, N3, M3⟩ := t_nx (lim := lim) hn hP2 hfb num2 nm2 mu2 wd2
          exact Or.inr ⟨k40, nx3, tk3, pl3, num3, nm3, tok3, sp3, mu3, wd3, hP3, tr3, fun xs L J d lc ft fp G h => c_lg_n h cN hD.1 hD.2.1 (fun _ a _ _ => absurd cM a) (fun lv t m ht hm hnot g0 g1 g3 g4 g5 => c_lg_99 h k40 tr.lt N1 g0 g1 g3 g4 g5 (fun G' h' => c_lg_m3 h' k40 c22 N2 cn N3 g0 g1 g3 g4 g5 (ht.mpr cT) (fun z => hm.mp z cM))), fun xs L J d G h M => lm_m2 h M.1 hk M.2.1 th0_351.1 M.2.2.1 M.2.2.2 hD.1 hD.2.1 hw (Or.inr cMm) k40 M1 cMm w12 M2 ⟨tr2.nb.1.mp cn.1, by rw [← e]; exact cn.2.1, by rw [← e]; exact cn.2.2⟩ M3⟩
        · have z := tr2.no cn
          exact Or.inl ⟨t_kd tk2, fun xs L J d lc ft fp G h => c_lg_n h cN hD.1 hD.2.1 (fun _ a _ _ => absurd cM a) (fun lv t m ht hm hnot g0 g1 g3 g4 g5 => c_lg_99 h k40 tr.lt N1 g0 g1 g3 g4 g5 (fun G' h' => c_lg_m2 h' k40 c22 N2 z.1 g0 g1 g3 g4 g5 (ht.mpr cT) (fun z => hm.mp z cM))), fun xs L J d G h M => by rw [← tr2.km]; exact lm_m1 h M.1 hk M.2.1 th0_351.1 M.2.2.1 M.2.2.2 hD.1 hD.2.1 hw (Or.inr cMm) k40 M1 cMm w12 M2 z.2⟩
      exact Or.inl ⟨Int32.ofInt 1, fun xs L J d lc ft fp G h => c_lg_n h cN hD.1 hD.2.1 (fun _ a _ _ => absurd cM a) (fun lv t m ht hm hnot g0 g1 g3 g4 g5 => c_lg_99 h k40 tr.lt N1 g0 g1 g3 g4 g5 (fun G' h' => c_lg_m1 h' c22 g0 g1 g3 g4 g5 (ht.mpr cT) (fun z => hm.mp z cM))), fun xs L J d G h M => lm_m0 h M.1 hk M.2.1 th0_351.1 M.2.2.1 M.2.2.2 hD.1 hD.2.1 hw (Or.inr cMm) k40 M1 cMm (fun z => c22 ((tr1.word (x := 12) (by decide)).mpr z))⟩
    · exact Or.inl ⟨Int32.ofInt 3, fun xs L J d lc ft fp G h => c_lg_n h cN hD.1 hD.2.1 (fun _ _ G' e => ⟨rfl, e⟩) (fun lv t m ht hm hnot _ _ _ _ _ => absurd ⟨ht.mpr cT, hm.mpr cM⟩ hnot), fun xs L J d G h M => lm_n0 h M.1 hk M.2.1 th0_351.1 M.2.2.1 M.2.2.2 hD.1 hD.2.1 hw (fun z => cT (hT.mpr z)) (fun z => cM (hM.mpr z))⟩
  by_cases cW : tk = 23 ∨ tk = 24
  · have hW : (tok = Int32.ofInt 1 ∧ wd = t_W 14) ∨ (tok = Int32.ofInt 1 ∧ wd = t_W 13) := by
      rcases cW with z | z
      · exact Or.inr ((tr.word (x := 13) (by decide)).mp z)
      · exact Or.inl ((tr.word (x := 14) (by decide)).mp z)
    by_cases k40 : k < 40
    rotate_left
    · obtain rfl : k = 40 := by omega
      exact Or.inl ⟨Int32.ofInt 4, fun xs L J d lc ft fp G h => c_lg_w h cW (fun lv g0 g1 g3 g4 g5 => c_lg_many h g0 g1), fun xs L J d G h M => lm_w40 h M.1 hk hW rfl⟩
    obtain ⟨nx1, tk1, pl1, num1, nm1, tok1, mu1, sp1, wd1, hP1, -, tr1, N1, M1⟩ := t_nx (lim := lim) hn hP hfb num nm mu wd
    by_cases c24 : tk = 24
    · exact Or.inr ⟨k40, nx1, tk1, pl1, num1, nm1, tok1, sp1, mu1, wd1, hP1, tr1, fun xs L J d lc ft fp G h => c_lg_w h cW (fun lv g0 g1 g3 g4 g5 => c_lg_99 h k40 tr.lt N1 g0 g1 g3 g4 g5 (fun G' h' => c_lg_h0 h' c24 g0 g1 g3 g4 g5 rfl rfl)), fun xs L J d G h M => lm_w14 h M.1 hk k40 ((tr.word (x := 14) (by decide)).mp c24) M1⟩
    have c23 : tk = 23 := by omega
    have w13 := (tr.word (x := 13) (by decide)).mp c23
    by_cases cn : tk1 = 2 ∧ 1 ≤ num1.toInt ∧ num1.toInt ≤ 60
    · have e := tr1.nb.2 cn.1
      obtain ⟨nx2, tk2, pl2, num2, nm2, tok2, mu2, sp2, wd2, hP2, -, tr2, N2, M2⟩ := t_nx (lim := lim) hn hP1 hfb num1 nm1 mu1 wd1
      exact Or.inr ⟨k40, nx2, tk2, pl2, num2, nm2, tok2, sp2, mu2, wd2, hP2, tr2, fun xs L J d lc ft fp G h => c_lg_w h cW (fun lv g0 g1 g3 g4 g5 => c_lg_99 h k40 tr.lt N1 g0 g1 g3 g4 g5 (fun G' h' => c_lg_h2 h' k40 c23 cn N2 g0 g1 g3 g4 g5 rfl rfl)), fun xs L J d G h M => lm_w13y h M.1 hk k40 w13 M1 ⟨tr1.nb.1.mp cn.1, by rw [← e]; exact cn.2.1, by rw [← e]; exact cn.2.2⟩ M2⟩
    · have z := tr1.no cn
      exact Or.inl ⟨t_kd tk1, fun xs L J d lc ft fp G h => c_lg_w h cW (fun lv g0 g1 g3 g4 g5 => c_lg_99 h k40 tr.lt N1 g0 g1 g3 g4 g5 (fun G' h' => c_lg_h1 h' k40 c23 z.1 g0 g1 g3 g4 g5 rfl rfl)), fun xs L J d G h M => by rw [← tr1.km]; exact lm_w13n h M.1 hk k40 w13 M1 z.2⟩
  · have n3 : ¬ (tok = Int32.ofInt 1 ∧ ∀ x : Nat, x < 25 → wd ≠ t_W x) := fun z => cN (tr.name.1.mpr z)
    exact Or.inl ⟨Int32.ofInt 1, fun xs L J d lc ft fp G h => c_lg_a h ⟨cN, fun z => cW (Or.inl z), fun z => cW (Or.inr z)⟩, fun xs L J d G h M => lm_a h M.1 hk (fun z => cW (Or.inr ((tr.word (x := 14) (by decide)).mpr z))) (fun z => cW (Or.inl ((tr.word (x := 13) (by decide)).mpr z))) n3⟩
end LGP
