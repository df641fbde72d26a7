def m_47 : pM := (⟨"BreathingHill$Hill", "copyFrom", "(LBreathingHill$Hill;)V"⟩, 695, 3, none, 4, 1, false, 0, 96, 693, 694)
set_option maxRecDepth 100000 in
theorem m_47_ok : pm_tab[47]? = some m_47 := rfl
theorem e_47 : ∀ q ∈ d_47, decode m_47.code q.1 = .ok (q.2.1, q.2.2) := y_dec d_47_ok m_47_ok
def m_48 : pM := (⟨"BreathingHill$Land", "copyFrom", "(LBreathingHill$Land;)V"⟩, 699, 3, none, 5, 1, false, 1, 97, 697, 698)
set_option maxRecDepth 100000 in
theorem m_48_ok : pm_tab[48]? = some m_48 := rfl
theorem e_48 : ∀ q ∈ d_48, decode m_48.code q.1 = .ok (q.2.1, q.2.2) := y_dec d_48_ok m_48_ok
theorem t_4_55 : pm_ctab.find? (fun r => r.1 == 4 && r.2.1 == 55) = some (4, 55, 1, 48, 696) := by decide +kernel
/-- what a hill's block holds of its LAND: by cell of the block and slot -/
def h_rel (c i : Nat) : Bool := (c == 0 && decide (4 ≤ i) && decide (i ≤ 6)) || (c == 1 && decide (2 ≤ i) && decide (i ≤ 5)) || (c == 2 && decide (i < 2)) || (decide (3 ≤ c) && decide (c ≤ 6) && decide (i < 4))
def h_mod (c i : Nat) : Bool := h_rel c i || (c == 0 && i == 7)
def HT (h : Nat) : Prop := th0[h]? = some 0 ∧ th0[h + 1]? = some 1 ∧ th0[h + 2]? = some 14 ∧ th0[h + 3]? = some 15 ∧ th0[h + 4]? = some 16 ∧ th0[h + 5]? = some 17 ∧ th0[h + 6]? = some 18
def HPt (h : Nat) (G : List pE) : Prop := x_sl G h 0 = some (.ref (h + 1)) ∧ x_sl G (h + 1) 0 = some (.ref (h + 2)) ∧ x_sl G (h + 1) 1 = some (.ref (h + 3)) ∧ x_sl G (h + 1) 6 = some (.ref (h + 4)) ∧ x_sl G (h + 1) 7 = some (.ref (h + 5)) ∧ x_sl G (h + 1) 8 = some (.ref (h + 6))
def CH (h h' : Nat) (G0 : List pE) : Prop := HT h ∧ HT h' ∧ HPt h G0 ∧ HPt h' G0 ∧ (h + 6 < h' ∨ h' + 6 < h)
def CI (h h' : Nat) (G0 : List pE) (D : Nat → Nat → Bool) (G : List pE) : Prop := xI x_tb th0 G ∧ (∀ c i, c < h ∨ h + 6 < c → x_sl G c i = x_sl G0 c i) ∧ (∀ c i, h_mod c i = false → x_sl G (h + c) i = x_sl G0 (h + c) i) ∧ (∀ c i, D c i = true → x_sl G (h + c) i = x_sl G0 (h' + c) i)
section CP
variable {xs : Nat → Int32} {L J d : Nat} {K : Option Value → List pE → Prop} {lv : pL} {G G0 G1 : List pE} {h h' : Nat} {D : Nat → Nat → Bool}
theorem x_src {th : List Nat} {c t i : Nat} {v : Value} (hI : xI x_tb th G) (tc : th[c]? = some t) (hv : x_sl G c i = some v) : ∀ f', x_at (x_tb t).2.2.2 i = some f' → xf_ok th f' v := fun f' hf => by
  obtain ⟨w, k1, k2⟩ := (hI.2.2 c t tc).2 i f' hf
  rw [hv] at k1
  cases k1
  exact k2
theorem CI.rd (X : CH h h' G0) (H : CI h h' G0 D G) {c i : Nat} (hc : c ≤ 6) : x_sl G (h' + c) i = x_sl G0 (h' + c) i := H.2.1 _ _ (by have := X.2.2.2.2; omega)
theorem CI.pt (X : CH h h' G0) (H : CI h h' G0 D G) : HPt h G := by
  obtain ⟨-, -, ⟨a0, a1, a2, a3, a4, a5⟩, -, -⟩ := X
  exact ⟨(H.2.2.1 0 0 rfl).trans a0, (H.2.2.1 1 0 rfl).trans a1, (H.2.2.1 1 1 rfl).trans a2, (H.2.2.1 1 6 rfl).trans a3, (H.2.2.1 1 7 rfl).trans a4, (H.2.2.1 1 8 rfl).trans a5⟩
theorem CI.pt' (X : CH h h' G0) (H : CI h h' G0 D G) : HPt h' G := by
  have r : ∀ c i : Nat, c ≤ 6 → x_sl G (h' + c) i = x_sl G0 (h' + c) i := fun c i hc => H.rd X hc
  obtain ⟨-, -, -, ⟨a0, a1, a2, a3, a4, a5⟩, -⟩ := X
  exact ⟨(r 0 0 (by omega)).trans a0, (r 1 0 (by omega)).trans a1, (r 1 1 (by omega)).trans a2, (r 1 6 (by omega)).trans a3, (r 1 7 (by omega)).trans a4, (r 1 8 (by omega)).trans a5⟩
theorem CI.up (X : CH h h' G0) (H : CI h h' G0 D G) {c t i : Nat} {v : Value} (hc : c ≤ 6) (hm : h_mod c i = true) (tc : th0[h + c]? = some t) (tc' : th0[h' + c]? = some t) (hv : x_sl G (h' + c) i = some v) (u : x_upd G G1 (h + c) i v) : CI h h' G0 (fun c' i' => D c' i' || (c' == c && i' == i)) G1 := by
  refine ⟨H.1.upd u tc (x_src H.1 tc' hv), fun c2 i2 h2 => ?_, fun c2 i2 h2 => ?_, fun c2 i2 h2 => ?_⟩
  · rw [u.2.1, if_neg (by omega)]
    exact H.2.1 c2 i2 h2
  · rw [u.2.1, if_neg (fun z => by
      obtain rfl : c2 = c := by omega
      rw [z.2, hm] at h2
      cases h2)]
    exact H.2.2.1 c2 i2 h2
  · rw [u.2.1]
    by_cases e : h + c2 = h + c ∧ i2 = i
    · obtain rfl : c2 = c := by omega
      rw [if_pos e, e.2, ← H.rd X hc, hv]
    · rw [if_neg e]
      refine H.2.2.2 c2 i2 ?_
      rcases Bool.or_eq_true_iff.mp h2 with z | z
      · exact z
      · rw [Bool.and_eq_true_iff, beq_iff_eq, beq_iff_eq] at z
        exact absurd ⟨by omega, z.2⟩ e
theorem CI.mono {D' : Nat → Nat → Bool} (H : CI h h' G0 D G) (hD : ∀ c, c < 7 → ∀ i, i < 8 → D' c i = true → D c i = true) (hb : ∀ c i, D' c i = true → c < 7 ∧ i < 8) : CI h h' G0 D' G := ⟨H.1, H.2.1, H.2.2.1, fun c i hc => H.2.2.2 c i (hD c (hb c i hc).1 i (hb c i hc).2 hc)⟩
theorem CI.ini (hI : xI x_tb th0 G) : CI h h' G (fun _ _ => false) G := ⟨hI, fun _ _ _ => rfl, fun _ _ _ => rfl, fun _ _ h => by cases h⟩
theorem h_modA {c i : Nat} (h1 : 3 ≤ c) (h2 : c ≤ 6) (hi : i < 4) : h_mod c i = true := by
  unfold h_mod h_rel
  simp
  omega
theorem y_fiT4 {th : List Nat} {G : List pE} {a i t : Nat} {lo hi : Int} (hI : xI x_tb th G) (ta : th[a]? = some t) (e : x_at (x_tb t).2.2.2 i = some (0, lo, hi)) : ∃ x : Int32, x_sl G a i = some (.int x) := by
  obtain ⟨w, k1, x, rfl, -⟩ := (hI.2.2 a t ta).2 i _ e
  exact ⟨x, k1⟩
set_option maxHeartbeats 2000000 in
set_option maxRecDepth 100000 in
theorem kl_b (X : CH h h' G0) (H : CI h h' G0 D G) {k : Int32} (hk : 0 ≤ k.toInt ∧ k.toInt < 4) (g0 : pm_get lv 0 = some (.ref (h + 1))) (g1 : pm_get lv 1 = some (.ref (h' + 1))) (g2 : pm_get lv 2 = some (.int k)) (hK : ∀ (G1 : List pE) (lv1 : pL), CI h h' G0 (fun c' i' => D c' i' || (c' == 3 && i' == k.toInt.toNat)) G1 → pm_get lv1 0 = some (.ref (h + 1)) → pm_get lv1 1 = some (.ref (h' + 1)) → pm_get lv1 2 = some (.int (k + Int32.ofInt 1)) → x_Gd xs L J d m_48 K 26 lv1 [] G1) : x_Gd xs L J d m_48 K 26 lv [] G := by
  refine y_iln (e_48 (26, .iload_n 2, 1) (List.mem_of_getElem? (i := 18) rfl)) g2 ?_
  refine y_aln (e_48 (27, .aload_n 0, 1) (List.mem_of_getElem? (i := 19) rfl)) g0 ?_
  refine y_getf H.1 X.1.2.1 (e_48 (28, .getfield 15, 3) (List.mem_of_getElem? (i := 20) rfl)) u_5_15 ⟨rfl, rfl⟩ (H.pt X).2.2.1 ?_
  refine y_arl H.1 X.1.2.2.2.1 (e_48 (31, .arraylength, 1) (List.mem_of_getElem? (i := 21) rfl)) ⟨rfl, rfl⟩ ?_
  refine y_icm (e_48 (32, .if_icmp .ge 21, 3) (List.mem_of_getElem? (i := 22) rfl)) rfl (fun hc => ?_) (fun _ => ?_)
  · have := y_hI.2.2.2.2.1 hc
    rw [show (Int32.ofNat (x_tb 15).2.2.1).toInt = 4 from rfl] at this
    omega
  obtain ⟨v1, hv1⟩ := y_fiT4 (a := h' + 3) (i := k.toInt.toNat) H.1 X.2.1.2.2.2.1 (by rw [show (x_tb 15).2.2.2 = [(4, ((0 : Nat), (-2147483648 : Int), (2147483647 : Int)))] from rfl]; exact y_one (by omega))
  refine y_aln (e_48 (35, .aload_n 0, 1) (List.mem_of_getElem? (i := 23) rfl)) g0 ?_
  refine y_getf H.1 X.1.2.1 (e_48 (36, .getfield 15, 3) (List.mem_of_getElem? (i := 24) rfl)) u_5_15 ⟨rfl, rfl⟩ (H.pt X).2.2.1 ?_
  refine y_iln (e_48 (39, .iload_n 2, 1) (List.mem_of_getElem? (i := 25) rfl)) g2 ?_
  refine y_aln (e_48 (40, .aload_n 1, 1) (List.mem_of_getElem? (i := 26) rfl)) g1 ?_
  refine y_getf H.1 X.2.1.2.1 (e_48 (41, .getfield 15, 3) (List.mem_of_getElem? (i := 27) rfl)) u_5_15 ⟨rfl, rfl⟩ (H.pt' X).2.2.1 ?_
  refine y_iln (e_48 (44, .iload_n 2, 1) (List.mem_of_getElem? (i := 28) rfl)) g2 ?_
  refine y_iald H.1 X.2.1.2.2.2.1 (e_48 (45, .iaload, 1) (List.mem_of_getElem? (i := 29) rfl)) ⟨rfl, rfl⟩ hk.1 hv1 ?_
  refine y_iast H.1 X.1.2.2.2.1 (e_48 (46, .iastore, 1) (List.mem_of_getElem? (i := 30) rfl)) ⟨rfl, rfl⟩ ⟨hk.1, by show k.toInt < 4; omega⟩ (fun G1 u1 => ?_)
  have w1 := H.up X (by decide) (h_modA (by decide) (by decide) (by omega)) X.1.2.2.2.1 X.2.1.2.2.2.1 hv1 u1
  refine y_iinc (e_48 (47, .iinc 2 1, 3) (List.mem_of_getElem? (i := 31) rfl)) g2 (by decide) ?_
  refine y_st (e_48 (50, .goto (-24), 3) (List.mem_of_getElem? (i := 32) rfl)) ⟨rfl, rfl, rfl, rfl⟩ ?_
  exact hK _ _ w1 (y_gpr g0 (by decide)) (y_gpr g1 (by decide)) x_get_self
set_option maxHeartbeats 2000000 in
set_option maxRecDepth 100000 in
theorem kl_p (X : CH h h' G0) (H : CI h h' G0 D G) {k : Int32} (hk : 0 ≤ k.toInt ∧ k.toInt < 4) (g0 : pm_get lv 0 = some (.ref (h + 1))) (g1 : pm_get lv 1 = some (.ref (h' + 1))) (g2 : pm_get lv 2 = some (.int k)) (hK : ∀ (G1 : List pE) (lv1 : pL), CI h h' G0 (fun c' i' => ((D c' i' || (c' == 4 && i' == k.toInt.toNat)) || (c' == 5 && i' == k.toInt.toNat)) || (c' == 6 && i' == k.toInt.toNat)) G1 → pm_get lv1 0 = some (.ref (h + 1)) → pm_get lv1 1 = some (.ref (h' + 1)) → pm_get lv1 2 = some (.int (k + Int32.ofInt 1)) → x_Gd xs L J d m_48 K 87 lv1 [] G1) : x_Gd xs L J d m_48 K 87 lv [] G := by
  refine y_iln (e_48 (87, .iload_n 2, 1) (List.mem_of_getElem? (i := 51) rfl)) g2 ?_
  refine y_st (e_48 (88, .iconst 4, 1) (List.mem_of_getElem? (i := 52) rfl)) ⟨rfl, rfl, rfl, rfl⟩ ?_
  refine y_icm (e_48 (89, .if_icmp .ge 45, 3) (List.mem_of_getElem? (i := 53) rfl)) rfl (fun hc => ?_) (fun _ => ?_)
  · have := y_hI.2.2.2.2.1 hc
    rw [show (Int32.ofInt 4).toInt = 4 from rfl] at this
    omega
  obtain ⟨v1, hv1⟩ := y_fiT4 (a := h' + 4) (i := k.toInt.toNat) H.1 X.2.1.2.2.2.2.1 (by rw [show (x_tb 16).2.2.2 = [(4, ((0 : Nat), (-2147483648 : Int), (2147483647 : Int)))] from rfl]; exact y_one (by omega))
  refine y_aln (e_48 (92, .aload_n 0, 1) (List.mem_of_getElem? (i := 54) rfl)) g0 ?_
  refine y_getf H.1 X.1.2.1 (e_48 (93, .getfield 31, 3) (List.mem_of_getElem? (i := 55) rfl)) u_5_31 ⟨rfl, rfl⟩ (H.pt X).2.2.2.1 ?_
  refine y_iln (e_48 (96, .iload_n 2, 1) (List.mem_of_getElem? (i := 56) rfl)) g2 ?_
  refine y_aln (e_48 (97, .aload_n 1, 1) (List.mem_of_getElem? (i := 57) rfl)) g1 ?_
  refine y_getf H.1 X.2.1.2.1 (e_48 (98, .getfield 31, 3) (List.mem_of_getElem? (i := 58) rfl)) u_5_31 ⟨rfl, rfl⟩ (H.pt' X).2.2.2.1 ?_
  refine y_iln (e_48 (101, .iload_n 2, 1) (List.mem_of_getElem? (i := 59) rfl)) g2 ?_
  refine y_iald H.1 X.2.1.2.2.2.2.1 (e_48 (102, .iaload, 1) (List.mem_of_getElem? (i := 60) rfl)) ⟨rfl, rfl⟩ hk.1 hv1 ?_
  refine y_iast H.1 X.1.2.2.2.2.1 (e_48 (103, .iastore, 1) (List.mem_of_getElem? (i := 61) rfl)) ⟨rfl, rfl⟩ ⟨hk.1, by show k.toInt < 4; omega⟩ (fun G1 u1 => ?_)
  have w1 := H.up X (by decide) (h_modA (by decide) (by decide) (by omega)) X.1.2.2.2.2.1 X.2.1.2.2.2.2.1 hv1 u1
  obtain ⟨v2, hv2⟩ := y_fiT4 (a := h' + 5) (i := k.toInt.toNat) w1.1 X.2.1.2.2.2.2.2.1 (by rw [show (x_tb 17).2.2.2 = [(4, ((0 : Nat), (-2147483648 : Int), (2147483647 : Int)))] from rfl]; exact y_one (by omega))
  refine y_aln (e_48 (104, .aload_n 0, 1) (List.mem_of_getElem? (i := 62) rfl)) g0 ?_
  refine y_getf w1.1 X.1.2.1 (e_48 (105, .getfield 34, 3) (List.mem_of_getElem? (i := 63) rfl)) u_5_34 ⟨rfl, rfl⟩ (w1.pt X).2.2.2.2.1 ?_
  refine y_iln (e_48 (108, .iload_n 2, 1) (List.mem_of_getElem? (i := 64) rfl)) g2 ?_
  refine y_aln (e_48 (109, .aload_n 1, 1) (List.mem_of_getElem? (i := 65) rfl)) g1 ?_
  refine y_getf w1.1 X.2.1.2.1 (e_48 (110, .getfield 34, 3) (List.mem_of_getElem? (i := 66) rfl)) u_5_34 ⟨rfl, rfl⟩ (w1.pt' X).2.2.2.2.1 ?_
  refine y_iln (e_48 (113, .iload_n 2, 1) (List.mem_of_getElem? (i := 67) rfl)) g2 ?_
  refine y_iald w1.1 X.2.1.2.2.2.2.2.1 (e_48 (114, .iaload, 1) (List.mem_of_getElem? (i := 68) rfl)) ⟨rfl, rfl⟩ hk.1 hv2 ?_
  refine y_iast w1.1 X.1.2.2.2.2.2.1 (e_48 (115, .iastore, 1) (List.mem_of_getElem? (i := 69) rfl)) ⟨rfl, rfl⟩ ⟨hk.1, by show k.toInt < 4; omega⟩ (fun G2 u2 => ?_)
  have w2 := w1.up X (by decide) (h_modA (by decide) (by decide) (by omega)) X.1.2.2.2.2.2.1 X.2.1.2.2.2.2.2.1 hv2 u2
  obtain ⟨v3, hv3⟩ := y_fiT4 (a := h' + 6) (i := k.toInt.toNat) w2.1 X.2.1.2.2.2.2.2.2 (by rw [show (x_tb 18).2.2.2 = [(4, ((0 : Nat), (-2147483648 : Int), (2147483647 : Int)))] from rfl]; exact y_one (by omega))
  refine y_aln (e_48 (116, .aload_n 0, 1) (List.mem_of_getElem? (i := 70) rfl)) g0 ?_
  refine y_getf w2.1 X.1.2.1 (e_48 (117, .getfield 37, 3) (List.mem_of_getElem? (i := 71) rfl)) u_5_37 ⟨rfl, rfl⟩ (w2.pt X).2.2.2.2.2 ?_
  refine y_iln (e_48 (120, .iload_n 2, 1) (List.mem_of_getElem? (i := 72) rfl)) g2 ?_
  refine y_aln (e_48 (121, .aload_n 1, 1) (List.mem_of_getElem? (i := 73) rfl)) g1 ?_
  refine y_getf w2.1 X.2.1.2.1 (e_48 (122, .getfield 37, 3) (List.mem_of_getElem? (i := 74) rfl)) u_5_37 ⟨rfl, rfl⟩ (w2.pt' X).2.2.2.2.2 ?_
  refine y_iln (e_48 (125, .iload_n 2, 1) (List.mem_of_getElem? (i := 75) rfl)) g2 ?_
  refine y_iald w2.1 X.2.1.2.2.2.2.2.2 (e_48 (126, .iaload, 1) (List.mem_of_getElem? (i := 76) rfl)) ⟨rfl, rfl⟩ hk.1 hv3 ?_
  refine y_iast w2.1 X.1.2.2.2.2.2.2 (e_48 (127, .iastore, 1) (List.mem_of_getElem? (i := 77) rfl)) ⟨rfl, rfl⟩ ⟨hk.1, by show k.toInt < 4; omega⟩ (fun G3 u3 => ?_)
  have w3 := w2.up X (by decide) (h_modA (by decide) (by decide) (by omega)) X.1.2.2.2.2.2.2 X.2.1.2.2.2.2.2.2 hv3 u3
  refine y_iinc (e_48 (128, .iinc 2 1, 3) (List.mem_of_getElem? (i := 78) rfl)) g2 (by decide) ?_
  refine y_st (e_48 (131, .goto (-44), 3) (List.mem_of_getElem? (i := 79) rfl)) ⟨rfl, rfl, rfl, rfl⟩ ?_
  exact hK _ _ w3 (y_gpr g0 (by decide)) (y_gpr g1 (by decide)) x_get_self
def h_relL (c i : Nat) : Bool := decide (1 ≤ c) && h_rel c i
set_option maxHeartbeats 2000000 in
set_option maxRecDepth 100000 in
theorem kl_land (X : CH h h' G0) (H : CI h h' G0 (fun _ _ => false) G) : x_Gd xs L J d m_48 (fun r G' => r = none ∧ CI h h' G0 h_relL G') 0 (lv_args 0 [.ref (h + 1), .ref (h' + 1)]) [] G := by
  have g0 : pm_get (lv_args 0 [.ref (h + 1), .ref (h' + 1)]) 0 = some (.ref (h + 1)) := rfl
  have g1 : pm_get (lv_args 0 [.ref (h + 1), .ref (h' + 1)]) 1 = some (.ref (h' + 1)) := rfl
  generalize lv_args 0 [.ref (h + 1), .ref (h' + 1)] = lv at g0 g1 ⊢
  obtain ⟨v1, hv1⟩ := y_fiT4 (a := h' + 2) (i := 0) H.1 X.2.1.2.2.1 (by rw [show (x_tb 14).2.2.2 = [(2, ((0 : Nat), (-2147483648 : Int), (2147483647 : Int)))] from rfl]; exact y_one (by decide))
  refine y_aln (e_48 (0, .aload_n 0, 1) (List.mem_of_getElem? (i := 0) rfl)) g0 ?_
  refine y_getf H.1 X.1.2.1 (e_48 (1, .getfield 9, 3) (List.mem_of_getElem? (i := 1) rfl)) u_5_9 ⟨rfl, rfl⟩ (H.pt X).2.1 ?_
  refine y_st (e_48 (4, .iconst 0, 1) (List.mem_of_getElem? (i := 2) rfl)) ⟨rfl, rfl, rfl, rfl⟩ ?_
  refine y_aln (e_48 (5, .aload_n 1, 1) (List.mem_of_getElem? (i := 3) rfl)) g1 ?_
  refine y_getf H.1 X.2.1.2.1 (e_48 (6, .getfield 9, 3) (List.mem_of_getElem? (i := 4) rfl)) u_5_9 ⟨rfl, rfl⟩ (H.pt' X).2.1 ?_
  refine y_st (e_48 (9, .iconst 0, 1) (List.mem_of_getElem? (i := 5) rfl)) ⟨rfl, rfl, rfl, rfl⟩ ?_
  refine y_iald H.1 X.2.1.2.2.1 (e_48 (10, .iaload, 1) (List.mem_of_getElem? (i := 6) rfl)) ⟨rfl, rfl⟩ (by decide) hv1 ?_
  refine y_iast H.1 X.1.2.2.1 (e_48 (11, .iastore, 1) (List.mem_of_getElem? (i := 7) rfl)) ⟨rfl, rfl⟩ ⟨(by decide), by decide⟩ (fun G1 u1 => ?_)
  have w1 := H.up X (by decide) rfl X.1.2.2.1 X.2.1.2.2.1 hv1 u1
  obtain ⟨v2, hv2⟩ := y_fiT4 (a := h' + 2) (i := 1) w1.1 X.2.1.2.2.1 (by rw [show (x_tb 14).2.2.2 = [(2, ((0 : Nat), (-2147483648 : Int), (2147483647 : Int)))] from rfl]; exact y_one (by decide))
  refine y_aln (e_48 (12, .aload_n 0, 1) (List.mem_of_getElem? (i := 8) rfl)) g0 ?_
  refine y_getf w1.1 X.1.2.1 (e_48 (13, .getfield 9, 3) (List.mem_of_getElem? (i := 9) rfl)) u_5_9 ⟨rfl, rfl⟩ (w1.pt X).2.1 ?_
  refine y_st (e_48 (16, .iconst 1, 1) (List.mem_of_getElem? (i := 10) rfl)) ⟨rfl, rfl, rfl, rfl⟩ ?_
  refine y_aln (e_48 (17, .aload_n 1, 1) (List.mem_of_getElem? (i := 11) rfl)) g1 ?_
  refine y_getf w1.1 X.2.1.2.1 (e_48 (18, .getfield 9, 3) (List.mem_of_getElem? (i := 12) rfl)) u_5_9 ⟨rfl, rfl⟩ (w1.pt' X).2.1 ?_
  refine y_st (e_48 (21, .iconst 1, 1) (List.mem_of_getElem? (i := 13) rfl)) ⟨rfl, rfl, rfl, rfl⟩ ?_
  refine y_iald w1.1 X.2.1.2.2.1 (e_48 (22, .iaload, 1) (List.mem_of_getElem? (i := 14) rfl)) ⟨rfl, rfl⟩ (by decide) hv2 ?_
  refine y_iast w1.1 X.1.2.2.1 (e_48 (23, .iastore, 1) (List.mem_of_getElem? (i := 15) rfl)) ⟨rfl, rfl⟩ ⟨(by decide), by decide⟩ (fun G2 u2 => ?_)
  have w2 := w1.up X (by decide) rfl X.1.2.2.1 X.2.1.2.2.1 hv2 u2
  refine y_st (e_48 (24, .iconst 0, 1) (List.mem_of_getElem? (i := 16) rfl)) ⟨rfl, rfl, rfl, rfl⟩ ?_
  refine y_isn (e_48 (25, .istore_n 2, 1) (List.mem_of_getElem? (i := 17) rfl)) (by decide) ?_
  refine kl_b X w2 (k := Int32.ofInt 0) (by decide) (y_gpr g0 (by decide)) (y_gpr g1 (by decide)) x_get_self (fun G3 l3 w3 a3 b3 c3 => ?_)
  refine kl_b X w3 (k := Int32.ofInt 0 + Int32.ofInt 1) (by decide) a3 b3 c3 (fun G4 l4 w4 a4 b4 c4 => ?_)
  refine kl_b X w4 (k := Int32.ofInt 0 + Int32.ofInt 1 + Int32.ofInt 1) (by decide) a4 b4 c4 (fun G5 l5 w5 a5 b5 c5 => ?_)
  refine kl_b X w5 (k := Int32.ofInt 0 + Int32.ofInt 1 + Int32.ofInt 1 + Int32.ofInt 1) (by decide) a5 b5 c5 (fun G6 l6 w6 a6 b6 c6 => ?_)
  refine y_iln (e_48 (26, .iload_n 2, 1) (List.mem_of_getElem? (i := 18) rfl)) c6 ?_
  refine y_aln (e_48 (27, .aload_n 0, 1) (List.mem_of_getElem? (i := 19) rfl)) a6 ?_
  refine y_getf w6.1 X.1.2.1 (e_48 (28, .getfield 15, 3) (List.mem_of_getElem? (i := 20) rfl)) u_5_15 ⟨rfl, rfl⟩ (w6.pt X).2.2.1 ?_
  refine y_arl w6.1 X.1.2.2.2.1 (e_48 (31, .arraylength, 1) (List.mem_of_getElem? (i := 21) rfl)) ⟨rfl, rfl⟩ ?_
  refine y_icm (e_48 (32, .if_icmp .ge 21, 3) (List.mem_of_getElem? (i := 22) rfl)) rfl (fun _ => ?_) (fun hc => absurd hc (by decide))
  obtain ⟨v7, hv7⟩ := y_fiT4 (a := h' + 1) (i := 2) w6.1 X.2.1.2.1 rfl
  refine y_aln (e_48 (53, .aload_n 0, 1) (List.mem_of_getElem? (i := 33) rfl)) a6 ?_
  refine y_aln (e_48 (54, .aload_n 1, 1) (List.mem_of_getElem? (i := 34) rfl)) b6 ?_
  refine y_getf w6.1 X.2.1.2.1 (e_48 (55, .getfield 18, 3) (List.mem_of_getElem? (i := 35) rfl)) u_5_18 ⟨rfl, rfl⟩ hv7 ?_
  refine y_putf (f := (0, -2147483648, 2147483647)) w6.1 X.1.2.1 (e_48 (58, .putfield 18, 3) (List.mem_of_getElem? (i := 36) rfl)) u_5_18 ⟨rfl, rfl, by decide, rfl, rfl⟩ (x_src w6.1 X.2.1.2.1 hv7 _ rfl) (fun G7 u7 => ?_)
  have w7 := w6.up X (by decide) rfl X.1.2.1 X.2.1.2.1 hv7 u7
  obtain ⟨v8, hv8⟩ := y_fiT4 (a := h' + 1) (i := 3) w7.1 X.2.1.2.1 rfl
  refine y_aln (e_48 (61, .aload_n 0, 1) (List.mem_of_getElem? (i := 37) rfl)) a6 ?_
  refine y_aln (e_48 (62, .aload_n 1, 1) (List.mem_of_getElem? (i := 38) rfl)) b6 ?_
  refine y_getf w7.1 X.2.1.2.1 (e_48 (63, .getfield 22, 3) (List.mem_of_getElem? (i := 39) rfl)) u_5_22 ⟨rfl, rfl⟩ hv8 ?_
  refine y_putf (f := (0, -2147483648, 2147483647)) w7.1 X.1.2.1 (e_48 (66, .putfield 22, 3) (List.mem_of_getElem? (i := 40) rfl)) u_5_22 ⟨rfl, rfl, by decide, rfl, rfl⟩ (x_src w7.1 X.2.1.2.1 hv8 _ rfl) (fun G8 u8 => ?_)
  have w8 := w7.up X (by decide) rfl X.1.2.1 X.2.1.2.1 hv8 u8
  obtain ⟨v9, hv9⟩ := y_fiT4 (a := h' + 1) (i := 4) w8.1 X.2.1.2.1 rfl
  refine y_aln (e_48 (69, .aload_n 0, 1) (List.mem_of_getElem? (i := 41) rfl)) a6 ?_
  refine y_aln (e_48 (70, .aload_n 1, 1) (List.mem_of_getElem? (i := 42) rfl)) b6 ?_
  refine y_getf w8.1 X.2.1.2.1 (e_48 (71, .getfield 25, 3) (List.mem_of_getElem? (i := 43) rfl)) u_5_25 ⟨rfl, rfl⟩ hv9 ?_
  refine y_putf (f := (0, -2147483648, 2147483647)) w8.1 X.1.2.1 (e_48 (74, .putfield 25, 3) (List.mem_of_getElem? (i := 44) rfl)) u_5_25 ⟨rfl, rfl, by decide, rfl, rfl⟩ (x_src w8.1 X.2.1.2.1 hv9 _ rfl) (fun G9 u9 => ?_)
  have w9 := w8.up X (by decide) rfl X.1.2.1 X.2.1.2.1 hv9 u9
  obtain ⟨v10, hv10⟩ := y_fiT4 (a := h' + 1) (i := 5) w9.1 X.2.1.2.1 rfl
  refine y_aln (e_48 (77, .aload_n 0, 1) (List.mem_of_getElem? (i := 45) rfl)) a6 ?_
  refine y_aln (e_48 (78, .aload_n 1, 1) (List.mem_of_getElem? (i := 46) rfl)) b6 ?_
  refine y_getf w9.1 X.2.1.2.1 (e_48 (79, .getfield 28, 3) (List.mem_of_getElem? (i := 47) rfl)) u_5_28 ⟨rfl, rfl⟩ hv10 ?_
  refine y_putf (f := (0, 0, 4)) w9.1 X.1.2.1 (e_48 (82, .putfield 28, 3) (List.mem_of_getElem? (i := 48) rfl)) u_5_28 ⟨rfl, rfl, by decide, rfl, rfl⟩ (x_src w9.1 X.2.1.2.1 hv10 _ rfl) (fun G10 u10 => ?_)
  have w10 := w9.up X (by decide) rfl X.1.2.1 X.2.1.2.1 hv10 u10
  refine y_st (e_48 (85, .iconst 0, 1) (List.mem_of_getElem? (i := 49) rfl)) ⟨rfl, rfl, rfl, rfl⟩ ?_
  refine y_isn (e_48 (86, .istore_n 2, 1) (List.mem_of_getElem? (i := 50) rfl)) (by decide) ?_
  refine kl_p X w10 (k := Int32.ofInt 0) (by decide) (y_gpr a6 (by decide)) (y_gpr b6 (by decide)) x_get_self (fun G11 l11 w11 a11 b11 c11 => ?_)
  refine kl_p X w11 (k := Int32.ofInt 0 + Int32.ofInt 1) (by decide) a11 b11 c11 (fun G12 l12 w12 a12 b12 c12 => ?_)
  refine kl_p X w12 (k := Int32.ofInt 0 + Int32.ofInt 1 + Int32.ofInt 1) (by decide) a12 b12 c12 (fun G13 l13 w13 a13 b13 c13 => ?_)
  refine kl_p X w13 (k := Int32.ofInt 0 + Int32.ofInt 1 + Int32.ofInt 1 + Int32.ofInt 1) (by decide) a13 b13 c13 (fun G14 l14 w14 a14 b14 c14 => ?_)
  refine y_iln (e_48 (87, .iload_n 2, 1) (List.mem_of_getElem? (i := 51) rfl)) c14 ?_
  refine y_st (e_48 (88, .iconst 4, 1) (List.mem_of_getElem? (i := 52) rfl)) ⟨rfl, rfl, rfl, rfl⟩ ?_
  refine y_icm (e_48 (89, .if_icmp .ge 45, 3) (List.mem_of_getElem? (i := 53) rfl)) rfl (fun _ => ?_) (fun hc => absurd hc (by decide))
  exact y_ret (e_48 (134, .return_, 1) (List.mem_of_getElem? (i := 80) rfl)) ⟨rfl, rfl⟩ ⟨rfl, w14.mono (by decide +kernel) (fun c i hd => by unfold h_relL h_rel at hd; simp at hd; omega)⟩
def sg_hc43_ns : List xN := [(45, [(2, (0, ([(2, 1)], 0))), (0, (10, ([(0, 1)], 0))), (1, (10, ([(1, 1)], 0)))], [], [([(2, 1)], 0), ([(2, -1)], 8), ([(2, -1)], 20), ([(2, -1)], 40), ([(2, -1)], 61), ([(2, -1)], 255), ([(2, -1)], 1000), ([(2, -1)], 1001)], 3, [([], 3), ([(2, -1)], 2147483647), ([], 5000000000), ([], 5000000000), ([], 5000000000)]), (76, [(2, (0, ([(2, 1)], 0))), (0, (10, ([(0, 1)], 0))), (1, (10, ([(1, 1)], 0)))], [(0, ([(0, 1)], 0), 4, (0, ([(3, 1)], 0)))], [([(3, 1)], 0), ([(3, -1)], 8), ([(2, 1)], 0), ([(2, -1)], 7), ([(2, -1)], 8), ([(2, -1)], 20), ([(2, -1)], 40), ([(2, -1)], 61), ([(2, -1)], 255), ([(2, -1)], 1000), ([(2, -1)], 1001)], 4, [([], 2), ([(2, -1)], 2147483647), ([], 5000000000), ([], 5000000000), ([], 5000000000)]), (107, [(2, (0, ([(2, 1)], 0))), (0, (10, ([(0, 1)], 0))), (1, (10, ([(1, 1)], 0)))], [(0, ([(0, 1)], 0), 5, (0, ([(3, 1)], 0))), (0, ([(0, 1)], 0), 4, (0, ([(4, 1)], 0)))], [([(3, 1)], 0), ([(3, -1)], 4), ([(4, 1)], 0), ([(4, -1)], 8), ([(2, 1)], 0), ([(2, -1)], 7), ([(2, -1)], 8), ([(2, -1)], 20), ([(2, -1)], 40), ([(2, -1)], 61), ([(2, -1)], 255), ([(2, -1)], 1000), ([(2, -1)], 1001)], 5, [([], 1), ([(2, -1)], 2147483647), ([], 5000000000), ([], 5000000000), ([], 5000000000)])]
def sg_hc43_os : List xN := []
def sg_hc43_g : xG := ([], [(0, (10, ([(0, 1)], 0))), (1, (10, ([(1, 1)], 0)))], [], [], 2)
def sg_hc43_ps : List xP := [(none, [], [])]
set_option maxRecDepth 100000 in
set_option maxHeartbeats 4000000 in
theorem sg_hc43_ok : x_seg x_tb [c_26, c_37, c_39] m_47 d_47 [(4, 0, 3), (5, 0, 3), (8, 0, 9)] 2 sg_hc43_ps sg_hc43_ns sg_hc43_os 25 false 43 sg_hc43_g = true := by decide +kernel
set_option maxRecDepth 100000 in
theorem sg_hc43_go {th : List Nat} {xs : Nat → Int32} {L J d : Nat} {K : Option Value → List pE → Prop} (hd : 40 ≤ d) {v : Nat → Int} {lv : pL} {ws : List Value} {G0 G : List pE} (hS : x_S x_tb th v sg_hc43_g lv ws G) (hE : x_eff th [(4, 0, 3), (5, 0, 3), (8, 0, 9)] G0 G) (hK : ∀ r G', x_Post x_tb th [(4, 0, 3), (5, 0, 3), (8, 0, 9)] sg_hc43_ps 2 v G0 r G' → K r G') (hO : ∀ n ∈ sg_hc43_os, ∀ (vn : Nat → Int) (lv : pL) (G1 : List pE), x_ag 2 v vn → x_S x_tb th vn (n.2.2.2.1, n.2.1, [], n.2.2.1, n.2.2.2.2.1) lv [] G1 → x_eff th [(4, 0, 3), (5, 0, 3), (8, 0, 9)] G0 G1 → x_Gd xs L J (d + 1) m_47 K n.1 lv [] G1) : x_Gd xs L J (d + 1) m_47 K 43 lv ws G :=
  x_seg_ok (dm := 40) x_tb_wf ⟨rfl, rfl, rfl⟩ e_47 (List.forall_mem_cons.mpr ⟨(h_26 th xs L J).mono (by omega), List.forall_mem_cons.mpr ⟨(h_37 th xs L J).mono (by omega), List.forall_mem_cons.mpr ⟨(h_39 th xs L J).mono (by omega), fun _ h => absurd h List.not_mem_nil⟩⟩⟩) hd sg_hc43_ok hS hE (fun z => by cases z) hK hO
theorem y_pN4 {th : List Nat} {v : Nat → Int} {r : Option Value} (h : x_ans th v none r) : r = none := by
  cases r with
  | none => rfl
  | some w => exact absurd h (by simp [x_ans])
def h_lt (t : Nat) : Prop := t = 0 ∨ t = 1 ∨ t = 14 ∨ t = 15 ∨ t = 16 ∨ t = 17 ∨ t = 18
theorem HT.ty (X : HT h) (c : Nat) (hc : c < 7) : ∃ t, th0[h + c]? = some t ∧ h_lt t := by
  obtain ⟨a0, a1, a2, a3, a4, a5, a6⟩ := X
  unfold h_lt
  rcases (show c = 0 ∨ c = 1 ∨ c = 2 ∨ c = 3 ∨ c = 4 ∨ c = 5 ∨ c = 6 by omega) with rfl | rfl | rfl | rfl | rfl | rfl | rfl
  · exact ⟨_, a0, by decide⟩
  · exact ⟨_, a1, by decide⟩
  · exact ⟨_, a2, by decide⟩
  · exact ⟨_, a3, by decide⟩
  · exact ⟨_, a4, by decide⟩
  · exact ⟨_, a5, by decide⟩
  · exact ⟨_, a6, by decide⟩
/-- effects that touch no LAND -/
def okLT (E : List (Nat × Nat × Nat)) : Bool := E.all (fun q => !(q.1 == 0) && !(q.1 == 1) && !(q.1 == 14) && !(q.1 == 15) && !(q.1 == 16) && !(q.1 == 17) && !(q.1 == 18))
theorem y_landT {E : List (Nat × Nat × Nat)} {t : Nat} (ht : h_lt t) (h : okLT E = true) (i : Nat) : y_out E t i = true := by
  unfold y_out
  unfold okLT at h
  rw [List.all_eq_true] at h ⊢
  intro q hq
  have := h q hq
  simp only [Bool.and_eq_true, Bool.not_eq_true', beq_eq_false_iff_ne] at this
  unfold h_lt at ht
  simp only [Bool.not_eq_true', Bool.and_eq_false_iff, beq_eq_false_iff_ne]
  exact Or.inl (Or.inl (by omega))
/-- a hill is copied: its LAND is the other's, and no other hill's LAND is changed -/
def KC (h h' : Nat) (G G' : List pE) : Prop := xI x_tb th0 G' ∧ (∀ c i, h_rel c i = true → x_sl G' (h + c) i = x_sl G (h' + c) i) ∧ (∀ c t i, th0[c]? = some t → h_lt t → c < h ∨ h + 6 < c → x_sl G' c i = x_sl G c i)
set_option maxHeartbeats 2000000 in
set_option maxRecDepth 100000 in
theorem k_copy (hd : 40 ≤ d) (X : CH h h' G) (hI : xI x_tb th0 G) : x_Gd xs L J (d + 1) m_47 (fun r G' => r = none ∧ KC h h' G G') 0 (lv_args 0 [.ref h, .ref h']) [] G := by
  have g0 : pm_get (lv_args 0 [.ref h, .ref h']) 0 = some (.ref h) := rfl
  have g1 : pm_get (lv_args 0 [.ref h, .ref h']) 1 = some (.ref h') := rfl
  generalize lv_args 0 [.ref h, .ref h'] = lv at g0 g1 ⊢
  have H0 : CI h h' G (fun _ _ => false) G := CI.ini hI
  refine y_aln (e_47 (0, .aload_n 0, 1) (List.mem_of_getElem? (i := 0) rfl)) g0 ?_
  refine y_getf hI X.1.1 (e_47 (1, .getfield 12, 3) (List.mem_of_getElem? (i := 1) rfl)) u_4_12 ⟨rfl, rfl⟩ X.2.2.1.1 ?_
  refine y_aln (e_47 (4, .aload_n 1, 1) (List.mem_of_getElem? (i := 2) rfl)) g1 ?_
  refine y_getf hI X.2.1.1 (e_47 (5, .getfield 12, 3) (List.mem_of_getElem? (i := 3) rfl)) u_4_12 ⟨rfl, rfl⟩ X.2.2.2.1.1 ?_
  refine y_c2 (K' := _) (e_47 (8, .invokevirtual 55, 3) (List.mem_of_getElem? (i := 4) rfl)) ⟨rfl, rfl, rfl⟩ t_4_55 ⟨by decide, by decide, by decide, by decide⟩ m_48_ok rfl (by decide) (y_recv hI X.1.2.1 ⟨rfl, rfl⟩) (Nat.le_of_ble_eq_true rfl) (Nat.le_of_ble_eq_true rfl) (kl_land X H0) (fun r1 G1 h1 => ?_)
  obtain ⟨rfl, w1⟩ := h1
  simp only [Option.toList_some, Option.toList_none, List.cons_append, List.nil_append]
  obtain ⟨v2, hv2⟩ := y_fiT4 (a := h') (i := 4) w1.1 X.2.1.1 rfl
  refine y_aln (e_47 (11, .aload_n 0, 1) (List.mem_of_getElem? (i := 5) rfl)) g0 ?_
  refine y_aln (e_47 (12, .aload_n 1, 1) (List.mem_of_getElem? (i := 6) rfl)) g1 ?_
  refine y_getf w1.1 X.2.1.1 (e_47 (13, .getfield 36, 3) (List.mem_of_getElem? (i := 7) rfl)) u_4_36 ⟨rfl, rfl⟩ hv2 ?_
  refine y_putf (f := (0, 0, 8)) w1.1 X.1.1 (e_47 (16, .putfield 36, 3) (List.mem_of_getElem? (i := 8) rfl)) u_4_36 ⟨rfl, rfl, by decide, rfl, rfl⟩ (x_src w1.1 X.2.1.1 hv2 _ rfl) (fun G2 u2 => ?_)
  have w2 := w1.up X (c := 0) (by decide) rfl X.1.1 X.2.1.1 hv2 u2
  obtain ⟨v3, hv3⟩ := y_fiT4 (a := h') (i := 5) w2.1 X.2.1.1 rfl
  refine y_aln (e_47 (19, .aload_n 0, 1) (List.mem_of_getElem? (i := 9) rfl)) g0 ?_
  refine y_aln (e_47 (20, .aload_n 1, 1) (List.mem_of_getElem? (i := 10) rfl)) g1 ?_
  refine y_getf w2.1 X.2.1.1 (e_47 (21, .getfield 40, 3) (List.mem_of_getElem? (i := 11) rfl)) u_4_40 ⟨rfl, rfl⟩ hv3 ?_
  refine y_putf (f := (0, 0, 4)) w2.1 X.1.1 (e_47 (24, .putfield 40, 3) (List.mem_of_getElem? (i := 12) rfl)) u_4_40 ⟨rfl, rfl, by decide, rfl, rfl⟩ (x_src w2.1 X.2.1.1 hv3 _ rfl) (fun G3 u3 => ?_)
  have w3 := w2.up X (c := 0) (by decide) rfl X.1.1 X.2.1.1 hv3 u3
  obtain ⟨v4, hv4⟩ := y_fiT4 (a := h') (i := 6) w3.1 X.2.1.1 rfl
  refine y_aln (e_47 (27, .aload_n 0, 1) (List.mem_of_getElem? (i := 13) rfl)) g0 ?_
  refine y_aln (e_47 (28, .aload_n 1, 1) (List.mem_of_getElem? (i := 14) rfl)) g1 ?_
  refine y_getf w3.1 X.2.1.1 (e_47 (29, .getfield 43, 3) (List.mem_of_getElem? (i := 15) rfl)) u_4_43 ⟨rfl, rfl⟩ hv4 ?_
  refine y_putf (f := (0, 0, 4)) w3.1 X.1.1 (e_47 (32, .putfield 43, 3) (List.mem_of_getElem? (i := 16) rfl)) u_4_43 ⟨rfl, rfl, by decide, rfl, rfl⟩ (x_src w3.1 X.2.1.1 hv4 _ rfl) (fun G4 u4 => ?_)
  have w4 := w3.up X (c := 0) (by decide) rfl X.1.1 X.2.1.1 hv4 u4
  obtain ⟨v5, hv5⟩ := y_fiT4 (a := h') (i := 7) w4.1 X.2.1.1 rfl
  refine y_aln (e_47 (35, .aload_n 0, 1) (List.mem_of_getElem? (i := 17) rfl)) g0 ?_
  refine y_aln (e_47 (36, .aload_n 1, 1) (List.mem_of_getElem? (i := 18) rfl)) g1 ?_
  refine y_getf w4.1 X.2.1.1 (e_47 (37, .getfield 46, 3) (List.mem_of_getElem? (i := 19) rfl)) u_4_46 ⟨rfl, rfl⟩ hv5 ?_
  refine y_putf (f := (0, -2147483648, 2147483647)) w4.1 X.1.1 (e_47 (40, .putfield 46, 3) (List.mem_of_getElem? (i := 20) rfl)) u_4_46 ⟨rfl, rfl, by decide, rfl, rfl⟩ (x_src w4.1 X.2.1.1 hv5 _ rfl) (fun G5 u5 => ?_)
  have w5 := w4.up X (c := 0) (by decide) rfl X.1.1 X.2.1.1 hv5 u5
  refine sg_hc43_go (th := th0) (d := d) (by omega) (v := (y_v [(h : Int), (h' : Int)])) (G0 := G5) (G := G5) ⟨y_v_Bd (List.forall_mem_cons.mpr ⟨(y_cellB w5.1 X.1.1), (List.forall_mem_cons.mpr ⟨(y_cellB w5.1 X.2.1.1), (fun _ h => absurd h List.not_mem_nil)⟩)⟩), (fun _ h => absurd h List.not_mem_nil), (List.forall_mem_cons.mpr ⟨⟨_, g0, h, rfl, (by simp only [xl_ev, xt_ev, y_v, List.getD_cons_succ, List.getD_cons_zero]; omega), X.1.1⟩, (List.forall_mem_cons.mpr ⟨⟨_, g1, h', rfl, (by simp only [xl_ev, xt_ev, y_v, List.getD_cons_succ, List.getD_cons_zero]; omega), X.2.1.1⟩, (fun _ h => absurd h List.not_mem_nil)⟩)⟩), trivial, (fun _ h => absurd h List.not_mem_nil), w5.1⟩ x_eff.rf (fun r G' hp => ?_) (fun n hn => absurd hn List.not_mem_nil)
  obtain ⟨v', -, -, hI', ef, p, hp, -, -, pa⟩ := hp
  obtain rfl : p = _ := List.mem_singleton.mp hp
  have w6 : CI h h' G h_rel G5 := w5.mono (by decide +kernel) (fun c i hd => by unfold h_rel at hd; simp at hd; omega)
  refine ⟨y_pN4 pa, hI', fun c i hd => ?_, fun c t i tc ht hc => ?_⟩
  · have hcb : c < 7 := by
      unfold h_rel at hd
      simp at hd
      omega
    obtain ⟨t, tc, ht⟩ := X.1.ty c hcb
    rw [ef.at tc (y_landT ht (by decide +kernel) i)]
    exact w6.2.2.2 c i hd
  · rw [ef.at tc (y_landT ht (by decide +kernel) i)]
    exact w6.2.1 c i hc
end CP
