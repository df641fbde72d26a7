def m_21 : pM := (⟨"BreathingHill$Tape", "readToken", "()V"⟩, 559, 3, none, 2, 0, false, 7, 92, 557, 558)
set_option maxRecDepth 100000 in
theorem m_21_ok : pm_tab[21]? = some m_21 := rfl
theorem e_21 : ∀ q ∈ d_21, decode m_21.code q.1 = .ok (q.2.1, q.2.2) := y_dec d_21_ok m_21_ok
def m_22 : pM := (⟨"BreathingHill$Tape", "isBlank", "(I)Z"⟩, 562, 1, some (FieldType.boolean), 2, 1, true, 7, 92, 561, 0)
set_option maxRecDepth 100000 in
theorem m_22_ok : pm_tab[22]? = some m_22 := rfl
theorem e_22 : ∀ q ∈ d_22, decode m_22.code q.1 = .ok (q.2.1, q.2.2) := y_dec d_22_ok m_22_ok
def m_23 : pM := (⟨"BreathingHill$Tape", "isLetterOrDigit", "(I)Z"⟩, 567, 1, some (FieldType.boolean), 2, 1, true, 7, 92, 566, 0)
set_option maxRecDepth 100000 in
theorem m_23_ok : pm_tab[23]? = some m_23 := rfl
theorem e_23 : ∀ q ∈ d_23, decode m_23.code q.1 = .ok (q.2.1, q.2.2) := y_dec d_23_ok m_23_ok
def m_24 : pM := (⟨"BreathingHill$Tape", "tokenSpelt", "(JLBreathingHill$Token;)LBreathingHill$Token;"⟩, 571, 4, some ((FieldType.object "BreathingHill$Token")), 2, 2, true, 7, 92, 570, 0)
set_option maxRecDepth 100000 in
theorem m_24_ok : pm_tab[24]? = some m_24 := rfl
theorem e_24 : ∀ q ∈ d_24, decode m_24.code q.1 = .ok (q.2.1, q.2.2) := y_dec d_24_ok m_24_ok
-- ===== the class's tape: what its fields hold =====
def TC (th : List Nat) (tp b : Nat) (f : Nat → Int32) (G0 : List pE) (n lim nx : Int32) (tk : Nat) (pl num : Int32) (nm : Int64) (ft fp : Int32) (G : List pE) : Prop := xI x_tb th G ∧ th[tp]? = some 7 ∧ th[b]? = some 28 ∧ (∀ i, i < 940 → x_sl G b i = some (.int (f i))) ∧ (∀ c i : Nat, c ≠ tp → x_sl G c i = x_sl G0 c i) ∧ x_sl G tp 0 = some (.ref b) ∧ x_sl G tp 1 = some (.int n) ∧ x_sl G tp 2 = some (.int lim) ∧ x_sl G tp 3 = some (.int nx) ∧ x_sl G tp 4 = some (.ref (pm_TB + tk)) ∧ x_sl G tp 5 = some (.int pl) ∧ x_sl G tp 6 = some (.int num) ∧ x_sl G tp 7 = some (.long nm) ∧ x_sl G tp 8 = some (.int ft) ∧ x_sl G tp 9 = some (.int fp)
theorem y_okT {th : List Nat} {R : List (Nat × xF)} {i k : Nat} (e : x_at R i = some (3, 0, 0)) (hk : k < 35) : ∀ f', x_at R i = some f' → xf_ok th f' (.ref (pm_TB + k)) := by
  intro f' h
  rw [e] at h
  cases h
  exact ⟨_, rfl, by unfold pm_isTok; simp [hk]⟩
def t_bl (b : Int32) : Bool := b == 32 || b == 10
def t_le (b : Int32) : Bool := decide (97 ≤ b.toInt) && decide (b.toInt ≤ 122)
def t_di (b : Int32) : Bool := decide (48 ≤ b.toInt) && decide (b.toInt ≤ 57)
def t_ld (b : Int32) : Bool := t_le b || t_di b
/-- p is where a run of such signs from a on ends -/
def t_End (q : Int32 → Bool) (f : Nat → Int32) (n a p : Nat) : Prop := a ≤ p ∧ p ≤ n ∧ (∀ i, a ≤ i → i < p → q (f i) = true) ∧ (p < n → q (f p) = false)
theorem t_End.one {q : Int32 → Bool} {f : Nat → Int32} {n a p p' : Nat} (h : t_End q f n a p) (h' : t_End q f n a p') : p = p' := by
  obtain ⟨a1, a2, a3, a4⟩ := h
  obtain ⟨b1, b2, b3, b4⟩ := h'
  rcases Nat.lt_trichotomy p p' with z | z | z
  · have := b3 p a1 z
    rw [a4 (by omega)] at this
    cases this
  · exact z
  · have := a3 p' b1 z
    rw [b4 (by omega)] at this
    cases this
section TK
variable {th : List Nat} {xs : Nat → Int32} {L J d tp b : Nat} {K : Option Value → List pE → Prop} {f : Nat → Int32} {G0 G G1 : List pE} {n lim nx pl num ft fp : Int32} {tk : Nat} {nm : Int64} {lv : pL}
theorem TC.I (h : TC th tp b f G0 n lim nx tk pl num nm ft fp G) : xI x_tb th G := h.1
theorem TC.t (h : TC th tp b f G0 n lim nx tk pl num nm ft fp G) : th[tp]? = some 7 := h.2.1
theorem TC.tb (h : TC th tp b f G0 n lim nx tk pl num nm ft fp G) : th[b]? = some 28 := h.2.2.1
theorem TC.by (h : TC th tp b f G0 n lim nx tk pl num nm ft fp G) : ∀ i, i < 940 → x_sl G b i = some (.int (f i)) := h.2.2.2.1
theorem TC.ot (h : TC th tp b f G0 n lim nx tk pl num nm ft fp G) : ∀ c i : Nat, c ≠ tp → x_sl G c i = x_sl G0 c i := h.2.2.2.2.1
theorem TC.s0 (h : TC th tp b f G0 n lim nx tk pl num nm ft fp G) : x_sl G tp 0 = some (.ref b) := h.2.2.2.2.2.1
theorem TC.s1 (h : TC th tp b f G0 n lim nx tk pl num nm ft fp G) : x_sl G tp 1 = some (.int n) := h.2.2.2.2.2.2.1
theorem TC.s2 (h : TC th tp b f G0 n lim nx tk pl num nm ft fp G) : x_sl G tp 2 = some (.int lim) := h.2.2.2.2.2.2.2.1
theorem TC.s3 (h : TC th tp b f G0 n lim nx tk pl num nm ft fp G) : x_sl G tp 3 = some (.int nx) := h.2.2.2.2.2.2.2.2.1
theorem TC.s4 (h : TC th tp b f G0 n lim nx tk pl num nm ft fp G) : x_sl G tp 4 = some (.ref (pm_TB + tk)) := h.2.2.2.2.2.2.2.2.2.1
theorem TC.s5 (h : TC th tp b f G0 n lim nx tk pl num nm ft fp G) : x_sl G tp 5 = some (.int pl) := h.2.2.2.2.2.2.2.2.2.2.1
theorem TC.s6 (h : TC th tp b f G0 n lim nx tk pl num nm ft fp G) : x_sl G tp 6 = some (.int num) := h.2.2.2.2.2.2.2.2.2.2.2.1
theorem TC.s7 (h : TC th tp b f G0 n lim nx tk pl num nm ft fp G) : x_sl G tp 7 = some (.long nm) := h.2.2.2.2.2.2.2.2.2.2.2.2.1
theorem TC.s8 (h : TC th tp b f G0 n lim nx tk pl num nm ft fp G) : x_sl G tp 8 = some (.int ft) := h.2.2.2.2.2.2.2.2.2.2.2.2.2.1
theorem TC.s9 (h : TC th tp b f G0 n lim nx tk pl num nm ft fp G) : x_sl G tp 9 = some (.int fp) := h.2.2.2.2.2.2.2.2.2.2.2.2.2.2
theorem TC.u3 (h : TC th tp b f G0 n lim nx tk pl num nm ft fp G) {v : Int32} (u : x_upd G G1 tp 3 (.int v)) (hv : 0 ≤ v.toInt ∧ v.toInt ≤ 940) : TC th tp b f G0 n lim v tk pl num nm ft fp G1 := by
  obtain ⟨a1, a2, a3, a4, a5, c0, c1, c2, c3, c4, c5, c6, c7, c8, c9⟩ := h
  have ne : b ≠ tp := fun z => by rw [z, a2] at a3; cases a3
  refine ⟨a1.upd u a2 (y_okI rfl hv.1 hv.2), a2, a3, fun i hi => by rw [u.2.1, if_neg (fun z => ne z.1)]; exact a4 i hi, fun c i hc => by rw [u.2.1, if_neg (fun z => hc z.1)]; exact a5 c i hc, by rw [u.2.1, if_neg (fun z => absurd z.2 (by decide))]; exact c0, by rw [u.2.1, if_neg (fun z => absurd z.2 (by decide))]; exact c1, by rw [u.2.1, if_neg (fun z => absurd z.2 (by decide))]; exact c2, by rw [u.2.1, if_pos ⟨rfl, rfl⟩], by rw [u.2.1, if_neg (fun z => absurd z.2 (by decide))]; exact c4, by rw [u.2.1, if_neg (fun z => absurd z.2 (by decide))]; exact c5, by rw [u.2.1, if_neg (fun z => absurd z.2 (by decide))]; exact c6, by rw [u.2.1, if_neg (fun z => absurd z.2 (by decide))]; exact c7, by rw [u.2.1, if_neg (fun z => absurd z.2 (by decide))]; exact c8, by rw [u.2.1, if_neg (fun z => absurd z.2 (by decide))]; exact c9⟩
theorem TC.u4 (h : TC th tp b f G0 n lim nx tk pl num nm ft fp G) {v : Nat} (u : x_upd G G1 tp 4 (.ref (pm_TB + v))) (hv : v < 35) : TC th tp b f G0 n lim nx v pl num nm ft fp G1 := by
  obtain ⟨a1, a2, a3, a4, a5, c0, c1, c2, c3, c4, c5, c6, c7, c8, c9⟩ := h
  have ne : b ≠ tp := fun z => by rw [z, a2] at a3; cases a3
  refine ⟨a1.upd u a2 (y_okT rfl hv), a2, a3, fun i hi => by rw [u.2.1, if_neg (fun z => ne z.1)]; exact a4 i hi, fun c i hc => by rw [u.2.1, if_neg (fun z => hc z.1)]; exact a5 c i hc, by rw [u.2.1, if_neg (fun z => absurd z.2 (by decide))]; exact c0, by rw [u.2.1, if_neg (fun z => absurd z.2 (by decide))]; exact c1, by rw [u.2.1, if_neg (fun z => absurd z.2 (by decide))]; exact c2, by rw [u.2.1, if_neg (fun z => absurd z.2 (by decide))]; exact c3, by rw [u.2.1, if_pos ⟨rfl, rfl⟩], by rw [u.2.1, if_neg (fun z => absurd z.2 (by decide))]; exact c5, by rw [u.2.1, if_neg (fun z => absurd z.2 (by decide))]; exact c6, by rw [u.2.1, if_neg (fun z => absurd z.2 (by decide))]; exact c7, by rw [u.2.1, if_neg (fun z => absurd z.2 (by decide))]; exact c8, by rw [u.2.1, if_neg (fun z => absurd z.2 (by decide))]; exact c9⟩
theorem TC.u5 (h : TC th tp b f G0 n lim nx tk pl num nm ft fp G) {v : Int32} (u : x_upd G G1 tp 5 (.int v)) : TC th tp b f G0 n lim nx tk v num nm ft fp G1 := by
  obtain ⟨a1, a2, a3, a4, a5, c0, c1, c2, c3, c4, c5, c6, c7, c8, c9⟩ := h
  have ne : b ≠ tp := fun z => by rw [z, a2] at a3; cases a3
  refine ⟨a1.upd u a2 (y_okA rfl), a2, a3, fun i hi => by rw [u.2.1, if_neg (fun z => ne z.1)]; exact a4 i hi, fun c i hc => by rw [u.2.1, if_neg (fun z => hc z.1)]; exact a5 c i hc, by rw [u.2.1, if_neg (fun z => absurd z.2 (by decide))]; exact c0, by rw [u.2.1, if_neg (fun z => absurd z.2 (by decide))]; exact c1, by rw [u.2.1, if_neg (fun z => absurd z.2 (by decide))]; exact c2, by rw [u.2.1, if_neg (fun z => absurd z.2 (by decide))]; exact c3, by rw [u.2.1, if_neg (fun z => absurd z.2 (by decide))]; exact c4, by rw [u.2.1, if_pos ⟨rfl, rfl⟩], by rw [u.2.1, if_neg (fun z => absurd z.2 (by decide))]; exact c6, by rw [u.2.1, if_neg (fun z => absurd z.2 (by decide))]; exact c7, by rw [u.2.1, if_neg (fun z => absurd z.2 (by decide))]; exact c8, by rw [u.2.1, if_neg (fun z => absurd z.2 (by decide))]; exact c9⟩
theorem TC.u6 (h : TC th tp b f G0 n lim nx tk pl num nm ft fp G) {v : Int32} (u : x_upd G G1 tp 6 (.int v)) : TC th tp b f G0 n lim nx tk pl v nm ft fp G1 := by
  obtain ⟨a1, a2, a3, a4, a5, c0, c1, c2, c3, c4, c5, c6, c7, c8, c9⟩ := h
  have ne : b ≠ tp := fun z => by rw [z, a2] at a3; cases a3
  refine ⟨a1.upd u a2 (y_okA rfl), a2, a3, fun i hi => by rw [u.2.1, if_neg (fun z => ne z.1)]; exact a4 i hi, fun c i hc => by rw [u.2.1, if_neg (fun z => hc z.1)]; exact a5 c i hc, by rw [u.2.1, if_neg (fun z => absurd z.2 (by decide))]; exact c0, by rw [u.2.1, if_neg (fun z => absurd z.2 (by decide))]; exact c1, by rw [u.2.1, if_neg (fun z => absurd z.2 (by decide))]; exact c2, by rw [u.2.1, if_neg (fun z => absurd z.2 (by decide))]; exact c3, by rw [u.2.1, if_neg (fun z => absurd z.2 (by decide))]; exact c4, by rw [u.2.1, if_neg (fun z => absurd z.2 (by decide))]; exact c5, by rw [u.2.1, if_pos ⟨rfl, rfl⟩], by rw [u.2.1, if_neg (fun z => absurd z.2 (by decide))]; exact c7, by rw [u.2.1, if_neg (fun z => absurd z.2 (by decide))]; exact c8, by rw [u.2.1, if_neg (fun z => absurd z.2 (by decide))]; exact c9⟩
theorem TC.u7 (h : TC th tp b f G0 n lim nx tk pl num nm ft fp G) {v : Int64} (u : x_upd G G1 tp 7 (.long v)) : TC th tp b f G0 n lim nx tk pl num v ft fp G1 := by
  obtain ⟨a1, a2, a3, a4, a5, c0, c1, c2, c3, c4, c5, c6, c7, c8, c9⟩ := h
  have ne : b ≠ tp := fun z => by rw [z, a2] at a3; cases a3
  refine ⟨a1.upd u a2 (y_okL rfl), a2, a3, fun i hi => by rw [u.2.1, if_neg (fun z => ne z.1)]; exact a4 i hi, fun c i hc => by rw [u.2.1, if_neg (fun z => hc z.1)]; exact a5 c i hc, by rw [u.2.1, if_neg (fun z => absurd z.2 (by decide))]; exact c0, by rw [u.2.1, if_neg (fun z => absurd z.2 (by decide))]; exact c1, by rw [u.2.1, if_neg (fun z => absurd z.2 (by decide))]; exact c2, by rw [u.2.1, if_neg (fun z => absurd z.2 (by decide))]; exact c3, by rw [u.2.1, if_neg (fun z => absurd z.2 (by decide))]; exact c4, by rw [u.2.1, if_neg (fun z => absurd z.2 (by decide))]; exact c5, by rw [u.2.1, if_neg (fun z => absurd z.2 (by decide))]; exact c6, by rw [u.2.1, if_pos ⟨rfl, rfl⟩], by rw [u.2.1, if_neg (fun z => absurd z.2 (by decide))]; exact c8, by rw [u.2.1, if_neg (fun z => absurd z.2 (by decide))]; exact c9⟩
theorem TC.u8 (h : TC th tp b f G0 n lim nx tk pl num nm ft fp G) {v : Int32} (u : x_upd G G1 tp 8 (.int v)) : TC th tp b f G0 n lim nx tk pl num nm v fp G1 := by
  obtain ⟨a1, a2, a3, a4, a5, c0, c1, c2, c3, c4, c5, c6, c7, c8, c9⟩ := h
  have ne : b ≠ tp := fun z => by rw [z, a2] at a3; cases a3
  refine ⟨a1.upd u a2 (y_okA rfl), a2, a3, fun i hi => by rw [u.2.1, if_neg (fun z => ne z.1)]; exact a4 i hi, fun c i hc => by rw [u.2.1, if_neg (fun z => hc z.1)]; exact a5 c i hc, by rw [u.2.1, if_neg (fun z => absurd z.2 (by decide))]; exact c0, by rw [u.2.1, if_neg (fun z => absurd z.2 (by decide))]; exact c1, by rw [u.2.1, if_neg (fun z => absurd z.2 (by decide))]; exact c2, by rw [u.2.1, if_neg (fun z => absurd z.2 (by decide))]; exact c3, by rw [u.2.1, if_neg (fun z => absurd z.2 (by decide))]; exact c4, by rw [u.2.1, if_neg (fun z => absurd z.2 (by decide))]; exact c5, by rw [u.2.1, if_neg (fun z => absurd z.2 (by decide))]; exact c6, by rw [u.2.1, if_neg (fun z => absurd z.2 (by decide))]; exact c7, by rw [u.2.1, if_pos ⟨rfl, rfl⟩], by rw [u.2.1, if_neg (fun z => absurd z.2 (by decide))]; exact c9⟩
theorem TC.u9 (h : TC th tp b f G0 n lim nx tk pl num nm ft fp G) {v : Int32} (u : x_upd G G1 tp 9 (.int v)) : TC th tp b f G0 n lim nx tk pl num nm ft v G1 := by
  obtain ⟨a1, a2, a3, a4, a5, c0, c1, c2, c3, c4, c5, c6, c7, c8, c9⟩ := h
  have ne : b ≠ tp := fun z => by rw [z, a2] at a3; cases a3
  refine ⟨a1.upd u a2 (y_okA rfl), a2, a3, fun i hi => by rw [u.2.1, if_neg (fun z => ne z.1)]; exact a4 i hi, fun c i hc => by rw [u.2.1, if_neg (fun z => hc z.1)]; exact a5 c i hc, by rw [u.2.1, if_neg (fun z => absurd z.2 (by decide))]; exact c0, by rw [u.2.1, if_neg (fun z => absurd z.2 (by decide))]; exact c1, by rw [u.2.1, if_neg (fun z => absurd z.2 (by decide))]; exact c2, by rw [u.2.1, if_neg (fun z => absurd z.2 (by decide))]; exact c3, by rw [u.2.1, if_neg (fun z => absurd z.2 (by decide))]; exact c4, by rw [u.2.1, if_neg (fun z => absurd z.2 (by decide))]; exact c5, by rw [u.2.1, if_neg (fun z => absurd z.2 (by decide))]; exact c6, by rw [u.2.1, if_neg (fun z => absurd z.2 (by decide))]; exact c7, by rw [u.2.1, if_neg (fun z => absurd z.2 (by decide))]; exact c8, by rw [u.2.1, if_pos ⟨rfl, rfl⟩]⟩
set_option maxHeartbeats 2000000 in
set_option maxRecDepth 100000 in
theorem k_isBlank (x : Int32) : x_Gd xs L J d m_22 (fun r G' => r = some (.int (if t_bl x then 1 else 0)) ∧ G' = G) 0 (lv_args 0 [.int x]) [] G := by
  have e32 : (Int8.ofInt 32).toInt32 = 32 := rfl
  have e10 : (Int8.ofInt 10).toInt32 = 10 := rfl
  refine y_iln (e_22 (0, .iload_n 0, 1) (List.mem_of_getElem? (i := 0) rfl)) rfl ?_
  refine y_st (e_22 (1, .bipush 32, 2) (List.mem_of_getElem? (i := 1) rfl)) ⟨rfl, rfl, rfl, rfl⟩ ?_
  refine y_icm (e_22 (3, .if_icmp .eq 9, 3) (List.mem_of_getElem? (i := 2) rfl)) rfl (fun hb => ?_) (fun hb => ?_)
  · have hx := y_hI.1 hb
    rw [e32] at hx
    subst hx
    refine y_st (e_22 (12, .iconst 1, 1) (List.mem_of_getElem? (i := 6) rfl)) ⟨rfl, rfl, rfl, rfl⟩ ?_
    refine y_st (e_22 (13, .goto 4, 3) (List.mem_of_getElem? (i := 7) rfl)) ⟨rfl, rfl, rfl, rfl⟩ ?_
    refine y_ret (e_22 (17, .ireturn, 1) (List.mem_of_getElem? (i := 9) rfl)) ⟨rfl, y_rb (Or.inr rfl)⟩ ⟨rfl, rfl⟩
  have n1 := y_hI.2.1 hb
  rw [e32] at n1
  refine y_iln (e_22 (6, .iload_n 0, 1) (List.mem_of_getElem? (i := 3) rfl)) rfl ?_
  refine y_st (e_22 (7, .bipush 10, 2) (List.mem_of_getElem? (i := 4) rfl)) ⟨rfl, rfl, rfl, rfl⟩ ?_
  refine y_icm (e_22 (9, .if_icmp .ne 7, 3) (List.mem_of_getElem? (i := 5) rfl)) rfl (fun hb => ?_) (fun hb => ?_)
  · have n2 := y_hI.2.2.1 hb
    rw [e10] at n2
    refine y_st (e_22 (16, .iconst 0, 1) (List.mem_of_getElem? (i := 8) rfl)) ⟨rfl, rfl, rfl, rfl⟩ ?_
    refine y_ret (e_22 (17, .ireturn, 1) (List.mem_of_getElem? (i := 9) rfl)) ⟨rfl, y_rb (Or.inl rfl)⟩ ⟨?_, rfl⟩
    have : t_bl x = false := by simp [t_bl, n1, n2]
    rw [this]
    rfl
  · have hx := y_hI.2.2.2.1 hb
    rw [e10] at hx
    subst hx
    refine y_st (e_22 (12, .iconst 1, 1) (List.mem_of_getElem? (i := 6) rfl)) ⟨rfl, rfl, rfl, rfl⟩ ?_
    refine y_st (e_22 (13, .goto 4, 3) (List.mem_of_getElem? (i := 7) rfl)) ⟨rfl, rfl, rfl, rfl⟩ ?_
    refine y_ret (e_22 (17, .ireturn, 1) (List.mem_of_getElem? (i := 9) rfl)) ⟨rfl, y_rb (Or.inr rfl)⟩ ⟨rfl, rfl⟩
end TK
