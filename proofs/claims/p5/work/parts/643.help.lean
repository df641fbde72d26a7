def m_168 : pM := (⟨"BreathingHillModel", "isWord", "(J)Z"⟩, 1504, 3, some (FieldType.boolean), 17, 1, false, 10, 103, 1503, 38)
set_option maxRecDepth 100000 in
theorem m_168_ok : pm_tab[168]? = some m_168 := rfl
theorem e_168 : ∀ q ∈ d_168, decode m_168.code q.1 = .ok (q.2.1, q.2.2) := y_dec d_168_ok m_168_ok
def m_163 : pM := (⟨"BreathingHillModel", "next", "()V"⟩, 1486, 4, none, 17, 0, false, 10, 103, 1485, 35)
set_option maxRecDepth 100000 in
theorem m_163_ok : pm_tab[163]? = some m_163 := rfl
theorem e_163 : ∀ q ∈ d_163, decode m_163.code q.1 = .ok (q.2.1, q.2.2) := y_dec d_163_ok m_163_ok
def m_171 : pM := (⟨"BreathingHillModel", "bad", "(I)Z"⟩, 1515, 2, some (FieldType.boolean), 17, 1, false, 10, 103, 1514, 40)
set_option maxRecDepth 100000 in
theorem m_171_ok : pm_tab[171]? = some m_171 := rfl
theorem e_171 : ∀ q ∈ d_171, decode m_171.code q.1 = .ok (q.2.1, q.2.2) := y_dec d_171_ok m_171_ok
def m_181 : pM := (⟨"BreathingHillModel", "isSign", "(I)Z"⟩, 1554, 2, some (FieldType.boolean), 17, 1, false, 10, 103, 1553, 49)
set_option maxRecDepth 100000 in
theorem m_181_ok : pm_tab[181]? = some m_181 := rfl
theorem e_181 : ∀ q ∈ d_181, decode m_181.code q.1 = .ok (q.2.1, q.2.2) := y_dec d_181_ok m_181_ok
def E_next : List (Nat × Nat × Nat) := [(10, 4, 4), (10, 11, 14), (10, 17, 17)]
def E_bad : List (Nat × Nat × Nat) := [(10, 15, 16)]
theorem y_fint {th : List Nat} {G : List pE} {a i : Nat} {lo hi : Int} (hI : xI x_tb th G) (ta : th[a]? = some 10) (e : x_at (x_tb 10).2.2.2 i = some (0, lo, hi)) : ∃ x : Int32, x_sl G a i = some (.int x) ∧ lo ≤ x.toInt ∧ x.toInt ≤ hi := by
  obtain ⟨w, k1, x, rfl, k2⟩ := (hI.2.2 a 10 ta).2 i _ e
  exact ⟨x, k1, k2⟩
theorem y_i1 {x : Int32} (h : x.toInt = 1) : x = 1 := by
  rw [← Int32.toInt_inj, h]; rfl
theorem y_i0 {x : Int32} (h : x.toInt = 0) : x = 0 := by
  rw [← Int32.toInt_inj, h]; rfl
set_option maxRecDepth 100000 in
theorem g_isWord {th : List Nat} {xs : Nat → Int32} {L J d a : Nat} {G : List pE} (hI : xI x_tb th G) (ta : th[a]? = some 10) (hd : 191 ≤ d) (x : Int64) : x_Gd xs L J d m_168 (fun r G' => ∃ y, r = some (.int y) ∧ (y = 0 ∨ y = 1) ∧ xI x_tb th G' ∧ x_eff th [] G G') 0 (lv_args 0 [.ref a, .long x]) [] G := by
  obtain ⟨t, t1, t2, t3⟩ := y_fint (i := 11) hI ta rfl
  have hb := y_cellB hI ta
  have hx := x_i32 t
  
  refine ((h_190 th xs L J).gd (G := G) (d := d) m_168_ok hd (v := y_v [(a : Int), (t.toInt)]) (as := [.ref a, .long x]) (y_v_Bd (fun z hz => ?_)) ?_ ⟨⟨a, rfl, by simp [xl_ev, xt_ev, y_v], ta⟩, ⟨x, rfl⟩, trivial⟩ (fun q hq => ?_) hI (fun z => by cases z)).mono (fun r G' h => ?_)
  · simp only [List.mem_cons, List.not_mem_nil, or_false] at hz
    rcases hz with rfl | hz
    · exact hb
    · rw [hz]; exact hx
  · intro c hc
    exact absurd hc List.not_mem_nil
  · rw [List.mem_singleton.mp hq]
    exact ⟨a, by simp [xl_ev, xt_ev, y_v], ta, _, t1, t, rfl, by simp [xl_ev, xt_ev, y_v]⟩
  · obtain ⟨v', -, -, hI', ef, p, hp, -, -, pa⟩ := h
    rcases List.mem_cons.mp hp with rfl | hp
    · cases r with
      | none => exact pa.elim
      | some w =>
        obtain ⟨y, rfl, hy⟩ := pa
        exact ⟨y, rfl, Or.inr (y_i1 (by rw [hy]; simp [xl_ev, xt_ev])), hI', ef⟩
    · obtain rfl : p = _ := List.mem_singleton.mp hp
      cases r with
      | none => exact pa.elim
      | some w =>
        obtain ⟨y, rfl, hy⟩ := pa
        exact ⟨y, rfl, Or.inl (y_i0 (by rw [hy]; simp [xl_ev, xt_ev])), hI', ef⟩
set_option maxRecDepth 100000 in
theorem g_isSign {th : List Nat} {xs : Nat → Int32} {L J d a : Nat} {G : List pE} (hI : xI x_tb th G) (ta : th[a]? = some 10) (hd : 192 ≤ d) (x : Int32) : x_Gd xs L J d m_181 (fun r G' => ∃ y, r = some (.int y) ∧ (y = 0 ∨ y = 1) ∧ xI x_tb th G' ∧ x_eff th [] G G') 0 (lv_args 0 [.ref a, .int x]) [] G := by
  obtain ⟨t, t1, t2, t3⟩ := y_fint (i := 11) hI ta rfl
  have hb := y_cellB hI ta
  have hx := x_i32 t
  have hx2 := x_i32 x
  refine ((h_191 th xs L J).gd (G := G) (d := d) m_181_ok hd (v := y_v [(a : Int), (x.toInt), (t.toInt)]) (as := [.ref a, .int x]) (y_v_Bd (fun z hz => ?_)) ?_ ⟨⟨a, rfl, by simp [xl_ev, xt_ev, y_v], ta⟩, ⟨x, rfl, by simp [xl_ev, xt_ev, y_v]⟩, trivial⟩ (fun q hq => ?_) hI (fun z => by cases z)).mono (fun r G' h => ?_)
  · simp only [List.mem_cons, List.not_mem_nil, or_false] at hz
    rcases hz with rfl | hz
    · exact hb
    rcases hz with rfl | hz
    · exact hx2
    · rw [hz]; exact hx
  · intro c hc
    exact absurd hc List.not_mem_nil
  · rw [List.mem_singleton.mp hq]
    exact ⟨a, by simp [xl_ev, xt_ev, y_v], ta, _, t1, t, rfl, by simp [xl_ev, xt_ev, y_v]⟩
  · obtain ⟨v', -, -, hI', ef, p, hp, -, -, pa⟩ := h
    rcases List.mem_cons.mp hp with rfl | hp
    · cases r with
      | none => exact pa.elim
      | some w =>
        obtain ⟨y, rfl, hy⟩ := pa
        exact ⟨y, rfl, Or.inr (y_i1 (by rw [hy]; simp [xl_ev, xt_ev])), hI', ef⟩
    · obtain rfl : p = _ := List.mem_singleton.mp hp
      cases r with
      | none => exact pa.elim
      | some w =>
        obtain ⟨y, rfl, hy⟩ := pa
        exact ⟨y, rfl, Or.inl (y_i0 (by rw [hy]; simp [xl_ev, xt_ev])), hI', ef⟩
set_option maxRecDepth 100000 in
theorem g_bad {th : List Nat} {xs : Nat → Int32} {L J d a : Nat} {G : List pE} (hI : xI x_tb th G) (ta : th[a]? = some 10) (hd : 190 ≤ d) (x : Int32) : x_Gd xs L J d m_171 (fun r G' => r = some (.int 0) ∧ xI x_tb th G' ∧ x_eff th E_bad G G') 0 (lv_args 0 [.ref a, .int x]) [] G := by
  have hb := y_cellB hI ta
  have hx2 := x_i32 x
  refine ((h_189 th xs L J).gd (G := G) (d := d) m_171_ok hd (v := y_v [(a : Int), (x.toInt)]) (as := [.ref a, .int x]) (y_v_Bd (fun z hz => ?_)) (fun c hc => absurd hc List.not_mem_nil) ⟨⟨a, rfl, by simp [xl_ev, xt_ev, y_v], ta⟩, ⟨x, rfl, by simp [xl_ev, xt_ev, y_v]⟩, trivial⟩ (fun q hq => absurd hq List.not_mem_nil) hI (fun z => by cases z)).mono (fun r G' h => ?_)
  · simp only [List.mem_cons, List.not_mem_nil, or_false] at hz
    rcases hz with rfl | rfl
    · exact hb
    · exact hx2
  · obtain ⟨v', -, -, hI', ef, p, hp, -, -, pa⟩ := h
    obtain rfl : p = _ := List.mem_singleton.mp hp
    cases r with
    | none => exact pa.elim
    | some w =>
      obtain ⟨y, rfl, hy⟩ := pa
      obtain rfl : y = 0 := y_i0 (by rw [hy]; simp [xl_ev, xt_ev])
      exact ⟨rfl, hI', ef⟩
set_option maxRecDepth 100000 in
theorem g_next {th : List Nat} {xs : Nat → Int32} {L J d a : Nat} {G : List pE} (hI : xI x_tb th G) (ta : th[a]? = some 10) (hd : 189 ≤ d) : x_Gd xs L J d m_163 (fun r G' => r = none ∧ xI x_tb th G' ∧ x_eff th E_next G G') 0 (lv_args 0 [.ref a]) [] G := by
  have hb := y_cellB hI ta
  obtain ⟨p, p1, p2, p3⟩ := y_fint (i := 4) hI ta rfl
  obtain ⟨z, z1, z2, z3⟩ := y_fint (i := 3) hI ta rfl
  refine ((h_188 th xs L J).gd (G := G) (d := d) m_163_ok hd (v := y_v [(a : Int), (p.toInt), (z.toInt)]) (as := [.ref a]) (y_v_Bd (fun y hy => ?_)) ?_ ⟨⟨a, rfl, by simp [xl_ev, xt_ev, y_v], ta⟩, trivial⟩ (fun q hq => ?_) hI (fun z => by cases z)).mono (fun r G' h => ?_)
  · simp only [List.mem_cons, List.not_mem_nil, or_false] at hy
    rcases hy with rfl | rfl | rfl
    · exact hb
    · exact x_i32 p
    · exact x_i32 z
  · simp only [c_188, x_Cs, List.forall_mem_cons, List.not_mem_nil, false_implies, implies_true, and_true, xl_ev, xt_ev, y_v, List.getD_cons_succ, List.getD_cons_zero]
    omega
  · rcases List.mem_cons.mp hq with rfl | hq
    · exact ⟨a, by simp [xl_ev, xt_ev, y_v], ta, _, p1, p, rfl, by simp [xl_ev, xt_ev, y_v]⟩
    · rw [List.mem_singleton.mp hq]
      exact ⟨a, by simp [xl_ev, xt_ev, y_v], ta, _, z1, z, rfl, by simp [xl_ev, xt_ev, y_v]⟩
  · obtain ⟨v', -, -, hI', ef, p, hp, -, -, pa⟩ := h
    have hpn : p.1 = none := by
      simp only [c_188, List.mem_cons, List.not_mem_nil, or_false] at hp
      rcases hp with rfl | rfl | rfl <;> rfl
    rw [hpn] at pa
    cases r with
    | none => exact ⟨rfl, hI', ef⟩
    | some w => exact pa.elim
/-- the view behind effects elsewhere -/
theorem z_V.eff {th : List Nat} {E : List (Nat × Nat × Nat)} {G G' : List pE} {a rb sb : Nat} {F : Nat → Option Value} {rd st : Nat → Int32} (h : z_V th G a rb sb F rd st) (hI : xI x_tb th G') (he : x_eff th E G G') (h1 : y_out E 10 8 = true ∧ y_out E 10 35 = true) (h2 : ∀ i, i < 135 → y_out E 38 i = true) (h3 : ∀ i, i < 45 → y_out E 45 i = true) : ∃ F', z_V th G' a rb sb F' rd st ∧ ∀ k, y_out E 10 k = true → F' k = F k := by
  obtain ⟨hI0, ta, hF, f8, f35, tr, ts, hr, hs⟩ := h
  refine ⟨fun k => x_sl G' a k, ⟨hI, ta, fun _ => rfl, ?_, ?_, tr, ts, fun i hi => ?_, fun i hi => ?_⟩, fun k hk => ?_⟩
  · dsimp only; rw [he.at ta h1.1, hF]; exact f8
  · dsimp only; rw [he.at ta h1.2, hF]; exact f35
  · rw [he.at tr (h2 i hi)]; exact hr i hi
  · rw [he.at ts (h3 i hi)]; exact hs i hi
  · dsimp only
    rw [he.at ta hk, hF]
