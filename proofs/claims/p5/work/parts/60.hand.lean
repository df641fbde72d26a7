-- ===== segments: from any pc to ends and open cut points =====
/-- loops ns are checked; os are open -/
def x_seg (tb : Nat → xT) (cts : List xC) (M : pM) (D : xD) (E : List (Nat × Nat × Nat)) (m0 : Nat) (ps : List xP) (ns os : List xN) (f : Nat) (go : Bool) (pc : Nat) (g : xG) : Bool :=
  x_exec tb cts M D E m0 m0 ps (ns ++ os) none f go pc g
  && (ns ++ os).all (fun n => decide (m0 ≤ n.2.2.2.2.1) && decide (n.2.2.2.2.2.length = 5))
  && ns.all (fun n => n.2.2.2.2.2.all (fun r => r.1.all (fun q => decide (q.1 < n.2.2.2.2.1))) && x_exec tb cts M D E m0 n.2.2.2.2.1 ps (ns ++ os) (some n.2.2.2.2.2) f true n.1 (n.2.2.2.1, n.2.1, [], n.2.2.1, n.2.2.2.2.1))
section Y0
variable {tb : Nat → xT} {th : List Nat} {xs : Nat → Int32} {L J d dm m0 f : Nat} {M : pM} {D : xD} {cts : List xC} {E : List (Nat × Nat × Nat)} {ps : List xP} {ns os : List xN} {K : Option Value → List pE → Prop}
theorem x_seg_ok {go : Bool} {pc : Nat} {g : xG} {v : Nat → Int} {lv : pL} {ws : List Value} {G0 G : List pE} (hT : x_wf tb) (h36 : (tb 36).1 = 1 ∧ (tb 36).2.1 = 0 ∧ (tb 36).2.2.1 = 324) (hD : ∀ q ∈ D, decode M.code q.1 = .ok (q.2.1, q.2.2)) (hc : ∀ c ∈ cts, x_Holds tb th xs L J c dm) (hd : dm ≤ d) (h : x_seg tb cts M D E m0 ps ns os f go pc g = true)
    (hS : x_S tb th v g lv ws G) (hE : x_eff th E G0 G) (hQ : x_flag E = true → ∀ G1, x_eff th E G0 G1 → x_Q th G1) (hK : ∀ r G', x_Post tb th E ps m0 v G0 r G' → K r G')
    (hO : ∀ n ∈ os, ∀ (vn : Nat → Int) (lv : pL) (G1 : List pE), x_ag m0 v vn → x_S tb th vn (n.2.2.2.1, n.2.1, [], n.2.2.1, n.2.2.2.2.1) lv [] G1 → x_eff th E G0 G1 → x_Gd xs L J (d + 1) M K n.1 lv [] G1) :
    x_Gd xs L J (d + 1) M K pc lv ws G := by
  unfold x_seg at h
  rw [Bool.and_eq_true, Bool.and_eq_true] at h
  obtain ⟨⟨hent, hall⟩, hns⟩ := h
  have hall : ∀ n ∈ ns ++ os, m0 ≤ n.2.2.2.2.1 ∧ n.2.2.2.2.2.length = 5 := fun n hn => by
    have := List.all_eq_true.mp hall n hn
    simpa only [Bool.and_eq_true, decide_eq_true_eq] using this
  have nodes : ∀ a : List Nat, a.length = 5 → ∀ n ∈ ns ++ os, ∀ (vn : Nat → Int) (lv : pL) (G1 : List pE), n.2.2.2.2.2.map (fun l => (xl_ev l vn).toNat) = a → x_ag m0 v vn → x_S tb th vn (n.2.2.2.1, n.2.1, [], n.2.2.1, n.2.2.2.2.1) lv [] G1 → x_eff th E G0 G1 → x_Gd xs L J (d + 1) M K n.1 lv [] G1 := by
    refine x_lex_ind 5 _ (fun a ha ih n hn vn lv G1 hra hag hSn hEn => ?_)
    rcases List.mem_append.mp hn with hn1 | hn1
    · have h1 := List.all_eq_true.mp hns n hn1
      rw [Bool.and_eq_true] at h1
      refine x_exec_ok (vorg := vn) hT h36 hQ hK hD hc hd (hall n hn).1 (fun a' ha' r hr => ?_) (fun n' hn' vn' lv' G' hag' hS' hE' hlex => ?_) f true n.1 _ vn lv [] G1 h1.2 hag x_ag.rf hSn hEn
      · cases ha'
        exact List.all_eq_true.mp h1.1 r hr
      · have hl := hlex _ rfl
        rw [hra] at hl
        exact ih _ (by rw [List.length_map]; exact (hall n' hn').2) hl n' hn' vn' lv' G' rfl hag' hS' hE'
    · exact hO n hn1 vn lv G1 hag hSn hEn
  exact x_exec_ok (vorg := v) (v0 := v) (G0 := G0) hT h36 hQ hK hD hc hd (Nat.le_refl _) (fun a ha => by cases ha) (fun n hn vn lv G1 hag hSn hEn _ => nodes _ (by rw [List.length_map]; exact (hall n hn).2) n hn vn lv G1 rfl hag hSn hEn) f go pc g v lv ws G hent x_ag.rf x_ag.rf hS hE
/-- a contract with fewer constraints or other facts, by cases -/
theorem x_Holds_cases {c : xC} (hp : ∀ v : Nat → Int, x_Bd v → x_Cs c.2.2.1 v → ∃ c' : xC, x_Holds tb th xs L J c' dm ∧ c'.1 = c.1 ∧ c'.2.1 = c.2.1 ∧ c'.2.2.2.2 = c.2.2.2.2 ∧ x_Cs c'.2.2.1 v ∧ ∀ G, (∀ q ∈ c.2.2.2.1, x_fact th v G q) → ∀ q ∈ c'.2.2.2.1, x_fact th v G q) (hM : ∃ M, pm_tab[c.1]? = some M) : x_Holds tb th xs L J c dm := by
  obtain ⟨M, hM⟩ := hM
  refine ⟨M, hM, fun d hd v as G hB hC hg hf hI hQ => ?_⟩
  obtain ⟨c', h1, h2, h3, h4, h5, h6⟩ := hp v hB hC
  obtain ⟨M', hM', h7⟩ := h1
  rw [h2, hM] at hM'
  cases hM'
  have := h7 d hd v as G hB h5 (by rw [h3]; exact hg) (h6 G hf) hI (by rw [h4]; exact hQ)
  rw [h4] at this
  exact this
end Y0
theorem y_dec {k : Nat} {M : pM} {D : xD} (h : x_dchk k D = true) (hM : pm_tab[k]? = some M) : ∀ q ∈ D, decode M.code q.1 = .ok (q.2.1, q.2.2) := by
  unfold x_dchk at h
  rw [hM] at h
  exact fun q hq => of_decide_eq_true (List.all_eq_true.mp h q hq)
-- ===== steps by hand =====
section Y1
variable {tb : Nat → xT} {th : List Nat} {xs : Nat → Int32} {L J d : Nat} {M : pM} {K : Option Value → List pE → Prop} {pc : Nat} {lv : pL} {r : List Value} {G : List pE}
theorem y_st {i : Instr} {n pc' : Nat} {lv' : pL} {ws ws' : List Value} {G1 : List pE} (hd : decode M.code pc = .ok (i, n)) (hs : pm_len i n = n ∧ x_isRet i = false ∧ pm_call i = none ∧ pm_step M.own M.maxL (decide (M.y.name = "<init>")) xs L J i pc lv ws G = some (pc', lv', ws', G1, 0, 0)) (hk : x_Gd xs L J d M K pc' lv' ws' G1) : x_Gd xs L J d M K pc lv ws G :=
  hk.via (fun _ _ h => x_runs_step hd hs.1 hs.2.1 hs.2.2.1 hs.2.2.2 h)
theorem y_ret {i : Instr} {n : Nat} {ws : List Value} {w : Option Value} (hd : decode M.code pc = .ok (i, n)) (hr : pm_len i n = n ∧ pm_ret i M.ret ws = some w) (hk : K w G) : x_Gd xs L J d M K pc lv ws G := ⟨w, G, x_runs_ret hd hr.1 hr.2, hk⟩
theorem y_il {j : Nat} {x : Int32} (hd : decode M.code pc = .ok (Instr.iload j, 2)) (hg : pm_get lv j = some (.int x)) (hk : x_Gd xs L J d M K (pc + 2) lv (.int x :: r) G) : x_Gd xs L J d M K pc lv r G := y_st hd ⟨rfl, rfl, rfl, by dsimp only [pm_step]; rw [hg]⟩ hk
theorem y_iln {j : Fin 4} {x : Int32} (hd : decode M.code pc = .ok (Instr.iload_n j, 1)) (hg : pm_get lv (j : Nat) = some (.int x)) (hk : x_Gd xs L J d M K (pc + 1) lv (.int x :: r) G) : x_Gd xs L J d M K pc lv r G := y_st hd ⟨rfl, rfl, rfl, by dsimp only [pm_step]; rw [hg]⟩ hk
theorem y_aln {j : Fin 4} {x : Nat} (hd : decode M.code pc = .ok (Instr.aload_n j, 1)) (hg : pm_get lv (j : Nat) = some (.ref x)) (hk : x_Gd xs L J d M K (pc + 1) lv (.ref x :: r) G) : x_Gd xs L J d M K pc lv r G := y_st hd ⟨rfl, rfl, rfl, by dsimp only [pm_step]; rw [hg]⟩ hk
theorem y_isn {j : Fin 4} {x : Int32} (hd : decode M.code pc = .ok (Instr.istore_n j, 1)) (hl : (j : Nat) < M.maxL) (hk : x_Gd xs L J d M K (pc + 1) (pm_put1 lv (j : Nat) (.int x)) r G) : x_Gd xs L J d M K pc lv (.int x :: r) G := y_st hd ⟨rfl, rfl, rfl, by dsimp only [pm_step]; rw [if_pos hl]⟩ hk
theorem y_is {j : Nat} {x : Int32} (hd : decode M.code pc = .ok (Instr.istore j, 2)) (hl : j < M.maxL) (hk : x_Gd xs L J d M K (pc + 2) (pm_put1 lv j (.int x)) r G) : x_Gd xs L J d M K pc lv (.int x :: r) G := y_st hd ⟨rfl, rfl, rfl, by dsimp only [pm_step]; rw [if_pos hl]⟩ hk
theorem y_iinc {j : Nat} {n : Int} {x : Int32} (hd : decode M.code pc = .ok (Instr.iinc j n, 3)) (hg : pm_get lv j = some (.int x)) (hl : j < M.maxL) (hk : x_Gd xs L J d M K (pc + 3) (pm_put1 lv j (.int (x + Int32.ofInt n))) r G) : x_Gd xs L J d M K pc lv r G := y_st hd ⟨rfl, rfl, rfl, by dsimp only [pm_step]; rw [hg]; dsimp only; rw [if_pos hl]⟩ hk
theorem y_ifc {c : ClassFile.Cond} {o : Int} {x : Int32} {t : Nat} (hd : decode M.code pc = .ok (Instr.ifCond c o, 3)) (ht : pm_tgt pc o = some t) (h1 : pm_holds c x 0 = true → x_Gd xs L J d M K t lv r G) (h2 : pm_holds c x 0 = false → x_Gd xs L J d M K (pc + 3) lv r G) : x_Gd xs L J d M K pc lv (.int x :: r) G := by
  cases hb : pm_holds c x 0 with
  | true => exact y_st hd ⟨rfl, rfl, rfl, by dsimp only [pm_step, pm_if]; rw [hb, ht]; rfl⟩ (h1 hb)
  | false => exact y_st hd ⟨rfl, rfl, rfl, by dsimp only [pm_step, pm_if]; rw [hb, ht]; rfl⟩ (h2 hb)
theorem y_icm {c : ClassFile.Cond} {o : Int} {x y : Int32} {t : Nat} (hd : decode M.code pc = .ok (Instr.if_icmp c o, 3)) (ht : pm_tgt pc o = some t) (h1 : pm_holds c x y = true → x_Gd xs L J d M K t lv r G) (h2 : pm_holds c x y = false → x_Gd xs L J d M K (pc + 3) lv r G) : x_Gd xs L J d M K pc lv (.int y :: .int x :: r) G := by
  cases hb : pm_holds c x y with
  | true => exact y_st hd ⟨rfl, rfl, rfl, by dsimp only [pm_step, pm_if]; rw [hb, ht]; rfl⟩ (h1 hb)
  | false => exact y_st hd ⟨rfl, rfl, rfl, by dsimp only [pm_step, pm_if]; rw [hb, ht]; rfl⟩ (h2 hb)
theorem y_getf {a t k : Nat} {q : Nat × Nat × Nat × Nat × Nat × Nat} {v : Value} (hI : xI tb th G) (ha : th[a]? = some t) (hd : decode M.code pc = .ok (Instr.getfield k, 3)) (hq : pm_ftab.find? (fun r => r.1 == M.own && r.2.1 == k) = some q) (ht : (tb t).1 = 0 ∧ (tb t).2.1 = q.2.2.1) (hv : x_sl G a q.2.2.2.1 = some v) (hk : x_Gd xs L J d M K (pc + 3) lv (v :: r) G) : x_Gd xs L J d M K pc lv (.ref a :: r) G := by
  obtain ⟨e, he, hs⟩ := (hI.2.2 a t ha).1
  obtain ⟨fs, rfl, -⟩ := x_obj hs ht.1
  have h2 := (hI.cell ha).2.1
  have hv' : fs[q.2.2.2.1]? = some v := by
    unfold x_sl at hv
    rw [he] at hv
    exact hv
  refine y_st hd ⟨rfl, rfl, rfl, ?_⟩ hk
  dsimp only [pm_step]
  rw [h2]
  rw [if_neg (by decide), hq]
  dsimp only
  rw [he]
  dsimp only
  rw [if_pos ht.2, hv']
theorem y_idx {j : Int32} {n : Nat} (h0 : 0 ≤ j.toInt) (h1 : j.toInt < n) : j.toNatClampNeg = j.toInt.toNat ∧ pm_bad j n = false := by
  have e : j.toNatClampNeg = j.toInt.toNat := rfl
  refine ⟨e, ?_⟩
  unfold pm_bad
  rw [Bool.or_eq_false_iff, decide_eq_false_iff_not, decide_eq_false_iff_not, e, Int32.lt_iff_toInt_lt]
  refine ⟨fun h => ?_, by omega⟩
  rw [show (0 : Int32).toInt = 0 from rfl] at h
  omega
theorem y_iald {a t : Nat} {j x : Int32} (hI : xI tb th G) (ha : th[a]? = some t) (hd : decode M.code pc = .ok (Instr.iaload, 1)) (ht : (tb t).1 = 1 ∧ (tb t).2.1 = 0) (hj : 0 ≤ j.toInt) (hv : x_sl G a j.toInt.toNat = some (.int x)) (hk : x_Gd xs L J d M K (pc + 1) lv (.int x :: r) G) : x_Gd xs L J d M K pc lv (.int j :: .ref a :: r) G := by
  obtain ⟨e, he, hs⟩ := (hI.2.2 a t ha).1
  obtain ⟨f, rfl⟩ := x_arr_int hs ht.1 (by omega)
  unfold x_sl at hv
  rw [he] at hv
  have hv : (if j.toInt.toNat < (tb t).2.2.1 then some (Value.int (f j.toInt.toNat)) else none) = some (.int x) := hv
  split at hv
  · rename_i hlt
    cases hv
    obtain ⟨i1, i2⟩ := y_idx (n := (tb t).2.2.1) hj (by omega)
    refine y_st hd ⟨rfl, rfl, rfl, ?_⟩ hk
    dsimp only [pm_step]
    rw [if_neg (hI.cell ha).2.2.1, he, ht.2]
    show (if pm_bad j _ = true then none else some (pc + 1, lv, Value.int (f j.toNatClampNeg) :: r, G, 0, 0)) = _
    rw [i2, i1]
    rfl
  · cases hv
theorem y_bald {a t : Nat} {j x : Int32} (hI : xI tb th G) (ha : th[a]? = some t) (hd : decode M.code pc = .ok (Instr.baload, 1)) (ht : (tb t).1 = 1 ∧ ((tb t).2.1 = 1 ∨ (tb t).2.1 = 2)) (hj : 0 ≤ j.toInt) (hv : x_sl G a j.toInt.toNat = some (.int x)) (hk : x_Gd xs L J d M K (pc + 1) lv (.int x :: r) G) : x_Gd xs L J d M K pc lv (.int j :: .ref a :: r) G := by
  obtain ⟨e, he, hs⟩ := (hI.2.2 a t ha).1
  obtain ⟨f, rfl⟩ := x_arr_int hs ht.1 (by omega)
  unfold x_sl at hv
  rw [he] at hv
  have hv : (if j.toInt.toNat < (tb t).2.2.1 then some (Value.int (f j.toInt.toNat)) else none) = some (.int x) := hv
  split at hv
  · rename_i hlt
    cases hv
    obtain ⟨i1, i2⟩ := y_idx (n := (tb t).2.2.1) hj (by omega)
    refine y_st hd ⟨rfl, rfl, rfl, ?_⟩ hk
    dsimp only [pm_step]
    rcases ht.2 with h | h
    · rw [he, h]
      show (if pm_bad j _ = true then none else some (pc + 1, lv, Value.int (f j.toNatClampNeg) :: r, G, 0, 0)) = _
      rw [i2, i1]
      rfl
    · rw [he, h]
      show (if pm_bad j _ = true then none else some (pc + 1, lv, Value.int (f j.toNatClampNeg) :: r, G, 0, 0)) = _
      rw [i2, i1]
      rfl
  · cases hv
theorem y_lald {a t : Nat} {j : Int32} {x : Int64} (hI : xI tb th G) (ha : th[a]? = some t) (hd : decode M.code pc = .ok (Instr.laload, 1)) (ht : (tb t).1 = 1 ∧ (tb t).2.1 = 3) (hj : 0 ≤ j.toInt) (hv : x_sl G a j.toInt.toNat = some (.long x)) (hk : x_Gd xs L J d M K (pc + 1) lv (.long x :: r) G) : x_Gd xs L J d M K pc lv (.int j :: .ref a :: r) G := by
  obtain ⟨e, he, hs⟩ := (hI.2.2 a t ha).1
  obtain ⟨f, rfl⟩ := x_arr_long hs ht.1 ht.2
  unfold x_sl at hv
  rw [he] at hv
  have hv : (if j.toInt.toNat < (tb t).2.2.1 then some (Value.long (f j.toInt.toNat)) else none) = some (.long x) := hv
  split at hv
  · rename_i hlt
    cases hv
    obtain ⟨i1, i2⟩ := y_idx (n := (tb t).2.2.1) hj (by omega)
    refine y_st hd ⟨rfl, rfl, rfl, ?_⟩ hk
    dsimp only [pm_step]
    rw [he]
    show (if pm_bad j _ = true then none else some (pc + 1, lv, Value.long (f j.toNatClampNeg) :: r, G, 0, 0)) = _
    rw [i2, i1]
    rfl
  · cases hv
theorem y_iast {a t : Nat} {j x : Int32} (hI : xI tb th G) (ha : th[a]? = some t) (hd : decode M.code pc = .ok (Instr.iastore, 1)) (ht : (tb t).1 = 1 ∧ (tb t).2.1 = 0) (hj : 0 ≤ j.toInt ∧ j.toInt < (tb t).2.2.1) (hk : ∀ G1, x_upd G G1 a j.toInt.toNat (.int x) → x_Gd xs L J d M K (pc + 1) lv r G1) : x_Gd xs L J d M K pc lv (.int x :: .int j :: .ref a :: r) G := by
  obtain ⟨e, he, hs⟩ := (hI.2.2 a t ha).1
  obtain ⟨f, rfl⟩ := x_arr_int hs ht.1 (by omega)
  obtain ⟨i1, i2⟩ := y_idx (n := (tb t).2.2.1) hj.1 hj.2
  have hu := x_upd_int (x := x) (i := j.toInt.toNat) he (by omega)
  refine y_st hd ⟨rfl, rfl, rfl, ?_⟩ (hk _ hu)
  dsimp only [pm_step]
  rw [he, ht.2]
  show (if pm_bad j _ = true then none else some (pc + 1, lv, r, G.set a (.inl (0, _, .inl (upd f j.toNatClampNeg x))), 0, 0)) = _
  rw [i2, i1]
  rfl
theorem y_last {a t : Nat} {j : Int32} {x : Int64} (hI : xI tb th G) (ha : th[a]? = some t) (hd : decode M.code pc = .ok (Instr.lastore, 1)) (ht : (tb t).1 = 1 ∧ (tb t).2.1 = 3) (hj : 0 ≤ j.toInt ∧ j.toInt < (tb t).2.2.1) (hk : ∀ G1, x_upd G G1 a j.toInt.toNat (.long x) → x_Gd xs L J d M K (pc + 1) lv r G1) : x_Gd xs L J d M K pc lv (.long x :: .int j :: .ref a :: r) G := by
  obtain ⟨e, he, hs⟩ := (hI.2.2 a t ha).1
  obtain ⟨f, rfl⟩ := x_arr_long hs ht.1 ht.2
  obtain ⟨i1, i2⟩ := y_idx (n := (tb t).2.2.1) hj.1 hj.2
  have hu := x_upd_long (x := x) (i := j.toInt.toNat) he (by omega)
  refine y_st hd ⟨rfl, rfl, rfl, ?_⟩ (hk _ hu)
  dsimp only [pm_step]
  rw [he]
  show (if pm_bad j _ = true then none else some (pc + 1, lv, r, G.set a (.inl (3, _, .inr (.inl (vp_updL f j.toNatClampNeg x)))), 0, 0)) = _
  rw [i2, i1]
  rfl
theorem y_putf {a t k : Nat} {q : Nat × Nat × Nat × Nat × Nat × Nat} {v : Value} {f : xF} (hI : xI tb th G) (ha : th[a]? = some t) (hd : decode M.code pc = .ok (Instr.putfield k, 3)) (hq : pm_ftab.find? (fun r => r.1 == M.own && r.2.1 == k) = some q) (ht : (tb t).1 = 0 ∧ (tb t).2.1 = q.2.2.1 ∧ q.2.2.2.1 < (tb t).2.2.1 ∧ pm_fin q.2.2.1 q.2.2.2.1 = false ∧ x_jty (pm_ty q.2.2.1 q.2.2.2.1) f = true) (hv : xf_ok th f v) (hk : ∀ G1, x_upd G G1 a q.2.2.2.1 v → x_Gd xs L J d M K (pc + 3) lv r G1) : x_Gd xs L J d M K pc lv (v :: .ref a :: r) G := by
  obtain ⟨e, he, hs⟩ := (hI.2.2 a t ha).1
  obtain ⟨k1, k2, k3, k4, k5⟩ := ht
  obtain ⟨fs, rfl, hlen⟩ := x_obj hs k1
  obtain ⟨j1, j2⟩ := x_jty_ok k5 hv
  have hlt : q.2.2.2.1 < fs.length := by omega
  have hu := x_upd_put (v := v) he hlt
  refine y_st hd ⟨rfl, rfl, rfl, ?_⟩ (hk _ hu)
  dsimp only [pm_step]
  rw [hq]
  dsimp only
  rw [he]
  dsimp only
  rw [k2, if_pos ⟨rfl, hlt, j1, j2, fun z => by rw [k4] at z; cases z⟩]
end Y1
theorem y_ri {x : Int32} : pm_ret .ireturn (some FieldType.int) [.int x] = some (some (.int x)) := by
  dsimp only [pm_ret]
  rw [if_pos ⟨rfl, Or.inl rfl⟩]
theorem y_rb {x : Int32} (h : x = 0 ∨ x = 1) : pm_ret .ireturn (some FieldType.boolean) [.int x] = some (some (.int x)) := by
  rcases h with rfl | rfl <;> rfl
section Y2
variable {tb : Nat → xT} {th : List Nat} {xs : Nat → Int32} {L J d : Nat} {M : pM} {K : Option Value → List pE → Prop} {pc : Nat} {lv : pL} {G : List pE}
theorem y_call {i : Instr} {n w k : Nat} {q : Nat × Nat × Nat × Nat × Nat} {M' : pM} {ws : List Value} {K' : Option Value → List pE → Prop} (hd : decode M.code pc = .ok (i, n)) (hn : pm_len i n = n ∧ x_isRet i = false ∧ pm_call i = some (w, k)) (hf : pm_ctab.find? (fun r => r.1 == M.own && r.2.1 == k) = some q) (h0 : q.2.2.1 ≠ 0 ∧ q.2.2.1 ≠ 7 ∧ q.2.2.1 ≠ 8 ∧ q.2.2.1 ≠ 9) (hM' : pm_tab[q.2.2.2.1]? = some M')
    (hok : (q.2.2.1 = w ∨ q.2.2.1 = w + 3) ∧ pm_na M' ≤ ws.length ∧ pm_recv q.2.2.1 M' (ws.take (pm_na M')).reverse G = true ∧ (lg_sl (ws.take (pm_na M')).reverse).length ≤ M'.maxL ∧ ((ws.drop (pm_na M')).map fun v => v.category).sum ≤ 8)
    (h1 : x_Gd xs L J d M' K' 0 (lv_args 0 (ws.take (pm_na M')).reverse) [] G) (hk : ∀ r1 G1, K' r1 G1 → x_Gd xs L J (d + 1) M K (pc + 3) lv (r1.toList ++ ws.drop (pm_na M')) G1) : x_Gd xs L J (d + 1) M K pc lv ws G := by
  obtain ⟨r1, G1, a1, a2⟩ := h1
  exact (hk r1 G1 a2).via (fun r G' h => x_runs_call hd hn.1 hn.2.1 hn.2.2 hf h0 hM' hok a1 h)
/-- what a contract gives -/
theorem x_Holds.gd {c : xC} {dm : Nat} {M' : pM} (h : x_Holds tb th xs L J c dm) (hM : pm_tab[c.1]? = some M') (hd : dm ≤ d) {v : Nat → Int} {as : List Value} (hB : x_Bd v) (hC : x_Cs c.2.2.1 v) (hg : x_gs th v c.2.1 as) (hf : ∀ q ∈ c.2.2.2.1, x_fact th v G q) (hI : xI tb th G) (hQ : x_flag c.2.2.2.2.2.1 = true → x_Q th G) : x_Gd xs L J d M' (x_Post tb th c.2.2.2.2.2.1 c.2.2.2.2.2.2.2 c.2.2.2.2.1 v G) 0 (lv_args 0 as) [] G := by
  obtain ⟨M0, h1, h2⟩ := h
  rw [hM] at h1
  cases h1
  obtain ⟨r, G', v', a1, a2, a3, a4, a5, a6⟩ := h2 d hd v as G hB hC hg hf hI hQ
  exact ⟨r, G', a1, v', a2, a3, a4, a5, a6⟩
/-- the receiver of a call by hand -/
theorem y_recv {a t kd : Nat} {M' : pM} {as : List Value} (hI : xI tb th G) (ha : th[a]? = some t) (ht : (tb t).1 = 0 ∧ (tb t).2.1 = M'.ci) : pm_recv kd M' (.ref a :: as) G = true := by
  obtain ⟨e, he, hs⟩ := (hI.2.2 a t ha).1
  obtain ⟨fs, rfl, -⟩ := x_obj hs ht.1
  unfold pm_recv
  cases M'.st with
  | true => rfl
  | false =>
    dsimp only
    split
    · rfl
    · rfl
    · rw [he]
      dsimp only
      rw [ht.2]
      simp
end Y2
