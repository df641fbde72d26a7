-- the tables against the Statement's words, by program
def pm_fchk (r : Nat × Nat × Nat × Nat × Nat × Nat) : Bool := match vwCl[r.2.2.1]? with
  | none => false
  | some q => decide (r.2.2.2.1 < q.2.2) && (match r.2.2.2.2.1 with
    | 0 => decide (lw_tbl[r.2.2.2.2.2]? = some (.fieldLink (pm_own r.1) r.2.1 (q.2.1 r.2.2.2.1).1 (q.2.1 r.2.2.2.1).2.1 (q.2.1 r.2.2.2.1).2.2.1))
    | _ => decide (lw_tbl[r.2.2.2.2.2]? = some (.fieldLinkNest (pm_own r.1) r.2.1 (q.2.1 r.2.2.2.1).1 (q.2.1 r.2.2.2.1).2.1 (q.2.1 r.2.2.2.1).2.2.1 "BreathingHill")))
set_option maxRecDepth 100000 in
set_option maxHeartbeats 4000000 in
theorem pm_f_ok : pm_ftab.all pm_fchk = true := by decide +kernel
def pm_schk (r : Nat × Nat × Nat × Nat) : Bool := if r.2.2.1 < 35 then decide (lw_tbl[r.2.2.2]? = some (.fieldLink (pm_own r.1) r.2.1 "BreathingHill$Token" (pm_tok.getD r.2.2.1 "") "LBreathingHill$Token;")) else decide (lw_tbl[r.2.2.2]? = some (.fieldLink (pm_own r.1) r.2.1 "BreathingHill$Tape" "TOKENS" "[LBreathingHill$Token;"))
set_option maxRecDepth 100000 in
set_option maxHeartbeats 4000000 in
theorem pm_s_ok : pm_stab.all pm_schk = true := by decide +kernel
def pm_kchk (r : Nat × Nat × Int32 × Nat) : Bool := decide (lw_tbl[r.2.2.2]? = some (.constant (pm_own r.1) r.2.1 r.2.2.1))
set_option maxRecDepth 100000 in
theorem pm_k_ok : pm_ktab.all pm_kchk = true := by decide +kernel
def pm_lchk (r : Nat × Nat × Int64 × Nat) : Bool := decide (lw_tbl[r.2.2.2]? = some (.constantLong (pm_own r.1) r.2.1 r.2.2.1))
set_option maxRecDepth 100000 in
theorem pm_l_ok : pm_ltab.all pm_lchk = true := by decide +kernel
def pm_arr (t : Nat) : FieldType := match t with
  | 0 => .int
  | 1 => .byte
  | 2 => .boolean
  | 3 => .long
  | 4 => .object "BreathingHill$Token"
  | 5 => .object "BreathingHill$Thing"
  | 6 => .object "BreathingHill$Mill"
  | 7 => .object "BreathingHill$Man"
  | 8 => .object "BreathingHill$Hill"
  | _ => .object "BreathingHill$Sentence"
def pm_arrC (t : Nat) : String := match t with
  | 4 => "BreathingHill$Token"
  | 5 => "BreathingHill$Thing"
  | 6 => "BreathingHill$Mill"
  | 7 => "BreathingHill$Man"
  | 8 => "BreathingHill$Hill"
  | _ => "BreathingHill$Sentence"
def pm_nchk (r : Nat × Nat × Nat × Nat × Nat × Nat × Nat × Nat) : Bool :=
  (match vwCl[r.2.2.1]? with
  | none => true
  | some q => decide (lw_tbl[r.2.2.2.2.1]? = some (.classLink (pm_own r.1) r.2.1 q.1)) && decide (lw_tbl[r.2.2.2.2.2.1]? = some (.instantiable q.1 q.2.2)) && decide (lw_tbl[r.2.2.2.2.2.2.1]? = some (.initialized q.1)))
  && (if 4 ≤ r.2.2.2.1 ∧ r.2.2.2.1 < 10 then decide (lw_tbl[r.2.2.2.2.1]? = some (.classLink (pm_own r.1) r.2.1 (pm_arrC r.2.2.2.1))) && decide (lw_tbl[r.2.2.2.2.2.2.2]? = some (.arrayOver (.object (pm_arrC r.2.2.2.1)))) else true)
set_option maxRecDepth 100000 in
theorem pm_n_ok : pm_ntab.all pm_nchk = true := by decide +kernel
/-- parts of a method's row -/
abbrev pM.y (M : pM) : MethodName := M.1
def pm_codeAt (i : Nat) : ByteArray := match lw_tbl[i]? with
  | some (.code _ c _ _) => c
  | _ => code
abbrev pM.p0 (M : pM) : Nat := M.2.1
abbrev pM.code (M : pM) : ByteArray := pm_codeAt M.p0
abbrev pM.maxL (M : pM) : Nat := M.2.2.1
abbrev pM.ret (M : pM) : Option FieldType := M.2.2.2.1
abbrev pM.own (M : pM) : Nat := M.2.2.2.2.1
abbrev pM.np (M : pM) : Nat := M.2.2.2.2.2.1
abbrev pM.st (M : pM) : Bool := M.2.2.2.2.2.2.1
abbrev pM.ci (M : pM) : Nat := M.2.2.2.2.2.2.2.1
abbrev pM.p1 (M : pM) : Nat := M.2.2.2.2.2.2.2.2.1
abbrev pM.p2 (M : pM) : Nat := M.2.2.2.2.2.2.2.2.2.1
abbrev pM.p3 (M : pM) : Nat := M.2.2.2.2.2.2.2.2.2.2
def pm_mchk (M : pM) : Bool := (match lw_tbl[M.p0]? with
  | some (.code y _ n r) => decide (y = M.y ∧ n = M.maxL ∧ r = M.ret)
  | _ => false) && decide (M.y.cls = pm_own M.own) && decide (M.maxL ≤ 9)
  && (decide (M.y.cls = "java/lang/Object") || decide (plainName M.y.cls = true ∧ lw_tbl[M.p1]? = some (.initialized M.y.cls) ∧ (parseMethodDescriptor M.y.desc).map (fun d => d.parameters.length) = some M.np ∧ M.y.cls ≠ "java/lang/invoke/MethodHandle" ∧ M.y.cls ≠ "java/lang/invoke/VarHandle")
    && (match M.st with
      | true => decide (lw_tbl[M.p2]? = some (.static M.y))
      | false => decide (lw_tbl[M.p2]? = some (.instanceMethod M.y)) && (decide (M.y.name = "<init>") || (decide (lw_tbl[M.p3]? = some (.selects M.y.cls M.y M.y)) && decide ((vwCl[M.ci]?).map (fun q => q.1) = some M.y.cls)))))
set_option maxRecDepth 100000 in
set_option maxHeartbeats 4000000 in
theorem pm_m0 : pm_tab0.all pm_mchk = true := by decide +kernel
set_option maxRecDepth 100000 in
set_option maxHeartbeats 4000000 in
theorem pm_m1 : pm_tab1.all pm_mchk = true := by decide +kernel
set_option maxRecDepth 100000 in
set_option maxHeartbeats 4000000 in
theorem pm_m2 : pm_tab2.all pm_mchk = true := by decide +kernel
set_option maxRecDepth 100000 in
set_option maxHeartbeats 4000000 in
theorem pm_m3 : pm_tab3.all pm_mchk = true := by decide +kernel
set_option maxRecDepth 100000 in
set_option maxHeartbeats 4000000 in
theorem pm_m4 : pm_tab4.all pm_mchk = true := by decide +kernel
set_option maxRecDepth 100000 in
set_option maxHeartbeats 4000000 in
theorem pm_m5 : pm_tab5.all pm_mchk = true := by decide +kernel
theorem pm_m_ok : ∀ M ∈ pm_tab, pm_mchk M = true := by
  intro M h
  simp only [pm_tab, List.mem_append] at h
  rcases h with h | h | h | h | h | h
  · exact List.all_eq_true.mp pm_m0 M h
  · exact List.all_eq_true.mp pm_m1 M h
  · exact List.all_eq_true.mp pm_m2 M h
  · exact List.all_eq_true.mp pm_m3 M h
  · exact List.all_eq_true.mp pm_m4 M h
  · exact List.all_eq_true.mp pm_m5 M h
/-- a call's word, its method and kind -/
def pm_mname (k : Nat) : MethodName := match k with
  | 7 => ⟨"java/lang/Math", "max", "(II)I"⟩
  | 8 => ⟨"java/lang/Math", "min", "(II)I"⟩
  | _ => ⟨"java/lang/Math", "abs", "(I)I"⟩
def pm_cchk (r : Nat × Nat × Nat × Nat × Nat) : Bool := if 7 ≤ r.2.2.1 then decide (lw_tbl[r.2.2.2.2]? = some (.methodLink (pm_own r.1) r.2.1 (pm_mname r.2.2.1))) else match pm_tab[r.2.2.2.1]? with
  | none => false
  | some M => (match r.2.2.1 with
    | 0 => decide (M.y = Lib.objectInit ∧ M.maxL = 1 ∧ M.ret = none ∧ lw_tbl[M.p2]? = some (.instanceMethod M.y)) && decide (lw_tbl[r.2.2.2.2]? = some (.methodLink (pm_own r.1) r.2.1 M.y))
    | 1 => decide (lw_tbl[r.2.2.2.2]? = some (.methodLink (pm_own r.1) r.2.1 M.y)) && decide (M.st = false ∧ M.y.name ≠ "<init>" ∧ M.y.cls ≠ "java/lang/Object")
    | 2 => decide (lw_tbl[r.2.2.2.2]? = some (.methodLink (pm_own r.1) r.2.1 M.y)) && decide (M.st = true ∧ M.y.cls ≠ "java/lang/Object")
    | 3 => decide (lw_tbl[r.2.2.2.2]? = some (.methodLink (pm_own r.1) r.2.1 M.y)) && decide (M.st = false ∧ M.y.name = "<init>" ∧ M.y.cls ≠ "java/lang/Object" ∧ M.ret = none)
    | 4 => decide (lw_tbl[r.2.2.2.2]? = some (.methodLinkNest (pm_own r.1) r.2.1 M.y "BreathingHill")) && decide (M.st = false ∧ M.y.name ≠ "<init>" ∧ M.y.cls ≠ "java/lang/Object")
    | 5 => decide (lw_tbl[r.2.2.2.2]? = some (.methodLinkNest (pm_own r.1) r.2.1 M.y "BreathingHill")) && decide (M.st = true ∧ M.y.cls ≠ "java/lang/Object")
    | _ => decide (lw_tbl[r.2.2.2.2]? = some (.methodLinkNest (pm_own r.1) r.2.1 M.y "BreathingHill")) && decide (M.st = false ∧ M.y.name = "<init>" ∧ M.y.cls ≠ "java/lang/Object" ∧ M.ret = none))
set_option maxRecDepth 100000 in
set_option maxHeartbeats 4000000 in
theorem pm_c_ok : pm_ctab.all pm_cchk = true := by decide +kernel
