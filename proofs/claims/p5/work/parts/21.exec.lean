-- ===== what the s of the model keeps besides its types; copies =====
/-- the depth behind i codes -/
def x_dep (f : Nat → Option Value) : Nat → Int
  | 0 => 0
  | i + 1 => match f (144 + 3 * i) with
    | some (.int x) => if x = 20 then x_dep f i else if x = 21 ∨ x = 22 then x_dep f i - 1 else x_dep f i + 1
    | _ => x_dep f i
def x_Qs (f : Nat → Option Value) : Prop :=
  (∀ (n x : Int32) (t : Nat), f 3 = some (.int n) → (t : Int) < n.toInt → t < 8 → f (41 + t) = some (.int x) → 1 ≤ x.toInt)
  ∧ ∀ (n x : Int32) (i : Nat), f 143 = some (.int n) → (i : Int) < n.toInt → f (144 + 3 * i) = some (.int x) → (x = 20 → 1 ≤ x_dep f i) ∧ (x = 21 ∨ x = 22 → 2 ≤ x_dep f i)
def x_Q (th : List Nat) (G : List pE) : Prop := ∀ a : Nat, th[a]? = some 36 → x_Qs (x_sl G a)
/-- needs x_Q -/
def x_flag (E : List (Nat × Nat × Nat)) : Bool := E.any (fun q => q.1 == 1000)
/-- leaves x_Q -/
def x_dis (E : List (Nat × Nat × Nat)) : Bool := E.all (fun q => !(q.1 == 36) || (decide (q.2.2 < 143) && (decide (3 < q.2.1) || decide (q.2.2 < 3)) && (decide (48 < q.2.1) || decide (q.2.2 < 41))))
theorem x_dep_congr {f g : Nat → Option Value} (h : ∀ i, 143 ≤ i → g i = f i) : ∀ i, x_dep g i = x_dep f i
  | 0 => rfl
  | i + 1 => by
    unfold x_dep
    rw [h (144 + 3 * i) (by omega), x_dep_congr h i]
theorem x_Qs_congr {f g : Nat → Option Value} (h : ∀ i, 143 ≤ i ∨ i = 3 ∨ (41 ≤ i ∧ i ≤ 48) → g i = f i) (hf : x_Qs f) : x_Qs g := by
  refine ⟨fun n x t h1 h2 h3 h4 => hf.1 n x t (by rw [← h 3 (by omega)]; exact h1) h2 h3 (by rw [← h _ (by omega)]; exact h4), fun n x i h1 h2 h3 => ?_⟩
  rw [x_dep_congr (fun i hi => h i (Or.inl hi))]
  exact hf.2 n x i (by rw [← h 143 (by omega)]; exact h1) h2 (by rw [← h _ (by omega)]; exact h3)
theorem x_Q_eff {th : List Nat} {E : List (Nat × Nat × Nat)} {G G' : List pE} (hd : x_dis E = true) (he : x_eff th E G G') (h : x_Q th G) : x_Q th G' := by
  intro a ha
  refine x_Qs_congr (fun i hi => he a 36 i ha (fun q hq hh => ?_)) (h a ha)
  have := List.all_eq_true.mp hd q hq
  simp only [Bool.or_eq_true, Bool.not_eq_true', beq_eq_false_iff_ne, Bool.and_eq_true, decide_eq_true_eq] at this
  omega
/-- all values of the symbols is in their bounds -/
def x_en (P : Int → Int → Bool) (cs : List xL) : List Nat → xL → xL → Bool
  | [], a, b => decide (a.1 = [] ∧ b.1 = []) && P a.2 b.2
  | i :: is, a, b => decide (x_hi cs i - x_lo cs i ≤ 1000) && (List.range (x_hi cs i - x_lo cs i + 1).toNat).all (fun k => x_en P cs is (xl_subst (fun j => if j = i then xl_c (x_lo cs i + k) else xl_s j) a) (xl_subst (fun j => if j = i then xl_c (x_lo cs i + k) else xl_s j) b))
theorem x_en_ok {v : Nat → Int} {P : Int → Int → Bool} {cs : List xL} (hB : x_Bd v) (hC : x_Cs cs v) : ∀ (is : List Nat) (a b : xL), x_en P cs is a b = true → P (xl_ev a v) (xl_ev b v) = true
  | [], a, b, h => by
    unfold x_en at h
    rw [Bool.and_eq_true, decide_eq_true_eq] at h
    obtain ⟨⟨h1, h2⟩, h3⟩ := h
    unfold xl_ev
    rw [h1, h2]
    simpa [xt_ev] using h3
  | i :: is, a, b, h => by
    unfold x_en at h
    rw [Bool.and_eq_true] at h
    have l1 := x_lo_ok hB i cs hC
    have l2 := x_hi_ok hB i cs hC
    have hk := List.all_eq_true.mp h.2 (v i - x_lo cs i).toNat (List.mem_range.mpr (by omega))
    have hx : x_lo cs i + ((v i - x_lo cs i).toNat : Int) = v i := by omega
    rw [hx] at hk
    have := x_en_ok hB hC is _ _ hk
    rw [xl_subst_ev, xl_subst_ev] at this
    have hf : (fun j => xl_ev (if j = i then xl_c (v i) else xl_s j) v) = v := by
      funext j
      by_cases hj : j = i
      · rw [if_pos hj, xl_c_ev, hj]
      · rw [if_neg hj, xl_s_ev]
    rw [hf] at this
    exact this
def x_sub1 (r1 r2 : List (Nat × xF)) (a b : Int) : Bool := match x_at r1 a.toNat, x_at r2 b.toNat with
  | some f, some g => f.1 == 0 && g.1 == 0 && decide (g.2.1 ≤ f.2.1) && decide (f.2.2 ≤ g.2.2)
  | _, _ => false
def x_syms (a b : xL) : List Nat := a.1.map (fun q => q.1) ++ (b.1.map (fun q => q.1)).filter (fun i => !a.1.any (fun q => q.1 == i))
-- ===== contracts, cut points, the checker =====
/-- at the end: the answer, constraints, facts -/
abbrev xP : Type := Option xV × List xL × List xA
/-- a contract: method, parameters, constraints, facts, symbols of these, effects, new symbols of the ends, ends -/
abbrev xC : Type := Nat × List xV × List xL × List xA × Nat × List (Nat × Nat × Nat) × Nat × List xP
/-- a cut point: pc, locals, facts, constraints, symbols, ranks -/
abbrev xN : Type := Nat × List (Nat × xV) × List xA × List xL × Nat × List xL
/-- a method's code, decoded -/
abbrev xD : Type := List (Nat × Instr × Nat)
def x_b (bl : List (Nat × xL)) (i : Nat) : xL := match bl.find? (fun q => q.1 == i) with
  | some q => q.2
  | none => xl_c 0
/-- the pattern p takes the value a -/
def x_bind (bl : List (Nat × xL)) (p a : xV) : List (Nat × xL) := match p.2 with
  | ([q], 0) => if q.2 = 1 ∧ bl.all (fun r => !(r.1 == q.1)) = true then bl ++ [(q.1, a.2)] else bl
  | _ => bl
def x_kok (p a : Nat) : Bool := p == a || (p == 4 && a == 3)
def x_bindL (bl : List (Nat × xL)) : List xV → List xV → List (Nat × xL)
  | p :: ps, a :: as => x_bindL (x_bind bl p a) ps as
  | _, _ => bl
def x_okL (b : Nat → xL) : List xV → List xV → Bool
  | [], [] => true
  | p :: ps, a :: as => x_kok p.1 a.1 && decide (xl_subst b p.2 = a.2 ∨ (p.1 ≠ 0 ∧ p.1 < 10)) && x_okL b ps as
  | _, _ => false
def x_ffind (fa : List xA) (t : Nat) (cl : xL) (i : Nat) : Option xA := fa.find? (fun q => q.1 == t && q.2.2.1 == i && decide (q.2.1 = cl))
/-- cl is a cell of type t -/
def x_isC (g : xG) (t : Nat) (cl : xL) : Bool := g.2.2.1.any (fun a => a.1 == t + 10 && decide (a.2 = cl)) || g.2.1.any (fun q => q.2.1 == t + 10 && decide (q.2.2 = cl)) || g.2.2.2.1.any (fun q => q.2.2.2.1 == t + 10 && decide (q.2.2.2.2 = cl)) || g.2.2.2.1.any (fun q => q.1 == t && decide (q.2.1 = cl))
/-- a fact of that slot -/
def x_mat (tb : Nat → xT) (m : Nat) (g : xG) (t : Nat) (cl : xL) (i : Nat) : Option xG := match x_ffind g.2.2.2.1 t cl i with
  | some _ => some g
  | none => if x_isC g t cl then (match x_at (tb t).2.2.2 i with
    | some f => (match f.1 with
      | 0 => if m ≤ g.2.2.2.2 ∧ x_noG g.2.2.2.2 g = true then some ([xl_add (xl_s g.2.2.2.2) (xl_c (-f.2.1)), xl_sub (xl_c f.2.2) (xl_s g.2.2.2.2)] ++ g.1, g.2.1, g.2.2.1, (t, cl, i, (0, xl_s g.2.2.2.2)) :: g.2.2.2.1, g.2.2.2.2 + 1) else none
      | u + 10 => if m ≤ g.2.2.2.2 ∧ x_noG g.2.2.2.2 g = true then some (g.1, g.2.1, g.2.2.1, (t, cl, i, (u + 10, xl_s g.2.2.2.2)) :: g.2.2.2.1, g.2.2.2.2 + 1) else none
      | _ => none)
    | none => none) else none
def x_matL (tb : Nat → xT) (m : Nat) : List xA → xG → List (Nat × xL) → Option (xG × List (Nat × xL))
  | [], g, bl => some (g, bl)
  | q :: qs, g, bl => match x_mat tb m g q.1 (xl_subst (x_b bl) q.2.1) q.2.2.1 with
    | some g2 => (match x_ffind g2.2.2.2.1 q.1 (xl_subst (x_b bl) q.2.1) q.2.2.1 with
      | some f => x_matL tb m qs g2 (x_bind bl q.2.2.2 f.2.2.2)
      | none => none)
    | none => none
def x_okF (b : Nat → xL) (fa : List xA) (q : xA) : Bool := match x_ffind fa q.1 (xl_subst b q.2.1) q.2.2.1 with
  | some f => x_kok q.2.2.2.1 f.2.2.2.1 && decide (xl_subst b q.2.2.2.2 = f.2.2.2.2 ∨ (q.2.2.2.1 ≠ 0 ∧ q.2.2.2.1 < 10))
  | none => false
/-- a pattern (values pv, facts pf, constraints pc) holds of the values av in the state g -/
def x_inst (tb : Nat → xT) (m : Nat) (bl : List (Nat × xL)) (pv : List xV) (pf : List xA) (pc : List xL) (av : List xV) (g : xG) : Option (xG × List (Nat × xL)) := match x_matL tb m pf g (x_bindL bl pv av) with
  | some (g2, bl2) => if x_okL (x_b bl2) pv av = true ∧ pf.all (x_okF (x_b bl2) g2.2.2.2.1) = true ∧ pc.all (fun c => x_ent g2.1 (xl_subst (x_b bl2) c)) = true ∧ bl2.all (fun q => x_rng g2.1 q.2) = true then some (g2, bl2) else none
  | none => none
def x_idl (m : Nat) : List (Nat × xL) := (List.range m).map (fun i => (i, xl_s i))
def x_isId (m : Nat) (bl : List (Nat × xL)) : Bool := (List.range m).all (fun i => decide (x_b bl i = xl_s i))
/-- ranks fall -/
def x_dec (cs : List xL) : List xL → List xL → Bool
  | a :: as, b :: bs => x_ent cs b && (x_ent cs (xl_add (xl_sub a b) (xl_c (-1))) || (x_ent cs (xl_sub a b) && x_dec cs as bs))
  | _, _ => false
def x_ltV (n : Nat) (a : xV) : Bool := a.2.1.all (fun q => decide (q.1 < n))
def x_ltG (n : Nat) (g : xG) : Bool := g.1.all (fun c => c.1.all (fun q => decide (q.1 < n))) && g.2.1.all (fun q => x_ltV n q.2) && g.2.2.1.all (x_ltV n) && g.2.2.2.1.all (fun q => q.2.1.1.all (fun r => decide (r.1 < n)) && x_ltV n q.2.2.2)
/-- the symbols of a contract's ends in the caller -/
def x_b2 (bl : List (Nat × xL)) (mc nx : Nat) (i : Nat) : xL := if i < mc then x_b bl i else xl_s (nx + (i - mc))
def x_subV (b : Nat → xL) (a : xV) : xV := (a.1, xl_subst b a.2)
def x_subA (b : Nat → xL) (q : xA) : xA := (q.1, xl_subst b q.2.1, q.2.2.1, x_subV b q.2.2.2)
def x_killE (fa : List xA) (E : List (Nat × Nat × Nat)) : List xA := fa.filter (fun f => !E.any (fun q => decide (q.1 = f.1) && decide (q.2.1 ≤ f.2.2.1) && decide (f.2.2.1 ≤ q.2.2)))
def x_subE (E E' : List (Nat × Nat × Nat)) : Bool := E.all (fun q => x_cov E' q.1 q.2.1 q.2.2)
/-- a call by this contract: the states behind it -/
def x_call1 (tb : Nat → xT) (E : List (Nat × Nat × Nat)) (m : Nat) (c : xC) (na : Nat) (pc : Nat) (g : xG) : Option (List (Nat × xG)) := match x_inst tb m [] c.2.1 c.2.2.2.1 c.2.2.1 (g.2.2.1.take na).reverse g with
  | some (g2, bl) => if m ≤ g2.2.2.2.2 ∧ x_ltG g2.2.2.2.2 g2 = true ∧ bl.all (fun q => q.2.1.all (fun r => decide (r.1 < g2.2.2.2.2))) = true ∧ x_subE c.2.2.2.2.2.1 E = true then
      some ((c.2.2.2.2.2.2.2.filter (fun p => !x_inf g2.1 (p.2.1.map (xl_subst (x_b2 bl c.2.2.2.2.1 g2.2.2.2.2))))).map (fun p => (pc, (p.2.1.map (xl_subst (x_b2 bl c.2.2.2.2.1 g2.2.2.2.2)) ++ g2.1, g2.2.1, (match p.1 with
        | some a => [x_subV (x_b2 bl c.2.2.2.2.1 g2.2.2.2.2) a]
        | none => []) ++ g2.2.2.1.drop na, p.2.2.map (x_subA (x_b2 bl c.2.2.2.2.1 g2.2.2.2.2)) ++ x_killE g2.2.2.2.1 c.2.2.2.2.2.1, g2.2.2.2.2 + c.2.2.2.2.2.2.1)))) else none
  | none => none
def x_call (tb : Nat → xT) (E : List (Nat × Nat × Nat)) (m : Nat) (mi na pc : Nat) (g : xG) : List xC → Option (List (Nat × xG))
  | [] => none
  | c :: cs => if c.1 = mi then (match x_call1 tb E m c na pc g with
    | some r => some r
    | none => x_call tb E m mi na pc g cs) else x_call tb E m mi na pc g cs
def x_sum (st : List xV) : Nat := (st.map (fun a => if a.1 = 1 then 2 else 1)).sum
def x_retk (i : Instr) (rt : Option FieldType) (cs : List xL) (st : List xV) : Option (Option xV) := match i, st with
  | .return_, [] => if rt = none then some none else none
  | .ireturn, [(0, l)] => (match rt with
    | some .int => some (some (0, l))
    | some .boolean => if x_ent cs l && x_ent cs (xl_sub (xl_c 1) l) then some (some (0, l)) else none
    | _ => none)
  | .areturn, [a] => (match rt with
    | some (.object _) => if a.1 = 3 ∨ 10 ≤ a.1 then some (some a) else none
    | _ => none)
  | _, _ => none
def x_isRet (i : Instr) : Bool := match i with
  | .return_ => true
  | .ireturn => true
  | .areturn => true
  | _ => false
/-- one of the ends holds -/
def x_end (tb : Nat → xT) (m0 m : Nat) (g : xG) (r : Option xV) (ps : List xP) : Bool := ps.any (fun p => match p.1, r with
  | none, none => (match x_inst tb m (x_idl m0) [] p.2.2 p.2.1 [] g with
    | some (_, bl) => x_isId m0 bl
    | none => false)
  | some a, some b => (match x_inst tb m (x_idl m0) [a] p.2.2 p.2.1 [b] g with
    | some (_, bl) => x_isId m0 bl
    | none => false)
  | _, _ => false)
def x_lgets (lo : List (Nat × xV)) : List (Nat × xV) → Option (List xV)
  | [] => some []
  | q :: qs => match x_lget lo q.1, x_lgets lo qs with
    | some a, some as => some (a :: as)
    | _, _ => none
/-- a cut point holds -/
def x_node (tb : Nat → xT) (m0 m : Nat) (org : Option (List xL)) (g : xG) (n : xN) : Bool := match g.2.2.1 with
  | [] => (match x_lgets g.2.1 n.2.1 with
    | some av => (match x_inst tb m (x_idl m0) (n.2.1.map (fun q => q.2)) n.2.2.1 n.2.2.2.1 av g with
      | some (g2, bl) => x_isId m0 bl && (match org with
        | none => true
        | some a => x_dec g2.1 a (n.2.2.2.2.2.map (xl_subst (x_b bl))))
      | none => false)
    | none => false)
  | _ => false
def x_rcv (tb : Nat → xT) (M : pM) (st : List xV) : Bool := match st with
  | a :: _ => decide (10 ≤ a.1) && ((tb (a.1 - 10)).1 == 0) && ((tb (a.1 - 10)).2.1 == M.ci)
  | [] => false
/-- a load and a store: a copy from slot to slot, fitting by its types -/
def x_cpy (tb : Nat → xT) (E : List (Nat × Nat × Nat)) (D : xD) (ns : List xN) (i : Instr) (pc : Nat) (g : xG) : Option (Nat × xG) := match i, g.2.2.1 with
  | .iaload, (0, l1) :: b1 :: (0, l2) :: b2 :: r => if 10 ≤ b1.1 ∧ (tb (b1.1 - 10)).1 = 1 ∧ (tb (b1.1 - 10)).2.1 = 0 ∧ x_idx g.1 l1 (tb (b1.1 - 10)).2.2.1 = true ∧ 10 ≤ b2.1 ∧ (tb (b2.1 - 10)).1 = 1 ∧ (tb (b2.1 - 10)).2.1 = 0 ∧ x_idx g.1 l2 (tb (b2.1 - 10)).2.2.1 = true ∧ l2.1 ≠ [] ∧ x_one (tb (b2.1 - 10)).2.2.2 = none ∧ D.find? (fun q => q.1 == pc + 1) = some (pc + 1, .iastore, 1) ∧ ns.all (fun n => !(n.1 == pc + 1)) = true ∧ x_cov E (b2.1 - 10) (x_lb g.1 l2).toNat (x_ub g.1 l2).toNat = true ∧ x_en (x_sub1 (tb (b1.1 - 10)).2.2.2 (tb (b2.1 - 10)).2.2.2) g.1 (x_syms l1 l2) l1 l2 = true then
      some (pc + 2, (g.1, g.2.1, r, x_kill g.2.2.2.1 (b2.1 - 10) (x_lb g.1 l2).toNat (x_ub g.1 l2).toNat, g.2.2.2.2)) else none
  | _, _ => none
/-- a weight -/
def x_wrd (E : List (Nat × Nat × Nat)) (m : Nat) (i : Instr) (pc : Nat) (g : xG) : Option (List (Nat × xG)) := match i, g.2.2.1 with
  | .iaload, (0, l) :: b :: r => if b.1 = 46 ∧ x_flag E = true ∧ x_ent g.1 (xl_add l (xl_c (-41))) = true ∧ x_ent g.1 (xl_sub (xl_c 48) l) = true then (match x_ffind g.2.2.2.1 36 b.2 3 with
      | some q => if q.2.2.2.1 = 0 ∧ x_ent g.1 (xl_sub (xl_add q.2.2.2.2 (xl_c 40)) l) = true then x_hv m (pc + 1) g.1 g.2.1 g.2.2.1 r g.2.2.2.1 g.2.2.2.2 (fun s => [xl_add s (xl_c (-1))]) else none
      | none => none) else none
  | _, _ => none
/-- the checker: from pc with g to cut points and ends; go: the first instruction is done though a cut point stands there -/
def x_exec (tb : Nat → xT) (cts : List xC) (M : pM) (D : xD) (E : List (Nat × Nat × Nat)) (m0 m : Nat) (ps : List xP) (ns : List xN) (org : Option (List xL)) : Nat → Bool → Nat → xG → Bool
  | 0, _, _, _ => false
  | f + 1, go, pc, g => match (if go then [] else ns.filter (fun n => n.1 == pc)) with
    | n :: nr => (n :: nr).any (x_node tb m0 m org g)
    | [] => (match D.find? (fun q => q.1 == pc) with
      | none => false
      | some q => if pm_len q.2.1 q.2.2 = q.2.2 then (if x_isRet q.2.1 then (match x_retk q.2.1 M.ret g.1 g.2.2.1 with
          | some r => x_end tb m0 m g r ps
          | none => false) else (match pm_call q.2.1 with
          | none => (match x_cpy tb E D ns q.2.1 pc g with
            | some z => x_exec tb cts M D E m0 m ps ns org f false z.1 z.2
            | none => (match x_wrd E m q.2.1 pc g with
              | some out => out.all (fun z => x_exec tb cts M D E m0 m ps ns org f false z.1 z.2)
              | none => (match x_step tb E m M.own M.maxL q.2.1 pc g.1 g.2.1 g.2.2.1 g.2.2.2.1 g.2.2.2.2 with
                | some out => out.all (fun z => x_exec tb cts M D E m0 m ps ns org f false z.1 z.2)
                | none => false)))
          | some (w, k) => (match pm_ctab.find? (fun r => r.1 == M.own && r.2.1 == k) with
            | none => false
            | some c => (match c.2.2.1 with
              | 0 => false
              | 7 => (match g.2.2.1 with
                | (0, _) :: (0, _) :: r => decide (w = 2 ∧ x_sum r ≤ 8) && (match x_hv m (pc + 3) g.1 g.2.1 g.2.2.1 r g.2.2.2.1 g.2.2.2.2 (fun _ => []) with
                  | some out => out.all (fun z => x_exec tb cts M D E m0 m ps ns org f false z.1 z.2)
                  | none => false)
                | _ => false)
              | 8 => (match g.2.2.1 with
                | (0, _) :: (0, _) :: r => decide (w = 2 ∧ x_sum r ≤ 8) && (match x_hv m (pc + 3) g.1 g.2.1 g.2.2.1 r g.2.2.2.1 g.2.2.2.2 (fun _ => []) with
                  | some out => out.all (fun z => x_exec tb cts M D E m0 m ps ns org f false z.1 z.2)
                  | none => false)
                | _ => false)
              | 9 => (match g.2.2.1 with
                | (0, _) :: r => decide (w = 2 ∧ x_sum r ≤ 8) && (match x_hv m (pc + 3) g.1 g.2.1 g.2.2.1 r g.2.2.2.1 g.2.2.2.2 (fun _ => []) with
                  | some out => out.all (fun z => x_exec tb cts M D E m0 m ps ns org f false z.1 z.2)
                  | none => false)
                | _ => false)
              | kd => (match pm_tab[c.2.2.2.1]? with
                | some M' => if (kd = w ∨ kd = w + 3) ∧ pm_na M' ≤ g.2.2.1.length ∧ x_sum (g.2.2.1.drop (pm_na M')) ≤ 8 ∧ x_sum (g.2.2.1.take (pm_na M')) ≤ M'.maxL ∧ (M'.st = true ∨ x_rcv tb M' (g.2.2.1.take (pm_na M')).reverse = true) then
                    (match x_call tb E m c.2.2.2.1 (pm_na M') (pc + 3) g cts with
                    | some out => out.all (fun z => x_exec tb cts M D E m0 m ps ns org f false z.1 z.2)
                    | none => false) else false
                | none => false))))) else false)
/-- the parameters' places -/
def lv_argsX : Nat → List xV → List (Nat × xV)
  | _, [] => []
  | i, a :: as => (i, a) :: lv_argsX (if a.1 = 1 then i + 2 else i + 1) as
/-- a contract is kept -/
def x_chk (tb : Nat → xT) (cts : List xC) (c : xC) (M : pM) (D : xD) (ns : List xN) (f : Nat) : Bool :=
  (!x_flag c.2.2.2.2.2.1 || x_dis c.2.2.2.2.2.1) && x_exec tb cts M D c.2.2.2.2.2.1 c.2.2.2.2.1 c.2.2.2.2.1 c.2.2.2.2.2.2.2 ns none f false 0 (c.2.2.1, lv_argsX 0 c.2.1, [], c.2.2.2.1, c.2.2.2.2.1)
  && ns.all (fun n => decide (c.2.2.2.2.1 ≤ n.2.2.2.2.1) && decide (n.2.2.2.2.2.length = 5) && n.2.2.2.2.2.all (fun r => r.1.all (fun q => decide (q.1 < n.2.2.2.2.1))) && x_exec tb cts M D c.2.2.2.2.2.1 c.2.2.2.2.1 n.2.2.2.2.1 c.2.2.2.2.2.2.2 ns (some n.2.2.2.2.2) f true n.1 (n.2.2.2.1, n.2.1, [], n.2.2.1, n.2.2.2.2.1))
