-- ===== a step on abstract states =====
def x_ag (m : Nat) (v v' : Nat → Int) : Prop := ∀ i, i < m → v' i = v i
theorem x_ag.rf {m : Nat} {v : Nat → Int} : x_ag m v v := fun _ _ => rfl
theorem x_ag.tr {m : Nat} {v v1 v2 : Nat → Int} (h1 : x_ag m v v1) (h2 : x_ag m v1 v2) : x_ag m v v2 := fun i hi => (h2 i hi).trans (h1 i hi)
theorem x_ag.up {m i : Nat} {v : Nat → Int} {x : Int} (h : m ≤ i) : x_ag m v (x_up v i x) := fun j hj => by
  unfold x_up
  rw [if_neg (by omega)]
def x_lget (lo : List (Nat × xV)) (i : Nat) : Option xV := (lo.find? (fun q => q.1 == i)).map (fun q => q.2)
def x_lput (lo : List (Nat × xV)) (i : Nat) (a : xV) : List (Nat × xV) := (i, a) :: lo.filter (fun q => !(q.1 == i) && !(q.1 + 1 == i && q.2.1 == 1))
def x_rng (cs : List xL) (l : xL) : Bool := x_ent cs (xl_add l (xl_c 2147483648)) && x_ent cs (xl_sub (xl_c 2147483647) l)
def x_hv (m0 pc' : Nat) (cs : List xL) (lo : List (Nat × xV)) (full st' : List xV) (fa : List xA) (nx : Nat) (k : xL → List xL) : Option (List (Nat × xG)) :=
  if m0 ≤ nx ∧ x_noG nx (cs, lo, full, fa, 0) = true then some [(pc', (k (xl_s nx) ++ cs, lo, (0, xl_s nx) :: st', fa, nx + 1))] else none
/-- what a condition says of l: a disjunction of conjunctions -/
def x_cnd (c : ClassFile.Cond) (l : xL) : List (List xL) := match c with
  | .eq => [[l, xl_mul (-1) l]]
  | .ne => [[xl_add l (xl_c (-1))], [xl_add (xl_mul (-1) l) (xl_c (-1))]]
  | .lt => [[xl_add (xl_mul (-1) l) (xl_c (-1))]]
  | .ge => [[l]]
  | .gt => [[xl_add l (xl_c (-1))]]
  | .le => [[xl_mul (-1) l]]
def x_neg (c : ClassFile.Cond) : ClassFile.Cond := match c with
  | .eq => .ne
  | .ne => .eq
  | .lt => .ge
  | .ge => .lt
  | .gt => .le
  | .le => .gt
/-- cs say that one of these fails -/
def x_inf (cs : List xL) (d : List xL) : Bool := d.any (fun e => x_ent cs (xl_add (xl_mul (-1) e) (xl_c (-1))))
def x_brs (pc : Nat) (cs : List xL) (lo : List (Nat × xV)) (st : List xV) (fa : List xA) (nx : Nat) (ds : List (List xL)) : List (Nat × xG) := (ds.filter (fun d => !x_inf cs d)).map (fun d => (pc, (d ++ cs, lo, st, fa, nx)))
def x_br (c : ClassFile.Cond) (l : xL) (pc : Nat) (off : Int) (cs : List xL) (lo : List (Nat × xV)) (st : List xV) (fa : List xA) (nx : Nat) : Option (List (Nat × xG)) := match pm_tgt pc off with
  | none => none
  | some t => some (x_brs t cs lo st fa nx (x_cnd c l) ++ x_brs (pc + 3) cs lo st fa nx (x_cnd (x_neg c) l))
/-- the tables' cases -/
def x_tab (pc : Nat) (l : xL) (cs : List xL) (lo : List (Nat × xV)) (st : List xV) (fa : List xA) (nx : Nat) : Int → List Int → Option (List (Nat × xG))
  | _, [] => some []
  | k, o :: os => match pm_tgt pc o, x_tab pc l cs lo st fa nx (k + 1) os with
    | some t, some r => some (x_brs t cs lo st fa nx (x_cnd .eq (xl_add l (xl_c (-k)))) ++ r)
    | _, _ => none
def x_lkt (pc : Nat) (l : xL) (cs : List xL) (lo : List (Nat × xV)) (st : List xV) (fa : List xA) (nx : Nat) : List (Int × Int) → Option (List (Nat × xG))
  | [] => some []
  | q :: os => match pm_tgt pc q.2, x_lkt pc l cs lo st fa nx os with
    | some t, some r => some (x_brs t cs lo st fa nx (x_cnd .eq (xl_add l (xl_c (-q.1)))) ++ r)
    | _, _ => none
/-- the type of a slot as the machine has it -/
def x_jty (ty : FieldType) (f : xF) : Bool := match ty with
  | .int => f.1 == 0
  | .boolean => f.1 == 0 && decide (0 ≤ f.2.1) && decide (f.2.2 ≤ 1)
  | .long => f.1 == 1
  | .object _ => f.1 == 3 || f.1 == 4 || decide (10 ≤ f.1)
  | .array _ => decide (10 ≤ f.1)
  | _ => false
/-- a value fits a slot -/
def x_fit (cs : List xL) (f : xF) (a : xV) : Bool := match f.1 with
  | 0 => a.1 == 0 && x_ent cs (xl_add a.2 (xl_c (-f.2.1))) && x_ent cs (xl_sub (xl_c f.2.2) a.2)
  | 1 => a.1 == 1
  | 3 => a.1 == 3
  | 4 => a.1 == 3 || a.1 == 4
  | t + 10 => a.1 == t + 10
  | _ => false
def x_cov (E : List (Nat × Nat × Nat)) (t lo hi : Nat) : Bool := E.any (fun q => decide (q.1 = t) && decide (q.2.1 ≤ lo) && decide (hi ≤ q.2.2))
/-- facts of other slots -/
def x_kill (fa : List xA) (t lo hi : Nat) : List xA := fa.filter (fun f => !(f.1 == t && decide (lo ≤ f.2.2.1) && decide (f.2.2.1 ≤ hi)))
/-- reading a slot whose fact isn't there: by its type; then a fact -/
def x_rdt (m0 pc' : Nat) (cs : List xL) (lo : List (Nat × xV)) (full st' : List xV) (fa : List xA) (nx : Nat) (t : Nat) (cl : xL) (i : Nat) (f : xF) : Option (List (Nat × xG)) := match f.1 with
  | 0 => if m0 ≤ nx ∧ x_noG nx (cs, lo, full, fa, 0) = true then some [(pc', ([xl_add (xl_s nx) (xl_c (-f.2.1)), xl_sub (xl_c f.2.2) (xl_s nx)] ++ cs, lo, (0, xl_s nx) :: st', (t, cl, i, (0, xl_s nx)) :: fa, nx + 1))] else none
  | 1 => some [(pc', (cs, lo, (1, xl_c 0) :: st', fa, nx))]
  | 3 => some [(pc', (cs, lo, (3, xl_c 0) :: st', fa, nx))]
  | 4 => some [(pc', (cs, lo, (4, xl_c 0) :: st', fa, nx))]
  | u + 10 => if m0 ≤ nx ∧ x_noG nx (cs, lo, full, fa, 0) = true then some [(pc', (cs, lo, (u + 10, xl_s nx) :: st', (t, cl, i, (u + 10, xl_s nx)) :: fa, nx + 1))] else none
  | _ => none
def x_rd (tb : Nat → xT) (m0 pc' : Nat) (cs : List xL) (lo : List (Nat × xV)) (full st' : List xV) (fa : List xA) (nx : Nat) (t : Nat) (cl : xL) (i : Nat) : Option (List (Nat × xG)) :=
  match fa.find? (fun q => q.1 == t && q.2.2.1 == i && decide (q.2.1 = cl)) with
  | some q => some [(pc', (cs, lo, q.2.2.2 :: st', fa, nx))]
  | none => (match x_at (tb t).2.2.2 i with
    | some f => x_rdt m0 pc' cs lo full st' fa nx t cl i f
    | none => none)
/-- the runs that meet the places lo .. hi -/
def x_over (lo hi : Int) : Int → List (Nat × xF) → List xF
  | _, [] => []
  | k, q :: r => if k + q.1 ≤ lo ∨ hi < k then x_over lo hi (k + q.1) r else q.2 :: x_over lo hi (k + q.1) r
def x_min : List xF → Int
  | [] => 2147483647
  | f :: r => if f.2.1 < x_min r then f.2.1 else x_min r
def x_max : List xF → Int
  | [] => -2147483648
  | f :: r => if x_max r < f.2.2 then f.2.2 else x_max r
def x_ub (cs : List xL) (l : xL) : Int := -(x_lb cs (xl_mul (-1) l))
def x_idx (cs : List xL) (l : xL) (n : Nat) : Bool := x_ent cs l && x_ent cs (xl_sub (xl_c ((n : Int) - 1)) l)
def x_one (r : List (Nat × xF)) : Option xF := match r with
  | [q] => some q.2
  | _ => none
