def x_bfit (c : Nat) (f : xF) : Bool := match c with
  | 1 => decide (f.2.1 ≤ -128 ∧ 127 ≤ f.2.2)
  | _ => decide (f.2.1 ≤ 0 ∧ 1 ≤ f.2.2)
/-- an element at a place that isn't known -/
def x_ald (tb : Nat → xT) (m0 pc' : Nat) (cs : List xL) (lo : List (Nat × xV)) (full st' : List xV) (fa : List xA) (nx : Nat) (t : Nat) (j : xL) : Option (List (Nat × xG)) :=
  if (x_over (x_lb cs j) (x_ub cs j) 0 (tb t).2.2.2).all (fun f => f.1 == 0) = true then x_hv m0 pc' cs lo full st' fa nx (fun s => [xl_add s (xl_c (-(x_min (x_over (x_lb cs j) (x_ub cs j) 0 (tb t).2.2.2)))), xl_sub (xl_c (x_max (x_over (x_lb cs j) (x_ub cs j) 0 (tb t).2.2.2))) s]) else none
-- ===== the abstract step =====
def x_step (tb : Nat → xT) (E : List (Nat × Nat × Nat)) (m0 own nL : Nat) (i : Instr) (pc : Nat) (cs : List xL) (lo : List (Nat × xV)) (st : List xV) (fa : List xA) (nx : Nat) : Option (List (Nat × xG)) := match i with
  | .iconst n => some [(pc + 1, (cs, lo, (0, xl_c (Int32.ofInt n).toInt) :: st, fa, nx))]
  | .bipush n => some [(pc + 2, (cs, lo, (0, xl_c (Int8.ofInt n).toInt32.toInt) :: st, fa, nx))]
  | .sipush n => some [(pc + 3, (cs, lo, (0, xl_c (Int16.ofInt n).toInt32.toInt) :: st, fa, nx))]
  | .lconst _ => some [(pc + 1, (cs, lo, (1, xl_c 0) :: st, fa, nx))]
  | .iload j => match x_lget lo j with
    | some (0, l) => some [(pc + 2, (cs, lo, (0, l) :: st, fa, nx))]
    | _ => none
  | .iload_n j => match x_lget lo (j : Nat) with
    | some (0, l) => some [(pc + 1, (cs, lo, (0, l) :: st, fa, nx))]
    | _ => none
  | .lload j => match x_lget lo j with
    | some (1, l) => some [(pc + 2, (cs, lo, (1, l) :: st, fa, nx))]
    | _ => none
  | .lload_n j => match x_lget lo (j : Nat) with
    | some (1, l) => some [(pc + 1, (cs, lo, (1, l) :: st, fa, nx))]
    | _ => none
  | .aload j => match x_lget lo j with
    | some a => if 3 ≤ a.1 then some [(pc + 2, (cs, lo, a :: st, fa, nx))] else none
    | _ => none
  | .aload_n j => match x_lget lo (j : Nat) with
    | some a => if 3 ≤ a.1 then some [(pc + 1, (cs, lo, a :: st, fa, nx))] else none
    | _ => none
  | .istore j => match st with
    | (0, l) :: r => if j < nL then some [(pc + 2, (cs, x_lput lo j (0, l), r, fa, nx))] else none
    | _ => none
  | .istore_n j => match st with
    | (0, l) :: r => if (j : Nat) < nL then some [(pc + 1, (cs, x_lput lo (j : Nat) (0, l), r, fa, nx))] else none
    | _ => none
  | .astore j => match st with
    | a :: r => if j < nL ∧ 3 ≤ a.1 then some [(pc + 2, (cs, x_lput lo j a, r, fa, nx))] else none
    | _ => none
  | .astore_n j => match st with
    | a :: r => if (j : Nat) < nL ∧ 3 ≤ a.1 then some [(pc + 1, (cs, x_lput lo (j : Nat) a, r, fa, nx))] else none
    | _ => none
  | .iinc j n => match x_lget lo j with
    | some (0, l) => if j < nL then (if x_rng cs (xl_add l (xl_c (Int32.ofInt n).toInt)) then some [(pc + 3, (cs, x_lput lo j (0, xl_add l (xl_c (Int32.ofInt n).toInt)), st, fa, nx))]
      else if m0 ≤ nx ∧ x_noG nx (cs, lo, st, fa, 0) = true then some [(pc + 3, (cs, x_lput lo j (0, xl_s nx), st, fa, nx + 1))] else none) else none
    | _ => none
  | .iadd => match st with
    | (0, y) :: (0, x) :: r => if x_rng cs (xl_add x y) then some [(pc + 1, (cs, lo, (0, xl_add x y) :: r, fa, nx))] else x_hv m0 (pc + 1) cs lo st r fa nx (fun _ => [])
    | _ => none
  | .isub => match st with
    | (0, y) :: (0, x) :: r => if x_rng cs (xl_sub x y) then some [(pc + 1, (cs, lo, (0, xl_sub x y) :: r, fa, nx))] else x_hv m0 (pc + 1) cs lo st r fa nx (fun _ => [])
    | _ => none
  | .imul => match st with
    | (0, y) :: (0, x) :: r => if x.1 = [] ∧ x_rng cs (xl_mul x.2 y) = true then some [(pc + 1, (cs, lo, (0, xl_mul x.2 y) :: r, fa, nx))] else if y.1 = [] ∧ x_rng cs (xl_mul y.2 x) = true then some [(pc + 1, (cs, lo, (0, xl_mul y.2 x) :: r, fa, nx))] else x_hv m0 (pc + 1) cs lo st r fa nx (fun _ => [])
    | _ => none
  | .iand => match st with
    | (0, y) :: (0, x) :: r => if x_ent cs y then x_hv m0 (pc + 1) cs lo st r fa nx (fun s => [s, xl_sub y s]) else if x_ent cs x then x_hv m0 (pc + 1) cs lo st r fa nx (fun s => [s, xl_sub x s]) else x_hv m0 (pc + 1) cs lo st r fa nx (fun _ => [])
    | _ => none
  | .ior => match st with
    | (0, y) :: (0, x) :: r => if x_ent cs y && x_ent cs x && x_ent cs (xl_sub (xl_c 255) y) && x_ent cs (xl_sub (xl_c 255) x) then x_hv m0 (pc + 1) cs lo st r fa nx (fun s => [s, xl_sub (xl_c 255) s]) else x_hv m0 (pc + 1) cs lo st r fa nx (fun _ => [])
    | _ => none
  | .ixor => match st with
    | (0, _) :: (0, _) :: r => x_hv m0 (pc + 1) cs lo st r fa nx (fun _ => [])
    | _ => none
  | .idiv => match st with
    | (0, y) :: (0, _) :: r => if x_ent cs (xl_add y (xl_c (-1))) then x_hv m0 (pc + 1) cs lo st r fa nx (fun _ => []) else none
    | _ => none
  | .irem => match st with
    | (0, y) :: (0, x) :: r => if x_ent cs (xl_add y (xl_c (-1))) then (if x_ent cs x then x_hv m0 (pc + 1) cs lo st r fa nx (fun s => [s, xl_sub (xl_add y (xl_c (-1))) s]) else x_hv m0 (pc + 1) cs lo st r fa nx (fun _ => [])) else none
    | _ => none
  | .ishl => match st with
    | (0, y) :: (0, x) :: r => if x = xl_c 1 ∧ x_ent cs y = true ∧ x_ent cs (xl_sub (xl_c 7) y) = true then x_hv m0 (pc + 1) cs lo st r fa nx (fun s => [xl_add s (xl_c (-1)), xl_sub (xl_c 128) s]) else x_hv m0 (pc + 1) cs lo st r fa nx (fun _ => [])
    | _ => none
  | .ishr => match st with
    | (0, _) :: (0, _) :: r => x_hv m0 (pc + 1) cs lo st r fa nx (fun _ => [])
    | _ => none
  | .iushr => match st with
    | (0, y) :: (0, _) :: r => if y = xl_c 8 then x_hv m0 (pc + 1) cs lo st r fa nx (fun s => [s]) else x_hv m0 (pc + 1) cs lo st r fa nx (fun _ => [])
    | _ => none
  | .i2l => match st with
    | (0, _) :: r => some [(pc + 1, (cs, lo, (1, xl_c 0) :: r, fa, nx))]
    | _ => none
  | .i2b => match st with
    | (0, _) :: r => x_hv m0 (pc + 1) cs lo st r fa nx (fun s => [xl_add s (xl_c 128), xl_sub (xl_c 127) s])
    | _ => none
  | .ladd => match st with
    | (1, _) :: (1, _) :: r => some [(pc + 1, (cs, lo, (1, xl_c 0) :: r, fa, nx))]
    | _ => none
  | .lmul => match st with
    | (1, _) :: (1, _) :: r => some [(pc + 1, (cs, lo, (1, xl_c 0) :: r, fa, nx))]
    | _ => none
  | .lor => match st with
    | (1, _) :: (1, _) :: r => some [(pc + 1, (cs, lo, (1, xl_c 0) :: r, fa, nx))]
    | _ => none
  | .lshl => match st with
    | (0, _) :: (1, _) :: r => some [(pc + 1, (cs, lo, (1, xl_c 0) :: r, fa, nx))]
    | _ => none
  | .lcmp => match st with
    | (1, _) :: (1, _) :: r => x_hv m0 (pc + 1) cs lo st r fa nx (fun _ => [])
    | _ => none
  | .dup => match st with
    | a :: r => if a.1 = 1 then none else some [(pc + 1, (cs, lo, a :: a :: r, fa, nx))]
    | _ => none
  | .pop => match st with
    | a :: r => if a.1 = 1 then none else some [(pc + 1, (cs, lo, r, fa, nx))]
    | _ => none
  | .dup2 => match st with
    | a :: b :: r => if a.1 = 1 ∨ b.1 = 1 then none else some [(pc + 1, (cs, lo, a :: b :: a :: b :: r, fa, nx))]
    | _ => none
  | .ifCond c k => match st with
    | (0, l) :: r => x_br c l pc k cs lo r fa nx
    | _ => none
  | .if_icmp c k => match st with
    | (0, y) :: (0, x) :: r => x_br c (xl_sub x y) pc k cs lo r fa nx
    | _ => none
  | .if_acmp _ k => match st with
    | a :: b :: r => if (a.1 = 3 ∧ b.1 = 3) ∨ (a.1 = 3 ∧ b.1 = 4) ∨ (a.1 = 4 ∧ b.1 = 3) then (match pm_tgt pc k with
      | some t => some [(t, (cs, lo, r, fa, nx)), (pc + 3, (cs, lo, r, fa, nx))]
      | none => none) else none
    | _ => none
  | .goto k => match pm_tgt pc k with
    | some t => some [(t, (cs, lo, st, fa, nx))]
    | none => none
  | .tableswitch d lw hi offs => match st with
    | (0, l) :: r => (match pm_tgt pc d, x_tab pc l cs lo r fa nx lw offs.toList with
      | some t, some q => if hi = lw + offs.toList.length - 1 then some (x_brs t cs lo r fa nx (x_cnd .lt (xl_add l (xl_c (-lw)))) ++ (x_brs t cs lo r fa nx (x_cnd .gt (xl_add l (xl_c (-hi)))) ++ q)) else none
      | _, _ => none)
    | _ => none
  | .lookupswitch d ps => match st with
    | (0, l) :: r => (match pm_tgt pc d, x_lkt pc l cs lo r fa nx ps.toList with
      | some t, some q => if (ps.toList.zip (ps.toList.drop 1)).all (fun (a, next) => a.1 < next.1) = true then some ((t, (cs, lo, r, fa, nx)) :: q) else none
      | _, _ => none)
    | _ => none
  | .ldc k => match pm_ktab.find? (fun r => r.1 == own && r.2.1 == k) with
    | some r => some [(pc + 2, (cs, lo, (0, xl_c r.2.2.1.toInt) :: st, fa, nx))]
    | none => none
  | .ldc_w k => match pm_ktab.find? (fun r => r.1 == own && r.2.1 == k) with
    | some r => some [(pc + 3, (cs, lo, (0, xl_c r.2.2.1.toInt) :: st, fa, nx))]
    | none => none
  | .ldc2_w k => match pm_ltab.find? (fun r => r.1 == own && r.2.1 == k) with
    | some _ => some [(pc + 3, (cs, lo, (1, xl_c 0) :: st, fa, nx))]
    | none => none
  | .getstatic k => match pm_stab.find? (fun r => r.1 == own && r.2.1 == k) with
    | some r => some [(pc + 3, (cs, lo, (if r.2.2.1 < 35 then 3 else 5, xl_c 0) :: st, fa, nx))]
    | none => none
  | .getfield k => match st with
    | a :: r => if a.1 = 3 then (if own = 2 ∧ k = 79 then some [(pc + 3, (cs, lo, (1, xl_c 0) :: r, fa, nx))] else none)
      else if 10 ≤ a.1 then (match pm_ftab.find? (fun r => r.1 == own && r.2.1 == k) with
        | some q => if (tb (a.1 - 10)).1 = 0 ∧ (tb (a.1 - 10)).2.1 = q.2.2.1 then x_rd tb m0 (pc + 3) cs lo st r fa nx (a.1 - 10) a.2 q.2.2.2.1 else none
        | none => none) else none
    | _ => none
  | .putfield k => match st with
    | a :: b :: r => if 10 ≤ b.1 then (match pm_ftab.find? (fun r => r.1 == own && r.2.1 == k) with
        | some q => (match x_at (tb (b.1 - 10)).2.2.2 q.2.2.2.1 with
          | some f => if (tb (b.1 - 10)).1 = 0 ∧ (tb (b.1 - 10)).2.1 = q.2.2.1 ∧ q.2.2.2.1 < (tb (b.1 - 10)).2.2.1 ∧ pm_fin q.2.2.1 q.2.2.2.1 = false ∧ x_jty (pm_ty q.2.2.1 q.2.2.2.1) f = true ∧ x_fit cs f a = true ∧ x_cov E (b.1 - 10) q.2.2.2.1 q.2.2.2.1 = true then some [(pc + 3, (cs, lo, r, (b.1 - 10, b.2, q.2.2.2.1, a) :: x_kill fa (b.1 - 10) q.2.2.2.1 q.2.2.2.1, nx))] else none
          | none => none)
        | none => none) else none
    | _ => none
  | .iaload => match st with
    | (0, j) :: b :: r => if 10 ≤ b.1 ∧ (tb (b.1 - 10)).1 = 1 ∧ (tb (b.1 - 10)).2.1 = 0 ∧ x_idx cs j (tb (b.1 - 10)).2.2.1 = true then (if j.1 = [] then x_rd tb m0 (pc + 1) cs lo st r fa nx (b.1 - 10) b.2 j.2.toNat else x_ald tb m0 (pc + 1) cs lo st r fa nx (b.1 - 10) j) else none
    | _ => none
  | .baload => match st with
    | (0, j) :: b :: r => if 10 ≤ b.1 ∧ (tb (b.1 - 10)).1 = 1 ∧ ((tb (b.1 - 10)).2.1 = 1 ∨ (tb (b.1 - 10)).2.1 = 2) ∧ x_idx cs j (tb (b.1 - 10)).2.2.1 = true then x_ald tb m0 (pc + 1) cs lo st r fa nx (b.1 - 10) j else none
    | _ => none
  | .laload => match st with
    | (0, j) :: b :: r => if 10 ≤ b.1 ∧ (tb (b.1 - 10)).1 = 1 ∧ (tb (b.1 - 10)).2.1 = 3 ∧ x_idx cs j (tb (b.1 - 10)).2.2.1 = true then some [(pc + 1, (cs, lo, (1, xl_c 0) :: r, fa, nx))] else none
    | _ => none
  | .aaload => match st with
    | (0, j) :: b :: r => if b.1 = 5 then (if x_idx cs j 35 then some [(pc + 1, (cs, lo, (3, xl_c 0) :: r, fa, nx))] else none)
      else if 10 ≤ b.1 ∧ (tb (b.1 - 10)).1 = 1 ∧ 4 ≤ (tb (b.1 - 10)).2.1 ∧ x_idx cs j (tb (b.1 - 10)).2.2.1 = true then (match x_one (tb (b.1 - 10)).2.2.2 with
        | some f => if f.1 = 3 ∨ f.1 = 4 then some [(pc + 1, (cs, lo, (f.1, xl_c 0) :: r, fa, nx))] else if 10 ≤ f.1 ∧ m0 ≤ nx ∧ x_noG nx (cs, lo, st, fa, 0) = true then some [(pc + 1, (cs, lo, (f.1, xl_s nx) :: r, fa, nx + 1))] else none
        | none => none) else none
    | _ => none
  | .iastore => match st with
    | (0, x) :: (0, j) :: b :: r => if 10 ≤ b.1 ∧ (tb (b.1 - 10)).1 = 1 ∧ (tb (b.1 - 10)).2.1 = 0 ∧ x_idx cs j (tb (b.1 - 10)).2.2.1 = true ∧ (x_over (x_lb cs j) (x_ub cs j) 0 (tb (b.1 - 10)).2.2.2).all (fun f => f.1 == 0 && x_fit cs f (0, x)) = true ∧ x_cov E (b.1 - 10) (x_lb cs j).toNat (x_ub cs j).toNat = true then
        some [(pc + 1, (cs, lo, r, (if j.1 = [] then [(b.1 - 10, b.2, j.2.toNat, (0, x))] else []) ++ x_kill fa (b.1 - 10) (x_lb cs j).toNat (x_ub cs j).toNat, nx))] else none
    | _ => none
  | .bastore => match st with
    | (0, _) :: (0, j) :: b :: r => if 10 ≤ b.1 ∧ (tb (b.1 - 10)).1 = 1 ∧ ((tb (b.1 - 10)).2.1 = 1 ∨ (tb (b.1 - 10)).2.1 = 2) ∧ x_idx cs j (tb (b.1 - 10)).2.2.1 = true ∧ (x_over (x_lb cs j) (x_ub cs j) 0 (tb (b.1 - 10)).2.2.2).all (fun f => f.1 == 0 && x_bfit (tb (b.1 - 10)).2.1 f) = true ∧ x_cov E (b.1 - 10) (x_lb cs j).toNat (x_ub cs j).toNat = true then
        some [(pc + 1, (cs, lo, r, x_kill fa (b.1 - 10) (x_lb cs j).toNat (x_ub cs j).toNat, nx))] else none
    | _ => none
  | .lastore => match st with
    | (1, _) :: (0, j) :: b :: r => if 10 ≤ b.1 ∧ (tb (b.1 - 10)).1 = 1 ∧ (tb (b.1 - 10)).2.1 = 3 ∧ x_idx cs j (tb (b.1 - 10)).2.2.1 = true ∧ (x_over (x_lb cs j) (x_ub cs j) 0 (tb (b.1 - 10)).2.2.2).all (fun f => f.1 == 1) = true ∧ x_cov E (b.1 - 10) (x_lb cs j).toNat (x_ub cs j).toNat = true then
        some [(pc + 1, (cs, lo, r, x_kill fa (b.1 - 10) (x_lb cs j).toNat (x_ub cs j).toNat, nx))] else none
    | _ => none
  | .aastore => match st with
    | a :: (0, j) :: b :: r => if 10 ≤ b.1 ∧ (tb (b.1 - 10)).1 = 1 ∧ 4 ≤ (tb (b.1 - 10)).2.1 ∧ x_idx cs j (tb (b.1 - 10)).2.2.1 = true ∧ (x_over (x_lb cs j) (x_ub cs j) 0 (tb (b.1 - 10)).2.2.2).all (fun f => (f.1 == 3 || f.1 == 4 || decide (10 ≤ f.1)) && x_fit cs f a) = true ∧ x_cov E (b.1 - 10) (x_lb cs j).toNat (x_ub cs j).toNat = true ∧ ((a.1 = 3 ∧ (tb (b.1 - 10)).2.1 = 4) ∨ (a.1 = 4 ∧ (tb (b.1 - 10)).2.1 = 4) ∨ (10 ≤ a.1 ∧ (tb (a.1 - 10)).1 = 0 ∧ (tb (a.1 - 10)).2.1 < 11 ∧ pm_cn (tb (a.1 - 10)).2.1 = pm_arrC (tb (b.1 - 10)).2.1)) then
        some [(pc + 1, (cs, lo, r, x_kill fa (b.1 - 10) (x_lb cs j).toNat (x_ub cs j).toNat, nx))] else none
    | _ => none
  | .arraylength => match st with
    | b :: r => if b.1 = 5 then some [(pc + 1, (cs, lo, (0, xl_c 35) :: r, fa, nx))] else if 10 ≤ b.1 ∧ (tb (b.1 - 10)).1 = 1 ∧ (tb (b.1 - 10)).2.2.1 < 100000 then some [(pc + 1, (cs, lo, (0, xl_c (tb (b.1 - 10)).2.2.1) :: r, fa, nx))] else none
    | _ => none
  | _ => none
