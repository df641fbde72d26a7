-- ===== the pure machine: cells by number, values as the machine's, references as numbers of cells =====
abbrev pE : Type := (Nat × vp_A) ⊕ (Nat × List Value)
abbrev pL : Type := List (Nat × Value)
abbrev pR : Type := Nat × pL × List Value × List pE × Nat × Nat
def pm_TB : Nat := 1000000
def pm_SB : Nat := 2000000
def pm_KB : Nat := 3000000
def pm_get (lv : pL) (i : Nat) : Option Value := (lv.find? (fun q => q.1 == i)).map (fun q => q.2)
def pm_put1 (lv : pL) (i : Nat) (v : Value) : pL := (i, v) :: lv.filter (fun q => !(q.1 == i) && !(q.1 + 1 == i && q.2.category == 2))
def pm_put2 (lv : pL) (i : Nat) (v : Value) : pL := (i, v) :: lv.filter (fun q => !(q.1 == i) && (!(q.1 == i + 1) && !(q.1 + 1 == i && q.2.category == 2)))
def pm_tgt (pc : Nat) (off : Int) : Option Nat := if 0 ≤ (pc : Int) + off then some ((pc : Int) + off).toNat else none
def pm_ty (ci : Nat) : Nat → FieldType := match ci with
  | 0 => tyX0
  | 1 => tyX1
  | 2 => tyX2
  | 3 => tyX3
  | 4 => tyX4
  | 5 => tyX5
  | 6 => tyX6
  | 7 => tyX7
  | 8 => tyX8
  | 9 => tyX10
  | _ => tyX11
def pm_N (ci : Nat) : Nat := match vwCl[ci]? with
  | some q => q.2.2
  | none => 0
def pm_fin (ci k : Nat) : Bool := match vwCl[ci]? with
  | some q => (q.2.1 k).2.2.2
  | none => true
def pm_cn (ci : Nat) : String := match vwCl[ci]? with
  | some q => q.1
  | none => ""
def pm_bad (j : Int32) (n : Nat) : Bool := decide (j < 0) || decide (n ≤ j.toNatClampNeg)
def pm_isTok (a : Nat) : Bool := decide (pm_TB ≤ a) && decide (a < pm_TB + 35)
def pm_if (b : Bool) (pc : Nat) (off : Int) (lv : pL) (st : List Value) (G : List pE) : Option pR := match pm_tgt pc off with
  | none => none
  | some t => some (if b then t else pc + 3, lv, st, G, 0, 0)
def pm_holds (c : ClassFile.Cond) (x y : Int32) : Bool := match c with
  | .eq => decide (x = y)
  | .ne => decide (x ≠ y)
  | .lt => decide (x < y)
  | .ge => decide (y ≤ x)
  | .gt => decide (y < x)
  | .le => decide (x ≤ y)
/-- the length of an instruction that the machine takes -/
def pm_len (i : Instr) (n : Nat) : Nat := match i with
  | .iload _ | .lload _ | .aload _ | .istore _ | .lstore _ | .astore _ | .bipush _ | .ldc _ | .newarray _ => 2
  | .sipush _ | .ldc_w _ | .ldc2_w _ | .ifCond _ _ | .if_icmp _ _ | .if_acmp _ _ | .goto _ | .iinc _ _ | .getfield _ | .putfield _ | .getstatic _ | .new _ | .anewarray _ | .invokevirtual _ | .invokespecial _ | .invokestatic _ => 3
  | .tableswitch _ _ _ _ | .lookupswitch _ _ => n
  | _ => 1
def pm_atype (t : ArrayType) : Nat := match t with
  | .int => 0
  | .byte => 1
  | .boolean => 2
  | .long => 3
  | _ => 99
def pm_blank (t N : Nat) : vp_A := match t with
  | 3 => (N, .inr (.inl (fun _ => 0)))
  | _ => (N, .inl (fun _ => 0))
def pm_step (own nL : Nat) (init : Bool) (xs : Nat → Int32) (L J : Nat) (i : Instr) (pc : Nat) (lv : pL) (st : List Value) (G : List pE) : Option pR := match i with
  | .iconst n => some (pc + 1, lv, .int (Int32.ofInt n) :: st, G, 0, 0)
  | .bipush n => some (pc + 2, lv, .int (Int8.ofInt n).toInt32 :: st, G, 0, 0)
  | .sipush n => some (pc + 3, lv, .int (Int16.ofInt n).toInt32 :: st, G, 0, 0)
  | .lconst n => some (pc + 1, lv, .long (Int64.ofNat (n : Nat)) :: st, G, 0, 0)
  | .iload j => match pm_get lv j with
    | some (.int x) => some (pc + 2, lv, .int x :: st, G, 0, 0)
    | _ => none
  | .iload_n j => match pm_get lv (j : Nat) with
    | some (.int x) => some (pc + 1, lv, .int x :: st, G, 0, 0)
    | _ => none
  | .lload j => match pm_get lv j with
    | some (.long x) => some (pc + 2, lv, .long x :: st, G, 0, 0)
    | _ => none
  | .lload_n j => match pm_get lv (j : Nat) with
    | some (.long x) => some (pc + 1, lv, .long x :: st, G, 0, 0)
    | _ => none
  | .aload j => match pm_get lv j with
    | some (.ref x) => some (pc + 2, lv, .ref x :: st, G, 0, 0)
    | some .null => some (pc + 2, lv, .null :: st, G, 0, 0)
    | _ => none
  | .aload_n j => match pm_get lv (j : Nat) with
    | some (.ref x) => some (pc + 1, lv, .ref x :: st, G, 0, 0)
    | some .null => some (pc + 1, lv, .null :: st, G, 0, 0)
    | _ => none
  | .istore j => match st with
    | .int x :: r => if j < nL then some (pc + 2, pm_put1 lv j (.int x), r, G, 0, 0) else none
    | _ => none
  | .istore_n j => match st with
    | .int x :: r => if (j : Nat) < nL then some (pc + 1, pm_put1 lv (j : Nat) (.int x), r, G, 0, 0) else none
    | _ => none
  | .astore j => match st with
    | .ref x :: r => if j < nL then some (pc + 2, pm_put1 lv j (.ref x), r, G, 0, 0) else none
    | .null :: r => if j < nL then some (pc + 2, pm_put1 lv j .null, r, G, 0, 0) else none
    | _ => none
  | .astore_n j => match st with
    | .ref x :: r => if (j : Nat) < nL then some (pc + 1, pm_put1 lv (j : Nat) (.ref x), r, G, 0, 0) else none
    | .null :: r => if (j : Nat) < nL then some (pc + 1, pm_put1 lv (j : Nat) .null, r, G, 0, 0) else none
    | _ => none
  | .iinc j n => match pm_get lv j with
    | some (.int x) => if j < nL then some (pc + 3, pm_put1 lv j (.int (x + Int32.ofInt n)), st, G, 0, 0) else none
    | _ => none
  | .iadd => match st with
    | .int y :: .int x :: r => some (pc + 1, lv, .int (x + y) :: r, G, 0, 0)
    | _ => none
  | .isub => match st with
    | .int y :: .int x :: r => some (pc + 1, lv, .int (x - y) :: r, G, 0, 0)
    | _ => none
  | .imul => match st with
    | .int y :: .int x :: r => some (pc + 1, lv, .int (x * y) :: r, G, 0, 0)
    | _ => none
  | .iand => match st with
    | .int y :: .int x :: r => some (pc + 1, lv, .int (x &&& y) :: r, G, 0, 0)
    | _ => none
  | .ior => match st with
    | .int y :: .int x :: r => some (pc + 1, lv, .int (x ||| y) :: r, G, 0, 0)
    | _ => none
  | .ixor => match st with
    | .int y :: .int x :: r => some (pc + 1, lv, .int (x ^^^ y) :: r, G, 0, 0)
    | _ => none
  | .idiv => match st with
    | .int y :: .int x :: r => if y = 0 then none else some (pc + 1, lv, .int (x / y) :: r, G, 0, 0)
    | _ => none
  | .irem => match st with
    | .int y :: .int x :: r => if y = 0 then none else some (pc + 1, lv, .int (x - x / y * y) :: r, G, 0, 0)
    | _ => none
  | .ishl => match st with
    | .int y :: .int x :: r => some (pc + 1, lv, .int (x <<< (y &&& 31)) :: r, G, 0, 0)
    | _ => none
  | .ishr => match st with
    | .int y :: .int x :: r => some (pc + 1, lv, .int (x >>> (y &&& 31)) :: r, G, 0, 0)
    | _ => none
  | .iushr => match st with
    | .int y :: .int x :: r => some (pc + 1, lv, .int (x.toUInt32 >>> (y.toUInt32 &&& Int32.toUInt32 31)).toInt32 :: r, G, 0, 0)
    | _ => none
  | .i2l => match st with
    | .int x :: r => some (pc + 1, lv, .long x.toInt64 :: r, G, 0, 0)
    | _ => none
  | .i2b => match st with
    | .int x :: r => some (pc + 1, lv, .int x.toInt8.toInt32 :: r, G, 0, 0)
    | _ => none
  | .ladd => match st with
    | .long y :: .long x :: r => some (pc + 1, lv, .long (x + y) :: r, G, 0, 0)
    | _ => none
  | .lmul => match st with
    | .long y :: .long x :: r => some (pc + 1, lv, .long (x * y) :: r, G, 0, 0)
    | _ => none
  | .lor => match st with
    | .long y :: .long x :: r => some (pc + 1, lv, .long (x ||| y) :: r, G, 0, 0)
    | _ => none
  | .lshl => match st with
    | .int y :: .long x :: r => some (pc + 1, lv, .long (x <<< (y.toInt64 &&& 63)) :: r, G, 0, 0)
    | _ => none
  | .lcmp => match st with
    | .long y :: .long x :: r => some (pc + 1, lv, .int (lg_cmp x y) :: r, G, 0, 0)
    | _ => none
  | .dup => match st with
    | v :: r => if v.category = 1 then some (pc + 1, lv, v :: v :: r, G, 0, 0) else none
    | _ => none
  | .pop => match st with
    | v :: r => if v.category = 1 then some (pc + 1, lv, r, G, 0, 0) else none
    | _ => none
  | .dup2 => match st with
    | v :: w :: r => if v.category = 1 ∧ w.category = 1 then some (pc + 1, lv, v :: w :: v :: w :: r, G, 0, 0) else none
    | _ => none
  | .ifCond c o => match st with
    | .int x :: r => pm_if (pm_holds c x 0) pc o lv r G
    | _ => none
  | .if_icmp c o => match st with
    | .int y :: .int x :: r => pm_if (pm_holds c x y) pc o lv r G
    | _ => none
  | .if_acmp c o => match st with
    | .ref b :: .ref a :: r => if pm_isTok a && pm_isTok b then pm_if (match c with
      | .eq => decide (a = b)
      | .ne => !decide (a = b)) pc o lv r G else none
    | .ref _ :: .null :: r => pm_if (match c with
      | .eq => false
      | .ne => true) pc o lv r G
    | .null :: .ref _ :: r => pm_if (match c with
      | .eq => false
      | .ne => true) pc o lv r G
    | _ => none
  | .goto o => match pm_tgt pc o with
    | some t => some (t, lv, st, G, 0, 0)
    | none => none
  | .tableswitch d lo hi offs => match st with
    | .int x :: r => if x.toInt < lo ∨ hi < x.toInt then (match pm_tgt pc d with
        | some t => some (t, lv, r, G, 0, 0)
        | none => none) else (match offs[(x.toInt - lo).toNat]? with
        | some o => (match pm_tgt pc o with
          | some t => some (t, lv, r, G, 0, 0)
          | none => none)
        | none => none)
    | _ => none
  | .lookupswitch d ps => match st with
    | .int x :: r => if (ps.toList.zip (ps.toList.drop 1)).all (fun (a, next) => a.1 < next.1) = true then (match pm_tgt pc (Op.lookupswitch.offset ps.toList d x.toInt) with
        | some t => some (t, lv, r, G, 0, 0)
        | none => none) else none
    | _ => none
  | .ldc k => match pm_ktab.find? (fun r => r.1 == own && r.2.1 == k) with
    | some r => some (pc + 2, lv, .int r.2.2.1 :: st, G, 0, 0)
    | none => none
  | .ldc_w k => match pm_ktab.find? (fun r => r.1 == own && r.2.1 == k) with
    | some r => some (pc + 3, lv, .int r.2.2.1 :: st, G, 0, 0)
    | none => none
  | .ldc2_w k => match pm_ltab.find? (fun r => r.1 == own && r.2.1 == k) with
    | some r => some (pc + 3, lv, .long r.2.2.1 :: st, G, 0, 0)
    | none => none
  | .getstatic k => match pm_stab.find? (fun r => r.1 == own && r.2.1 == k) with
    | some r => some (pc + 3, lv, .ref (if r.2.2.1 < 35 then pm_TB + r.2.2.1 else pm_KB) :: st, G, 0, 0)
    | none => none
  | .getfield k => match st with
    | .ref a :: r => if pm_isTok a then (if own = 2 ∧ k = 79 then some (pc + 3, lv, .long (pm_tokc.getD (a - pm_TB) 0) :: r, G, 0, 0) else none)
      else (match pm_ftab.find? (fun r => r.1 == own && r.2.1 == k) with
      | some q => (match G[a]? with
        | some (.inr (ci, fs)) => if ci = q.2.2.1 then (match fs[q.2.2.2.1]? with
          | some v => some (pc + 3, lv, v :: r, G, 0, 0)
          | none => none) else none
        | _ => none)
      | none => none)
    | _ => none
  | .putfield k => match st with
    | v :: .ref a :: r => (match pm_ftab.find? (fun r => r.1 == own && r.2.1 == k) with
      | some q => (match G[a]? with
        | some (.inr (ci, fs)) => if ci = q.2.2.1 ∧ q.2.2.2.1 < fs.length ∧ narrow (pm_ty ci q.2.2.2.1) v = v ∧ fits (pm_ty ci q.2.2.2.1) v = true ∧ (pm_fin ci q.2.2.2.1 = true → init = true ∧ pm_own own = pm_cn ci ∧ q.2.2.2.2.1 = 0) then some (pc + 3, lv, r, G.set a (.inr (ci, fs.set q.2.2.2.1 v)), 0, 0) else none
        | _ => none)
      | none => none)
    | _ => none
  | .iaload => match st with
    | .int j :: .ref a :: r => if a = pm_SB then (if pm_bad j L then none else some (pc + 1, lv, .int (xs j.toNatClampNeg) :: r, G, 0, 0)) else (match G[a]? with
      | some (.inl (0, n, .inl f)) => if pm_bad j n then none else some (pc + 1, lv, .int (f j.toNatClampNeg) :: r, G, 0, 0)
      | _ => none)
    | _ => none
  | .baload => match st with
    | .int j :: .ref a :: r => (match G[a]? with
      | some (.inl (1, n, .inl f)) => if pm_bad j n then none else some (pc + 1, lv, .int (f j.toNatClampNeg) :: r, G, 0, 0)
      | some (.inl (2, n, .inl f)) => if pm_bad j n then none else some (pc + 1, lv, .int (f j.toNatClampNeg) :: r, G, 0, 0)
      | _ => none)
    | _ => none
  | .laload => match st with
    | .int j :: .ref a :: r => (match G[a]? with
      | some (.inl (3, n, .inr (.inl f))) => if pm_bad j n then none else some (pc + 1, lv, .long (f j.toNatClampNeg) :: r, G, 0, 0)
      | _ => none)
    | _ => none
  | .aaload => match st with
    | .int j :: .ref a :: r => if a = pm_KB then (if pm_bad j 35 then none else some (pc + 1, lv, .ref (pm_TB + j.toNatClampNeg) :: r, G, 0, 0)) else (match G[a]? with
      | some (.inl (t, n, .inr (.inr (.inr (.inr g))))) => if pm_bad j n ∨ t < 4 ∨ 9 < t then none else some (pc + 1, lv, va_rf (g j.toNatClampNeg) :: r, G, 0, 0)
      | _ => none)
    | _ => none
  | .iastore => match st with
    | .int x :: .int j :: .ref a :: r => (match G[a]? with
      | some (.inl (0, n, .inl f)) => if pm_bad j n then none else some (pc + 1, lv, r, G.set a (.inl (0, n, .inl (upd f j.toNatClampNeg x))), 0, 0)
      | _ => none)
    | _ => none
  | .bastore => match st with
    | .int x :: .int j :: .ref a :: r => (match G[a]? with
      | some (.inl (1, n, .inl f)) => if pm_bad j n then none else some (pc + 1, lv, r, G.set a (.inl (1, n, .inl (upd f j.toNatClampNeg (vp_nar .byte x)))), 0, 0)
      | some (.inl (2, n, .inl f)) => if pm_bad j n then none else some (pc + 1, lv, r, G.set a (.inl (2, n, .inl (upd f j.toNatClampNeg (vp_nar .boolean x)))), 0, 0)
      | _ => none)
    | _ => none
  | .lastore => match st with
    | .long x :: .int j :: .ref a :: r => (match G[a]? with
      | some (.inl (3, n, .inr (.inl f))) => if pm_bad j n then none else some (pc + 1, lv, r, G.set a (.inl (3, n, .inr (.inl (vp_updL f j.toNatClampNeg x)))), 0, 0)
      | _ => none)
    | _ => none
  | .aastore => match st with
    | .ref v :: .int j :: .ref a :: r => (match G[a]? with
      | some (.inl (t, n, .inr (.inr (.inr (.inr g))))) => if pm_bad j n ∨ t < 4 ∨ 9 < t then none else (if pm_isTok v then (if t = 4 then some (pc + 1, lv, r, G.set a (.inl (t, n, .inr (.inr (.inr (.inr (va_up g j.toNatClampNeg (some v))))))), 0, 0) else none) else (match G[v]? with
        | some (.inr (ci, _)) => if pm_cn ci = pm_arrC t ∧ ci < 11 then some (pc + 1, lv, r, G.set a (.inl (t, n, .inr (.inr (.inr (.inr (va_up g j.toNatClampNeg (some v))))))), 0, 0) else none
        | _ => none))
      | _ => none)
    | .null :: .int j :: .ref a :: r => (match G[a]? with
      | some (.inl (t, n, .inr (.inr (.inr (.inr g))))) => if pm_bad j n ∨ t < 4 ∨ 9 < t then none else some (pc + 1, lv, r, G.set a (.inl (t, n, .inr (.inr (.inr (.inr (va_up g j.toNatClampNeg none)))))), 0, 0)
      | _ => none)
    | _ => none
  | .arraylength => match st with
    | .ref a :: r => if a = pm_SB then some (pc + 1, lv, .int (Int32.ofNat L) :: r, G, 0, 0) else if a = pm_KB then some (pc + 1, lv, .int (Int32.ofNat 35) :: r, G, 0, 0) else (match G[a]? with
      | some (.inl (t, x)) => if t < 10 then some (pc + 1, lv, .int (Int32.ofNat x.1) :: r, G, 0, 0) else none
      | _ => none)
    | _ => none
  | .new k => match pm_ntab.find? (fun r => r.1 == own && r.2.1 == k) with
    | some q => if q.2.2.1 < 11 ∧ G.length < pm_TB ∧ J = 0 then some (pc + 3, lv, .ref G.length :: st, G ++ [.inr (q.2.2.1, (List.range (pm_N q.2.2.1)).map (fun j => defaultValue (pm_ty q.2.2.1 j)))], 1, pm_N q.2.2.1) else none
    | none => none
  | .newarray t => match st with
    | .int n :: r => if n < 0 ∨ 10000 < n.toNatClampNeg ∨ 3 < pm_atype t ∨ pm_TB ≤ G.length ∨ J ≠ 0 then none else some (pc + 2, lv, .ref G.length :: r, G ++ [.inl (pm_atype t, pm_blank (pm_atype t) n.toNatClampNeg)], 1, n.toNatClampNeg)
    | _ => none
  | .anewarray k => match st with
    | .int n :: r => (match pm_ntab.find? (fun r => r.1 == own && r.2.1 == k) with
      | some q => if n < 0 ∨ 10000 < n.toNatClampNeg ∨ q.2.2.2.1 < 4 ∨ 9 < q.2.2.2.1 ∨ pm_TB ≤ G.length ∨ J ≠ 0 then none else some (pc + 3, lv, .ref G.length :: r, G ++ [.inl (q.2.2.2.1, n.toNatClampNeg, .inr (.inr (.inr (.inr (fun _ => none)))))], 1, n.toNatClampNeg)
      | none => none)
    | _ => none
  | _ => none
/-- what a returning instruction gives -/
def pm_ret (i : Instr) (rt : Option FieldType) (st : List Value) : Option (Option Value) := match i, st with
  | .return_, [] => if rt = none then some none else none
  | .ireturn, [.int v] => (match rt with
    | some ty => if narrow ty (.int v) = .int v ∧ (ty = .int ∨ ty = .boolean) then some (some (.int v)) else none
    | none => none)
  | .areturn, [.ref a] => (match rt with
    | some (.object _) => some (some (.ref a))
    | _ => none)
  | _, _ => none
/-- which calls: index -/
def pm_call (i : Instr) : Option (Nat × Nat) := match i with
  | .invokevirtual k => some (1, k)
  | .invokestatic k => some (2, k)
  | .invokespecial k => some (3, k)
  | _ => none
/-- the receiver is a cell of the method's class -/
def pm_recv (k : Nat) (M : pM) (as : List Value) (G : List pE) : Bool := match M.st with
  | true => true
  | false => (match as with
    | .ref b :: _ => (match k with
      | 3 => true
      | 6 => true
      | _ => (match G[b]? with
        | some (.inr (ci, _)) => decide (ci = M.ci)
        | _ => false))
    | _ => false)
def pm_na (M : pM) : Nat := if M.st then M.np else M.np + 1
/-- n steps at most, calls d deep -/
def pm_run (xs : Nat → Int32) (L J : Nat) : Nat → Nat → pM → Nat → pL → List Value → List pE → Nat → Nat → Option (Option Value × List pE × Nat × Nat)
  | 0, _, _, _, _, _, _, _, _ => none
  | f + 1, d, M, pc, lv, st, G, c, s => match decode M.code pc with
    | .error _ => none
    | .ok (i, n) => if pm_len i n = n then (match pm_ret i M.ret st with
      | some r => some (r, G, c, s)
      | none => (match pm_call i with
        | none => (match pm_step M.own M.maxL (decide (M.y.name = "<init>")) xs L J i pc lv st G with
          | some (pc', lv', st', G', dc, ds) => pm_run xs L J f d M pc' lv' st' G' (c + dc) (s + ds)
          | none => none)
        | some (w, k) => (match pm_ctab.find? (fun r => r.1 == M.own && r.2.1 == k) with
          | none => none
          | some q => (match q.2.2.1 with
            | 0 => (match st with
              | .ref _ :: r => if w = 3 ∧ 0 < d ∧ (r.map fun v => v.category).sum ≤ 8 then pm_run xs L J f d M (pc + 3) lv r G c s else none
              | _ => none)
            | 7 => (match st with
              | .int y :: .int x :: r => if w = 2 ∧ 0 < d ∧ (r.map fun v => v.category).sum ≤ 8 then pm_run xs L J f d M (pc + 3) lv (.int (if x < y then y else x) :: r) G c s else none
              | _ => none)
            | 8 => (match st with
              | .int y :: .int x :: r => if w = 2 ∧ 0 < d ∧ (r.map fun v => v.category).sum ≤ 8 then pm_run xs L J f d M (pc + 3) lv (.int (if y < x then y else x) :: r) G c s else none
              | _ => none)
            | 9 => (match st with
              | .int x :: r => if w = 2 ∧ 0 < d ∧ (r.map fun v => v.category).sum ≤ 8 then pm_run xs L J f d M (pc + 3) lv (.int (if 0 ≤ x then x else 0 - x) :: r) G c s else none
              | _ => none)
            | k => (match d, pm_tab[q.2.2.2.1]? with
              | d' + 1, some M' => if (k = w ∨ k = w + 3) ∧ pm_na M' ≤ st.length ∧ pm_recv k M' (st.take (pm_na M')).reverse G = true ∧ (lg_sl (st.take (pm_na M')).reverse).length ≤ M'.maxL ∧ ((st.drop (pm_na M')).map fun v => v.category).sum ≤ 8 then
                  (match pm_run xs L J f d' M' 0 (lv_args 0 (st.take (pm_na M')).reverse) [] G 0 0 with
                  | some (r, G', mc, ms) => pm_run xs L J f d M (pc + 3) lv (r.toList ++ st.drop (pm_na M')) G' (c + mc) (s + ms)
                  | none => none) else none
              | _, _ => none)))))
      else none
