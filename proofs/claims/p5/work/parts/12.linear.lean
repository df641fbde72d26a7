-- ===== linear expressions over symbols, and what a list of them (each at least 0) gives =====
abbrev xL : Type := List (Nat × Int) × Int
def xt_ev : List (Nat × Int) → (Nat → Int) → Int
  | [], _ => 0
  | q :: r, v => q.2 * v q.1 + xt_ev r v
def xl_ev (l : xL) (v : Nat → Int) : Int := xt_ev l.1 v + l.2
def xt_ins (i : Nat) (a : Int) : List (Nat × Int) → List (Nat × Int)
  | [] => if a = 0 then [] else [(i, a)]
  | q :: r => if i < q.1 then (if a = 0 then q :: r else (i, a) :: q :: r) else if i = q.1 then (if a + q.2 = 0 then r else (i, a + q.2) :: r) else q :: xt_ins i a r
theorem xt_ins_ev (i : Nat) (a : Int) (v : Nat → Int) : ∀ r, xt_ev (xt_ins i a r) v = a * v i + xt_ev r v
  | [] => by
    unfold xt_ins
    split
    · rename_i h
      rw [h]
      simp [xt_ev]
    · rfl
  | q :: r => by
    unfold xt_ins
    split
    · split
      · rename_i h
        rw [h]
        simp [xt_ev]
      · rfl
    · split
      · rename_i h
        subst h
        split
        · rename_i h
          show xt_ev r v = a * v q.1 + (q.2 * v q.1 + xt_ev r v)
          rw [← Int.add_assoc, ← Int.add_mul, h]
          simp
        · show (a + q.2) * v q.1 + xt_ev r v = a * v q.1 + (q.2 * v q.1 + xt_ev r v)
          rw [← Int.add_assoc, ← Int.add_mul]
      · show q.2 * v q.1 + xt_ev (xt_ins i a r) v = a * v i + (q.2 * v q.1 + xt_ev r v)
        rw [xt_ins_ev i a v r]
        omega
def xt_add : List (Nat × Int) → List (Nat × Int) → List (Nat × Int)
  | [], m => m
  | q :: r, m => xt_ins q.1 q.2 (xt_add r m)
theorem xt_add_ev (v : Nat → Int) : ∀ l m, xt_ev (xt_add l m) v = xt_ev l v + xt_ev m v
  | [], m => by simp [xt_add, xt_ev]
  | q :: r, m => by
    rw [xt_add, xt_ins_ev, xt_add_ev v r m, xt_ev, Int.add_assoc]
def xt_mul (k : Int) : List (Nat × Int) → List (Nat × Int)
  | [] => []
  | q :: r => (q.1, k * q.2) :: xt_mul k r
theorem xt_mul_ev (k : Int) (v : Nat → Int) : ∀ l, xt_ev (xt_mul k l) v = k * xt_ev l v
  | [] => by simp [xt_mul, xt_ev]
  | q :: r => by
    show k * q.2 * v q.1 + xt_ev (xt_mul k r) v = k * (q.2 * v q.1 + xt_ev r v)
    rw [xt_mul_ev k v r, Int.mul_add, Int.mul_assoc]
def xl_add (l m : xL) : xL := (xt_add l.1 m.1, l.2 + m.2)
def xl_mul (k : Int) (l : xL) : xL := if k = 0 then ([], 0) else (xt_mul k l.1, k * l.2)
def xl_sub (l m : xL) : xL := xl_add l (xl_mul (-1) m)
def xl_c (k : Int) : xL := ([], k)
def xl_s (i : Nat) : xL := ([(i, 1)], 0)
theorem xl_add_ev (l m : xL) (v : Nat → Int) : xl_ev (xl_add l m) v = xl_ev l v + xl_ev m v := by
  unfold xl_ev xl_add
  rw [xt_add_ev]
  omega
theorem xl_mul_ev (k : Int) (l : xL) (v : Nat → Int) : xl_ev (xl_mul k l) v = k * xl_ev l v := by
  unfold xl_mul
  split
  · rename_i h
    rw [h]
    simp [xl_ev, xt_ev]
  · unfold xl_ev
    rw [xt_mul_ev, Int.mul_add]
theorem xl_sub_ev (l m : xL) (v : Nat → Int) : xl_ev (xl_sub l m) v = xl_ev l v - xl_ev m v := by
  unfold xl_sub
  rw [xl_add_ev, xl_mul_ev]
  omega
theorem xl_c_ev (k : Int) (v : Nat → Int) : xl_ev (xl_c k) v = k := by simp [xl_ev, xl_c, xt_ev]
theorem xl_s_ev (i : Nat) (v : Nat → Int) : xl_ev (xl_s i) v = v i := by simp [xl_ev, xl_s, xt_ev]
-- bounds
def x_Bd (v : Nat → Int) : Prop := ∀ i, -2147483648 ≤ v i ∧ v i ≤ 2147483647
def x_Cs (cs : List xL) (v : Nat → Int) : Prop := ∀ c ∈ cs, 0 ≤ xl_ev c v
def x_lo : List xL → Nat → Int
  | [], _ => -2147483648
  | c :: cs, i => match c.1 with
    | [q] => if q.2 = 1 ∧ q.1 = i ∧ x_lo cs i < -c.2 then -c.2 else x_lo cs i
    | _ => x_lo cs i
def x_hi : List xL → Nat → Int
  | [], _ => 2147483647
  | c :: cs, i => match c.1 with
    | [q] => if q.2 = -1 ∧ q.1 = i ∧ c.2 < x_hi cs i then c.2 else x_hi cs i
    | _ => x_hi cs i
theorem x_lo_ok {v : Nat → Int} (hB : x_Bd v) (i : Nat) : ∀ cs, x_Cs cs v → x_lo cs i ≤ v i
  | [], _ => (hB i).1
  | c :: cs, h => by
    have ih := x_lo_ok hB i cs (fun d hd => h d (List.mem_cons_of_mem _ hd))
    have hc := h c List.mem_cons_self
    unfold x_lo
    split
    · rename_i q hq
      split
      · rename_i hh
        unfold xl_ev at hc
        rw [hq] at hc
        simp only [xt_ev] at hc
        rw [hh.1, hh.2.1] at hc
        omega
      · exact ih
    · exact ih
theorem x_hi_ok {v : Nat → Int} (hB : x_Bd v) (i : Nat) : ∀ cs, x_Cs cs v → v i ≤ x_hi cs i
  | [], _ => (hB i).2
  | c :: cs, h => by
    have ih := x_hi_ok hB i cs (fun d hd => h d (List.mem_cons_of_mem _ hd))
    have hc := h c List.mem_cons_self
    unfold x_hi
    split
    · rename_i q hq
      split
      · rename_i hh
        unfold xl_ev at hc
        rw [hq] at hc
        simp only [xt_ev] at hc
        rw [hh.1, hh.2.1] at hc
        omega
      · exact ih
    · exact ih
def xt_lb (cs : List xL) : List (Nat × Int) → Int
  | [] => 0
  | q :: r => (if 0 ≤ q.2 then q.2 * x_lo cs q.1 else q.2 * x_hi cs q.1) + xt_lb cs r
def x_lb (cs : List xL) (l : xL) : Int := xt_lb cs l.1 + l.2
theorem xt_lb_ok {v : Nat → Int} (hB : x_Bd v) {cs : List xL} (h : x_Cs cs v) : ∀ l, xt_lb cs l ≤ xt_ev l v
  | [] => Int.le_refl _
  | q :: r => by
    have ih := xt_lb_ok hB h r
    have h1 := x_lo_ok hB q.1 cs h
    have h2 := x_hi_ok hB q.1 cs h
    show (if 0 ≤ q.2 then q.2 * x_lo cs q.1 else q.2 * x_hi cs q.1) + xt_lb cs r ≤ q.2 * v q.1 + xt_ev r v
    split
    · rename_i hq
      have := Int.mul_le_mul_of_nonneg_left h1 hq
      omega
    · rename_i hq
      have := Int.mul_le_mul_of_nonpos_left (a := q.2) (by omega) h2
      omega
theorem x_lb_ok {v : Nat → Int} (hB : x_Bd v) {cs : List xL} (h : x_Cs cs v) (l : xL) : x_lb cs l ≤ xl_ev l v := by
  have := xt_lb_ok hB h l.1
  unfold x_lb xl_ev
  omega
def xt_last : List (Nat × Int) → Option (Nat × Int)
  | [] => none
  | [q] => some q
  | _ :: r => xt_last r
/-- the newest symbol is taken away by a constraint -/
def x_gd (cs : List xL) : Nat → xL → Bool
  | 0, _ => false
  | n + 1, l => match xt_last l.1 with
    | none => false
    | some q => cs.any (fun c => c.1.any (fun r => r.1 == q.1 && decide (r.2 = q.2)) && (decide (0 ≤ x_lb cs (xl_sub l c)) || x_gd cs n (xl_sub l c)))
theorem x_gd_ok {v : Nat → Int} (hB : x_Bd v) {cs : List xL} (h : x_Cs cs v) : ∀ (n : Nat) (l : xL), x_gd cs n l = true → 0 ≤ xl_ev l v
  | 0, _, he => by cases he
  | n + 1, l, he => by
    unfold x_gd at he
    split at he
    · cases he
    · obtain ⟨c, hc, h1⟩ := List.any_eq_true.mp he
      rw [Bool.and_eq_true, Bool.or_eq_true] at h1
      have h2 := h c hc
      have h3 : 0 ≤ xl_ev (xl_sub l c) v := by
        rcases h1.2 with h4 | h4
        · have := x_lb_ok hB h (xl_sub l c)
          have := of_decide_eq_true h4
          omega
        · exact x_gd_ok hB h n _ h4
      rw [xl_sub_ev] at h3
      omega
/-- l is at least 0 wherever cs are -/
def x_ent (cs : List xL) (l : xL) : Bool := decide (0 ≤ x_lb cs l) || x_gd cs 5 l
theorem x_ent_ok {v : Nat → Int} (hB : x_Bd v) {cs : List xL} (h : x_Cs cs v) {l : xL} (he : x_ent cs l = true) : 0 ≤ xl_ev l v := by
  unfold x_ent at he
  rw [Bool.or_eq_true] at he
  rcases he with he | he
  · have := x_lb_ok hB h l
    have := of_decide_eq_true he
    omega
  · exact x_gd_ok hB h 5 l he
-- substitution
def xt_sub (b : Nat → xL) : List (Nat × Int) → xL
  | [] => ([], 0)
  | q :: r => xl_add (xl_mul q.2 (b q.1)) (xt_sub b r)
def xl_subst (b : Nat → xL) (l : xL) : xL := xl_add (xt_sub b l.1) (xl_c l.2)
theorem xt_sub_ev (b : Nat → xL) (v : Nat → Int) : ∀ l, xl_ev (xt_sub b l) v = xt_ev l (fun i => xl_ev (b i) v)
  | [] => by simp [xt_sub, xl_ev, xt_ev]
  | q :: r => by
    rw [xt_sub, xl_add_ev, xl_mul_ev, xt_sub_ev b v r]
    rfl
theorem xl_subst_ev (b : Nat → xL) (l : xL) (v : Nat → Int) : xl_ev (xl_subst b l) v = xl_ev l (fun i => xl_ev (b i) v) := by
  unfold xl_subst
  rw [xl_add_ev, xt_sub_ev, xl_c_ev]
  rfl
-- a symbol that doesn't stand in an expression
def xt_no (i : Nat) : List (Nat × Int) → Bool
  | [] => true
  | q :: r => !(q.1 == i) && xt_no i r
def x_up (v : Nat → Int) (i : Nat) (x : Int) : Nat → Int := fun j => if j = i then x else v j
theorem xt_no_ev {i : Nat} (v : Nat → Int) (x : Int) : ∀ l, xt_no i l = true → xt_ev l (x_up v i x) = xt_ev l v
  | [], _ => rfl
  | q :: r, h => by
    unfold xt_no at h
    rw [Bool.and_eq_true] at h
    have h1 : q.1 ≠ i := by simpa using h.1
    rw [xt_ev, xt_ev, xt_no_ev v x r h.2]
    simp [x_up, h1]
theorem xl_no_ev {i : Nat} (v : Nat → Int) (x : Int) {l : xL} (h : xt_no i l.1 = true) : xl_ev l (x_up v i x) = xl_ev l v := by
  unfold xl_ev
  rw [xt_no_ev v x l.1 h]
theorem x_up_Bd {v : Nat → Int} (h : x_Bd v) {i : Nat} {x : Int} (h1 : -2147483648 ≤ x) (h2 : x ≤ 2147483647) : x_Bd (x_up v i x) := by
  intro j
  unfold x_up
  split
  · exact ⟨h1, h2⟩
  · exact h j
