-- ===== a step; a run =====
section PST
variable {p : Program} {l : Launch} {e : Env} {R : Room} {s : State} {m : MethodId} {args : Array Value} {below : List Frame} {meth : Method} {c : Code} {Q : State → Prop} {o : Om} {M : pM} {G G' : List pE} {lv lv' : pL} {st st' : List Value} {pc pc' dc ds n cells slots : Nat}
set_option maxHeartbeats 4000000 in
theorem pm_step_ok {i : Instr} (hF : pm_Fix p s m meth c M) (hK : pm_K o s) (hd : decode M.code pc = .ok (i, n)) (hn : pm_len i n = n) (hr : pm_step M.own M.maxL (decide (M.y.name = "<init>")) o.xs o.L o.J i pc lv st G = some (pc', lv', st', G', dc, ds)) (hcR : cells + dc ≤ R.cells) (hsR : slots + ds ≤ R.slots) (kk : PW p l e R s m args below meth c Q o M pc' lv' st' G' (cells + dc) (slots + ds)) : PW p l e R s m args below meth c Q o M pc lv st G cells slots := by
  obtain ⟨hx, hb, hml, hown, hret, hlk, hnm⟩ := hF
  cases i
  case iconst => exact pm_s_iconst hx hb hd hn hr kk
  case bipush => exact pm_s_bipush hx hb hd hn hr kk
  case sipush => exact pm_s_sipush hx hb hd hn hr kk
  case lconst => exact pm_s_lconst hx hb hd hn hr kk
  case iload => exact pm_s_iload hx hb hd hn hr kk
  case lload => exact pm_s_lload hx hb hd hn hr kk
  case aload => exact pm_s_aload hx hb hd hn hr kk
  case iload_n => exact pm_s_iload_n hx hb hd hn hr kk
  case lload_n => exact pm_s_lload_n hx hb hd hn hr kk
  case aload_n => exact pm_s_aload_n hx hb hd hn hr kk
  case istore => exact pm_s_istore hx hb hd hn hr kk
  case astore => exact pm_s_astore hx hb hd hn hr kk
  case istore_n => exact pm_s_istore_n hx hb hd hn hr kk
  case astore_n => exact pm_s_astore_n hx hb hd hn hr kk
  case iinc => exact pm_s_iinc hx hb hd hn hr kk
  case iadd => exact pm_s_iadd hx hb hd hn hr kk
  case isub => exact pm_s_isub hx hb hd hn hr kk
  case imul => exact pm_s_imul hx hb hd hn hr kk
  case iand => exact pm_s_iand hx hb hd hn hr kk
  case ior => exact pm_s_ior hx hb hd hn hr kk
  case ixor => exact pm_s_ixor hx hb hd hn hr kk
  case ishl => exact pm_s_ishl hx hb hd hn hr kk
  case ishr => exact pm_s_ishr hx hb hd hn hr kk
  case ladd => exact pm_s_ladd hx hb hd hn hr kk
  case lmul => exact pm_s_lmul hx hb hd hn hr kk
  case lor => exact pm_s_lor hx hb hd hn hr kk
  case lcmp => exact pm_s_lcmp hx hb hd hn hr kk
  case iushr => exact pm_s_iushr hx hb hd hn hr kk
  case lshl => exact pm_s_lshl hx hb hd hn hr kk
  case i2l => exact pm_s_i2l hx hb hd hn hr kk
  case i2b => exact pm_s_i2b hx hb hd hn hr kk
  case idiv => exact pm_s_idiv hx hb hd hn hr kk
  case irem => exact pm_s_irem hx hb hd hn hr kk
  case dup => exact pm_s_dup hx hb hd hn hr kk
  case pop => exact pm_s_pop hx hb hd hn hr kk
  case dup2 => exact pm_s_dup2 hx hb hd hn hr kk
  case goto => exact pm_s_goto hx hb hd hn hr kk
  case tableswitch => exact pm_s_tableswitch hx hb hd hn hr kk
  case lookupswitch => exact pm_s_lookupswitch hx hb hd hn hr kk
  case ldc => exact pm_s_ldc hx hb hown hK hd hn hr kk
  case ldc_w => exact pm_s_ldc_w hx hb hown hK hd hn hr kk
  case ldc2_w => exact pm_s_ldc2_w hx hb hown hK hd hn hr kk
  case getstatic => exact pm_s_getstatic hx hb hown hK hd hn hr kk
  case getfield => exact pm_s_getfield hx hb hown hK hd hn hr kk
  case iaload => exact pm_s_iaload hx hb hown hK hd hn hr kk
  case baload => exact pm_s_baload hx hb hown hK hd hn hr kk
  case laload => exact pm_s_laload hx hb hown hK hd hn hr kk
  case aaload => exact pm_s_aaload hx hb hown hK hd hn hr kk
  case iastore => exact pm_s_iastore hx hb hown hK hd hn hr kk
  case bastore => exact pm_s_bastore hx hb hown hK hd hn hr kk
  case lastore => exact pm_s_lastore hx hb hown hK hd hn hr kk
  case aastore => exact pm_s_aastore hx hb hown hK hd hn hr kk
  case arraylength => exact pm_s_arraylength hx hb hown hK hd hn hr kk
  case new => exact pm_s_new hx hb hown hK hd hn hr hcR hsR kk
  case newarray => exact pm_s_newarray hx hb hown hK hd hn hr hcR hsR kk
  case anewarray => exact pm_s_anewarray hx hb hown hK hd hn hr hcR hsR kk
  case putfield => exact pm_s_putfield (fun h => by rw [hnm]; exact of_decide_eq_true h) hx hb hown hK hd hn hr kk
  case ifCond c0 k0 => cases c0 <;> first | exact pm_s_ifCond_eq hx hb hd hn hr kk | exact pm_s_ifCond_ne hx hb hd hn hr kk | exact pm_s_ifCond_lt hx hb hd hn hr kk | exact pm_s_ifCond_ge hx hb hd hn hr kk | exact pm_s_ifCond_gt hx hb hd hn hr kk | exact pm_s_ifCond_le hx hb hd hn hr kk
  case if_icmp c0 k0 => cases c0 <;> first | exact pm_s_if_icmp_eq hx hb hd hn hr kk | exact pm_s_if_icmp_ne hx hb hd hn hr kk | exact pm_s_if_icmp_lt hx hb hd hn hr kk | exact pm_s_if_icmp_ge hx hb hd hn hr kk | exact pm_s_if_icmp_gt hx hb hd hn hr kk | exact pm_s_if_icmp_le hx hb hd hn hr kk
  case if_acmp c0 k0 => cases c0 <;> first | exact pm_s_if_acmp_eq hx hb hown hK hd hn hr kk | exact pm_s_if_acmp_ne hx hb hown hK hd hn hr kk
  all_goals cases hr
end PST
/-- what a call gives: the answer, the cells -/
def pm_Qc (o : Om) (r : Option Value) (G : List pE) : Array Value → State → Outcome → State → Prop := fun _ _ oc t => oc = .returned (r.map (pm_v o)) ∧ pm_W o G t.heap
def pm_Pc (o : Om) (as : List Value) (G : List pE) : Array Value → State → Prop := fun a U => a = (as.map (pm_v o)).toArray ∧ pm_K o U ∧ pm_W o G U.heap
def pm_rm (d mc ms : Nat) : Room := { frames := d, cells := mc, slots := ms, locals := 28 * d }
def pm_ws (M : pM) : List Cond := [.code M.y M.code M.maxL M.ret]
def pm_Met (l : Launch) (o : Om) (M : pM) (d : Nat) (as : List Value) (G : List pE) (r : Option Value) (G' : List pE) (mc ms : Nat) : Prop :=
  Met l M.y (pm_ws M) (pm_rm d mc ms) (pm_Pc o as G) (pm_Qc o r G') mc ms (fun q => o.B ≤ q)
theorem pm_sl_len (o : Om) : ∀ as : List Value, (lg_sl (as.map (pm_v o))).length = (lg_sl as).length
  | [] => rfl
  | v :: as => by
    have h := pm_sl_len o as
    unfold lg_sl at h ⊢
    rw [List.map_cons, List.flatMap_cons, List.flatMap_cons, List.length_append, List.length_append, h, pm_v_cat]
    split <;> rfl
theorem pm_l_args (o : Om) : ∀ (as : List Value) (i : Nat), lv_args i (as.map (pm_v o)) = pm_l o (lv_args i as)
  | [], i => rfl
  | v :: as, i => by
    rw [List.map_cons, lv_args, lv_args, pm_l_args o as, pm_v_cat]
    rfl
theorem pm_cats (o : Om) (st : List Value) : ((st.map (pm_v o)).map fun v => v.category).sum = (st.map fun v => v.category).sum := by
  rw [List.map_map]
  congr 1
  apply List.map_congr_left
  intro v _
  exact pm_v_cat o v
/-- a method's row against the tables -/
theorem pm_M {M : pM} {k : Nat} (h : pm_tab[k]? = some M) (hno : M.y.cls ≠ "java/lang/Object") : lw_tbl[M.p0]? = some (.code M.y M.code M.maxL M.ret) ∧ M.y.cls = pm_own M.own ∧ M.maxL ≤ 9 ∧ plainName M.y.cls = true ∧ lw_tbl[M.p1]? = some (.initialized M.y.cls) ∧ (parseMethodDescriptor M.y.desc).map (fun d => d.parameters.length) = some M.np ∧ (M.y.cls ≠ "java/lang/invoke/MethodHandle" ∧ M.y.cls ≠ "java/lang/invoke/VarHandle") ∧ (M.st = true → lw_tbl[M.p2]? = some (.static M.y)) ∧ (M.st = false → lw_tbl[M.p2]? = some (.instanceMethod M.y)) ∧ (M.st = false → M.y.name ≠ "<init>" → lw_tbl[M.p3]? = some (.selects M.y.cls M.y M.y) ∧ (vwCl[M.ci]?).map (fun q => q.1) = some M.y.cls) := by
  have h1 := pm_m_ok M (List.mem_of_getElem? h)
  unfold pm_mchk at h1
  simp only [Bool.and_eq_true, Bool.or_eq_true, decide_eq_true_eq] at h1
  obtain ⟨⟨⟨h2, h3⟩, h4⟩, h5⟩ := h1
  have h6 := h5.resolve_left hno
  obtain ⟨⟨a1, a2, a3, a4, a5⟩, h7⟩ := h6
  have hcode : lw_tbl[M.p0]? = some (.code M.y M.code M.maxL M.ret) := by
    unfold pM.code pm_codeAt
    split at h2
    · rename_i y cc nn rr he
      rw [he]
      obtain ⟨z1, z2, z3⟩ := of_decide_eq_true h2
      rw [z1, z2, z3]
    · cases h2
  refine ⟨hcode, h3, h4, a1, a2, a3, ⟨a4, a5⟩, fun hs => ?_, fun hs => ?_, fun hs hn => ?_⟩
  · rw [hs] at h7
    exact of_decide_eq_true h7
  · rw [hs] at h7
    simp only [Bool.and_eq_true, decide_eq_true_eq] at h7
    exact h7.1
  · rw [hs] at h7
    simp only [Bool.and_eq_true, Bool.or_eq_true, decide_eq_true_eq] at h7
    exact h7.2.resolve_left hn
/-- behind a call -/
theorem pm_after {p : Program} {l : Launch} {e : Env} {R : Room} {s : State} {m : MethodId} {args : Array Value} {below : List Frame} {meth : Method} {c : Code} {Q : State → Prop} {o : Om} {M : pM} {G' : List pE} {lv : pL} {rest : List Value} {pc cells slots mc ms : Nat} {H : Heap} {locs : List Loc} {ls : Array Slot} {st0 : List Value} {a : Array Value} {r : Option Value}
    (hr : va_Run p l e R s m args below meth c H locs cells slots mc ms (F0 m pc ls st0) (rest.map (pm_v o)) (pm_Qc o r G' a) (fun q => o.B ≤ q)) (hL : ∀ q ∈ locs, o.B ≤ q.base) (hl : lv_has ls M.maxL (pm_l o lv))
    (kk : PW p l e R s m args below meth c Q o M (pc + 3) lv (r.toList ++ rest) G' (cells + mc) (slots + ms)) : W p l e R s m args below meth c H locs cells slots Q (F0 m pc ls st0) := by
  intro T hT X
  obtain ⟨v, st₀, t, T', L, h0, X', hL2, e1, e2, ⟨hv, hw⟩, stp⟩ := hr T hT X
  have hv : v = r.map (pm_v o) := by cases hv; rfl
  subst hv
  have hk := kk T'.heap (locs ++ L) ls (by rw [e1]; exact hw) (fun q hq => (List.mem_append.mp hq).elim (hL q) (hL2 q)) hl
  have hst : (r.toList ++ rest).map (pm_v o) = (r.map (pm_v o)).toList ++ rest.map (pm_v o) := by cases r <;> rfl
  rw [hst] at hk
  obtain ⟨t2, a1, b1⟩ := hk T' rfl X'
  exact ⟨t2, stp t2 a1, b1⟩
theorem pm_blind (o : Om) (as : List Value) (G : List pE) : FrameBlind (pm_Pc o as G) := fun a U g mk ⟨h1, h2, h3⟩ => ⟨h1, h2.calling, h3⟩
theorem pm_split {st : List Value} {na : Nat} (h : na ≤ st.length) {as : List Value} (ha : (st.take na).reverse = as) : st = as.reverse ++ st.drop na ∧ as.length = na := by
  constructor
  · rw [← ha, List.reverse_reverse, List.take_append_drop]
  · rw [← ha, List.length_reverse, List.length_take]
    omega
section PCL
variable {p : Program} {l : Launch} {e : Env} {R : Room} {s : State} {m : MethodId} {args : Array Value} {below : List Frame} {meth : Method} {c : Code} {Q : State → Prop} {o : Om} {M M' : pM} {G G' : List pE} {lv : pL} {st : List Value} {pc d mc ms cells slots k kd idx place w : Nat} {as : List Value} {r : Option Value}
theorem pm_callB (hK : pm_K o s) (hM' : pm_tab[k]? = some M') (hno : M'.y.cls ≠ "java/lang/Object") (hlink : (Cond.methodLink (pm_own M.own) idx M'.y).before args s = true) (hRf : d + 1 ≤ R.frames) (hRl : 28 * (d + 1) ≤ R.locals) : CallB R s args (pm_own M.own) idx M'.y M'.code M'.maxL M'.ret (pm_ws M') (pm_rm d mc ms) mc ms M'.np := by
  obtain ⟨q1, q2, q3, q4, q5, q6, q7, -⟩ := pm_M hM' hno
  refine ⟨rfl, rfl, hRf, ?_, ?_, List.mem_cons_self, hK.word q1 rfl args, hK.word q5 rfl args, q7, fun sig h => ?_, hlink⟩
  · show 8 + (M'.maxL + 11) + 28 * d ≤ R.locals
    omega
  · intro x hx a' U hW
    rw [List.mem_singleton.mp hx]
    exact pm_good_at hW rfl (hK.word q1 rfl args)
  · rw [h] at q6
    exact (Option.some.inj q6).symm
theorem pm_callN (hK : pm_K o s) (hM' : pm_tab[k]? = some M') (hno : M'.y.cls ≠ "java/lang/Object") (hlink : (Cond.methodLinkNest (pm_own M.own) idx M'.y "BreathingHill").before args s = true) (hRf : d + 1 ≤ R.frames) (hRl : 28 * (d + 1) ≤ R.locals) : va_CN R s args (pm_own M.own) idx M'.y "BreathingHill" M'.code M'.maxL M'.ret (pm_ws M') (pm_rm d mc ms) mc ms M'.np := by
  obtain ⟨q1, q2, q3, q4, q5, q6, q7, -⟩ := pm_M hM' hno
  refine ⟨⟨rfl, rfl, hRf, ?_, ?_, List.mem_cons_self⟩, hK.word q1 rfl args, hK.word q5 rfl args, q7, fun sig h => ?_, hlink⟩
  · show 8 + (M'.maxL + 11) + 28 * d ≤ R.locals
    omega
  · intro x hx a' U hW
    rw [List.mem_singleton.mp hx]
    exact pm_good_at hW rfl (hK.word q1 rfl args)
  · rw [h] at q6
    exact (Option.some.inj q6).symm
set_option maxHeartbeats 4000000 in
/-- a call of a method that has its contract -/
theorem pm_call_ok {i : Instr} {n : Nat} {q : Nat × Nat × Nat × Nat × Nat} (hF : pm_Fix p s m meth c M) (hK : pm_K o s) (hd : decode M.code pc = .ok (i, n)) (hn : pm_len i n = n) (hi : pm_call i = some (w, idx)) (hf : pm_ctab.find? (fun r => r.1 == M.own && r.2.1 == idx) = some q) (hq : q.2.2.1 ≠ 0 ∧ q.2.2.1 ≠ 7 ∧ q.2.2.1 ≠ 8 ∧ q.2.2.1 ≠ 9) (hkw : q.2.2.1 = w ∨ q.2.2.1 = w + 3) (hM' : pm_tab[q.2.2.2.1]? = some M') (hna : pm_na M' ≤ st.length) (hrc : pm_recv q.2.2.1 M' (st.take (pm_na M')).reverse G = true) (hsum : ((st.drop (pm_na M')).map fun v => v.category).sum ≤ 8)
    (hRf : d + 1 ≤ R.frames) (hRl : 28 * (d + 1) ≤ R.locals) (hM : pm_Met l o M' d (st.take (pm_na M')).reverse G r G' mc ms) (hcR : cells + mc ≤ R.cells) (hsR : slots + ms ≤ R.slots)
    (kk : PW p l e R s m args below meth c Q o M (pc + 3) lv (r.toList ++ st.drop (pm_na M')) G' (cells + mc) (slots + ms)) : PW p l e R s m args below meth c Q o M pc lv st G cells slots := by
  intro H locs ls hW hL hl
  obtain ⟨hx, hb, hml, hown, hret, hlk, hnm⟩ := hF
  obtain ⟨h1, h2, h3⟩ := pm_find2 hf pm_c_ok
  unfold pm_cchk at h3
  have hw : w = 1 ∨ w = 2 ∨ w = 3 := by
    unfold pm_call at hi
    split at hi <;> first | (cases hi; omega) | cases hi
  rw [if_neg (by omega), hM', h1, h2] at h3
  dsimp only at h3
  generalize hkd : q.2.2.1 = kd at *
  generalize hasd : (st.take (pm_na M')).reverse = as at *
  obtain ⟨hst, hlen⟩ := pm_split hna hasd
  have hS : CallFix p m c M.code M.maxL s args [] (pm_own M.own) := ⟨hx, hb, hml, hown, fun w hw => by cases hw⟩
  have hroom : (((st.drop (pm_na M')).map (pm_v o)).map fun v => v.category).sum ≤ 8 := by rw [pm_cats]; exact hsum
  have hpre : ∀ U : State, U.heap = H → s.WarmedH U.vm → pm_Pc o as G (as.map (pm_v o)).toArray U := fun U hU hWm => ⟨rfl, hK.warm hWm, by rw [hU]; exact hW⟩
  have hstk : st.map (pm_v o) = (as.map (pm_v o)).reverse ++ (st.drop (pm_na M')).map (pm_v o) := by
    conv => lhs; rw [hst]
    rw [List.map_append, List.map_reverse]
  have hn3 : n = 3 := by
    unfold pm_call at hi
    split at hi <;> first | exact hn.symm | cases hi
  subst hn3
  -- static methods
  have hstat : M'.st = true → i = .invokestatic idx → (kd = 2 ∨ kd = 5) → W p l e R s m args below meth c H locs cells slots Q (F0 m pc ls (st.map (pm_v o))) := by
    intro hs hie hk2
    subst hie
    have hnp : (as.map (pm_v o)).length = M'.np := by rw [List.length_map, hlen]; unfold pm_na; rw [if_pos hs]
    rcases hk2 with rfl | rfl
    · simp only [Bool.and_eq_true, decide_eq_true_eq] at h3
      have hms := pm_M hM' h3.2.2
      exact pm_after (va_runS hS hM ⟨pm_callB hK hM' h3.2.2 (hK.word h3.1 rfl args) hRf hRl, hK.word (hms.2.2.2.2.2.2.2.1 hs) rfl args⟩ ⟨pm_blind o as G, hpre⟩ rfl hnp hl.1 hstk (lv_room hroom) hd ⟨hcR, hsR⟩) hL hl kk
    · simp only [Bool.and_eq_true, decide_eq_true_eq] at h3
      have hms := pm_M hM' h3.2.2
      exact pm_after (va_runSN hS hM ⟨pm_callN hK hM' h3.2.2 (hK.word h3.1 rfl args) hRf hRl, hK.word (hms.2.2.2.2.2.2.2.1 hs) rfl args, trivial⟩ ⟨pm_blind o as G, hpre⟩ rfl hnp hl.1 hstk (lv_room hroom) hd ⟨hcR, hsR⟩) hL hl kk
  have hinst : M'.st = false → ∃ (b : Nat) (As : List Value), as = .ref b :: As ∧ As.length = M'.np ∧ (kd ≠ 3 → kd ≠ 6 → ∃ fs, G[b]? = some (.inr (M'.ci, fs))) := by
    intro hs
    unfold pm_recv at hrc
    rw [hs] at hrc
    dsimp only at hrc
    split at hrc
    · rename_i b As
      refine ⟨b, As, rfl, ?_, fun k3 k6 => ?_⟩
      · have := hlen
        unfold pm_na at this
        rw [if_neg (by rw [hs]; decide)] at this
        rw [List.length_cons] at this
        omega
      · split at hrc
        · exact absurd rfl k3
        · exact absurd rfl k6
        · split at hrc
          · rename_i ci fs hg
            have := of_decide_eq_true hrc
            subst this
            exact ⟨fs, hg⟩
          · cases hrc
    · cases hrc
  unfold pm_call at hi
  split at hi
  · -- invokevirtual
    cases hi
    have hk1 : kd = 1 ∨ kd = 4 := hkw
    have hs : M'.st = false := by
      rcases hk1 with rfl | rfl <;> (simp only [Bool.and_eq_true, decide_eq_true_eq] at h3; exact h3.2.1)
    obtain ⟨b, As, rfl, hAl, hgb⟩ := hinst hs
    obtain ⟨fs, hgc⟩ := hgb (by omega) (by omega)
    have hnp : (As.map (pm_v o)).length = M'.np := by rw [List.length_map, hAl]
    have hstk2 : st.map (pm_v o) = (As.map (pm_v o)).reverse ++ .ref (pm_ad o b) :: (st.drop (pm_na M')).map (pm_v o) := by
      rw [hstk, List.map_cons, List.reverse_cons, List.append_assoc]
      rfl
    rcases hk1 with rfl | rfl
    · simp only [Bool.and_eq_true, decide_eq_true_eq] at h3
      have hms := pm_M hM' h3.2.2.2
      obtain ⟨m1, m2⟩ := hms.2.2.2.2.2.2.2.2.2 hs h3.2.2.1
      have hrv : ∃ cellB : Cell, H[pm_ad o b]? = some cellB ∧ cellB.vm.isStatics = false ∧ s.vm.findClass M'.y.cls = some cellB.cls := by
        cases hvc : vwCl[M'.ci]? with
        | none => rw [hvc] at m2; cases m2
        | some q0 =>
          rw [hvc] at m2
          have m3 : q0.1 = M'.y.cls := Option.some.inj m2
          obtain ⟨cB, g1, g2, g3⟩ := va_recv hK.2.1 hW.1 hvc (hW.at hgc)
          rw [m3] at g3
          exact ⟨cB, g1, g2, g3⟩
      exact pm_after (va_runV hS hM ⟨pm_callB hK hM' h3.2.2.2 (hK.word h3.1 rfl args) hRf hRl, hK.word (hms.2.2.2.2.2.2.2.2.1 hs) rfl args, hK.word m1 rfl args⟩ ⟨pm_blind o _ G, hrv, hpre⟩ rfl hnp hl.1 hstk2 (lv_room hroom) hd ⟨hcR, hsR⟩) hL hl kk
    · simp only [Bool.and_eq_true, decide_eq_true_eq] at h3
      have hms := pm_M hM' h3.2.2.2
      obtain ⟨m1, m2⟩ := hms.2.2.2.2.2.2.2.2.2 hs h3.2.2.1
      have hrv : ∃ cellB : Cell, H[pm_ad o b]? = some cellB ∧ cellB.vm.isStatics = false ∧ s.vm.findClass M'.y.cls = some cellB.cls := by
        cases hvc : vwCl[M'.ci]? with
        | none => rw [hvc] at m2; cases m2
        | some q0 =>
          rw [hvc] at m2
          have m3 : q0.1 = M'.y.cls := Option.some.inj m2
          obtain ⟨cB, g1, g2, g3⟩ := va_recv hK.2.1 hW.1 hvc (hW.at hgc)
          rw [m3] at g3
          exact ⟨cB, g1, g2, g3⟩
      exact pm_after (va_runVN hS hM ⟨pm_callN hK hM' h3.2.2.2 (hK.word h3.1 rfl args) hRf hRl, hK.word (hms.2.2.2.2.2.2.2.2.1 hs) rfl args, hK.word m1 rfl args⟩ ⟨pm_blind o _ G, hrv, hpre⟩ rfl hnp hl.1 hstk2 (lv_room hroom) hd ⟨hcR, hsR⟩) hL hl kk
  · -- invokestatic
    cases hi
    have hk1 : kd = 2 ∨ kd = 5 := hkw
    have hs : M'.st = true := by
      rcases hk1 with rfl | rfl <;> (simp only [Bool.and_eq_true, decide_eq_true_eq] at h3; exact h3.2.1)
    exact hstat hs rfl hk1
  · -- invokespecial
    cases hi
    have hk1 : kd = 3 ∨ kd = 6 := hkw
    have hs : M'.st = false := by
      rcases hk1 with rfl | rfl <;> (simp only [Bool.and_eq_true, decide_eq_true_eq] at h3; exact h3.2.1)
    obtain ⟨b, As, rfl, hAl, -⟩ := hinst hs
    have hnp : (As.map (pm_v o)).length = M'.np := by rw [List.length_map, hAl]
    have hstk2 : st.map (pm_v o) = (As.map (pm_v o)).reverse ++ .ref (pm_ad o b) :: (st.drop (pm_na M')).map (pm_v o) := by
      rw [hstk, List.map_cons, List.reverse_cons, List.append_assoc]
      rfl
    rcases hk1 with rfl | rfl
    · simp only [Bool.and_eq_true, decide_eq_true_eq] at h3
      have hms := pm_M hM' h3.2.2.2.1
      have hcb := pm_callB (mc := mc) (ms := ms) hK hM' h3.2.2.2.1 (hK.word h3.1 rfl args) hRf hRl
      rw [h3.2.2.2.2] at hcb
      exact pm_after (va_runI hS hM ⟨hcb, h3.2.2.1, hK.word (hms.2.2.2.2.2.2.2.2.1 hs) rfl args⟩ ⟨pm_blind o _ G, hpre⟩ rfl hnp hl.1 hstk2 (lv_room hroom) hd ⟨hcR, hsR⟩) hL hl kk
    · simp only [Bool.and_eq_true, decide_eq_true_eq] at h3
      have hms := pm_M hM' h3.2.2.2.1
      have hcb := pm_callN (mc := mc) (ms := ms) hK hM' h3.2.2.2.1 (hK.word h3.1 rfl args) hRf hRl
      rw [h3.2.2.2.2] at hcb
      exact pm_after (va_runIN hS hM ⟨hcb, h3.2.2.1, hK.word (hms.2.2.2.2.2.2.2.2.1 hs) rfl args⟩ ⟨pm_blind o _ G, hpre⟩ rfl hnp hl.1 hstk2 (lv_room hroom) hd ⟨hcR, hsR⟩) hL hl kk
  · cases hi
end PCL
