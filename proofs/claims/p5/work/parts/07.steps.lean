-- ===== one step of the pure machine is the machine's: what the stack and the locals alone need =====
def pm_l (o : Om) (lv : pL) : List (Nat × Value) := lv.map (fun q => (q.1, pm_v o q.2))
theorem pm_v_cat (o : Om) (v : Value) : (pm_v o v).category = v.category := by cases v <;> rfl
theorem pm_l_get {o : Om} {lv : pL} {ls : Array Slot} {nL i : Nat} {v : Value} (h : lv_has ls nL (pm_l o lv)) (hg : pm_get lv i = some v) : ls[i]? = some (.val (pm_v o v)) := by
  unfold pm_get at hg
  cases hf : lv.find? (fun q => q.1 == i) with
  | none => rw [hf] at hg; cases hg
  | some q =>
    rw [hf] at hg
    cases hg
    have h1 := List.mem_of_find?_eq_some hf
    have h2 := List.find?_some hf
    simp only [beq_iff_eq] at h2
    have h3 := h.2.2 (q.1, pm_v o q.2) (List.mem_map.mpr ⟨q, h1, rfl⟩)
    rw [← h2]
    exact h3
theorem pm_l_at {o : Om} {lv : pL} {i : Nat} {v : Value} (hg : pm_get lv i = some v) : ∃ k : Nat, (pm_l o lv)[k]? = some (i, pm_v o v) := by
  unfold pm_get at hg
  cases hf : lv.find? (fun q => q.1 == i) with
  | none => rw [hf] at hg; cases hg
  | some q =>
    rw [hf] at hg
    cases hg
    have h1 := List.mem_of_find?_eq_some hf
    have h2 := List.find?_some hf
    simp only [beq_iff_eq] at h2
    have h3 : (i, pm_v o q.2) ∈ pm_l o lv := List.mem_map.mpr ⟨q, h1, by rw [h2]⟩
    obtain ⟨k, hk⟩ := List.getElem?_of_mem h3
    exact ⟨k, hk⟩
theorem pm_l_put1 (o : Om) (lv : pL) (i : Nat) (v : Value) : (i, pm_v o v) :: (pm_l o lv).filter (fun q => !(q.1 == i) && !(q.1 + 1 == i && q.2.category == 2)) = pm_l o (pm_put1 lv i v) := by
  unfold pm_l pm_put1
  rw [List.map_cons, List.filter_map]
  congr 2
  apply List.filter_congr
  intro q _
  simp [pm_v_cat]
/-- the machine, from any frame that stands for this pure one, comes to Q -/
def PW (p : Program) (l : Launch) (e : Env) (R : Room) (s : State) (m : MethodId) (args : Array Value) (below : List Frame) (meth : Method) (c : Code) (Q : State → Prop) (o : Om) (M : pM) (pc : Nat) (lv : pL) (st : List Value) (G : List pE) (cells slots : Nat) : Prop :=
  ∀ (H : Heap) (locs : List Loc) (ls : Array Slot), pm_W o G H → (∀ q ∈ locs, o.B ≤ q.base) → lv_has ls M.maxL (pm_l o lv) → W p l e R s m args below meth c H locs cells slots Q (F0 m pc ls (st.map (pm_v o)))
def pm_Fix (p : Program) (s : State) (m : MethodId) (meth : Method) (c : Code) (M : pM) : Prop := p.tables.exec = Jvm.exec ∧ c.code = M.code ∧ c.maxLocals = M.maxL ∧ s.vm.findClass (pm_own M.own) = some m.cls ∧ meth.sig.returnType = M.ret ∧ meth.locks = false ∧ meth.name = M.y.name
theorem pm_tgt_spec {pc t : Nat} {off : Int} (h : pm_tgt pc off = some t) : (pc : Int) + off = (t : Int) := by
  unfold pm_tgt at h
  split at h
  · cases h
    omega
  · cases h
section PSA
variable {p : Program} {l : Launch} {e : Env} {R : Room} {s : State} {m : MethodId} {args : Array Value} {below : List Frame} {meth : Method} {c : Code} {Q : State → Prop} {o : Om} {M : pM} {G G' : List pE} {lv lv' : pL} {st st' : List Value} {pc pc' dc ds n cells slots : Nat}
theorem pm_s_iconst {k : Int} (hx : p.tables.exec = Jvm.exec) (hb : c.code = M.code) (hd : decode M.code pc = .ok (.iconst k, n)) (hn : pm_len (.iconst k) n = n) {ini : Bool} {xs : Nat → Int32} {L J : Nat} (hr : pm_step M.own M.maxL ini xs L J (.iconst k) pc lv st G = some (pc', lv', st', G', dc, ds)) (kk : PW p l e R s m args below meth c Q o M pc' lv' st' G' (cells + dc) (slots + ds)) : PW p l e R s m args below meth c Q o M pc lv st G cells slots := by
  intro H locs ls hW hL hl
  obtain rfl : 1 = n := hn
  dsimp only [pm_step] at hr
  cases hr
  exact lv_iconst hx hb hd rfl (kk H locs ls hW hL hl)
theorem pm_s_bipush {k : Int} (hx : p.tables.exec = Jvm.exec) (hb : c.code = M.code) (hd : decode M.code pc = .ok (.bipush k, n)) (hn : pm_len (.bipush k) n = n) {ini : Bool} {xs : Nat → Int32} {L J : Nat} (hr : pm_step M.own M.maxL ini xs L J (.bipush k) pc lv st G = some (pc', lv', st', G', dc, ds)) (kk : PW p l e R s m args below meth c Q o M pc' lv' st' G' (cells + dc) (slots + ds)) : PW p l e R s m args below meth c Q o M pc lv st G cells slots := by
  intro H locs ls hW hL hl
  obtain rfl : 2 = n := hn
  dsimp only [pm_step] at hr
  cases hr
  exact lv_bipush hx hb hd rfl (kk H locs ls hW hL hl)
theorem pm_s_sipush {k : Int} (hx : p.tables.exec = Jvm.exec) (hb : c.code = M.code) (hd : decode M.code pc = .ok (.sipush k, n)) (hn : pm_len (.sipush k) n = n) {ini : Bool} {xs : Nat → Int32} {L J : Nat} (hr : pm_step M.own M.maxL ini xs L J (.sipush k) pc lv st G = some (pc', lv', st', G', dc, ds)) (kk : PW p l e R s m args below meth c Q o M pc' lv' st' G' (cells + dc) (slots + ds)) : PW p l e R s m args below meth c Q o M pc lv st G cells slots := by
  intro H locs ls hW hL hl
  obtain rfl : 3 = n := hn
  dsimp only [pm_step] at hr
  cases hr
  exact lv_sipush hx hb hd rfl (kk H locs ls hW hL hl)
theorem pm_s_lconst {k : Fin 2} (hx : p.tables.exec = Jvm.exec) (hb : c.code = M.code) (hd : decode M.code pc = .ok (.lconst k, n)) (hn : pm_len (.lconst k) n = n) {ini : Bool} {xs : Nat → Int32} {L J : Nat} (hr : pm_step M.own M.maxL ini xs L J (.lconst k) pc lv st G = some (pc', lv', st', G', dc, ds)) (kk : PW p l e R s m args below meth c Q o M pc' lv' st' G' (cells + dc) (slots + ds)) : PW p l e R s m args below meth c Q o M pc lv st G cells slots := by
  intro H locs ls hW hL hl
  obtain rfl : 1 = n := hn
  dsimp only [pm_step] at hr
  cases hr
  exact lv_lconst hx hb hd rfl (kk H locs ls hW hL hl)
theorem pm_s_iload {k : Nat} (hx : p.tables.exec = Jvm.exec) (hb : c.code = M.code) (hd : decode M.code pc = .ok (.iload k, n)) (hn : pm_len (.iload k) n = n) {ini : Bool} {xs : Nat → Int32} {L J : Nat} (hr : pm_step M.own M.maxL ini xs L J (.iload k) pc lv st G = some (pc', lv', st', G', dc, ds)) (kk : PW p l e R s m args below meth c Q o M pc' lv' st' G' (cells + dc) (slots + ds)) : PW p l e R s m args below meth c Q o M pc lv st G cells slots := by
  intro H locs ls hW hL hl
  obtain rfl : 2 = n := hn
  dsimp only [pm_step] at hr
  split at hr
  · rename_i hg
    cases hr
    exact lv_iload hx hb hd (pm_l_get hl hg) (kk H locs ls hW hL hl)
  · cases hr
theorem pm_s_lload {k : Nat} (hx : p.tables.exec = Jvm.exec) (hb : c.code = M.code) (hd : decode M.code pc = .ok (.lload k, n)) (hn : pm_len (.lload k) n = n) {ini : Bool} {xs : Nat → Int32} {L J : Nat} (hr : pm_step M.own M.maxL ini xs L J (.lload k) pc lv st G = some (pc', lv', st', G', dc, ds)) (kk : PW p l e R s m args below meth c Q o M pc' lv' st' G' (cells + dc) (slots + ds)) : PW p l e R s m args below meth c Q o M pc lv st G cells slots := by
  intro H locs ls hW hL hl
  obtain rfl : 2 = n := hn
  dsimp only [pm_step] at hr
  split at hr
  · rename_i hg
    cases hr
    exact lv_lload hx hb hd (pm_l_get hl hg) (kk H locs ls hW hL hl)
  · cases hr
theorem pm_s_aload {k : Nat} (hx : p.tables.exec = Jvm.exec) (hb : c.code = M.code) (hd : decode M.code pc = .ok (.aload k, n)) (hn : pm_len (.aload k) n = n) {ini : Bool} {xs : Nat → Int32} {L J : Nat} (hr : pm_step M.own M.maxL ini xs L J (.aload k) pc lv st G = some (pc', lv', st', G', dc, ds)) (kk : PW p l e R s m args below meth c Q o M pc' lv' st' G' (cells + dc) (slots + ds)) : PW p l e R s m args below meth c Q o M pc lv st G cells slots := by
  intro H locs ls hW hL hl
  obtain rfl : 2 = n := hn
  dsimp only [pm_step] at hr
  split at hr
  · rename_i hg
    cases hr
    exact lv_aload hx hb hd (pm_l_get hl hg) (kk H locs ls hW hL hl)
  · rename_i hg
    cases hr
    exact lv_aloadN hx hb hd (pm_l_get hl hg) (kk H locs ls hW hL hl)
  · cases hr
theorem pm_s_iload_n {k : Fin 4} (hx : p.tables.exec = Jvm.exec) (hb : c.code = M.code) (hd : decode M.code pc = .ok (.iload_n k, n)) (hn : pm_len (.iload_n k) n = n) {ini : Bool} {xs : Nat → Int32} {L J : Nat} (hr : pm_step M.own M.maxL ini xs L J (.iload_n k) pc lv st G = some (pc', lv', st', G', dc, ds)) (kk : PW p l e R s m args below meth c Q o M pc' lv' st' G' (cells + dc) (slots + ds)) : PW p l e R s m args below meth c Q o M pc lv st G cells slots := by
  intro H locs ls hW hL hl
  obtain rfl : 1 = n := hn
  dsimp only [pm_step] at hr
  split at hr
  · rename_i hg
    cases hr
    exact lv_iload_n hx hb hd rfl (pm_l_get hl hg) (kk H locs ls hW hL hl)
  · cases hr
theorem pm_s_lload_n {k : Fin 4} (hx : p.tables.exec = Jvm.exec) (hb : c.code = M.code) (hd : decode M.code pc = .ok (.lload_n k, n)) (hn : pm_len (.lload_n k) n = n) {ini : Bool} {xs : Nat → Int32} {L J : Nat} (hr : pm_step M.own M.maxL ini xs L J (.lload_n k) pc lv st G = some (pc', lv', st', G', dc, ds)) (kk : PW p l e R s m args below meth c Q o M pc' lv' st' G' (cells + dc) (slots + ds)) : PW p l e R s m args below meth c Q o M pc lv st G cells slots := by
  intro H locs ls hW hL hl
  obtain rfl : 1 = n := hn
  dsimp only [pm_step] at hr
  split at hr
  · rename_i hg
    cases hr
    exact lv_lload_n hx hb hd rfl (pm_l_get hl hg) (kk H locs ls hW hL hl)
  · cases hr
theorem pm_s_aload_n {k : Fin 4} (hx : p.tables.exec = Jvm.exec) (hb : c.code = M.code) (hd : decode M.code pc = .ok (.aload_n k, n)) (hn : pm_len (.aload_n k) n = n) {ini : Bool} {xs : Nat → Int32} {L J : Nat} (hr : pm_step M.own M.maxL ini xs L J (.aload_n k) pc lv st G = some (pc', lv', st', G', dc, ds)) (kk : PW p l e R s m args below meth c Q o M pc' lv' st' G' (cells + dc) (slots + ds)) : PW p l e R s m args below meth c Q o M pc lv st G cells slots := by
  intro H locs ls hW hL hl
  obtain rfl : 1 = n := hn
  dsimp only [pm_step] at hr
  split at hr
  · rename_i hg
    cases hr
    exact lv_aload_n hx hb hd rfl (pm_l_get hl hg) (kk H locs ls hW hL hl)
  · rename_i hg
    cases hr
    exact lv_aload_nN hx hb hd rfl (pm_l_get hl hg) (kk H locs ls hW hL hl)
  · cases hr
theorem pm_s_istore {k : Nat} (hx : p.tables.exec = Jvm.exec) (hb : c.code = M.code) (hd : decode M.code pc = .ok (.istore k, n)) (hn : pm_len (.istore k) n = n) {ini : Bool} {xs : Nat → Int32} {L J : Nat} (hr : pm_step M.own M.maxL ini xs L J (.istore k) pc lv st G = some (pc', lv', st', G', dc, ds)) (kk : PW p l e R s m args below meth c Q o M pc' lv' st' G' (cells + dc) (slots + ds)) : PW p l e R s m args below meth c Q o M pc lv st G cells slots := by
  intro H locs ls hW hL hl
  obtain rfl : 2 = n := hn
  dsimp only [pm_step] at hr
  split at hr
  · split at hr
    · rename_i hi
      cases hr
      exact lv_istore hx hb hd hl hi (pm_l_put1 o lv _ (.int _)) (fun ls hl => kk H locs ls hW hL hl)
    · cases hr
  · cases hr
theorem pm_s_astore {k : Nat} (hx : p.tables.exec = Jvm.exec) (hb : c.code = M.code) (hd : decode M.code pc = .ok (.astore k, n)) (hn : pm_len (.astore k) n = n) {ini : Bool} {xs : Nat → Int32} {L J : Nat} (hr : pm_step M.own M.maxL ini xs L J (.astore k) pc lv st G = some (pc', lv', st', G', dc, ds)) (kk : PW p l e R s m args below meth c Q o M pc' lv' st' G' (cells + dc) (slots + ds)) : PW p l e R s m args below meth c Q o M pc lv st G cells slots := by
  intro H locs ls hW hL hl
  obtain rfl : 2 = n := hn
  dsimp only [pm_step] at hr
  split at hr
  · split at hr
    · rename_i hi
      cases hr
      exact lv_astore hx hb hd hl hi (pm_l_put1 o lv _ (.ref _)) (fun ls hl => kk H locs ls hW hL hl)
    · cases hr
  · split at hr
    · rename_i hi
      cases hr
      exact lv_astoreN hx hb hd hl hi (pm_l_put1 o lv _ .null) (fun ls hl => kk H locs ls hW hL hl)
    · cases hr
  · cases hr
theorem pm_s_istore_n {k : Fin 4} (hx : p.tables.exec = Jvm.exec) (hb : c.code = M.code) (hd : decode M.code pc = .ok (.istore_n k, n)) (hn : pm_len (.istore_n k) n = n) {ini : Bool} {xs : Nat → Int32} {L J : Nat} (hr : pm_step M.own M.maxL ini xs L J (.istore_n k) pc lv st G = some (pc', lv', st', G', dc, ds)) (kk : PW p l e R s m args below meth c Q o M pc' lv' st' G' (cells + dc) (slots + ds)) : PW p l e R s m args below meth c Q o M pc lv st G cells slots := by
  intro H locs ls hW hL hl
  obtain rfl : 1 = n := hn
  dsimp only [pm_step] at hr
  split at hr
  · split at hr
    · rename_i hi
      cases hr
      exact lv_istore_n hx hb hd rfl hl hi (pm_l_put1 o lv _ (.int _)) (fun ls hl => kk H locs ls hW hL hl)
    · cases hr
  · cases hr
theorem pm_s_astore_n {k : Fin 4} (hx : p.tables.exec = Jvm.exec) (hb : c.code = M.code) (hd : decode M.code pc = .ok (.astore_n k, n)) (hn : pm_len (.astore_n k) n = n) {ini : Bool} {xs : Nat → Int32} {L J : Nat} (hr : pm_step M.own M.maxL ini xs L J (.astore_n k) pc lv st G = some (pc', lv', st', G', dc, ds)) (kk : PW p l e R s m args below meth c Q o M pc' lv' st' G' (cells + dc) (slots + ds)) : PW p l e R s m args below meth c Q o M pc lv st G cells slots := by
  intro H locs ls hW hL hl
  obtain rfl : 1 = n := hn
  dsimp only [pm_step] at hr
  split at hr
  · split at hr
    · rename_i hi
      cases hr
      exact lv_astore_n hx hb hd rfl hl hi (pm_l_put1 o lv _ (.ref _)) (fun ls hl => kk H locs ls hW hL hl)
    · cases hr
  · split at hr
    · rename_i hi
      cases hr
      exact lv_astore_nN hx hb hd rfl hl hi (pm_l_put1 o lv _ .null) (fun ls hl => kk H locs ls hW hL hl)
    · cases hr
  · cases hr
theorem pm_s_iinc {k : Nat} {j : Int} (hx : p.tables.exec = Jvm.exec) (hb : c.code = M.code) (hd : decode M.code pc = .ok (.iinc k j, n)) (hn : pm_len (.iinc k j) n = n) {ini : Bool} {xs : Nat → Int32} {L J : Nat} (hr : pm_step M.own M.maxL ini xs L J (.iinc k j) pc lv st G = some (pc', lv', st', G', dc, ds)) (kk : PW p l e R s m args below meth c Q o M pc' lv' st' G' (cells + dc) (slots + ds)) : PW p l e R s m args below meth c Q o M pc lv st G cells slots := by
  intro H locs ls hW hL hl
  obtain rfl : 3 = n := hn
  dsimp only [pm_step] at hr
  split at hr
  · rename_i hg
    split at hr
    · rename_i hi
      cases hr
      obtain ⟨q, hq⟩ := pm_l_at (o := o) hg
      exact lv_iinc hx hb hd hl hq rfl hi (pm_l_put1 o lv _ (.int _)) (fun ls hl => kk H locs ls hW hL hl)
    · cases hr
  · cases hr
theorem pm_s_iadd  (hx : p.tables.exec = Jvm.exec) (hb : c.code = M.code) (hd : decode M.code pc = .ok (.iadd, n)) (hn : pm_len (.iadd) n = n) {ini : Bool} {xs : Nat → Int32} {L J : Nat} (hr : pm_step M.own M.maxL ini xs L J (.iadd) pc lv st G = some (pc', lv', st', G', dc, ds)) (kk : PW p l e R s m args below meth c Q o M pc' lv' st' G' (cells + dc) (slots + ds)) : PW p l e R s m args below meth c Q o M pc lv st G cells slots := by
  intro H locs ls hW hL hl
  obtain rfl : 1 = n := hn
  dsimp only [pm_step] at hr
  split at hr
  · cases hr
    exact lv_iadd hx hb hd (kk H locs ls hW hL hl)
  · cases hr
theorem pm_s_isub  (hx : p.tables.exec = Jvm.exec) (hb : c.code = M.code) (hd : decode M.code pc = .ok (.isub, n)) (hn : pm_len (.isub) n = n) {ini : Bool} {xs : Nat → Int32} {L J : Nat} (hr : pm_step M.own M.maxL ini xs L J (.isub) pc lv st G = some (pc', lv', st', G', dc, ds)) (kk : PW p l e R s m args below meth c Q o M pc' lv' st' G' (cells + dc) (slots + ds)) : PW p l e R s m args below meth c Q o M pc lv st G cells slots := by
  intro H locs ls hW hL hl
  obtain rfl : 1 = n := hn
  dsimp only [pm_step] at hr
  split at hr
  · cases hr
    exact lv_isub hx hb hd (kk H locs ls hW hL hl)
  · cases hr
theorem pm_s_imul  (hx : p.tables.exec = Jvm.exec) (hb : c.code = M.code) (hd : decode M.code pc = .ok (.imul, n)) (hn : pm_len (.imul) n = n) {ini : Bool} {xs : Nat → Int32} {L J : Nat} (hr : pm_step M.own M.maxL ini xs L J (.imul) pc lv st G = some (pc', lv', st', G', dc, ds)) (kk : PW p l e R s m args below meth c Q o M pc' lv' st' G' (cells + dc) (slots + ds)) : PW p l e R s m args below meth c Q o M pc lv st G cells slots := by
  intro H locs ls hW hL hl
  obtain rfl : 1 = n := hn
  dsimp only [pm_step] at hr
  split at hr
  · cases hr
    exact lv_imul hx hb hd (kk H locs ls hW hL hl)
  · cases hr
theorem pm_s_iand  (hx : p.tables.exec = Jvm.exec) (hb : c.code = M.code) (hd : decode M.code pc = .ok (.iand, n)) (hn : pm_len (.iand) n = n) {ini : Bool} {xs : Nat → Int32} {L J : Nat} (hr : pm_step M.own M.maxL ini xs L J (.iand) pc lv st G = some (pc', lv', st', G', dc, ds)) (kk : PW p l e R s m args below meth c Q o M pc' lv' st' G' (cells + dc) (slots + ds)) : PW p l e R s m args below meth c Q o M pc lv st G cells slots := by
  intro H locs ls hW hL hl
  obtain rfl : 1 = n := hn
  dsimp only [pm_step] at hr
  split at hr
  · cases hr
    exact lv_iand hx hb hd (kk H locs ls hW hL hl)
  · cases hr
theorem pm_s_ior  (hx : p.tables.exec = Jvm.exec) (hb : c.code = M.code) (hd : decode M.code pc = .ok (.ior, n)) (hn : pm_len (.ior) n = n) {ini : Bool} {xs : Nat → Int32} {L J : Nat} (hr : pm_step M.own M.maxL ini xs L J (.ior) pc lv st G = some (pc', lv', st', G', dc, ds)) (kk : PW p l e R s m args below meth c Q o M pc' lv' st' G' (cells + dc) (slots + ds)) : PW p l e R s m args below meth c Q o M pc lv st G cells slots := by
  intro H locs ls hW hL hl
  obtain rfl : 1 = n := hn
  dsimp only [pm_step] at hr
  split at hr
  · cases hr
    exact lv_ior hx hb hd (kk H locs ls hW hL hl)
  · cases hr
theorem pm_s_ixor  (hx : p.tables.exec = Jvm.exec) (hb : c.code = M.code) (hd : decode M.code pc = .ok (.ixor, n)) (hn : pm_len (.ixor) n = n) {ini : Bool} {xs : Nat → Int32} {L J : Nat} (hr : pm_step M.own M.maxL ini xs L J (.ixor) pc lv st G = some (pc', lv', st', G', dc, ds)) (kk : PW p l e R s m args below meth c Q o M pc' lv' st' G' (cells + dc) (slots + ds)) : PW p l e R s m args below meth c Q o M pc lv st G cells slots := by
  intro H locs ls hW hL hl
  obtain rfl : 1 = n := hn
  dsimp only [pm_step] at hr
  split at hr
  · cases hr
    exact lv_ixor hx hb hd (kk H locs ls hW hL hl)
  · cases hr
theorem pm_s_ishl  (hx : p.tables.exec = Jvm.exec) (hb : c.code = M.code) (hd : decode M.code pc = .ok (.ishl, n)) (hn : pm_len (.ishl) n = n) {ini : Bool} {xs : Nat → Int32} {L J : Nat} (hr : pm_step M.own M.maxL ini xs L J (.ishl) pc lv st G = some (pc', lv', st', G', dc, ds)) (kk : PW p l e R s m args below meth c Q o M pc' lv' st' G' (cells + dc) (slots + ds)) : PW p l e R s m args below meth c Q o M pc lv st G cells slots := by
  intro H locs ls hW hL hl
  obtain rfl : 1 = n := hn
  dsimp only [pm_step] at hr
  split at hr
  · cases hr
    exact lv_ishl hx hb hd (kk H locs ls hW hL hl)
  · cases hr
theorem pm_s_ishr  (hx : p.tables.exec = Jvm.exec) (hb : c.code = M.code) (hd : decode M.code pc = .ok (.ishr, n)) (hn : pm_len (.ishr) n = n) {ini : Bool} {xs : Nat → Int32} {L J : Nat} (hr : pm_step M.own M.maxL ini xs L J (.ishr) pc lv st G = some (pc', lv', st', G', dc, ds)) (kk : PW p l e R s m args below meth c Q o M pc' lv' st' G' (cells + dc) (slots + ds)) : PW p l e R s m args below meth c Q o M pc lv st G cells slots := by
  intro H locs ls hW hL hl
  obtain rfl : 1 = n := hn
  dsimp only [pm_step] at hr
  split at hr
  · cases hr
    exact lv_ishr hx hb hd (kk H locs ls hW hL hl)
  · cases hr
theorem pm_s_ladd  (hx : p.tables.exec = Jvm.exec) (hb : c.code = M.code) (hd : decode M.code pc = .ok (.ladd, n)) (hn : pm_len (.ladd) n = n) {ini : Bool} {xs : Nat → Int32} {L J : Nat} (hr : pm_step M.own M.maxL ini xs L J (.ladd) pc lv st G = some (pc', lv', st', G', dc, ds)) (kk : PW p l e R s m args below meth c Q o M pc' lv' st' G' (cells + dc) (slots + ds)) : PW p l e R s m args below meth c Q o M pc lv st G cells slots := by
  intro H locs ls hW hL hl
  obtain rfl : 1 = n := hn
  dsimp only [pm_step] at hr
  split at hr
  · cases hr
    exact lv_ladd hx hb hd (kk H locs ls hW hL hl)
  · cases hr
theorem pm_s_lmul  (hx : p.tables.exec = Jvm.exec) (hb : c.code = M.code) (hd : decode M.code pc = .ok (.lmul, n)) (hn : pm_len (.lmul) n = n) {ini : Bool} {xs : Nat → Int32} {L J : Nat} (hr : pm_step M.own M.maxL ini xs L J (.lmul) pc lv st G = some (pc', lv', st', G', dc, ds)) (kk : PW p l e R s m args below meth c Q o M pc' lv' st' G' (cells + dc) (slots + ds)) : PW p l e R s m args below meth c Q o M pc lv st G cells slots := by
  intro H locs ls hW hL hl
  obtain rfl : 1 = n := hn
  dsimp only [pm_step] at hr
  split at hr
  · cases hr
    exact lv_lmul hx hb hd (kk H locs ls hW hL hl)
  · cases hr
theorem pm_s_lor  (hx : p.tables.exec = Jvm.exec) (hb : c.code = M.code) (hd : decode M.code pc = .ok (.lor, n)) (hn : pm_len (.lor) n = n) {ini : Bool} {xs : Nat → Int32} {L J : Nat} (hr : pm_step M.own M.maxL ini xs L J (.lor) pc lv st G = some (pc', lv', st', G', dc, ds)) (kk : PW p l e R s m args below meth c Q o M pc' lv' st' G' (cells + dc) (slots + ds)) : PW p l e R s m args below meth c Q o M pc lv st G cells slots := by
  intro H locs ls hW hL hl
  obtain rfl : 1 = n := hn
  dsimp only [pm_step] at hr
  split at hr
  · cases hr
    exact lv_lor hx hb hd (kk H locs ls hW hL hl)
  · cases hr
theorem pm_s_lcmp  (hx : p.tables.exec = Jvm.exec) (hb : c.code = M.code) (hd : decode M.code pc = .ok (.lcmp, n)) (hn : pm_len (.lcmp) n = n) {ini : Bool} {xs : Nat → Int32} {L J : Nat} (hr : pm_step M.own M.maxL ini xs L J (.lcmp) pc lv st G = some (pc', lv', st', G', dc, ds)) (kk : PW p l e R s m args below meth c Q o M pc' lv' st' G' (cells + dc) (slots + ds)) : PW p l e R s m args below meth c Q o M pc lv st G cells slots := by
  intro H locs ls hW hL hl
  obtain rfl : 1 = n := hn
  dsimp only [pm_step] at hr
  split at hr
  · cases hr
    exact W.lcmp hx hb hd (kk H locs ls hW hL hl)
  · cases hr
theorem pm_s_iushr  (hx : p.tables.exec = Jvm.exec) (hb : c.code = M.code) (hd : decode M.code pc = .ok (.iushr, n)) (hn : pm_len (.iushr) n = n) {ini : Bool} {xs : Nat → Int32} {L J : Nat} (hr : pm_step M.own M.maxL ini xs L J (.iushr) pc lv st G = some (pc', lv', st', G', dc, ds)) (kk : PW p l e R s m args below meth c Q o M pc' lv' st' G' (cells + dc) (slots + ds)) : PW p l e R s m args below meth c Q o M pc lv st G cells slots := by
  intro H locs ls hW hL hl
  obtain rfl : 1 = n := hn
  dsimp only [pm_step] at hr
  split at hr
  · cases hr
    exact lv_iushr hx hb hd rfl (kk H locs ls hW hL hl)
  · cases hr
theorem pm_s_lshl  (hx : p.tables.exec = Jvm.exec) (hb : c.code = M.code) (hd : decode M.code pc = .ok (.lshl, n)) (hn : pm_len (.lshl) n = n) {ini : Bool} {xs : Nat → Int32} {L J : Nat} (hr : pm_step M.own M.maxL ini xs L J (.lshl) pc lv st G = some (pc', lv', st', G', dc, ds)) (kk : PW p l e R s m args below meth c Q o M pc' lv' st' G' (cells + dc) (slots + ds)) : PW p l e R s m args below meth c Q o M pc lv st G cells slots := by
  intro H locs ls hW hL hl
  obtain rfl : 1 = n := hn
  dsimp only [pm_step] at hr
  split at hr
  · cases hr
    exact lv_lshl hx hb hd rfl (kk H locs ls hW hL hl)
  · cases hr
theorem pm_s_i2l  (hx : p.tables.exec = Jvm.exec) (hb : c.code = M.code) (hd : decode M.code pc = .ok (.i2l, n)) (hn : pm_len (.i2l) n = n) {ini : Bool} {xs : Nat → Int32} {L J : Nat} (hr : pm_step M.own M.maxL ini xs L J (.i2l) pc lv st G = some (pc', lv', st', G', dc, ds)) (kk : PW p l e R s m args below meth c Q o M pc' lv' st' G' (cells + dc) (slots + ds)) : PW p l e R s m args below meth c Q o M pc lv st G cells slots := by
  intro H locs ls hW hL hl
  obtain rfl : 1 = n := hn
  dsimp only [pm_step] at hr
  split at hr
  · cases hr
    exact lv_i2l hx hb hd rfl (kk H locs ls hW hL hl)
  · cases hr
theorem pm_s_i2b  (hx : p.tables.exec = Jvm.exec) (hb : c.code = M.code) (hd : decode M.code pc = .ok (.i2b, n)) (hn : pm_len (.i2b) n = n) {ini : Bool} {xs : Nat → Int32} {L J : Nat} (hr : pm_step M.own M.maxL ini xs L J (.i2b) pc lv st G = some (pc', lv', st', G', dc, ds)) (kk : PW p l e R s m args below meth c Q o M pc' lv' st' G' (cells + dc) (slots + ds)) : PW p l e R s m args below meth c Q o M pc lv st G cells slots := by
  intro H locs ls hW hL hl
  obtain rfl : 1 = n := hn
  dsimp only [pm_step] at hr
  split at hr
  · cases hr
    exact lv_i2b hx hb hd rfl (kk H locs ls hW hL hl)
  · cases hr
theorem pm_s_idiv  (hx : p.tables.exec = Jvm.exec) (hb : c.code = M.code) (hd : decode M.code pc = .ok (.idiv, n)) (hn : pm_len (.idiv) n = n) {ini : Bool} {xs : Nat → Int32} {L J : Nat} (hr : pm_step M.own M.maxL ini xs L J (.idiv) pc lv st G = some (pc', lv', st', G', dc, ds)) (kk : PW p l e R s m args below meth c Q o M pc' lv' st' G' (cells + dc) (slots + ds)) : PW p l e R s m args below meth c Q o M pc lv st G cells slots := by
  intro H locs ls hW hL hl
  obtain rfl : 1 = n := hn
  dsimp only [pm_step] at hr
  split at hr
  · split at hr
    · cases hr
    · rename_i hz
      cases hr
      exact lv_idiv hx hb hd hz (kk H locs ls hW hL hl)
  · cases hr
theorem pm_s_irem  (hx : p.tables.exec = Jvm.exec) (hb : c.code = M.code) (hd : decode M.code pc = .ok (.irem, n)) (hn : pm_len (.irem) n = n) {ini : Bool} {xs : Nat → Int32} {L J : Nat} (hr : pm_step M.own M.maxL ini xs L J (.irem) pc lv st G = some (pc', lv', st', G', dc, ds)) (kk : PW p l e R s m args below meth c Q o M pc' lv' st' G' (cells + dc) (slots + ds)) : PW p l e R s m args below meth c Q o M pc lv st G cells slots := by
  intro H locs ls hW hL hl
  obtain rfl : 1 = n := hn
  dsimp only [pm_step] at hr
  split at hr
  · split at hr
    · cases hr
    · rename_i hz
      cases hr
      exact lv_irem hx hb hd hz (kk H locs ls hW hL hl)
  · cases hr
theorem pm_s_dup  (hx : p.tables.exec = Jvm.exec) (hb : c.code = M.code) (hd : decode M.code pc = .ok (.dup, n)) (hn : pm_len (.dup) n = n) {ini : Bool} {xs : Nat → Int32} {L J : Nat} (hr : pm_step M.own M.maxL ini xs L J (.dup) pc lv st G = some (pc', lv', st', G', dc, ds)) (kk : PW p l e R s m args below meth c Q o M pc' lv' st' G' (cells + dc) (slots + ds)) : PW p l e R s m args below meth c Q o M pc lv st G cells slots := by
  intro H locs ls hW hL hl
  obtain rfl : 1 = n := hn
  dsimp only [pm_step] at hr
  split at hr
  · split at hr
    · rename_i hv
      cases hr
      exact lv_dup hx hb hd (by rw [pm_v_cat]; exact hv) (kk H locs ls hW hL hl)
    · cases hr
  · cases hr
theorem pm_s_pop  (hx : p.tables.exec = Jvm.exec) (hb : c.code = M.code) (hd : decode M.code pc = .ok (.pop, n)) (hn : pm_len (.pop) n = n) {ini : Bool} {xs : Nat → Int32} {L J : Nat} (hr : pm_step M.own M.maxL ini xs L J (.pop) pc lv st G = some (pc', lv', st', G', dc, ds)) (kk : PW p l e R s m args below meth c Q o M pc' lv' st' G' (cells + dc) (slots + ds)) : PW p l e R s m args below meth c Q o M pc lv st G cells slots := by
  intro H locs ls hW hL hl
  obtain rfl : 1 = n := hn
  dsimp only [pm_step] at hr
  split at hr
  · split at hr
    · rename_i hv
      cases hr
      exact lv_pop hx hb hd (by rw [pm_v_cat]; exact hv) (kk H locs ls hW hL hl)
    · cases hr
  · cases hr
theorem pm_s_dup2  (hx : p.tables.exec = Jvm.exec) (hb : c.code = M.code) (hd : decode M.code pc = .ok (.dup2, n)) (hn : pm_len (.dup2) n = n) {ini : Bool} {xs : Nat → Int32} {L J : Nat} (hr : pm_step M.own M.maxL ini xs L J (.dup2) pc lv st G = some (pc', lv', st', G', dc, ds)) (kk : PW p l e R s m args below meth c Q o M pc' lv' st' G' (cells + dc) (slots + ds)) : PW p l e R s m args below meth c Q o M pc lv st G cells slots := by
  intro H locs ls hW hL hl
  obtain rfl : 1 = n := hn
  dsimp only [pm_step] at hr
  split at hr
  · split at hr
    · rename_i hv
      cases hr
      exact lv_dup2_11 hx hb hd (by rw [pm_v_cat]; exact hv.1) (by rw [pm_v_cat]; exact hv.2) (kk H locs ls hW hL hl)
    · cases hr
  · cases hr
theorem pm_s_goto {k : Int} (hx : p.tables.exec = Jvm.exec) (hb : c.code = M.code) (hd : decode M.code pc = .ok (.goto k, n)) (hn : pm_len (.goto k) n = n) {ini : Bool} {xs : Nat → Int32} {L J : Nat} (hr : pm_step M.own M.maxL ini xs L J (.goto k) pc lv st G = some (pc', lv', st', G', dc, ds)) (kk : PW p l e R s m args below meth c Q o M pc' lv' st' G' (cells + dc) (slots + ds)) : PW p l e R s m args below meth c Q o M pc lv st G cells slots := by
  intro H locs ls hW hL hl
  obtain rfl : 3 = n := hn
  dsimp only [pm_step] at hr
  split at hr
  · rename_i ht
    cases hr
    exact lv_goto hx hb hd (pm_tgt_spec ht) (kk H locs ls hW hL hl)
  · cases hr
theorem pm_s_ifCond_eq {k : Int} (hx : p.tables.exec = Jvm.exec) (hb : c.code = M.code) (hd : decode M.code pc = .ok (.ifCond .eq k, n)) (hn : pm_len (.ifCond .eq k) n = n) {ini : Bool} {xs : Nat → Int32} {L J : Nat} (hr : pm_step M.own M.maxL ini xs L J (.ifCond .eq k) pc lv st G = some (pc', lv', st', G', dc, ds)) (kk : PW p l e R s m args below meth c Q o M pc' lv' st' G' (cells + dc) (slots + ds)) : PW p l e R s m args below meth c Q o M pc lv st G cells slots := by
  intro H locs ls hW hL hl
  obtain rfl : 3 = n := hn
  dsimp only [pm_step] at hr
  split at hr
  · unfold pm_if at hr
    split at hr
    · cases hr
    · rename_i ht
      cases hr
      have hk := kk H locs ls hW hL hl
      refine lv_if_eq hx hb hd (pm_tgt_spec ht) (fun h => ?_) (fun h => ?_)
      · rw [if_pos (by simp only [pm_holds]; exact decide_eq_true h)] at hk
        exact hk
      · rw [if_neg (by simp only [pm_holds]; exact fun z => h (of_decide_eq_true z))] at hk
        exact hk
  · cases hr
theorem pm_s_ifCond_ne {k : Int} (hx : p.tables.exec = Jvm.exec) (hb : c.code = M.code) (hd : decode M.code pc = .ok (.ifCond .ne k, n)) (hn : pm_len (.ifCond .ne k) n = n) {ini : Bool} {xs : Nat → Int32} {L J : Nat} (hr : pm_step M.own M.maxL ini xs L J (.ifCond .ne k) pc lv st G = some (pc', lv', st', G', dc, ds)) (kk : PW p l e R s m args below meth c Q o M pc' lv' st' G' (cells + dc) (slots + ds)) : PW p l e R s m args below meth c Q o M pc lv st G cells slots := by
  intro H locs ls hW hL hl
  obtain rfl : 3 = n := hn
  dsimp only [pm_step] at hr
  split at hr
  · unfold pm_if at hr
    split at hr
    · cases hr
    · rename_i ht
      cases hr
      have hk := kk H locs ls hW hL hl
      refine lv_if_ne hx hb hd (pm_tgt_spec ht) (fun h => ?_) (fun h => ?_)
      · rw [if_pos (by simp only [pm_holds]; exact decide_eq_true h)] at hk
        exact hk
      · rw [if_neg (by simp only [pm_holds]; exact fun z => of_decide_eq_true z h)] at hk
        exact hk
  · cases hr
theorem pm_s_ifCond_lt {k : Int} (hx : p.tables.exec = Jvm.exec) (hb : c.code = M.code) (hd : decode M.code pc = .ok (.ifCond .lt k, n)) (hn : pm_len (.ifCond .lt k) n = n) {ini : Bool} {xs : Nat → Int32} {L J : Nat} (hr : pm_step M.own M.maxL ini xs L J (.ifCond .lt k) pc lv st G = some (pc', lv', st', G', dc, ds)) (kk : PW p l e R s m args below meth c Q o M pc' lv' st' G' (cells + dc) (slots + ds)) : PW p l e R s m args below meth c Q o M pc lv st G cells slots := by
  intro H locs ls hW hL hl
  obtain rfl : 3 = n := hn
  dsimp only [pm_step] at hr
  split at hr
  · unfold pm_if at hr
    split at hr
    · cases hr
    · rename_i ht
      cases hr
      have hk := kk H locs ls hW hL hl
      refine lv_if_lt hx hb hd (pm_tgt_spec ht) (fun h => ?_) (fun h => ?_)
      · rw [if_pos (by simp only [pm_holds]; exact decide_eq_true h)] at hk
        exact hk
      · rw [if_neg (by simp only [pm_holds]; exact fun z => h (of_decide_eq_true z))] at hk
        exact hk
  · cases hr
theorem pm_s_ifCond_ge {k : Int} (hx : p.tables.exec = Jvm.exec) (hb : c.code = M.code) (hd : decode M.code pc = .ok (.ifCond .ge k, n)) (hn : pm_len (.ifCond .ge k) n = n) {ini : Bool} {xs : Nat → Int32} {L J : Nat} (hr : pm_step M.own M.maxL ini xs L J (.ifCond .ge k) pc lv st G = some (pc', lv', st', G', dc, ds)) (kk : PW p l e R s m args below meth c Q o M pc' lv' st' G' (cells + dc) (slots + ds)) : PW p l e R s m args below meth c Q o M pc lv st G cells slots := by
  intro H locs ls hW hL hl
  obtain rfl : 3 = n := hn
  dsimp only [pm_step] at hr
  split at hr
  · unfold pm_if at hr
    split at hr
    · cases hr
    · rename_i ht
      cases hr
      have hk := kk H locs ls hW hL hl
      refine lv_if_ge hx hb hd (pm_tgt_spec ht) (fun h => ?_) (fun h => ?_)
      · rw [if_pos (by simp only [pm_holds]; exact decide_eq_true h)] at hk
        exact hk
      · rw [if_neg (by simp only [pm_holds]; exact fun z => h (of_decide_eq_true z))] at hk
        exact hk
  · cases hr
theorem pm_s_ifCond_gt {k : Int} (hx : p.tables.exec = Jvm.exec) (hb : c.code = M.code) (hd : decode M.code pc = .ok (.ifCond .gt k, n)) (hn : pm_len (.ifCond .gt k) n = n) {ini : Bool} {xs : Nat → Int32} {L J : Nat} (hr : pm_step M.own M.maxL ini xs L J (.ifCond .gt k) pc lv st G = some (pc', lv', st', G', dc, ds)) (kk : PW p l e R s m args below meth c Q o M pc' lv' st' G' (cells + dc) (slots + ds)) : PW p l e R s m args below meth c Q o M pc lv st G cells slots := by
  intro H locs ls hW hL hl
  obtain rfl : 3 = n := hn
  dsimp only [pm_step] at hr
  split at hr
  · unfold pm_if at hr
    split at hr
    · cases hr
    · rename_i ht
      cases hr
      have hk := kk H locs ls hW hL hl
      refine lv_if_gt hx hb hd (pm_tgt_spec ht) (fun h => ?_) (fun h => ?_)
      · rw [if_pos (by simp only [pm_holds]; exact decide_eq_true h)] at hk
        exact hk
      · rw [if_neg (by simp only [pm_holds]; exact fun z => h (of_decide_eq_true z))] at hk
        exact hk
  · cases hr
theorem pm_s_ifCond_le {k : Int} (hx : p.tables.exec = Jvm.exec) (hb : c.code = M.code) (hd : decode M.code pc = .ok (.ifCond .le k, n)) (hn : pm_len (.ifCond .le k) n = n) {ini : Bool} {xs : Nat → Int32} {L J : Nat} (hr : pm_step M.own M.maxL ini xs L J (.ifCond .le k) pc lv st G = some (pc', lv', st', G', dc, ds)) (kk : PW p l e R s m args below meth c Q o M pc' lv' st' G' (cells + dc) (slots + ds)) : PW p l e R s m args below meth c Q o M pc lv st G cells slots := by
  intro H locs ls hW hL hl
  obtain rfl : 3 = n := hn
  dsimp only [pm_step] at hr
  split at hr
  · unfold pm_if at hr
    split at hr
    · cases hr
    · rename_i ht
      cases hr
      have hk := kk H locs ls hW hL hl
      refine lv_if_le hx hb hd (pm_tgt_spec ht) (fun h => ?_) (fun h => ?_)
      · rw [if_pos (by simp only [pm_holds]; exact decide_eq_true h)] at hk
        exact hk
      · rw [if_neg (by simp only [pm_holds]; exact fun z => h (of_decide_eq_true z))] at hk
        exact hk
  · cases hr
theorem pm_s_if_icmp_eq {k : Int} (hx : p.tables.exec = Jvm.exec) (hb : c.code = M.code) (hd : decode M.code pc = .ok (.if_icmp .eq k, n)) (hn : pm_len (.if_icmp .eq k) n = n) {ini : Bool} {xs : Nat → Int32} {L J : Nat} (hr : pm_step M.own M.maxL ini xs L J (.if_icmp .eq k) pc lv st G = some (pc', lv', st', G', dc, ds)) (kk : PW p l e R s m args below meth c Q o M pc' lv' st' G' (cells + dc) (slots + ds)) : PW p l e R s m args below meth c Q o M pc lv st G cells slots := by
  intro H locs ls hW hL hl
  obtain rfl : 3 = n := hn
  dsimp only [pm_step] at hr
  split at hr
  · unfold pm_if at hr
    split at hr
    · cases hr
    · rename_i ht
      cases hr
      have hk := kk H locs ls hW hL hl
      refine lv_icmp_eq hx hb hd (pm_tgt_spec ht) (fun h => ?_) (fun h => ?_)
      · rw [if_pos (by simp only [pm_holds]; exact decide_eq_true h)] at hk
        exact hk
      · rw [if_neg (by simp only [pm_holds]; exact fun z => h (of_decide_eq_true z))] at hk
        exact hk
  · cases hr
theorem pm_s_if_icmp_ne {k : Int} (hx : p.tables.exec = Jvm.exec) (hb : c.code = M.code) (hd : decode M.code pc = .ok (.if_icmp .ne k, n)) (hn : pm_len (.if_icmp .ne k) n = n) {ini : Bool} {xs : Nat → Int32} {L J : Nat} (hr : pm_step M.own M.maxL ini xs L J (.if_icmp .ne k) pc lv st G = some (pc', lv', st', G', dc, ds)) (kk : PW p l e R s m args below meth c Q o M pc' lv' st' G' (cells + dc) (slots + ds)) : PW p l e R s m args below meth c Q o M pc lv st G cells slots := by
  intro H locs ls hW hL hl
  obtain rfl : 3 = n := hn
  dsimp only [pm_step] at hr
  split at hr
  · unfold pm_if at hr
    split at hr
    · cases hr
    · rename_i ht
      cases hr
      have hk := kk H locs ls hW hL hl
      refine lv_icmp_ne hx hb hd (pm_tgt_spec ht) (fun h => ?_) (fun h => ?_)
      · rw [if_pos (by simp only [pm_holds]; exact decide_eq_true h)] at hk
        exact hk
      · rw [if_neg (by simp only [pm_holds]; exact fun z => of_decide_eq_true z h)] at hk
        exact hk
  · cases hr
theorem pm_s_if_icmp_lt {k : Int} (hx : p.tables.exec = Jvm.exec) (hb : c.code = M.code) (hd : decode M.code pc = .ok (.if_icmp .lt k, n)) (hn : pm_len (.if_icmp .lt k) n = n) {ini : Bool} {xs : Nat → Int32} {L J : Nat} (hr : pm_step M.own M.maxL ini xs L J (.if_icmp .lt k) pc lv st G = some (pc', lv', st', G', dc, ds)) (kk : PW p l e R s m args below meth c Q o M pc' lv' st' G' (cells + dc) (slots + ds)) : PW p l e R s m args below meth c Q o M pc lv st G cells slots := by
  intro H locs ls hW hL hl
  obtain rfl : 3 = n := hn
  dsimp only [pm_step] at hr
  split at hr
  · unfold pm_if at hr
    split at hr
    · cases hr
    · rename_i ht
      cases hr
      have hk := kk H locs ls hW hL hl
      refine lv_icmp_lt hx hb hd (pm_tgt_spec ht) (fun h => ?_) (fun h => ?_)
      · rw [if_pos (by simp only [pm_holds]; exact decide_eq_true h)] at hk
        exact hk
      · rw [if_neg (by simp only [pm_holds]; exact fun z => h (of_decide_eq_true z))] at hk
        exact hk
  · cases hr
theorem pm_s_if_icmp_ge {k : Int} (hx : p.tables.exec = Jvm.exec) (hb : c.code = M.code) (hd : decode M.code pc = .ok (.if_icmp .ge k, n)) (hn : pm_len (.if_icmp .ge k) n = n) {ini : Bool} {xs : Nat → Int32} {L J : Nat} (hr : pm_step M.own M.maxL ini xs L J (.if_icmp .ge k) pc lv st G = some (pc', lv', st', G', dc, ds)) (kk : PW p l e R s m args below meth c Q o M pc' lv' st' G' (cells + dc) (slots + ds)) : PW p l e R s m args below meth c Q o M pc lv st G cells slots := by
  intro H locs ls hW hL hl
  obtain rfl : 3 = n := hn
  dsimp only [pm_step] at hr
  split at hr
  · unfold pm_if at hr
    split at hr
    · cases hr
    · rename_i ht
      cases hr
      have hk := kk H locs ls hW hL hl
      refine lv_icmp_ge hx hb hd (pm_tgt_spec ht) (fun h => ?_) (fun h => ?_)
      · rw [if_pos (by simp only [pm_holds]; exact decide_eq_true h)] at hk
        exact hk
      · rw [if_neg (by simp only [pm_holds]; exact fun z => h (of_decide_eq_true z))] at hk
        exact hk
  · cases hr
theorem pm_s_if_icmp_gt {k : Int} (hx : p.tables.exec = Jvm.exec) (hb : c.code = M.code) (hd : decode M.code pc = .ok (.if_icmp .gt k, n)) (hn : pm_len (.if_icmp .gt k) n = n) {ini : Bool} {xs : Nat → Int32} {L J : Nat} (hr : pm_step M.own M.maxL ini xs L J (.if_icmp .gt k) pc lv st G = some (pc', lv', st', G', dc, ds)) (kk : PW p l e R s m args below meth c Q o M pc' lv' st' G' (cells + dc) (slots + ds)) : PW p l e R s m args below meth c Q o M pc lv st G cells slots := by
  intro H locs ls hW hL hl
  obtain rfl : 3 = n := hn
  dsimp only [pm_step] at hr
  split at hr
  · unfold pm_if at hr
    split at hr
    · cases hr
    · rename_i ht
      cases hr
      have hk := kk H locs ls hW hL hl
      refine lv_icmp_gt hx hb hd (pm_tgt_spec ht) (fun h => ?_) (fun h => ?_)
      · rw [if_pos (by simp only [pm_holds]; exact decide_eq_true h)] at hk
        exact hk
      · rw [if_neg (by simp only [pm_holds]; exact fun z => h (of_decide_eq_true z))] at hk
        exact hk
  · cases hr
theorem pm_s_if_icmp_le {k : Int} (hx : p.tables.exec = Jvm.exec) (hb : c.code = M.code) (hd : decode M.code pc = .ok (.if_icmp .le k, n)) (hn : pm_len (.if_icmp .le k) n = n) {ini : Bool} {xs : Nat → Int32} {L J : Nat} (hr : pm_step M.own M.maxL ini xs L J (.if_icmp .le k) pc lv st G = some (pc', lv', st', G', dc, ds)) (kk : PW p l e R s m args below meth c Q o M pc' lv' st' G' (cells + dc) (slots + ds)) : PW p l e R s m args below meth c Q o M pc lv st G cells slots := by
  intro H locs ls hW hL hl
  obtain rfl : 3 = n := hn
  dsimp only [pm_step] at hr
  split at hr
  · unfold pm_if at hr
    split at hr
    · cases hr
    · rename_i ht
      cases hr
      have hk := kk H locs ls hW hL hl
      refine lv_icmp_le hx hb hd (pm_tgt_spec ht) (fun h => ?_) (fun h => ?_)
      · rw [if_pos (by simp only [pm_holds]; exact decide_eq_true h)] at hk
        exact hk
      · rw [if_neg (by simp only [pm_holds]; exact fun z => h (of_decide_eq_true z))] at hk
        exact hk
  · cases hr
theorem pm_s_tableswitch {d lo hi : Int} {offs : Array Int} (hx : p.tables.exec = Jvm.exec) (hb : c.code = M.code) (hd : decode M.code pc = .ok (.tableswitch d lo hi offs, n)) (hn : pm_len (.tableswitch d lo hi offs) n = n) {ini : Bool} {xs : Nat → Int32} {L J : Nat} (hr : pm_step M.own M.maxL ini xs L J (.tableswitch d lo hi offs) pc lv st G = some (pc', lv', st', G', dc, ds)) (kk : PW p l e R s m args below meth c Q o M pc' lv' st' G' (cells + dc) (slots + ds)) : PW p l e R s m args below meth c Q o M pc lv st G cells slots := by
  intro H locs ls hW hL hl
  dsimp only [pm_step] at hr
  split at hr
  · split at hr
    · rename_i hh
      split at hr
      · rename_i ht
        cases hr
        exact lv_tableOut hx hb hd hh (pm_tgt_spec ht) (kk H locs ls hW hL hl)
      · cases hr
    · rename_i hh
      split at hr
      · rename_i ho
        split at hr
        · rename_i ht
          cases hr
          exact lv_tableIn hx hb hd (fun z => hh (Or.inl z)) (fun z => hh (Or.inr z)) ho (pm_tgt_spec ht) (kk H locs ls hW hL hl)
        · cases hr
      · cases hr
  · cases hr
theorem pm_s_lookupswitch {d : Int} {ps : Array (Int × Int)} (hx : p.tables.exec = Jvm.exec) (hb : c.code = M.code) (hd : decode M.code pc = .ok (.lookupswitch d ps, n)) (hn : pm_len (.lookupswitch d ps) n = n) {ini : Bool} {xs : Nat → Int32} {L J : Nat} (hr : pm_step M.own M.maxL ini xs L J (.lookupswitch d ps) pc lv st G = some (pc', lv', st', G', dc, ds)) (kk : PW p l e R s m args below meth c Q o M pc' lv' st' G' (cells + dc) (slots + ds)) : PW p l e R s m args below meth c Q o M pc lv st G cells slots := by
  intro H locs ls hW hL hl
  dsimp only [pm_step] at hr
  split at hr
  · split at hr
    · rename_i hp
      split at hr
      · rename_i ht
        cases hr
        exact lv_lookup hx hb hd hp rfl (pm_tgt_spec ht) (kk H locs ls hW hL hl)
      · cases hr
    · cases hr
  · cases hr
end PSA
