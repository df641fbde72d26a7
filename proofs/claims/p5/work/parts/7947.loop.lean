/-- the same start, J objects thrown behind it -/
abbrev Om.up (o : Om) (j : Nat) : Om := (o.B, o.scr, o.tks, o.tad, o.dA, o.dC, o.dI, o.H0, o.xs, o.L, j)
theorem pm_K.up {o : Om} {s : State} (h : pm_K o s) (j : Nat) : pm_K (o.up j) s := h
section LT
variable {p : Program} {l : Launch} {e : Env} {R : Room} {s : State} {m : MethodId} {args : Array Value} {below : List Frame} {meth : Method} {c : Code} {Q : State → Prop} {o : Om} {M : pM} {pc cs ss : Nat} {lv : pL} {st : List Value} {G : List pE}
theorem l_tsw {d lo hi : Int} {offs : Array Int} {n t : Nat} {x : Int32} (hF : pm_Fix p s m meth c M) (hK : pm_K o s) (hR : cs ≤ R.cells ∧ ss ≤ R.slots) (hd : decode M.code pc = .ok (Instr.tableswitch d lo hi offs, n)) (ht : pm_tgt pc d = some t) (h1 : PW p l e R s m args below meth c Q o M t lv st G cs ss) (h2 : ∀ k : Nat, lo + (k : Int) ≤ hi → ∃ o' t', offs[k]? = some o' ∧ pm_tgt pc o' = some t' ∧ PW p l e R s m args below meth c Q o M t' lv st G cs ss) : PW p l e R s m args below meth c Q o M pc lv (.int x :: st) G cs ss := by
  by_cases hx : x.toInt < lo ∨ hi < x.toInt
  · exact l_s0 hF hK hR hd ⟨rfl, by dsimp only [pm_step]; rw [if_pos hx, ht]⟩ h1
  · obtain ⟨o', t', e1, e2, k⟩ := h2 (x.toInt - lo).toNat (by omega)
    exact l_s0 hF hK hR hd ⟨rfl, by dsimp only [pm_step]; rw [if_neg hx, e1]; dsimp only; rw [e2]⟩ k
theorem l_bpu {k : Int} (hF : pm_Fix p s m meth c M) (hK : pm_K o s) (hR : cs ≤ R.cells ∧ ss ≤ R.slots) (hd : decode M.code pc = .ok (Instr.bipush k, 2)) (kk : PW p l e R s m args below meth c Q o M (pc + 2) lv (.int (Int8.ofInt k).toInt32 :: st) G cs ss) : PW p l e R s m args below meth c Q o M pc lv st G cs ss := l_s0 hF hK hR hd ⟨rfl, rfl⟩ kk
end LT
section LB
variable {p : Program} {l : Launch} {e : Env} {R : Room} {s : State} {m : MethodId} {args : Array Value} {below : List Frame} {meth : Method} {c : Code} {Q : State → Prop} {o : Om} {cs ss : Nat} {lv : pL} {G : List pE} {i sz : Int32}
set_option maxHeartbeats 4000000 in
set_option maxRecDepth 100000 in
theorem law_body (hF : pm_Fix p s m meth c m_law) (hK : pm_K o s) (hR : cs ≤ R.cells ∧ ss ≤ R.slots) (hRf : 320 + 1 ≤ R.frames ∧ 28 * (320 + 1) ≤ R.locals) (g0 : pm_get lv 0 = some (.ref pm_SB)) (g1 : pm_get lv 1 = some (.ref 0)) (g2 : pm_get lv 2 = some (.ref 349)) (g4 : pm_get lv 4 = some (.int i)) (hb : ∀ j : Int, 0 ≤ j → j ≤ 5 → pm_bad (i + Int32.ofInt j) o.L = false) (h : z_IN th0 0 349 G sz sz) (kt : PW p l e R s m args below meth c Q o m_law 336 lv [] G cs ss) (kk : ∀ (G' : List pE) (sz' : Int32), z_IN th0 0 349 G' sz' sz' → PW p l e R s m args below meth c Q o m_law 1466 lv [] G' cs ss) : PW p l e R s m args below meth c Q o m_law 33 lv [] G cs ss := by
  have hb0 : pm_bad i o.L = false := by
    have := hb 0 (by decide) (by decide)
    rwa [show i + Int32.ofInt 0 = i from Int32.add_zero i] at this
  refine l_aln hF hK hR (e_law0 (33, .aload_n 0, 1) (List.mem_of_getElem? (i := 19) rfl)) g0 ?_
  refine l_il hF hK hR (e_law0 (34, .iload 4, 2) (List.mem_of_getElem? (i := 20) rfl)) g4 ?_
  refine l_s0 (pc' := 37) (lv' := lv) (st' := [.int (o.xs i.toNatClampNeg)]) (G' := G) hF hK hR (e_law0 (36, .iaload, 1) (List.mem_of_getElem? (i := 21) rfl)) ⟨rfl, by dsimp only [pm_step]; rw [if_pos rfl, hb0]; rfl⟩ ?_
  refine l_bpu hF hK hR (e_law0 (37, .bipush 63, 2) (List.mem_of_getElem? (i := 22) rfl)) ?_
  refine l_s0 hF hK hR (e_law0 (39, .iand, 1) (List.mem_of_getElem? (i := 23) rfl)) ⟨rfl, rfl⟩ ?_
  refine l_tsw (t := 1466) hF hK hR (e_law0 (40, .tableswitch 1426 0 38 #[172, 245, 270, 283, 296, 336, 373, 410, 447, 472, 509, 546, 583, 620, 633, 658, 671, 732, 793, 842, 879, 916, 965, 978, 1015, 1040, 1065, 1078, 1103, 1140, 1177, 1214, 1263, 1288, 1313, 1326, 1351, 1376, 1401], 172) (List.mem_of_getElem? (i := 24) rfl)) rfl (kk G sz h) (fun k hk => ?_)
  match k, hk with
  | 0, _ => exact ⟨172, 212, rfl, rfl, law_feed hF hK hR hRf g0 g1 g2 g4 hb h kk⟩
  | 1, _ => exact ⟨245, 285, rfl, rfl, law_end hF hK hR hRf g0 g1 g2 g4 hb h kk⟩
  | 2, _ => exact ⟨270, 310, rfl, rfl, law_land hF hK hR hRf g0 g1 g2 g4 hb h kk⟩
  | 3, _ => exact ⟨283, 323, rfl, rfl, law_fault hF hK hR hRf g0 g1 g2 g4 hb h kk⟩
  | 4, _ => exact ⟨296, 336, rfl, rfl, kt⟩
  | 5, _ => exact ⟨336, 376, rfl, rfl, law_mill hF hK hR hRf g0 g1 g2 g4 hb h kk⟩
  | 6, _ => exact ⟨373, 413, rfl, rfl, law_man hF hK hR hRf g0 g1 g2 g4 hb h kk⟩
  | 7, _ => exact ⟨410, 450, rfl, rfl, law_passage hF hK hR hRf g0 g1 g2 g4 hb h kk⟩
  | 8, _ => exact ⟨447, 487, rfl, rfl, law_now hF hK hR hRf g0 g1 g2 g4 hb h kk⟩
  | 9, _ => exact ⟨472, 512, rfl, rfl, law_air hF hK hR hRf g0 g1 g2 g4 hb h kk⟩
  | 10, _ => exact ⟨509, 549, rfl, rfl, law_force hF hK hR hRf g0 g1 g2 g4 hb h kk⟩
  | 11, _ => exact ⟨546, 586, rfl, rfl, law_tie hF hK hR hRf g0 g1 g2 g4 hb h kk⟩
  | 12, _ => exact ⟨583, 623, rfl, rfl, law_walk hF hK hR hRf g0 g1 g2 g4 hb h kk⟩
  | 13, _ => exact ⟨620, 660, rfl, rfl, law_cough hF hK hR hRf g0 g1 g2 g4 hb h kk⟩
  | 14, _ => exact ⟨633, 673, rfl, rfl, law_hours hF hK hR hRf g0 g1 g2 g4 hb h kk⟩
  | 15, _ => exact ⟨658, 698, rfl, rfl, law_undo hF hK hR hRf g0 g1 g2 g4 hb h kk⟩
  | 16, _ => exact ⟨671, 711, rfl, rfl, law_letter hF hK hR hRf g0 g1 g2 g4 hb h kk⟩
  | 17, _ => exact ⟨732, 772, rfl, rfl, law_heaviest hF hK hR hRf g0 g1 g2 g4 hb h kk⟩
  | 18, _ => exact ⟨793, 833, rfl, rfl, law_best hF hK hR hRf g0 g1 g2 g4 hb h kk⟩
  | 19, _ => exact ⟨842, 882, rfl, rfl, law_soonest hF hK hR hRf g0 g1 g2 g4 hb h kk⟩
  | 20, _ => exact ⟨879, 919, rfl, rfl, law_reach hF hK hR hRf g0 g1 g2 g4 hb h kk⟩
  | 21, _ => exact ⟨916, 956, rfl, rfl, law_dry hF hK hR hRf g0 g1 g2 g4 hb h kk⟩
  | 22, _ => exact ⟨965, 1005, rfl, rfl, law_which hF hK hR hRf g0 g1 g2 g4 hb h kk⟩
  | 23, _ => exact ⟨978, 1018, rfl, rfl, law_ties hF hK hR hRf g0 g1 g2 g4 hb h kk⟩
  | 24, _ => exact ⟨1015, 1055, rfl, rfl, law_turn hF hK hR hRf g0 g1 g2 g4 hb h kk⟩
  | 25, _ => exact ⟨1040, 1080, rfl, rfl, law_guard hF hK hR hRf g0 g1 g2 g4 hb h kk⟩
  | 26, _ => exact ⟨1065, 1105, rfl, rfl, law_prices hF hK hR hRf g0 g1 g2 g4 hb h kk⟩
  | 27, _ => exact ⟨1078, 1118, rfl, rfl, law_price hF hK hR hRf g0 g1 g2 g4 hb h kk⟩
  | 28, _ => exact ⟨1103, 1143, rfl, rfl, law_later hF hK hR hRf g0 g1 g2 g4 hb h kk⟩
  | 29, _ => exact ⟨1140, 1180, rfl, rfl, law_meet hF hK hR hRf g0 g1 g2 g4 hb h kk⟩
  | 30, _ => exact ⟨1177, 1217, rfl, rfl, law_drawn hF hK hR hRf g0 g1 g2 g4 hb h kk⟩
  | 31, _ => exact ⟨1214, 1254, rfl, rfl, law_odds hF hK hR hRf g0 g1 g2 g4 hb h kk⟩
  | 32, _ => exact ⟨1263, 1303, rfl, rfl, law_log hF hK hR hRf g0 g1 g2 g4 hb h kk⟩
  | 33, _ => exact ⟨1288, 1328, rfl, rfl, law_logged hF hK hR hRf g0 g1 g2 g4 hb h kk⟩
  | 34, _ => exact ⟨1313, 1353, rfl, rfl, law_sentence hF hK hR hRf g0 g1 g2 g4 hb h kk⟩
  | 35, _ => exact ⟨1326, 1366, rfl, rfl, law_said hF hK hR hRf g0 g1 g2 g4 hb h kk⟩
  | 36, _ => exact ⟨1351, 1391, rfl, rfl, law_image hF hK hR hRf g0 g1 g2 g4 hb h kk⟩
  | 37, _ => exact ⟨1376, 1416, rfl, rfl, law_restore hF hK hR hRf g0 g1 g2 g4 hb h kk⟩
  | 38, _ => exact ⟨1401, 1441, rfl, rfl, law_count hF hK hR hRf g0 g1 g2 g4 hb h kk⟩
  | k + 39, hk => exact absurd hk (by omega)
end LB
section LO
variable {p : Program} {l : Launch} {e : Env} {R : Room} {s : State} {m : MethodId} {args : Array Value} {below : List Frame} {meth : Method} {c : Code} {Q : State → Prop} {o : Om}
/-- what `thing`'s case does: it comes to 1466 with at most one cell more -/
def l_Th (p : Program) (l : Launch) (e : Env) (R : Room) (s : State) (m : MethodId) (args : Array Value) (below : List Frame) (meth : Method) (c : Code) (Q : State → Prop) (o : Om) : Prop := ∀ (j : Nat) (lv : pL) (G : List pE) (cs ss : Nat) (i sz : Int32), cs + 1 ≤ R.cells ∧ ss + 6 ≤ R.slots → pm_get lv 0 = some (.ref pm_SB) → pm_get lv 1 = some (.ref 0) → pm_get lv 2 = some (.ref 349) → pm_get lv 3 = some (.ref 365) → pm_get lv 4 = some (.int i) → (∀ k : Int, 0 ≤ k → k ≤ 5 → pm_bad (i + Int32.ofInt k) o.L = false) → z_IN th0 0 349 G sz sz → (∀ (j' cs' ss' : Nat) (lv' : pL) (G' : List pE) (sz' : Int32), cs' ≤ cs + 1 → ss' ≤ ss + 6 → pm_get lv' 0 = some (.ref pm_SB) → pm_get lv' 1 = some (.ref 0) → pm_get lv' 2 = some (.ref 349) → pm_get lv' 3 = some (.ref 365) → pm_get lv' 4 = some (.int i) → z_IN th0 0 349 G' sz' sz' → PW p l e R s m args below meth c Q (o.up j') m_law 1466 lv' [] G' cs' ss') → PW p l e R s m args below meth c Q (o.up j) m_law 336 lv [] G cs ss
set_option maxHeartbeats 4000000 in
set_option maxRecDepth 100000 in
theorem law_loop (hF : pm_Fix p s m meth c m_law) (hK : pm_K o s) (hRf : 320 + 1 ≤ R.frames ∧ 28 * (320 + 1) ≤ R.locals) (hL : o.L ≤ 3072) (hC : 401 + o.L ≤ R.cells ∧ 8006 + 6 * o.L ≤ R.slots) (hE : ∀ (j : Nat) (lv : pL) (G : List pE) (cs ss : Nat), cs ≤ 400 + o.L → ss ≤ 8000 + 6 * o.L → PW p l e R s m args below meth c Q (o.up j) m_law 1472 lv [] G cs ss) (hT : l_Th p l e R s m args below meth c Q o) :
    ∀ (n a j : Nat) (lv : pL) (G : List pE) (cs ss : Nat) (i sz : Int32), i.toInt = a → a ≤ o.L → o.L + 1 ≤ a + n → cs ≤ 400 + a → ss ≤ 8000 + 6 * a → pm_get lv 0 = some (.ref pm_SB) → pm_get lv 1 = some (.ref 0) → pm_get lv 2 = some (.ref 349) → pm_get lv 3 = some (.ref 365) → pm_get lv 4 = some (.int i) → z_IN th0 0 349 G sz sz → PW p l e R s m args below meth c Q (o.up j) m_law 23 lv [] G cs ss := by
  intro n
  induction n with
  | zero =>
    intro a j lv G cs ss i sz ei h1 h2
    exact absurd h2 (by omega)
  | succ n ih =>
    intro a j lv G cs ss i sz ei h1 h2 h3 h4 g0 g1 g2 g3 g4 h
    have hK' := hK.up j
    have hR : cs ≤ R.cells ∧ ss ≤ R.slots := ⟨by omega, by omega⟩
    have eL : (Int32.ofNat o.L).toInt = o.L := nI_toInt (by omega)
    have e6 : (Int32.ofNat o.L - (Int8.ofInt 6).toInt32).toInt = (o.L : Int) - 6 := by
      rw [Int32.toInt_sub, eL, show ((Int8.ofInt 6).toInt32).toInt = 6 from rfl, Jvm.Kit.bmod32 (by omega) (by omega)]
    refine l_il hF hK' hR (e_law0 (23, .iload 4, 2) (List.mem_of_getElem? (i := 13) rfl)) g4 ?_
    refine l_aln hF hK' hR (e_law0 (25, .aload_n 0, 1) (List.mem_of_getElem? (i := 14) rfl)) g0 ?_
    refine l_s0 (pc' := 27) (lv' := lv) (st' := [.int (Int32.ofNat o.L), .int i]) (G' := G) hF hK' hR (e_law0 (26, .arraylength, 1) (List.mem_of_getElem? (i := 15) rfl)) ⟨rfl, by dsimp only [pm_step]; rw [if_pos rfl]⟩ ?_
    refine l_bpu hF hK' hR (e_law0 (27, .bipush 6, 2) (List.mem_of_getElem? (i := 16) rfl)) ?_
    refine l_s0 hF hK' hR (e_law0 (29, .isub, 1) (List.mem_of_getElem? (i := 17) rfl)) ⟨rfl, rfl⟩ ?_
    refine l_icm (t := 1472) hF hK' hR (e_law0 (30, .if_icmp .gt 1442, 3) (List.mem_of_getElem? (i := 18) rfl)) rfl (fun _ => hE j lv G cs ss (by omega) (by omega)) (fun hc => ?_)
    have hc := y_hI.2.2.2.2.2.2.2.2.2.2.2 hc
    rw [e6, ei] at hc
    have hb : ∀ k : Int, 0 ≤ k → k ≤ 5 → pm_bad (i + Int32.ofInt k) o.L = false := fun k k0 k5 => by
      have ek : (Int32.ofInt k).toInt = k := by rcases (show k = 0 ∨ k = 1 ∨ k = 2 ∨ k = 3 ∨ k = 4 ∨ k = 5 by omega) with rfl | rfl | rfl | rfl | rfl | rfl <;> rfl
      have es : (i + Int32.ofInt k).toInt = a + k := by rw [y_add (by rw [ek, ei]; omega) (by rw [ek, ei]; omega), ek, ei]
      exact (y_idx (by rw [es]; omega) (by rw [es]; omega)).2
    have next : ∀ (j' cs' ss' : Nat) (lv' : pL) (G' : List pE) (sz' : Int32), cs' ≤ cs + 1 → ss' ≤ ss + 6 → pm_get lv' 0 = some (.ref pm_SB) → pm_get lv' 1 = some (.ref 0) → pm_get lv' 2 = some (.ref 349) → pm_get lv' 3 = some (.ref 365) → pm_get lv' 4 = some (.int i) → z_IN th0 0 349 G' sz' sz' → PW p l e R s m args below meth c Q (o.up j') m_law 1466 lv' [] G' cs' ss' := by
      intro j' cs' ss' lv' G' sz' k1 k2 q0 q1 q2 q3 q4 h'
      have hR' : cs' ≤ R.cells ∧ ss' ≤ R.slots := ⟨by omega, by omega⟩
      have e6' : (i + Int32.ofInt 6).toInt = ((a + 6 : Nat) : Int) := by
        rw [y_add (by rw [ei, show (Int32.ofInt 6).toInt = 6 from rfl]; omega) (by rw [ei, show (Int32.ofInt 6).toInt = 6 from rfl]; omega), ei, show (Int32.ofInt 6).toInt = 6 from rfl]
        rfl
      refine l_s0 (pc' := 1469) (lv' := pm_put1 lv' 4 (.int (i + Int32.ofInt 6))) (st' := []) (G' := G') hF (hK.up j') hR' (e_law9 (1466, .iinc 4 6, 3) (List.mem_of_getElem? (i := 19) rfl)) ⟨rfl, by dsimp only [pm_step]; rw [q4]; exact if_pos (by decide)⟩ ?_
      refine l_s0 hF (hK.up j') hR' (e_law9 (1469, .goto (-1446), 3) (List.mem_of_getElem? (i := 20) rfl)) ⟨rfl, rfl⟩ ?_
      exact ih (a + 6) j' _ G' cs' ss' _ sz' e6' (by omega) (by omega) (by omega) (by omega) (y_gpr q0 (by decide)) (y_gpr q1 (by decide)) (y_gpr q2 (by decide)) (y_gpr q3 (by decide)) x_get_self h'
    exact law_body hF hK' hR hRf g0 g1 g2 g4 hb h (hT j lv G cs ss i sz ⟨by omega, by omega⟩ g0 g1 g2 g3 g4 hb h next) (fun G' sz' h' => next j cs ss lv G' sz' (by omega) (by omega) g0 g1 g2 g3 g4 h')
end LO
