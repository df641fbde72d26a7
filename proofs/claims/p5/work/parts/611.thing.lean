set_option maxHeartbeats 1000000 in
theorem h_295 (th : List Nat) (xs : Nat → Int32) (L J : Nat) : x_Holds x_tb th xs L J c_295 296 := by
  refine x_Holds_cases (fun v hB hC => ?_) ⟨_, rfl⟩
  have hn : v 3 = 0 ∨ v 3 = 1 ∨ v 3 = 2 ∨ v 3 = 3 ∨ v 3 = 4 ∨ v 3 = 5 ∨ v 3 = 6 ∨ v 3 = 7 ∨ v 3 = 8 := by
    have h1 := hC ([(3, 1)], 0) (List.mem_of_getElem? (i := 2) rfl)
    have h2 := hC ([(3, -1)], 8) (List.mem_of_getElem? (i := 3) rfl)
    simp only [xl_ev, xt_ev] at h1 h2
    omega
  rcases hn with h | h | h | h | h | h | h | h | h
  · refine ⟨c_225, (h_225 th xs L J).mono (by omega), rfl, rfl, rfl, ?_, fun G hf q hq => ?_⟩
    · simp only [c_295, x_Cs, List.forall_mem_cons, List.not_mem_nil, false_implies, implies_true, and_true, xl_ev, xt_ev] at hC
      simp only [c_225, x_Cs, List.forall_mem_cons, List.not_mem_nil, false_implies, implies_true, and_true, xl_ev, xt_ev]
      omega
    · rcases List.mem_cons.mp hq with rfl | hq
      · exact hf _ List.mem_cons_self
      rcases List.mem_cons.mp hq with rfl | hq
      · exact hf _ (List.mem_cons_of_mem _ List.mem_cons_self)
      rcases List.mem_cons.mp hq with rfl | hq
      · obtain ⟨a, f1, f2, w, f3, x, f4, f5⟩ := hf (37, ([(2, 1)], 0), 3, (0, ([(3, 1)], 0))) (List.mem_of_getElem? (i := 2) rfl)
        refine ⟨a, f1, f2, w, f3, x, f4, ?_⟩
        simp only [xl_ev, xt_ev] at f5 ⊢
        omega
      · exact hf q (List.mem_cons_of_mem _ (List.mem_cons_of_mem _ (List.mem_cons_of_mem _ hq)))
  · refine ⟨c_226, (h_226 th xs L J).mono (by omega), rfl, rfl, rfl, ?_, fun G hf q hq => ?_⟩
    · simp only [c_295, x_Cs, List.forall_mem_cons, List.not_mem_nil, false_implies, implies_true, and_true, xl_ev, xt_ev] at hC
      simp only [c_226, x_Cs, List.forall_mem_cons, List.not_mem_nil, false_implies, implies_true, and_true, xl_ev, xt_ev]
      omega
    · rcases List.mem_cons.mp hq with rfl | hq
      · exact hf _ List.mem_cons_self
      rcases List.mem_cons.mp hq with rfl | hq
      · exact hf _ (List.mem_cons_of_mem _ List.mem_cons_self)
      rcases List.mem_cons.mp hq with rfl | hq
      · obtain ⟨a, f1, f2, w, f3, x, f4, f5⟩ := hf (37, ([(2, 1)], 0), 3, (0, ([(3, 1)], 0))) (List.mem_of_getElem? (i := 2) rfl)
        refine ⟨a, f1, f2, w, f3, x, f4, ?_⟩
        simp only [xl_ev, xt_ev] at f5 ⊢
        omega
      · exact hf q (List.mem_cons_of_mem _ (List.mem_cons_of_mem _ (List.mem_cons_of_mem _ hq)))
  · refine ⟨c_227, (h_227 th xs L J).mono (by omega), rfl, rfl, rfl, ?_, fun G hf q hq => ?_⟩
    · simp only [c_295, x_Cs, List.forall_mem_cons, List.not_mem_nil, false_implies, implies_true, and_true, xl_ev, xt_ev] at hC
      simp only [c_227, x_Cs, List.forall_mem_cons, List.not_mem_nil, false_implies, implies_true, and_true, xl_ev, xt_ev]
      omega
    · rcases List.mem_cons.mp hq with rfl | hq
      · exact hf _ List.mem_cons_self
      rcases List.mem_cons.mp hq with rfl | hq
      · exact hf _ (List.mem_cons_of_mem _ List.mem_cons_self)
      rcases List.mem_cons.mp hq with rfl | hq
      · obtain ⟨a, f1, f2, w, f3, x, f4, f5⟩ := hf (37, ([(2, 1)], 0), 3, (0, ([(3, 1)], 0))) (List.mem_of_getElem? (i := 2) rfl)
        refine ⟨a, f1, f2, w, f3, x, f4, ?_⟩
        simp only [xl_ev, xt_ev] at f5 ⊢
        omega
      · exact hf q (List.mem_cons_of_mem _ (List.mem_cons_of_mem _ (List.mem_cons_of_mem _ hq)))
  · refine ⟨c_228, (h_228 th xs L J).mono (by omega), rfl, rfl, rfl, ?_, fun G hf q hq => ?_⟩
    · simp only [c_295, x_Cs, List.forall_mem_cons, List.not_mem_nil, false_implies, implies_true, and_true, xl_ev, xt_ev] at hC
      simp only [c_228, x_Cs, List.forall_mem_cons, List.not_mem_nil, false_implies, implies_true, and_true, xl_ev, xt_ev]
      omega
    · rcases List.mem_cons.mp hq with rfl | hq
      · exact hf _ List.mem_cons_self
      rcases List.mem_cons.mp hq with rfl | hq
      · exact hf _ (List.mem_cons_of_mem _ List.mem_cons_self)
      rcases List.mem_cons.mp hq with rfl | hq
      · obtain ⟨a, f1, f2, w, f3, x, f4, f5⟩ := hf (37, ([(2, 1)], 0), 3, (0, ([(3, 1)], 0))) (List.mem_of_getElem? (i := 2) rfl)
        refine ⟨a, f1, f2, w, f3, x, f4, ?_⟩
        simp only [xl_ev, xt_ev] at f5 ⊢
        omega
      · exact hf q (List.mem_cons_of_mem _ (List.mem_cons_of_mem _ (List.mem_cons_of_mem _ hq)))
  · refine ⟨c_229, (h_229 th xs L J).mono (by omega), rfl, rfl, rfl, ?_, fun G hf q hq => ?_⟩
    · simp only [c_295, x_Cs, List.forall_mem_cons, List.not_mem_nil, false_implies, implies_true, and_true, xl_ev, xt_ev] at hC
      simp only [c_229, x_Cs, List.forall_mem_cons, List.not_mem_nil, false_implies, implies_true, and_true, xl_ev, xt_ev]
      omega
    · rcases List.mem_cons.mp hq with rfl | hq
      · exact hf _ List.mem_cons_self
      rcases List.mem_cons.mp hq with rfl | hq
      · exact hf _ (List.mem_cons_of_mem _ List.mem_cons_self)
      rcases List.mem_cons.mp hq with rfl | hq
      · obtain ⟨a, f1, f2, w, f3, x, f4, f5⟩ := hf (37, ([(2, 1)], 0), 3, (0, ([(3, 1)], 0))) (List.mem_of_getElem? (i := 2) rfl)
        refine ⟨a, f1, f2, w, f3, x, f4, ?_⟩
        simp only [xl_ev, xt_ev] at f5 ⊢
        omega
      · exact hf q (List.mem_cons_of_mem _ (List.mem_cons_of_mem _ (List.mem_cons_of_mem _ hq)))
  · refine ⟨c_230, (h_230 th xs L J).mono (by omega), rfl, rfl, rfl, ?_, fun G hf q hq => ?_⟩
    · simp only [c_295, x_Cs, List.forall_mem_cons, List.not_mem_nil, false_implies, implies_true, and_true, xl_ev, xt_ev] at hC
      simp only [c_230, x_Cs, List.forall_mem_cons, List.not_mem_nil, false_implies, implies_true, and_true, xl_ev, xt_ev]
      omega
    · rcases List.mem_cons.mp hq with rfl | hq
      · exact hf _ List.mem_cons_self
      rcases List.mem_cons.mp hq with rfl | hq
      · exact hf _ (List.mem_cons_of_mem _ List.mem_cons_self)
      rcases List.mem_cons.mp hq with rfl | hq
      · obtain ⟨a, f1, f2, w, f3, x, f4, f5⟩ := hf (37, ([(2, 1)], 0), 3, (0, ([(3, 1)], 0))) (List.mem_of_getElem? (i := 2) rfl)
        refine ⟨a, f1, f2, w, f3, x, f4, ?_⟩
        simp only [xl_ev, xt_ev] at f5 ⊢
        omega
      · exact hf q (List.mem_cons_of_mem _ (List.mem_cons_of_mem _ (List.mem_cons_of_mem _ hq)))
  · refine ⟨c_231, (h_231 th xs L J).mono (by omega), rfl, rfl, rfl, ?_, fun G hf q hq => ?_⟩
    · simp only [c_295, x_Cs, List.forall_mem_cons, List.not_mem_nil, false_implies, implies_true, and_true, xl_ev, xt_ev] at hC
      simp only [c_231, x_Cs, List.forall_mem_cons, List.not_mem_nil, false_implies, implies_true, and_true, xl_ev, xt_ev]
      omega
    · rcases List.mem_cons.mp hq with rfl | hq
      · exact hf _ List.mem_cons_self
      rcases List.mem_cons.mp hq with rfl | hq
      · exact hf _ (List.mem_cons_of_mem _ List.mem_cons_self)
      rcases List.mem_cons.mp hq with rfl | hq
      · obtain ⟨a, f1, f2, w, f3, x, f4, f5⟩ := hf (37, ([(2, 1)], 0), 3, (0, ([(3, 1)], 0))) (List.mem_of_getElem? (i := 2) rfl)
        refine ⟨a, f1, f2, w, f3, x, f4, ?_⟩
        simp only [xl_ev, xt_ev] at f5 ⊢
        omega
      · exact hf q (List.mem_cons_of_mem _ (List.mem_cons_of_mem _ (List.mem_cons_of_mem _ hq)))
  · refine ⟨c_232, (h_232 th xs L J).mono (by omega), rfl, rfl, rfl, ?_, fun G hf q hq => ?_⟩
    · simp only [c_295, x_Cs, List.forall_mem_cons, List.not_mem_nil, false_implies, implies_true, and_true, xl_ev, xt_ev] at hC
      simp only [c_232, x_Cs, List.forall_mem_cons, List.not_mem_nil, false_implies, implies_true, and_true, xl_ev, xt_ev]
      omega
    · rcases List.mem_cons.mp hq with rfl | hq
      · exact hf _ List.mem_cons_self
      rcases List.mem_cons.mp hq with rfl | hq
      · exact hf _ (List.mem_cons_of_mem _ List.mem_cons_self)
      rcases List.mem_cons.mp hq with rfl | hq
      · obtain ⟨a, f1, f2, w, f3, x, f4, f5⟩ := hf (37, ([(2, 1)], 0), 3, (0, ([(3, 1)], 0))) (List.mem_of_getElem? (i := 2) rfl)
        refine ⟨a, f1, f2, w, f3, x, f4, ?_⟩
        simp only [xl_ev, xt_ev] at f5 ⊢
        omega
      · exact hf q (List.mem_cons_of_mem _ (List.mem_cons_of_mem _ (List.mem_cons_of_mem _ hq)))
  · refine ⟨c_233, (h_233 th xs L J).mono (by omega), rfl, rfl, rfl, ?_, fun G hf q hq => ?_⟩
    · simp only [c_295, x_Cs, List.forall_mem_cons, List.not_mem_nil, false_implies, implies_true, and_true, xl_ev, xt_ev] at hC
      simp only [c_233, x_Cs, List.forall_mem_cons, List.not_mem_nil, false_implies, implies_true, and_true, xl_ev, xt_ev]
      omega
    · rcases List.mem_cons.mp hq with rfl | hq
      · exact hf _ List.mem_cons_self
      rcases List.mem_cons.mp hq with rfl | hq
      · exact hf _ (List.mem_cons_of_mem _ List.mem_cons_self)
      rcases List.mem_cons.mp hq with rfl | hq
      · obtain ⟨a, f1, f2, w, f3, x, f4, f5⟩ := hf (37, ([(2, 1)], 0), 3, (0, ([(3, 1)], 0))) (List.mem_of_getElem? (i := 2) rfl)
        refine ⟨a, f1, f2, w, f3, x, f4, ?_⟩
        simp only [xl_ev, xt_ev] at f5 ⊢
        omega
      · exact hf q (List.mem_cons_of_mem _ (List.mem_cons_of_mem _ (List.mem_cons_of_mem _ hq)))
