/-- what belongs to the model is as it was -/
def z_sm (th : List Nat) (G G' : List pE) : Prop := ∀ c t i : Nat, th[c]? = some t → (t = 10 ∨ t = 35 ∨ t = 37 ∨ t = 39 ∨ t = 40 ∨ t = 36) → x_sl G' c i = x_sl G c i
/-- the model's sentence() says such a kind of FAULT -/
def z_FS (q : Int32) (G : List pE) : Prop := ∀ (xs : Nat → Int32) (L J d : Nat), 3 ≤ d → x_Gd xs L J d m_247 (fun _ G' => x_sl G' 349 15 = some (.int q)) 0 (lv_args 0 [.ref 349]) [] G
/-- .. its log() -/
def z_FL (x q : Int32) (G : List pE) : Prop := ∀ (xs : Nat → Int32) (L J d : Nat), 318 ≤ d → x_Gd xs L J d m_243 (fun _ G' => x_sl G' 349 15 = some (.int q)) 0 (lv_args 0 [.ref 349, .int x]) [] G
