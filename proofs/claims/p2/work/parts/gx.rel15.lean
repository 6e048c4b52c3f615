/-! those marked go one by one -/
theorem gnA_o {P : Nat → Prop} {q g : Nat} {x : Int32} {k : Nat → Int32} (h : q ≤ g) : gnA P q x k g = k g := by unfold gnA; rw [if_neg (fun h2 => by omega)]
