/-! how far a corner is from another, and how far it moves -/
def wyR (kf : Int) (n k i : Nat) : Nat := if 5 ≤ kf then min (Int.natAbs (((i : Nat) : Int) - ((k : Nat) : Int))) (n - Int.natAbs (((i : Nat) : Int) - ((k : Nat) : Int))) else Int.natAbs (((i : Nat) : Int) - ((k : Nat) : Int))
def shV (kf : Int) (n k : Nat) (dx : Int32) (rr : Nat) (X : Nat → Int32) (i : Nat) : Int32 := if rr < wyR kf n k i ∨ (¬ 5 ≤ kf ∧ (i = 0 ∨ i = n - 1)) then X i else X i + dx * nI (rr + 1 - wyR kf n k i) / nI (rr + 1)
theorem shV_t {kf : Int} {n k : Nat} {dx : Int32} {rr : Nat} {X : Nat → Int32} {i : Nat} (h : rr < wyR kf n k i ∨ (¬ 5 ≤ kf ∧ (i = 0 ∨ i = n - 1))) : X i = shV kf n k dx rr X i := by unfold shV; rw [if_pos h]
theorem shV_f {kf : Int} {n k : Nat} {dx : Int32} {rr : Nat} {X : Nat → Int32} {i : Nat} (h : ¬ (rr < wyR kf n k i ∨ (¬ 5 ≤ kf ∧ (i = 0 ∨ i = n - 1)))) : X i + dx * nI (rr + 1 - wyR kf n k i) / nI (rr + 1) = shV kf n k dx rr X i := by unfold shV; rw [if_neg h]
