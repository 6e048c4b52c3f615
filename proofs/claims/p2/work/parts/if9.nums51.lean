/-! a row has an edge, or is a point -/
theorem prt_1 {k : Int} {n : Nat} (h : (k = 0 ∧ n = 1) ∨ (¬ k = 0 ∧ 2 ≤ n)) : 1 ≤ prt n (rgK k) := by
  rw [prt_eO (rgK_t _) h]
  unfold eO
  by_cases e : k = 0
  · rw [if_pos e]; exact Nat.le_refl _
  · rw [if_neg e]; split <;> omega
