theorem wyR_b {kf : Int} {n k i : Nat} (hk : k < n) (hi : i < n) : wyR kf n k i ≤ n := by
  unfold wyR
  by_cases h : 5 ≤ kf
  · rw [if_pos h]; omega
  · rw [if_neg h]; omega
