/-! near, weights, places of ends -/
theorem wtL {r : Int32} {L : Nat} (hr : 0 ≤ r.toInt ∧ r.toInt ≤ 9) (hL : L ≤ 100000) : (r + 1).toInt64 * jI ((L : Nat) : Int) = jI ((r.toInt + 1) * ((L : Nat) : Int)) := by
  have e1 : (r + 1).toInt = r.toInt + 1 := by
    have h1 : (1 : Int32).toInt = 1 := by decide
    rw [fb_addI (by rw [h1]; omega) (by rw [h1]; omega), h1]
  have e2 : (r + 1).toInt64 = jI (r.toInt + 1) := jI_of (by rw [i64, e1])
  have hm : 0 ≤ (r.toInt + 1) * ((L : Nat) : Int) := Int.mul_nonneg (by omega) (by omega)
  have hm2 : (r.toInt + 1) * ((L : Nat) : Int) ≤ 10 * ((L : Nat) : Int) := Int.mul_le_mul_of_nonneg_right (by omega) (by omega)
  rw [e2, jI_mul (by omega) (by omega) (by omega)]
