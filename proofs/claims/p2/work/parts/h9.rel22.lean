/-! pairs of features as numbers -/
theorem zn_d200 {p : Nat} (h : p ≤ 100000) : nI p / 200 = nI (p / 200) := by
  refine Int32.toInt_inj.mp ?_
  have e : ((p : Nat) : Int) / 200 = ((p / 200 : Nat) : Int) := by omega
  rw [Int32.toInt_div, nI_toInt (by omega), nI_toInt (by omega), show (200 : Int32).toInt = 200 by decide, Int.tdiv_eq_ediv_of_nonneg (by omega), e]
  exact fb_bmod (by omega) (by omega)
theorem zn_r200 {p : Nat} (h : p ≤ 100000) : nI p - nI p / 200 * 200 = nI (p % 200) := by
  rw [zn_d200 h, show (200 : Int32) = nI 200 from rfl, pk_mul, pk_sub (by omega)]
  exact zn_eq (by omega)
def prC (z : Int32) : Prop := z = -1 ∨ ∃ p, (p ≤ 40200 ∧ p / 200 < p % 200) ∧ z = nI p
theorem prC_get {z : Int32} (h : prC z) (hz : ¬ z.toInt = -1) : ∃ p, (p ≤ 40200 ∧ p / 200 < p % 200) ∧ z = nI p := by
  rcases h with h | h
  · exact absurd (by rw [h]; decide) hz
  · exact h
