/-! the reference's numbers are longs -/
theorem i64 (x : Int32) : (x.toInt64).toInt = x.toInt := Int32.toInt_toInt64 x
theorem crL {a1 a2 b1 b2 x y : Int32} (h1 : pl a1) (h2 : pl a2) (h3 : pl b1) (h4 : pl b2) (h5 : pl x) (h6 : pl y) : (b1.toInt64 - a1.toInt64) * (y.toInt64 - a2.toInt64) - (b2.toInt64 - a2.toInt64) * (x.toInt64 - a1.toInt64) = jI (cr a1.toInt a2.toInt b1.toInt b2.toInt x.toInt y.toInt) := by
  unfold pl at h1 h2 h3 h4 h5 h6
  have s1 := i64 a1; have s2 := i64 a2; have s3 := i64 b1; have s4 := i64 b2; have s5 := i64 x; have s6 := i64 y
  have e1 : (b1.toInt64 - a1.toInt64).toInt = b1.toInt - a1.toInt := by rw [fb_subL (by omega) (by omega), s3, s1]
  have e2 : (y.toInt64 - a2.toInt64).toInt = y.toInt - a2.toInt := by rw [fb_subL (by omega) (by omega), s6, s2]
  have e3 : (b2.toInt64 - a2.toInt64).toInt = b2.toInt - a2.toInt := by rw [fb_subL (by omega) (by omega), s4, s2]
  have e4 : (x.toInt64 - a1.toInt64).toInt = x.toInt - a1.toInt := by rw [fb_subL (by omega) (by omega), s5, s1]
  have p := mulB (u := b1.toInt - a1.toInt) (v := y.toInt - a2.toInt) (by omega) (by omega) (by omega) (by omega)
  have q := mulB (u := b2.toInt - a2.toInt) (v := x.toInt - a1.toInt) (by omega) (by omega) (by omega) (by omega)
  have f1 : ((b1.toInt64 - a1.toInt64) * (y.toInt64 - a2.toInt64)).toInt = (b1.toInt - a1.toInt) * (y.toInt - a2.toInt) := by rw [fb_mulL (by rw [e1, e2]; omega) (by rw [e1, e2]; omega), e1, e2]
  have f2 : ((b2.toInt64 - a2.toInt64) * (x.toInt64 - a1.toInt64)).toInt = (b2.toInt - a2.toInt) * (x.toInt - a1.toInt) := by rw [fb_mulL (by rw [e3, e4]; omega) (by rw [e3, e4]; omega), e3, e4]
  refine jI_of ?_
  rw [fb_subL (by rw [f1, f2]; omega) (by rw [f1, f2]; omega), f1, f2]
  rfl
def sg (z : Int) : Int := if 0 < z then 1 else if z < 0 then -1 else 0
theorem sgB (z : Int) : -1 ≤ sg z ∧ sg z ≤ 1 := by unfold sg; split <;> (try split) <;> omega
theorem sg_mul (y z : Int) : iI (sg y) * iI (sg z) = iI (sg y * sg z) := by
  have a := sgB y; have b := sgB z
  have hm : -1 ≤ sg y * sg z ∧ sg y * sg z ≤ 1 := by
    rcases (show sg y = -1 ∨ sg y = 0 ∨ sg y = 1 by omega) with h | h | h <;> rw [h] <;> omega
  refine iI_of ?_
  rw [fb_mulI (by rw [iI_toInt (by omega), iI_toInt (by omega)]; omega) (by rw [iI_toInt (by omega), iI_toInt (by omega)]; omega), iI_toInt (by omega), iI_toInt (by omega)]
theorem sgmB (y z : Int) : -1 ≤ sg y * sg z ∧ sg y * sg z ≤ 1 := by
  have a := sgB y; have b := sgB z
  rcases (show sg y = -1 ∨ sg y = 0 ∨ sg y = 1 by omega) with h | h | h <;> rw [h] <;> omega
theorem sg_neg {y z : Int} : sg y * sg z < 0 ↔ (0 < y ∧ z < 0) ∨ (y < 0 ∧ 0 < z) := by
  unfold sg
  split <;> (try split) <;> (try split) <;> (try split) <;> omega
def eO (k : Int) (n : Nat) : Nat := if k = 0 then 1 else if 5 ≤ k then n else n - 1
/-- the corners of feature f in the reference's rows -/
abbrev cF40 (c : Nat → Int32) (f : Nat) : Nat → Int32 := fun k => c (40 * f + k)
