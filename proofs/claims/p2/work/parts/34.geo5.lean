/-! the reference's triangles, areas and lengths -/
def wtM (a1 a2 b1 b2 c1 c2 x y : Int) : Prop := (cr a1 a2 b1 b2 c1 c2 = 0 ∧ (onS a1 a2 b1 b2 x y ∨ onS b1 b2 c1 c2 x y ∨ onS c1 c2 a1 a2 x y)) ∨ (¬ cr a1 a2 b1 b2 c1 c2 = 0 ∧ ((0 ≤ cr a1 a2 b1 b2 x y ∧ 0 ≤ cr b1 b2 c1 c2 x y ∧ 0 ≤ cr c1 c2 a1 a2 x y) ∨ (cr a1 a2 b1 b2 x y ≤ 0 ∧ cr b1 b2 c1 c2 x y ≤ 0 ∧ cr c1 c2 a1 a2 x y ≤ 0)))
theorem sg_s (z : Int) : (0 < z ∧ sg z = 1) ∨ (z < 0 ∧ sg z = -1) ∨ (z = 0 ∧ sg z = 0) := by unfold sg; split <;> (try split) <;> omega
theorem xyL {x y u v : Int32} (h1 : pl x) (h2 : pl y) (h3 : pl u) (h4 : pl v) : x.toInt64 * y.toInt64 - u.toInt64 * v.toInt64 = jI (x.toInt * y.toInt - u.toInt * v.toInt) := by
  have p := xyB h1 h2; have q := xyB h3 h4
  have e1 : (x.toInt64 * y.toInt64).toInt = x.toInt * y.toInt := by rw [fb_mulL (by rw [i64, i64]; omega) (by rw [i64, i64]; omega), i64, i64]
  have e2 : (u.toInt64 * v.toInt64).toInt = u.toInt * v.toInt := by rw [fb_mulL (by rw [i64, i64]; omega) (by rw [i64, i64]; omega), i64, i64]
  refine jI_of ?_
  rw [fb_subL (by rw [e1, e2]; omega) (by rw [e1, e2]; omega), e1, e2]
theorem jI_neg {z : Int} (h : -1000000000000000 ≤ z ∧ z ≤ 1000000000000000) : -(jI z) = jI (-z) := by
  refine jI_of ?_
  rw [Int64.toInt_neg, jI_toInt (by omega), fb_bmodL (by omega) (by omega)]
theorem nI_64 {m : Nat} (h : m < 2147483648) : (nI m).toInt64 = jI (m : Int) := jI_of (by rw [i64, nI_toInt h])
