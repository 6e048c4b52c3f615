/-! boxes and distances of the reference -/
theorem iI_64 {z : Int} (h : -2147483648 ≤ z ∧ z < 2147483648) : (iI z).toInt64 = jI z := jI_of (by rw [i64, iI_toInt h])
theorem jI_mul {y z : Int} (h1 : -9000000000000000000 ≤ y ∧ y ≤ 9000000000000000000) (h2 : -9000000000000000000 ≤ z ∧ z ≤ 9000000000000000000) (h3 : -9000000000000000000 ≤ y * z ∧ y * z ≤ 9000000000000000000) : jI y * jI z = jI (y * z) := by
  refine jI_of ?_
  rw [fb_mulL (by rw [jI_toInt (by omega), jI_toInt (by omega)]; omega) (by rw [jI_toInt (by omega), jI_toInt (by omega)]; omega), jI_toInt (by omega), jI_toInt (by omega)]
theorem sub_pl {x y : Int32} (h1 : pl x) (h2 : pl y) : x - y = iI (x.toInt - y.toInt) := by
  unfold pl at h1 h2; exact iI_of (fb_subI (by omega) (by omega))
theorem sqN {u : Int} (h : -2000 ≤ u ∧ u ≤ 2000) : 0 ≤ u * u ∧ u * u ≤ 4000000 := by
  have := Int.mul_nonneg (show 0 ≤ 2000 - u by omega) (show 0 ≤ 2000 + u by omega)
  have h0 : 0 ≤ u * u := by
    rcases Int.le_total 0 u with q | q
    · exact Int.mul_nonneg q q
    · have := Int.mul_nonneg (show 0 ≤ -u by omega) (show 0 ≤ -u by omega); rw [Int.neg_mul_neg] at this; exact this
  simp only [Int.sub_mul, Int.mul_add] at this
  have e : 2000 * u = u * 2000 := Int.mul_comm _ _
  omega
theorem sqM {u : Int} (h : -2000000 ≤ u ∧ u ≤ 2000000) : 0 ≤ u * u ∧ u * u ≤ 4000000000000 := by
  have := Int.mul_nonneg (show 0 ≤ 2000000 - u by omega) (show 0 ≤ 2000000 + u by omega)
  have h0 : 0 ≤ u * u := by
    rcases Int.le_total 0 u with q | q
    · exact Int.mul_nonneg q q
    · have := Int.mul_nonneg (show 0 ≤ -u by omega) (show 0 ≤ -u by omega); rw [Int.neg_mul_neg] at this; exact this
  simp only [Int.sub_mul, Int.mul_add] at this
  have e : 2000000 * u = u * 2000000 := Int.mul_comm _ _
  omega
theorem prN {u d : Int} (h1 : 0 ≤ u ∧ u ≤ 4000000000000) (h2 : 0 ≤ d ∧ d ≤ 2000000) : 0 ≤ u * d ∧ u * d ≤ 8000000000000000000 := by
  have a := Int.mul_nonneg h1.1 h2.1
  have b := Int.mul_nonneg (show 0 ≤ 4000000000000 - u by omega) h2.1
  simp only [Int.sub_mul] at b
  omega
/-- the square of a place's distance from an edge, by over and under -/
def nrL (a1 a2 b1 b2 : Int) : Int := (b1 - a1) * (b1 - a1) + (b2 - a2) * (b2 - a2)
def nrT (a1 a2 b1 b2 x y : Int) : Int := (b1 - a1) * (x - a1) + (b2 - a2) * (y - a2)
def nrU (a1 a2 b1 b2 x y : Int) : Int := if nrT a1 a2 b1 b2 x y ≤ 0 then (x - a1) * (x - a1) + (y - a2) * (y - a2) else if nrL a1 a2 b1 b2 ≤ nrT a1 a2 b1 b2 x y then (x - a1 - (b1 - a1)) * (x - a1 - (b1 - a1)) + (y - a2 - (b2 - a2)) * (y - a2 - (b2 - a2)) else cr a1 a2 b1 b2 x y * cr a1 a2 b1 b2 x y
def nrD (a1 a2 b1 b2 x y : Int) : Int := if nrT a1 a2 b1 b2 x y ≤ 0 then 1 else if nrL a1 a2 b1 b2 ≤ nrT a1 a2 b1 b2 x y then 1 else nrL a1 a2 b1 b2
theorem sqZ {u : Int} : 0 ≤ u * u := by
  rcases Int.le_total 0 u with q | q
  · exact Int.mul_nonneg q q
  · have := Int.mul_nonneg (show 0 ≤ -u by omega) (show 0 ≤ -u by omega); rw [Int.neg_mul_neg] at this; exact this
theorem nrT_0 {a1 a2 b1 b2 x y : Int} (h : nrL a1 a2 b1 b2 = 0) : nrT a1 a2 b1 b2 x y = 0 := by
  unfold nrL at h
  have q1 := sqZ (u := b1 - a1)
  have q2 := sqZ (u := b2 - a2)
  have e1 : b1 - a1 = 0 := (Int.mul_eq_zero.mp (show (b1 - a1) * (b1 - a1) = 0 by omega)).elim id id
  have e2 : b2 - a2 = 0 := (Int.mul_eq_zero.mp (show (b2 - a2) * (b2 - a2) = 0 by omega)).elim id id
  unfold nrT; rw [e1, e2, Int.zero_mul, Int.zero_mul]; rfl
theorem jI_2 : (2 : Int64) = jI 2 := jI_of (by decide)
