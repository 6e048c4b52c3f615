/-! a place's distance from an edge -/
theorem mulC {u v : Int} (h1 : -2000 ≤ u ∧ u ≤ 2000) (h2 : -2000 ≤ v ∧ v ≤ 2000) : -4000000 ≤ u * v ∧ u * v ≤ 4000000 := by
  have a := Int.mul_nonneg (show 0 ≤ 2000 - u by omega) (show 0 ≤ 2000 - v by omega)
  have b := Int.mul_nonneg (show 0 ≤ 2000 + u by omega) (show 0 ≤ 2000 + v by omega)
  have c := Int.mul_nonneg (show 0 ≤ 2000 - u by omega) (show 0 ≤ 2000 + v by omega)
  have d := Int.mul_nonneg (show 0 ≤ 2000 + u by omega) (show 0 ≤ 2000 - v by omega)
  simp only [Int.sub_mul, Int.mul_sub, Int.add_mul, Int.mul_add] at a b c d
  omega
theorem sm2 {u v w z : Int} (h1 : -2000 ≤ u ∧ u ≤ 2000) (h2 : -2000 ≤ v ∧ v ≤ 2000) (h3 : -2000 ≤ w ∧ w ≤ 2000) (h4 : -2000 ≤ z ∧ z ≤ 2000) : jI u * jI v + jI w * jI z = jI (u * v + w * z) := by
  have a := mulC h1 h2; have b := mulC h3 h4
  rw [jI_mul (by omega) (by omega) (by omega), jI_mul (by omega) (by omega) (by omega), jI_add (by omega) (by omega)]
theorem sd2 {u v w z : Int} (h1 : -2000 ≤ u ∧ u ≤ 2000) (h2 : -2000 ≤ v ∧ v ≤ 2000) (h3 : -2000 ≤ w ∧ w ≤ 2000) (h4 : -2000 ≤ z ∧ z ≤ 2000) : jI u * jI v - jI w * jI z = jI (u * v - w * z) := by
  have a := mulC h1 h2; have b := mulC h3 h4
  rw [jI_mul (by omega) (by omega) (by omega), jI_mul (by omega) (by omega) (by omega), jI_sub (by omega) (by omega)]
theorem sj {x y : Int32} (h1 : pl x) (h2 : pl y) : (x - y).toInt64 = jI (x.toInt - y.toInt) := by
  have h1' := h1; have h2' := h2; unfold pl at h1' h2'
  rw [sub_pl h1 h2, iI_64 (by omega)]
theorem sB {x y : Int32} (h1 : pl x) (h2 : pl y) : -1000 ≤ x.toInt - y.toInt ∧ x.toInt - y.toInt ≤ 1000 := by unfold pl at h1 h2; omega
theorem nr_len {a1 a2 b1 b2 : Int32} (h1 : pl a1) (h2 : pl a2) (h3 : pl b1) (h4 : pl b2) : (b1 - a1).toInt64 * (b1 - a1).toInt64 + (b2 - a2).toInt64 * (b2 - a2).toInt64 = jI (nrL a1.toInt a2.toInt b1.toInt b2.toInt) := by
  have p := sB h3 h1; have q := sB h4 h2
  rw [sj h3 h1, sj h4 h2, sm2 (by omega) (by omega) (by omega) (by omega)]; rfl
theorem nr_dot {a1 a2 b1 b2 x y : Int32} (h1 : pl a1) (h2 : pl a2) (h3 : pl b1) (h4 : pl b2) (h5 : pl x) (h6 : pl y) : (b1 - a1).toInt64 * (x - a1).toInt64 + (b2 - a2).toInt64 * (y - a2).toInt64 = jI (nrT a1.toInt a2.toInt b1.toInt b2.toInt x.toInt y.toInt) := by
  have p := sB h3 h1; have q := sB h4 h2; have r := sB h5 h1; have t := sB h6 h2
  rw [sj h3 h1, sj h4 h2, sj h5 h1, sj h6 h2, sm2 (by omega) (by omega) (by omega) (by omega)]; rfl
theorem nrL_b {a1 a2 b1 b2 : Int32} (h1 : pl a1) (h2 : pl a2) (h3 : pl b1) (h4 : pl b2) : 0 ≤ nrL a1.toInt a2.toInt b1.toInt b2.toInt ∧ nrL a1.toInt a2.toInt b1.toInt b2.toInt ≤ 2000000 := by
  have p := sB h3 h1; have q := sB h4 h2
  have a := mulB p.1 p.2 p.1 p.2; have b := mulB q.1 q.2 q.1 q.2
  have c := sqZ (u := b1.toInt - a1.toInt); have d := sqZ (u := b2.toInt - a2.toInt)
  unfold nrL; omega
theorem nrT_b {a1 a2 b1 b2 x y : Int32} (h1 : pl a1) (h2 : pl a2) (h3 : pl b1) (h4 : pl b2) (h5 : pl x) (h6 : pl y) : -2000000 ≤ nrT a1.toInt a2.toInt b1.toInt b2.toInt x.toInt y.toInt ∧ nrT a1.toInt a2.toInt b1.toInt b2.toInt x.toInt y.toInt ≤ 2000000 := by
  have p := sB h3 h1; have q := sB h4 h2; have r := sB h5 h1; have t := sB h6 h2
  have a := mulB p.1 p.2 r.1 r.2; have b := mulB q.1 q.2 t.1 t.2
  unfold nrT; omega
theorem nr_u0 {a1 a2 b1 b2 x y : Int32} (h1 : pl a1) (h2 : pl a2) (h5 : pl x) (h6 : pl y) (h : nrT a1.toInt a2.toInt b1.toInt b2.toInt x.toInt y.toInt ≤ 0) : (x - a1).toInt64 * (x - a1).toInt64 + (y - a2).toInt64 * (y - a2).toInt64 = jI (nrU a1.toInt a2.toInt b1.toInt b2.toInt x.toInt y.toInt) := by
  have r := sB h5 h1; have t := sB h6 h2
  rw [sj h5 h1, sj h6 h2, sm2 (by omega) (by omega) (by omega) (by omega)]; unfold nrU; rw [if_pos h]
theorem jI_sb {u v : Int} (h1 : -2000 ≤ u ∧ u ≤ 2000) (h2 : -2000 ≤ v ∧ v ≤ 2000) : jI u - jI v = jI (u - v) := jI_sub (by omega) (by omega)
theorem nr_u1 {a1 a2 b1 b2 x y : Int32} (h1 : pl a1) (h2 : pl a2) (h3 : pl b1) (h4 : pl b2) (h5 : pl x) (h6 : pl y) (h : ¬ nrT a1.toInt a2.toInt b1.toInt b2.toInt x.toInt y.toInt ≤ 0) (hh : nrL a1.toInt a2.toInt b1.toInt b2.toInt ≤ nrT a1.toInt a2.toInt b1.toInt b2.toInt x.toInt y.toInt) : ((x - a1).toInt64 - (b1 - a1).toInt64) * ((x - a1).toInt64 - (b1 - a1).toInt64) + ((y - a2).toInt64 - (b2 - a2).toInt64) * ((y - a2).toInt64 - (b2 - a2).toInt64) = jI (nrU a1.toInt a2.toInt b1.toInt b2.toInt x.toInt y.toInt) := by
  have p := sB h3 h1; have q := sB h4 h2; have r := sB h5 h1; have t := sB h6 h2
  rw [sj h3 h1, sj h4 h2, sj h5 h1, sj h6 h2, jI_sb (by omega) (by omega), jI_sb (by omega) (by omega), sm2 (by omega) (by omega) (by omega) (by omega)]; unfold nrU; rw [if_neg h, if_pos hh]
theorem nr_u2 {a1 a2 b1 b2 x y : Int32} (h1 : pl a1) (h2 : pl a2) (h3 : pl b1) (h4 : pl b2) (h5 : pl x) (h6 : pl y) (h : ¬ nrT a1.toInt a2.toInt b1.toInt b2.toInt x.toInt y.toInt ≤ 0) (hh : ¬ nrL a1.toInt a2.toInt b1.toInt b2.toInt ≤ nrT a1.toInt a2.toInt b1.toInt b2.toInt x.toInt y.toInt) : ((b1 - a1).toInt64 * (y - a2).toInt64 - (b2 - a2).toInt64 * (x - a1).toInt64) * ((b1 - a1).toInt64 * (y - a2).toInt64 - (b2 - a2).toInt64 * (x - a1).toInt64) = jI (nrU a1.toInt a2.toInt b1.toInt b2.toInt x.toInt y.toInt) := by
  have p := sB h3 h1; have q := sB h4 h2; have r := sB h5 h1; have t := sB h6 h2
  have c := crBp h1 h2 h3 h4 h5 h6
  have d := sqM c
  rw [sj h3 h1, sj h4 h2, sj h5 h1, sj h6 h2, sd2 (by omega) (by omega) (by omega) (by omega)]
  show jI (cr a1.toInt a2.toInt b1.toInt b2.toInt x.toInt y.toInt) * jI (cr a1.toInt a2.toInt b1.toInt b2.toInt x.toInt y.toInt) = _
  rw [jI_mul (by omega) (by omega) (by omega)]; unfold nrU; rw [if_neg h, if_neg hh]
theorem nrU_b {a1 a2 b1 b2 x y : Int32} (h1 : pl a1) (h2 : pl a2) (h3 : pl b1) (h4 : pl b2) (h5 : pl x) (h6 : pl y) : (0 ≤ nrU a1.toInt a2.toInt b1.toInt b2.toInt x.toInt y.toInt ∧ nrU a1.toInt a2.toInt b1.toInt b2.toInt x.toInt y.toInt ≤ 4000000000000) ∧ (1 ≤ nrD a1.toInt a2.toInt b1.toInt b2.toInt x.toInt y.toInt ∧ nrD a1.toInt a2.toInt b1.toInt b2.toInt x.toInt y.toInt ≤ 2000000) := by
  have p := sB h3 h1; have q := sB h4 h2; have r := sB h5 h1; have t := sB h6 h2
  have c := sqM (crBp h1 h2 h3 h4 h5 h6)
  have l := nrL_b h1 h2 h3 h4
  have s1 := sqN (u := x.toInt - a1.toInt) (by omega); have s2 := sqN (u := y.toInt - a2.toInt) (by omega)
  have s3 := sqN (u := x.toInt - a1.toInt - (b1.toInt - a1.toInt)) (by omega); have s4 := sqN (u := y.toInt - a2.toInt - (b2.toInt - a2.toInt)) (by omega)
  unfold nrU nrD
  by_cases e1 : nrT a1.toInt a2.toInt b1.toInt b2.toInt x.toInt y.toInt ≤ 0
  · rw [if_pos e1, if_pos e1]; omega
  · rw [if_neg e1, if_neg e1]
    by_cases e2 : nrL a1.toInt a2.toInt b1.toInt b2.toInt ≤ nrT a1.toInt a2.toInt b1.toInt b2.toInt x.toInt y.toInt
    · rw [if_pos e2, if_pos e2]; omega
    · rw [if_neg e2, if_neg e2]
      have : nrL a1.toInt a2.toInt b1.toInt b2.toInt ≠ 0 := fun h => e2 (by rw [h, nrT_0 h]; exact Int.le_refl _)
      omega
theorem nrD_0 {a1 a2 b1 b2 x y : Int} (h : nrT a1 a2 b1 b2 x y ≤ 0) : nrD a1 a2 b1 b2 x y = 1 := by unfold nrD; rw [if_pos h]
theorem nrD_1 {a1 a2 b1 b2 x y : Int} (h : ¬ nrT a1 a2 b1 b2 x y ≤ 0) (hh : nrL a1 a2 b1 b2 ≤ nrT a1 a2 b1 b2 x y) : nrD a1 a2 b1 b2 x y = 1 := by unfold nrD; rw [if_neg h, if_pos hh]
theorem nrD_2 {a1 a2 b1 b2 x y : Int} (h : ¬ nrT a1 a2 b1 b2 x y ≤ 0) (hh : ¬ nrL a1 a2 b1 b2 ≤ nrT a1 a2 b1 b2 x y) : nrD a1 a2 b1 b2 x y = nrL a1 a2 b1 b2 := by unfold nrD; rw [if_neg h, if_neg hh]
/-- the nearer of two fractions; the first is none as long as its under is 0 -/
def ndP (u d U D zu zd : Int) : Prop := ((d = 0 ∨ U * d < u * D) ∧ zu = U ∧ zd = D) ∨ (¬ (d = 0 ∨ U * d < u * D) ∧ zu = u ∧ zd = d)
theorem jI_1 : (1 : Int64) = jI 1 := jI_of (by decide)
