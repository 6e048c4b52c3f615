/-! a box's area; numbers of the square -/
theorem nn_sub {a b : Nat} (ha : a < 2147483648) (hb : b < 2147483648) : nI a - nI b = iI (((a : Nat) : Int) - ((b : Nat) : Int)) := iI_of (by
  have h1 := nI_toInt (n := a) (by omega); have h2 := nI_toInt (n := b) (by omega)
  rw [fb_subI (by rw [h1, h2]; omega) (by rw [h1, h2]; omega), h1, h2])
theorem bx_id (a b c d : Int) : a * c - b * c + (b * d - b * c) + (b * d - a * d) + (a * c - a * d) = 2 * (b - a) * (d - c) := by grind
theorem bx_ar {X Y : Nat → Int32} {a b c d : Int} (h0 : (X 0).toInt = a ∧ (Y 0).toInt = c) (h1 : (X 1).toInt = b ∧ (Y 1).toInt = c) (h2 : (X 2).toInt = b ∧ (Y 2).toInt = d) (h3 : (X 3).toInt = a ∧ (Y 3).toInt = d) (hab : a ≤ b) (hcd : c ≤ d) : ((Int.natAbs (ar2 4 X Y 4) : Nat) : Int) = 2 * (b - a) * (d - c) := by
  have e : ar2 4 X Y 4 = 2 * (b - a) * (d - c) := by
    have n0 : nxt 4 0 = 1 := by decide
    have n1 : nxt 4 1 = 2 := by decide
    have n2 : nxt 4 2 = 3 := by decide
    have n3 : nxt 4 3 = 0 := by decide
    show 0 + ((X 0).toInt * (Y (nxt 4 0)).toInt - (X (nxt 4 0)).toInt * (Y 0).toInt) + ((X 1).toInt * (Y (nxt 4 1)).toInt - (X (nxt 4 1)).toInt * (Y 1).toInt) + ((X 2).toInt * (Y (nxt 4 2)).toInt - (X (nxt 4 2)).toInt * (Y 2).toInt) + ((X 3).toInt * (Y (nxt 4 3)).toInt - (X (nxt 4 3)).toInt * (Y 3).toInt) = _
    rw [n0, n1, n2, n3, h0.1, h0.2, h1.1, h1.2, h2.1, h2.2, h3.1, h3.2, ← bx_id]
    omega
  have hp : 0 ≤ 2 * (b - a) * (d - c) := Int.mul_nonneg (by omega) (by omega)
  rw [e, Int.natAbs_of_nonneg hp]
theorem bx_4 {P : Nat → Int32} {a b : Int32} : (upd (upd (upd (upd P 0 a) 1 b) 2 b) 3 a) 0 = a ∧ (upd (upd (upd (upd P 0 a) 1 b) 2 b) 3 a) 1 = b ∧ (upd (upd (upd (upd P 0 a) 1 b) 2 b) 3 a) 2 = b ∧ (upd (upd (upd (upd P 0 a) 1 b) 2 b) 3 a) 3 = a := by simp [upd]
theorem bx_5 {P : Nat → Int32} {a b : Int32} : (upd (upd (upd (upd P 0 a) 1 a) 2 b) 3 b) 0 = a ∧ (upd (upd (upd (upd P 0 a) 1 a) 2 b) 3 b) 1 = a ∧ (upd (upd (upd (upd P 0 a) 1 a) 2 b) 3 b) 2 = b ∧ (upd (upd (upd (upd P 0 a) 1 a) 2 b) 3 b) 3 = b := by simp [upd]
theorem mn_mx {z : Int} {X : Nat → Int32} : ∀ i, mnI z X i ≤ z ∧ z ≤ mxI z X i := by
  intro i
  induction i with
  | zero => exact ⟨Int.le_refl _, Int.le_refl _⟩
  | succ i ih => rw [mnI_s, mxI_s]; omega
/-- the box of a row of places -/
theorem bx_sq {n : Nat} {X Y P Q : Nat → Int32} (hp : pls n X Y) (h1 : 1 ≤ n) (p0 : P 0 = iI (mnI (X 0).toInt X n) ∧ P 1 = iI (mxI (X 0).toInt X n) ∧ P 2 = iI (mxI (X 0).toInt X n) ∧ P 3 = iI (mnI (X 0).toInt X n)) (q0 : Q 0 = iI (mnI (Y 0).toInt Y n) ∧ Q 1 = iI (mnI (Y 0).toInt Y n) ∧ Q 2 = iI (mxI (Y 0).toInt Y n) ∧ Q 3 = iI (mxI (Y 0).toInt Y n)) :
    pls 4 P Q ∧ ((Int.natAbs (ar2 4 P Q 4) : Nat) : Int) - ((Int.natAbs (ar2 n X Y n) : Nat) : Int) = dfB n X Y ∧ Int.natAbs (ar2 4 P Q 4) ≤ 4000000 ∧ Int.natAbs (ar2 n X Y n) ≤ 1000000 * n := by
  have a1 := mnP (z := (X 0).toInt) (hp 0 (by omega)).1 hp n (Nat.le_refl _)
  have a2 := mnP (z := (Y 0).toInt) (hp 0 (by omega)).2 hp n (Nat.le_refl _)
  have m1 := mn_mx (z := (X 0).toInt) (X := X) n
  have m2 := mn_mx (z := (Y 0).toInt) (X := Y) n
  have t1 : (iI (mnI (X 0).toInt X n)).toInt = mnI (X 0).toInt X n := iI_toInt (by omega)
  have t2 : (iI (mxI (X 0).toInt X n)).toInt = mxI (X 0).toInt X n := iI_toInt (by omega)
  have t3 : (iI (mnI (Y 0).toInt Y n)).toInt = mnI (Y 0).toInt Y n := iI_toInt (by omega)
  have t4 : (iI (mxI (Y 0).toInt Y n)).toInt = mxI (Y 0).toInt Y n := iI_toInt (by omega)
  have ar := bx_ar (X := P) (Y := Q) (a := mnI (X 0).toInt X n) (b := mxI (X 0).toInt X n) (c := mnI (Y 0).toInt Y n) (d := mxI (Y 0).toInt Y n) ⟨by rw [p0.1, t1], by rw [q0.1, t3]⟩ ⟨by rw [p0.2.1, t2], by rw [q0.2.1, t3]⟩ ⟨by rw [p0.2.2.1, t2], by rw [q0.2.2.1, t4]⟩ ⟨by rw [p0.2.2.2, t1], by rw [q0.2.2.2, t4]⟩ (by omega) (by omega)
  have c := mulB (u := mxI (X 0).toInt X n - mnI (X 0).toInt X n) (v := mxI (Y 0).toInt Y n - mnI (Y 0).toInt Y n) (by omega) (by omega) (by omega) (by omega)
  have d := ar2B hp n (Nat.le_refl _)
  refine ⟨fun j hj => ?_, by rw [ar, dfB_eq], ?_, by omega⟩
  · unfold pl
    rcases (by omega : j = 0 ∨ j = 1 ∨ j = 2 ∨ j = 3) with e | e | e | e
    · rw [e, p0.1, q0.1, t1, t3]; omega
    · rw [e, p0.2.1, q0.2.1, t2, t3]; omega
    · rw [e, p0.2.2.1, q0.2.2.1, t2, t4]; omega
    · rw [e, p0.2.2.2, q0.2.2.2, t1, t4]; omega
  · rw [Int.mul_assoc] at ar
    generalize (mxI (X 0).toInt X n - mnI (X 0).toInt X n) * (mxI (Y 0).toInt Y n - mnI (Y 0).toInt Y n) = m at *
    omega
