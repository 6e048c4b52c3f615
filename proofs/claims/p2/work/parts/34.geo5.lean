/-! the reference's triangles, areas and lengths -/
def wtM (a1 a2 b1 b2 c1 c2 x y : Int) : Prop := (cr a1 a2 b1 b2 c1 c2 = 0 ∧ (onS a1 a2 b1 b2 x y ∨ onS b1 b2 c1 c2 x y ∨ onS c1 c2 a1 a2 x y)) ∨ (¬ cr a1 a2 b1 b2 c1 c2 = 0 ∧ ((0 ≤ cr a1 a2 b1 b2 x y ∧ 0 ≤ cr b1 b2 c1 c2 x y ∧ 0 ≤ cr c1 c2 a1 a2 x y) ∨ (cr a1 a2 b1 b2 x y ≤ 0 ∧ cr b1 b2 c1 c2 x y ≤ 0 ∧ cr c1 c2 a1 a2 x y ≤ 0)))
theorem sg_s (z : Int) : (0 < z ∧ sg z = 1) ∨ (z < 0 ∧ sg z = -1) ∨ (z = 0 ∧ sg z = 0) := by unfold sg; split <;> (try split) <;> omega
theorem xyL {x y u v : Int32} (h1 : pl x) (h2 : pl y) (h3 : pl u) (h4 : pl v) : x.toInt64 * y.toInt64 - u.toInt64 * v.toInt64 = jI (x.toInt * y.toInt - u.toInt * v.toInt) := by
  have p := xyB h1 h2; have q := xyB h3 h4
  have e1 : (x.toInt64 * y.toInt64).toInt = x.toInt * y.toInt := by rw [fb_mulL (by rw [i64, i64]; omega) (by rw [i64, i64]; omega), i64, i64]
  have e2 : (u.toInt64 * v.toInt64).toInt = u.toInt * v.toInt := by rw [fb_mulL (by rw [i64, i64]; omega) (by rw [i64, i64]; omega), i64, i64]
  refine jI_of ?_
  rw [fb_subL (by rw [e1, e2]; omega) (by rw [e1, e2]; omega), e1, e2]
theorem jI_neg {z : Int} (h : -1000000000000000 ≤ z ∧ z ≤ 1000000000000000) : -(jI z) = jI (-z) := by
  refine jI_of ?_
  rw [Int64.toInt_neg, jI_toInt (by omega), fb_bmodL (by omega) (by omega)]
theorem nI_64 {m : Nat} (h : m < 2147483648) : (nI m).toInt64 = jI (m : Int) := jI_of (by rw [i64, nI_toInt h])
/-- what a corner that goes sweeps -/
def swB (on : Nat) (X Y : Nat → Int32) (b : Nat) (x y : Int) : Prop := ¬ (x = (X (prv on b)).toInt ∧ y = (Y (prv on b)).toInt) ∧ ¬ (x = (X (nxt on b)).toInt ∧ y = (Y (nxt on b)).toInt) ∧ wtM (X (prv on b)).toInt (Y (prv on b)).toInt (X b).toInt (Y b).toInt (X (nxt on b)).toInt (Y (nxt on b)).toInt x y
/-- what an edge that moves sweeps: its ends' old places (X, Y), their new ones (P, Q) -/
def stay (X Y P Q : Nat → Int32) (k : Nat) : Prop := (X k).toInt = (P k).toInt ∧ (Y k).toInt = (Q k).toInt
def spr (on : Nat) (X Y P Q : Nat → Int32) (k : Nat) (x y : Int) : Prop := (stay X Y P Q k ∧ stay X Y P Q (nxt on k)) ∨ (stay X Y P Q k ∧ x = (X k).toInt ∧ y = (Y k).toInt) ∨ (stay X Y P Q (nxt on k) ∧ x = (X (nxt on k)).toInt ∧ y = (Y (nxt on k)).toInt)
def swp (on : Nat) (X Y P Q : Nat → Int32) (x y : Int) (k : Nat) : Prop := ¬ spr on X Y P Q k x y ∧ (wtM (X k).toInt (Y k).toInt (X (nxt on k)).toInt (Y (nxt on k)).toInt (P (nxt on k)).toInt (Q (nxt on k)).toInt x y ∨ wtM (X k).toInt (Y k).toInt (P k).toInt (Q k).toInt (P (nxt on k)).toInt (Q (nxt on k)).toInt x y)
theorem tPl {T : Nat → Int32} (h0 : pl (T 0)) (h1 : pl (T 1)) (h2 : pl (T 2)) (h3 : pl (T 3)) (h4 : pl (T 4)) (h5 : pl (T 5)) : ∀ k, k < 6 → pl (T k) := by
  intro k hk
  rcases (show k = 0 ∨ k = 1 ∨ k = 2 ∨ k = 3 ∨ k = 4 ∨ k = 5 by omega) with rfl | rfl | rfl | rfl | rfl | rfl <;> assumption
theorem jI_sub {y z : Int} (h1 : -1000000000000000 ≤ y ∧ y ≤ 1000000000000000) (h2 : -1000000000000000 ≤ z ∧ z ≤ 1000000000000000) : jI y - jI z = jI (y - z) := by
  refine jI_of ?_
  rw [fb_subL (by rw [jI_toInt (by omega), jI_toInt (by omega)]; omega) (by rw [jI_toInt (by omega), jI_toInt (by omega)]; omega), jI_toInt (by omega), jI_toInt (by omega)]
/-- a way from a to b and an edge c d have only the place x y in common -/
def oAt (a1 a2 b1 b2 c1 c2 d1 d2 x y : Int) : Prop := onS c1 c2 d1 d2 x y ∧ ((a1 = b1 ∧ a2 = b2) ∨ (c1 = d1 ∧ c2 = d2) ∨ ¬ (b1 - a1) * (d2 - c2) - (b2 - a2) * (d1 - c1) = 0 ∨ (¬ 0 < dt c1 c2 x y b1 b2 ∧ ¬ 0 < dt d1 d2 x y b1 b2))
theorem mt_cg {S : Nat → Int32} {a0 a1 a2 a3 a4 a5 a6 a7 : Int32} (s0 : S 0 = a0) (s1 : S 1 = a1) (s2 : S 2 = a2) (s3 : S 3 = a3) (s4 : S 4 = a4) (s5 : S 5 = a5) (s6 : S 6 = a6) (s7 : S 7 = a7) : mtC (S 0).toInt (S 1).toInt (S 2).toInt (S 3).toInt (S 4).toInt (S 5).toInt (S 6).toInt (S 7).toInt ↔ mtC a0.toInt a1.toInt a2.toInt a3.toInt a4.toInt a5.toInt a6.toInt a7.toInt := by rw [s0, s1, s2, s3, s4, s5, s6, s7]
theorem oa_cg {S : Nat → Int32} {a0 a1 a2 a3 a4 a5 a6 a7 : Int32} {x y : Int} (s0 : S 0 = a0) (s1 : S 1 = a1) (s2 : S 2 = a2) (s3 : S 3 = a3) (s4 : S 4 = a4) (s5 : S 5 = a5) (s6 : S 6 = a6) (s7 : S 7 = a7) : oAt (S 0).toInt (S 1).toInt (S 2).toInt (S 3).toInt (S 4).toInt (S 5).toInt (S 6).toInt (S 7).toInt x y ↔ oAt a0.toInt a1.toInt a2.toInt a3.toInt a4.toInt a5.toInt a6.toInt a7.toInt x y := by rw [s0, s1, s2, s3, s4, s5, s6, s7]
/-- edge k lies on a point's way from x0 to x1 at most where the point was -/
def fWy (x0 y0 x1 y1 : Int) (n : Nat) (X Y : Nat → Int32) (k : Nat) : Prop := mtC x0 y0 x1 y1 (X k).toInt (Y k).toInt (X (nxt n k)).toInt (Y (nxt n k)).toInt → oAt x0 y0 x1 y1 (X k).toInt (Y k).toInt (X (nxt n k)).toInt (Y (nxt n k)).toInt x0 y0
