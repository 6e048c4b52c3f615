def cpk (k : Int) : Nat := if k = 0 then 1 else 40
theorem cpk_s (k : Int) : (k = 0 ∧ cpk k = 1) ∨ (¬ k = 0 ∧ cpk k = 40) := by unfold cpk; split <;> omega
/-- a box's corners laid into a row -/
def bxX (f : Nat) (lx hx : Int32) (k : Nat) (c : Nat → Int32) : Nat → Int32 := fun j => if 40 * f ≤ j ∧ j < 40 * f + k then (if j = 40 * f + 1 ∨ j = 40 * f + 2 then hx else lx) else c j
def bxY (f : Nat) (ly hy : Int32) (k : Nat) (c : Nat → Int32) : Nat → Int32 := fun j => if 40 * f ≤ j ∧ j < 40 * f + k then (if 40 * f + 1 < j then hy else ly) else c j
theorem bxX_0 (f : Nat) (lx hx : Int32) (c : Nat → Int32) : c = bxX f lx hx 0 c := by funext j; unfold bxX; rw [if_neg (by omega)]
theorem bxY_0 (f : Nat) (lx hx : Int32) (c : Nat → Int32) : c = bxY f lx hx 0 c := by funext j; unfold bxY; rw [if_neg (by omega)]
theorem bxX_s {f k : Nat} {lx hx x : Int32} {c c1 : Nat → Int32} (h : c1 = bxX f lx hx k c) (hv : x = if k = 1 ∨ k = 2 then hx else lx) : upd c1 (40 * f + k) x = bxX f lx hx (k + 1) c := by
  subst h hv; funext j; unfold upd bxX
  by_cases q : j = 40 * f + k
  · rw [if_pos q, if_pos (show 40 * f ≤ j ∧ j < 40 * f + (k + 1) by omega)]
    by_cases q2 : k = 1 ∨ k = 2
    · rw [if_pos q2, if_pos (show j = 40 * f + 1 ∨ j = 40 * f + 2 by omega)]
    · rw [if_neg q2, if_neg (show ¬ (j = 40 * f + 1 ∨ j = 40 * f + 2) by omega)]
  · rw [if_neg q]
    by_cases q2 : 40 * f ≤ j ∧ j < 40 * f + k
    · rw [if_pos q2, if_pos (by omega : 40 * f ≤ j ∧ j < 40 * f + (k + 1))]
    · rw [if_neg q2, if_neg (by omega : ¬ (40 * f ≤ j ∧ j < 40 * f + (k + 1)))]
theorem bxY_s {f k : Nat} {lx hx x : Int32} {c c1 : Nat → Int32} (h : c1 = bxY f lx hx k c) (hv : x = if 1 < k then hx else lx) : upd c1 (40 * f + k) x = bxY f lx hx (k + 1) c := by
  subst h hv; funext j; unfold upd bxY
  by_cases q : j = 40 * f + k
  · rw [if_pos q, if_pos (show 40 * f ≤ j ∧ j < 40 * f + (k + 1) by omega)]
    by_cases q2 : 1 < k
    · rw [if_pos q2, if_pos (show 40 * f + 1 < j by omega)]
    · rw [if_neg q2, if_neg (show ¬ 40 * f + 1 < j by omega)]
  · rw [if_neg q]
    by_cases q2 : 40 * f ≤ j ∧ j < 40 * f + k
    · rw [if_pos q2, if_pos (by omega : 40 * f ≤ j ∧ j < 40 * f + (k + 1))]
    · rw [if_neg q2, if_neg (by omega : ¬ (40 * f ≤ j ∧ j < 40 * f + (k + 1)))]
