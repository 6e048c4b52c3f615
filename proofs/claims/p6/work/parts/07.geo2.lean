section
/-! on which side, and how often a ray to the right is crossed -/
def eTg (n : Nat) (X Y : Nat → Int32) (px py : Int) (i : Nat) : Prop := (py < (Y i).toInt ↔ ¬ py < (Y (nxt n i)).toInt) ∧ (((Y i).toInt < (Y (nxt n i)).toInt ∧ 0 < eCr n X Y i px py) ∨ (¬ (Y i).toInt < (Y (nxt n i)).toInt ∧ eCr n X Y i px py < 0))
def par2 (P : Nat → Prop) : Nat → Prop
  | 0 => False
  | i + 1 => (par2 P i ∧ ¬ P i) ∨ (¬ par2 P i ∧ P i)
theorem par2_y {P : Nat → Prop} {i : Nat} (h : P i) : par2 P (i + 1) ↔ ¬ par2 P i := by
  show (par2 P i ∧ ¬ P i) ∨ (¬ par2 P i ∧ P i) ↔ _
  constructor
  · rintro (⟨_, q⟩ | ⟨q, _⟩)
    · exact absurd h q
    · exact q
  · exact fun q => Or.inr ⟨q, h⟩
theorem par2_n {P : Nat → Prop} {i : Nat} (h : ¬ P i) : par2 P (i + 1) ↔ par2 P i := by
  show (par2 P i ∧ ¬ P i) ∨ (¬ par2 P i ∧ P i) ↔ _
  constructor
  · rintro (⟨q, _⟩ | ⟨_, q⟩)
    · exact q
    · exact absurd q h
  · exact fun q => Or.inl ⟨q, h⟩
theorem tg_left {a1 a2 b1 b2 x y : Int} (h1 : a1 < x) (h2 : b1 < x) (h3 : y < a2 ↔ ¬ y < b2) : (a2 < b2 → cr a1 a2 b1 b2 x y < 0) ∧ (¬ a2 < b2 → 0 < cr a1 a2 b1 b2 x y) := by
  unfold cr
  constructor
  · intro h
    have u1 : a2 ≤ y := by omega
    have u2 : y < b2 := by omega
    rcases Int.le_total a1 b1 with q | q
    · have p1 := Int.mul_nonneg (show 0 ≤ b1 - a1 by omega) (show 0 ≤ b2 - y by omega)
      have p2 := Int.mul_pos (show 0 < x - b1 by omega) (show 0 < b2 - a2 by omega)
      grind
    · have p1 := Int.mul_nonneg (show 0 ≤ a1 - b1 by omega) (show 0 ≤ y - a2 by omega)
      have p2 := Int.mul_pos (show 0 < x - a1 by omega) (show 0 < b2 - a2 by omega)
      grind
  · intro h
    have u1 : b2 ≤ y := by omega
    have u2 : y < a2 := by omega
    rcases Int.le_total a1 b1 with q | q
    · have p1 := Int.mul_nonneg (show 0 ≤ b1 - a1 by omega) (show 0 ≤ a2 - y by omega)
      have p2 := Int.mul_pos (show 0 < x - a1 by omega) (show 0 < a2 - b2 by omega)
      have p3 := Int.mul_nonneg (show 0 ≤ b1 - a1 by omega) (show 0 ≤ y - b2 by omega)
      have p4 := Int.mul_pos (show 0 < x - b1 by omega) (show 0 < a2 - b2 by omega)
      grind
    · have p1 := Int.mul_nonneg (show 0 ≤ a1 - b1 by omega) (show 0 ≤ y - b2 by omega)
      have p2 := Int.mul_pos (show 0 < x - a1 by omega) (show 0 < a2 - b2 by omega)
      have p3 := Int.mul_nonneg (show 0 ≤ a1 - b1 by omega) (show 0 ≤ a2 - y by omega)
      grind
/-- a place on the line of an edge, and between its ends' heights, lies on the edge -/
theorem on_of_mid {a1 a2 b1 b2 x y : Int} (h3 : y < a2 ↔ ¬ y < b2) (h0 : cr a1 a2 b1 b2 x y = 0) : onS a1 a2 b1 b2 x y := by
  refine ⟨h0, ?_, ?_, by omega, by omega⟩
  · by_cases q : x < a1 ∧ x < b1
    · exfalso
      have := tg_left (a1 := -a1) (a2 := a2) (b1 := -b1) (b2 := b2) (x := -x) (y := y) (by omega) (by omega) h3
      have e : cr (-a1) a2 (-b1) b2 (-x) y = - cr a1 a2 b1 b2 x y := by unfold cr; grind
      omega
    · omega
  · by_cases q : a1 < x ∧ b1 < x
    · exfalso
      have := tg_left q.1 q.2 h3
      omega
    · omega
/-- where a place lies to a row: 2 on it, 1 inside, 0 outside -/
noncomputable def whr (n : Nat) (X Y : Nat → Int32) (px py : Int) : Int32 := @ite Int32 (∃ i, i < n ∧ eOn n X Y i px py) (Classical.propDecidable _) 2 (pI (par2 (eTg n X Y px py) n))
theorem whr_2 {n : Nat} {X Y : Nat → Int32} {px py : Int} (h : ∃ i, i < n ∧ eOn n X Y i px py) : whr n X Y px py = 2 := by unfold whr; rw [if_pos h]
theorem whr_n {n : Nat} {X Y : Nat → Int32} {px py : Int} (h : ¬ ∃ i, i < n ∧ eOn n X Y i px py) : whr n X Y px py = pI (par2 (eTg n X Y px py) n) := by unfold whr; rw [if_neg h]
/-- what the class's three tests spare -/
theorem sk_tg {n : Nat} {X Y : Nat → Int32} {px py : Int} {i : Nat} (h : (py < (Y i).toInt ∧ py < (Y (nxt n i)).toInt) ∨ ((Y i).toInt < py ∧ (Y (nxt n i)).toInt < py) ∨ ((X i).toInt < px ∧ (X (nxt n i)).toInt < px)) : ¬ eTg n X Y px py i ∧ ¬ eOn n X Y i px py := by
  unfold eTg eOn onS eCr
  rcases h with h | h | h
  · exact ⟨fun q => by omega, fun q => by omega⟩
  · exact ⟨fun q => by omega, fun q => by omega⟩
  · refine ⟨fun q => ?_, fun q => by omega⟩
    have := tg_left h.1 h.2 q.1
    omega
end
