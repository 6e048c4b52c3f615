/-! two features' cells out of the pool -/
theorem vw5 {cI : ClassId} {L : List Nat} {f : Nat → va_E} {FA : Nat → Option Nat} {kd st tn mn cx cy : Nat → Int32} {i f0 g0 ft : Nat} (h : i < ft → i ≠ f0 → i ≠ g0 → vwO cI L f FA kd st tn mn cx cy i) (hi : i < ft) :
    i = f0 ∨ (i ≠ f0 ∧ i = g0) ∨ ((i ≠ f0 ∧ i ≠ g0) ∧ ¬ (st i).toInt = 1 ∧ vwS L f FA kd st i) ∨ ((i ≠ f0 ∧ i ≠ g0) ∧ ¬ (tn i).toInt = 0 ∧ vwT L f FA kd st i) ∨ ((i ≠ f0 ∧ i ≠ g0) ∧ lvF ft st tn i ∧ vwL cI L f FA kd st mn cx cy i) := by
  by_cases e : i = f0
  · exact Or.inl e
  · by_cases e2 : i = g0
    · exact Or.inr (Or.inl ⟨e, e2⟩)
    · have v := h hi e e2
      by_cases s1 : (st i).toInt = 1
      · by_cases t0 : (tn i).toInt = 0
        · exact Or.inr (Or.inr (Or.inr (Or.inr ⟨⟨e, e2⟩, ⟨hi, s1, t0⟩, v.2.2 t0⟩)))
        · exact Or.inr (Or.inr (Or.inr (Or.inl ⟨⟨e, e2⟩, t0, v.2.1 t0⟩)))
      · exact Or.inr (Or.inr (Or.inl ⟨⟨e, e2⟩, s1, v.1⟩))
