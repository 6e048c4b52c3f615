/-! a sheet's numbers hang on the corners that are kept alone -/
theorem shD_cg {kd st gb it pa pb rk wd tw : Nat → Int32} {nn : Nat → Nat} {cx cy cx1 cy1 : Nat → Int32} {g j : Nat} (h : ∀ k, k < nn g → cx1 (40 * g + k) = cx (40 * g + k) ∧ cy1 (40 * g + k) = cy (40 * g + k)) (hj : j < 10 + 2 * nn g) : shD kd st gb it pa pb rk wd tw nn cx1 cy1 g j = shD kd st gb it pa pb rk wd tw nn cx cy g j := by
  rcases Nat.lt_or_ge j 10 with q | q
  · rcases (show j = 0 ∨ j = 1 ∨ j = 2 ∨ j = 3 ∨ j = 4 ∨ j = 5 ∨ j = 6 ∨ j = 7 ∨ j = 8 ∨ j = 9 by omega) with rfl | rfl | rfl | rfl | rfl | rfl | rfl | rfl | rfl | rfl <;> rfl
  · rcases Nat.mod_two_eq_zero_or_one j with q2 | q2
    · rw [shD_x (k := (j - 10) / 2) (by omega), shD_x (k := (j - 10) / 2) (by omega)]; exact (h _ (by omega)).1
    · rw [shD_y (k := (j - 11) / 2) (by omega), shD_y (k := (j - 11) / 2) (by omega)]; exact (h _ (by omega)).2
/-- those that are marked get a number -/
noncomputable def gnA (P : Nat → Prop) (q : Nat) (x : Int32) (k : Nat → Int32) : Nat → Int32 := fun g => @ite Int32 (g < q ∧ P g) (Classical.propDecidable _) x (k g)
theorem gnA_0 (P : Nat → Prop) (x : Int32) (k : Nat → Int32) : k = gnA P 0 x k := by funext g; unfold gnA; rw [if_neg (by omega)]
theorem gnA_y {P : Nat → Prop} {q : Nat} {x : Int32} {k k1 : Nat → Int32} (h : k1 = gnA P q x k) (hp : P q) : upd k1 q x = gnA P (q + 1) x k := by
  subst h; funext g; unfold upd gnA
  by_cases e : g = q
  · subst e; rw [if_pos rfl, if_pos ⟨by omega, hp⟩]
  · rw [if_neg e]
    by_cases e2 : g < q ∧ P g
    · rw [if_pos e2, if_pos ⟨by omega, e2.2⟩]
    · rw [if_neg e2, if_neg (fun h => e2 ⟨by omega, h.2⟩)]
theorem gnA_n {P : Nat → Prop} {q : Nat} {x : Int32} {k k1 : Nat → Int32} (h : k1 = gnA P q x k) (hp : ¬ P q) : k1 = gnA P (q + 1) x k := by
  subst h; funext g; unfold gnA
  by_cases e2 : g < q ∧ P g
  · rw [if_pos e2, if_pos ⟨by omega, e2.2⟩]
  · rw [if_neg e2, if_neg (fun h => by
      by_cases e : g = q
      · subst e; exact hp h.2
      · exact e2 ⟨by omega, h.2⟩)]
theorem cntP_y {P : Nat → Prop} {n : Nat} (h : P n) : cntP P (n + 1) = cntP P n + 1 := by show cntP P n + _ = _; rw [if_pos h]
theorem cntP_n {P : Nat → Prop} {n : Nat} (h : ¬ P n) : cntP P (n + 1) = cntP P n := by show cntP P n + _ = _; rw [if_neg h]; rfl
theorem cntP_b (P : Nat → Prop) (n : Nat) : cntP P n ≤ n := by
  induction n with
  | zero => exact Nat.le_refl _
  | succ n ih =>
    by_cases h : P n
    · rw [cntP_y h]; omega
    · rw [cntP_n h]; omega
