/-! a change taken back, and done -/
def fgX (f on : Nat) (X c : Nat → Int32) : Nat → Int32 := fun j => if 40 * f ≤ j ∧ j < 40 * f + on then X (j - 40 * f) else c j
theorem fgX_of {f on : Nat} {X c c1 : Nat → Int32} (h1 : ∀ j, j < on → c1 (40 * f + j) = X j) (h2 : ∀ j, (j < 40 * f ∨ 40 * f + on ≤ j) → c1 j = c j) : c1 = fgX f on X c := by
  funext j; unfold fgX
  by_cases q : 40 * f ≤ j ∧ j < 40 * f + on
  · rw [if_pos q]
    have := h1 (j - 40 * f) (by omega)
    rw [show 40 * f + (j - 40 * f) = j by omega] at this; exact this
  · rw [if_neg q]; exact h2 j (by omega)
theorem gv_of {f n on : Nat} {X P c c1 c2 : Nat → Int32} (h0 : c1 = fgX f on X c) (hP : ∀ j, j < n → P j = c (40 * f + j)) (hX : ∀ j, n ≤ j → j < on → c (40 * f + j) = X j) (h1 : ∀ j, j < n → c2 (40 * f + j) = P j) (h2 : ∀ j, (j < 40 * f ∨ 40 * f + n ≤ j) → c2 j = c1 j) : c2 = c := by
  funext j
  by_cases q : 40 * f ≤ j ∧ j < 40 * f + n
  · have := h1 (j - 40 * f) (by omega)
    rw [hP _ (by omega), show 40 * f + (j - 40 * f) = j by omega] at this; exact this
  · rw [h2 j (by omega), h0]; unfold fgX
    by_cases q2 : 40 * f ≤ j ∧ j < 40 * f + on
    · rw [if_pos q2]
      have := hX (j - 40 * f) (by omega) (by omega)
      rw [show 40 * f + (j - 40 * f) = j by omega] at this; exact this.symm
    · rw [if_neg q2]
theorem upd_upd {m : Nat → Int32} {f : Nat} {x y : Int32} (h : m f = y) : upd (upd m f x) f (m f) = m := upd_back rfl
