/-! queries of the reference -/
noncomputable def smP (P : Nat → Prop) (c : Nat → Nat) : Nat → Nat
  | 0 => 0
  | n + 1 => smP P c n + @ite Nat (P n) (Classical.propDecidable _) (c n) 0
theorem smP_y {P : Nat → Prop} {c : Nat → Nat} {n : Nat} (h : P n) : smP P c (n + 1) = smP P c n + c n := by show smP P c n + _ = _; rw [if_pos h]
theorem smP_n {P : Nat → Prop} {c : Nat → Nat} {n : Nat} (h : ¬ P n) : smP P c (n + 1) = smP P c n + 0 := by show smP P c n + _ = _; rw [if_neg h]
theorem cntP_n0 {P : Nat → Prop} {n : Nat} (h : ¬ P n) : cntP P (n + 1) = cntP P n + 0 := by rw [cntP_n h]; rfl
theorem smP_b {P : Nat → Prop} {c : Nat → Nat} (n : Nat) (h : ∀ j, j < n → P j → c j ≤ 40) : smP P c n ≤ 40 * n := by
  induction n with
  | zero => exact Nat.le_refl _
  | succ n ih =>
    have h2 := ih (fun j hj => h j (by omega))
    by_cases q : P n
    · rw [smP_y q]; have := h n (by omega) q; omega
    · rw [smP_n q]; omega
/-- 2 of its set, 1 inside, 0 else -/
noncomputable def inV (p q : Prop) : Int32 := @ite Int32 p (Classical.propDecidable _) 2 (pI q)
theorem inV_2 {p q : Prop} (h : p) : (2 : Int32) = inV p q := by unfold inV; rw [if_pos h]
theorem inV_1 {p q : Prop} (h : ¬ p) (h2 : q) : (1 : Int32) = inV p q := by unfold inV; rw [if_neg h, zp_t h2]
theorem inV_0 {p q : Prop} (h : ¬ p) (h2 : ¬ q) : (0 : Int32) = inV p q := by unfold inV; rw [if_neg h, zp_f h2]
