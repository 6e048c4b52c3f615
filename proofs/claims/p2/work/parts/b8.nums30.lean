section CG2
variable {n m : Nat} {X Y P Q U V S T : Nat → Int32}
theorem ar2_cg (h : ∀ j, j < n → X j = P j ∧ Y j = Q j) : ∀ i, i ≤ n → ar2 n X Y i = ar2 n P Q i := by
  intro i
  induction i with
  | zero => intro _; rfl
  | succ i ih =>
    intro hi
    have h1 := h i (by omega); have h2 := h _ (nxt_lt (n := n) (i := i) (by omega))
    unfold ar2; rw [ih (by omega), h1.1, h1.2, h2.1, h2.2]
theorem ln2_cg (h : ∀ j, j < n → X j = P j ∧ Y j = Q j) : ∀ i, i < n → ln2 X Y i = ln2 P Q i := by
  intro i
  induction i with
  | zero => intro _; rfl
  | succ i ih =>
    intro hi
    have h1 := h i (by omega); have h2 := h (i + 1) (by omega)
    unfold ln2; rw [ih (by omega), h1.1, h1.2, h2.1, h2.2]
theorem mnI_cg {z : Int} (h : ∀ j, j < n → X j = P j) : ∀ i, i ≤ n → mnI z X i = mnI z P i ∧ mxI z X i = mxI z P i := by
  intro i
  induction i with
  | zero => intro _; exact ⟨rfl, rfl⟩
  | succ i ih =>
    intro hi
    have g := ih (by omega)
    rw [mnI_s, mnI_s, mxI_s, mxI_s, g.1, g.2, h i (by omega)]; exact ⟨rfl, rfl⟩
theorem whr_cg (h : ∀ j, j < n → X j = P j ∧ Y j = Q j) {x y : Int} : whr n X Y x y = whr n P Q x y := by
  have a : (∃ i, i < n ∧ eOn n X Y i x y) ↔ ∃ i, i < n ∧ eOn n P Q i x y := ⟨fun ⟨i, hi, g⟩ => ⟨i, hi, by rw [← eOn_cg h hi]; exact g⟩, fun ⟨i, hi, g⟩ => ⟨i, hi, by rw [eOn_cg h hi]; exact g⟩⟩
  have b := par2_cg (A := eTg n X Y x y) (B := eTg n P Q x y) n (fun j hj => by rw [eTg_cg h hj])
  by_cases q : ∃ i, i < n ∧ eOn n X Y i x y
  · rw [whr_2 q, whr_2 (a.mp q)]
  · rw [whr_n q, whr_n (fun w => q (a.mpr w))]; exact zp_iff b
theorem dcS_cg (h : ∀ j, j < n → X j = P j ∧ Y j = Q j) (g : ∀ j, j < m → U j = S j ∧ V j = T j) {i k : Nat} (hi : i < n) (hk : k < m) {A B : Int} : dcS n X Y m U V i k A B = dcS n P Q m S T i k A B := by
  have h2 := h _ (nxt_lt (n := n) (i := i) (by omega)); have h1 := h i hi
  have g2 := g _ (nxt_lt (n := m) (i := k) (by omega)); have g1 := g k hk
  unfold dcS; rw [h1.1, h1.2, h2.1, h2.2, g1.1, g1.2, g2.1, g2.2]
end CG2
