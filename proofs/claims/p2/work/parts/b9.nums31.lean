/-! outside the box of a ring: not of its set, not inside -/
theorem par2_no {A : Nat → Prop} : ∀ k, (∀ j, j < k → ¬ A j) → ¬ par2 A k := by
  intro k
  induction k with
  | zero => intro _ h; exact h
  | succ k ih =>
    intro h
    have h1 := ih (fun j hj => h j (by omega))
    rw [par2_n (h k (by omega))]; exact h1
theorem par2_ch {b : Nat → Prop} : ∀ k, (par2 (fun j => b j ↔ ¬ b (j + 1)) k ↔ (b 0 ↔ ¬ b k)) := by
  intro k
  induction k with
  | zero =>
    show False ↔ (b 0 ↔ ¬ b 0)
    by_cases h : b 0 <;> simp [h]
  | succ k ih =>
    show (par2 _ k ∧ ¬ (b k ↔ ¬ b (k + 1))) ∨ (¬ par2 _ k ∧ (b k ↔ ¬ b (k + 1))) ↔ (b 0 ↔ ¬ b (k + 1))
    rw [ih]
    by_cases h0 : b 0 <;> by_cases h1 : b k <;> by_cases h2 : b (k + 1) <;> simp [h0, h1, h2]
theorem par2_cy {b : Nat → Prop} {n : Nat} (hn : 1 ≤ n) : ¬ par2 (fun j => b j ↔ ¬ b (nxt n j)) n := by
  obtain ⟨m, rfl⟩ : ∃ m, n = m + 1 := ⟨n - 1, by omega⟩
  have h1 : par2 (fun j => b j ↔ ¬ b (nxt (m + 1) j)) m ↔ (b 0 ↔ ¬ b m) := (par2_cg m (fun j hj => by rw [nxt_s (by omega)])).trans (par2_ch m)
  show ¬ ((par2 _ m ∧ ¬ (b m ↔ ¬ b (nxt (m + 1) m))) ∨ (¬ par2 _ m ∧ (b m ↔ ¬ b (nxt (m + 1) m))))
  rw [h1, nxt_l (by omega)]
  by_cases h0 : b 0 <;> by_cases h2 : b m <;> simp [h0, h2]
theorem whr_out {n : Nat} {X Y : Nat → Int32} {px py : Int} (hn : 1 ≤ n) (h : (∀ i, i < n → (X i).toInt < px) ∨ (∀ i, i < n → px < (X i).toInt) ∨ (∀ i, i < n → (Y i).toInt < py) ∨ (∀ i, i < n → py < (Y i).toInt)) : whr n X Y px py = 0 := by
  have hon : ¬ ∃ i, i < n ∧ eOn n X Y i px py := by
    rintro ⟨i, hi, g⟩
    have h2 := nxt_lt (n := n) (i := i) (by omega)
    unfold eOn onS at g
    rcases h with h | h | h | h <;> (have a := h i hi; have b := h _ h2; omega)
  rw [whr_n hon]
  refine zp_f ?_
  rcases h with h | h | h | h
  · exact par2_no n (fun j hj => (sk_tg (Or.inr (Or.inr ⟨h j hj, h _ (nxt_lt (by omega))⟩))).1)
  · rw [par2_cg (B := fun j => (py < (Y j).toInt) ↔ ¬ (py < (Y (nxt n j)).toInt)) n (fun j hj => ?_)]
    · exact par2_cy (b := fun j => py < (Y j).toInt) hn
    · have a := h j hj; have b := h _ (nxt_lt (n := n) (i := j) (by omega))
      unfold eTg
      refine ⟨fun g => g.1, fun g => ⟨g, ?_⟩⟩
      have t := tg_left (a1 := -(X j).toInt) (a2 := (Y j).toInt) (b1 := -(X (nxt n j)).toInt) (b2 := (Y (nxt n j)).toInt) (x := -px) (y := py) (by omega) (by omega) g
      have e : cr (-(X j).toInt) (Y j).toInt (-(X (nxt n j)).toInt) (Y (nxt n j)).toInt (-px) py = - eCr n X Y j px py := by unfold eCr cr; grind
      rw [e] at t
      by_cases q : (Y j).toInt < (Y (nxt n j)).toInt
      · exact Or.inl ⟨q, by have := t.1 q; omega⟩
      · exact Or.inr ⟨q, by have := t.2 q; omega⟩
  · exact par2_no n (fun j hj => (sk_tg (Or.inr (Or.inl ⟨h j hj, h _ (nxt_lt (by omega))⟩))).1)
  · exact par2_no n (fun j hj => (sk_tg (Or.inl ⟨h j hj, h _ (nxt_lt (by omega))⟩)).1)
