/-! the class's candidates for the distance are the reference's -/
theorem eO_cov {k : Int} {n : Nat} (h : okK k n) : ∀ j, j < n → ∃ i, i < eO k n ∧ (j = i ∨ j = nxt n i) := by
  intro j hj
  unfold eO
  rcases h with ⟨h0, h1⟩ | ⟨h0, h2⟩
  · rw [if_pos h0]; exact ⟨0, by omega, Or.inl (by omega)⟩
  · rw [if_neg h0]
    by_cases h5 : 5 ≤ k
    · rw [if_pos h5]; exact ⟨j, hj, Or.inl rfl⟩
    · rw [if_neg h5]
      rcases Nat.lt_or_ge j (n - 1) with q | q
      · exact ⟨j, q, Or.inl rfl⟩
      · refine ⟨j - 1, by omega, Or.inr ?_⟩
        unfold nxt
        rw [if_pos (by omega)]
        omega
theorem bt_dc {n m e1 e2 : Nat} {X Y U V : Nat → Int32} (h1 : e1 ≤ n) (h2 : e2 ≤ m) (c1 : ∀ j, j < n → ∃ i, i < e1 ∧ (j = i ∨ j = nxt n i)) (c2 : ∀ j, j < m → ∃ i, i < e2 ∧ (j = i ∨ j = nxt m i)) (A B : Int) : btP n X Y e1 m U V e2 A B ↔ dcP n X Y m U V e2 e1 0 A B := by
  constructor
  · intro h
    rcases h with (h | ⟨j, hj, k, hk, ha, hb⟩) | ⟨j, hj, k, hk, ha, hb⟩
    · exact h.elim
    · obtain ⟨i, hi, e⟩ := c1 j hj
      refine ⟨i, k, Or.inl ⟨hi, hk⟩, ?_⟩
      rcases e with e | e
      · rw [e] at ha hb; exact Or.inr (Or.inr (Or.inl ⟨ha, hb⟩))
      · rw [e] at ha hb; exact Or.inr (Or.inr (Or.inr ⟨ha, hb⟩))
    · obtain ⟨i, hi, e⟩ := c2 j hj
      refine ⟨k, i, Or.inl ⟨hk, hi⟩, ?_⟩
      rcases e with e | e
      · rw [e] at ha hb; exact Or.inl ⟨ha, hb⟩
      · rw [e] at ha hb; exact Or.inr (Or.inl ⟨ha, hb⟩)
  · intro h
    obtain ⟨i, k, hik, h⟩ := h
    have hi : i < e1 ∧ k < e2 := by omega
    rcases h with h | h | h | h
    · exact Or.inr ⟨k, by omega, i, hi.1, h⟩
    · exact Or.inr ⟨nxt m k, nxt_lt (by omega), i, hi.1, h⟩
    · exact Or.inl (Or.inr ⟨i, by omega, k, hi.2, h⟩)
    · exact Or.inl (Or.inr ⟨nxt n i, nxt_lt (by omega), k, hi.2, h⟩)
theorem IM_eq {P : Int → Int → Prop} {u d U D : Int} (h : IM P u d) (g : IM P U D) (hd : 1 ≤ d) (hD : 1 ≤ D) : u * D = U * d := by
  rcases h with ⟨h1, _, _⟩ | ⟨_, h2, h3⟩
  · omega
  · rcases g with ⟨g1, _, _⟩ | ⟨_, g2, g3⟩
    · omega
    · exact Int.le_antisymm (h3 U D g2) (g3 u d h2)
theorem IM_lt {u d U D c : Int} (e : u * D = U * d) (hd : 1 ≤ d) (hD : 1 ≤ D) (h : c * d < u) : c * D < U := by
  refine Int.not_le.mp fun g => ?_
  have h1 : U * d ≤ c * D * d := Int.mul_le_mul_of_nonneg_right g (by omega)
  have h2 : c * d * D < u * D := Int.mul_lt_mul_of_pos_right h (by omega)
  rw [e, Int.mul_assoc, Int.mul_comm d D, ← Int.mul_assoc] at h2
  omega
theorem IM_gap {P : Int → Int → Prop} {u d U D c : Int} (h : IM P u d) (g : IM P U D) (hd : 1 ≤ d) (hD : 1 ≤ D) : (c * d < u ↔ c * D < U) :=
  ⟨IM_lt (IM_eq h g hd hD) hd hD, IM_lt (IM_eq g h hD hd) hD hd⟩
