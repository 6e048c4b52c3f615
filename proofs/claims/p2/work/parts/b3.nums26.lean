theorem im_lt {P : Int → Int → Prop} {u d v e c : Int} (h1 : IM P u d) (h2 : IM P v e) (hd : 1 ≤ d) (he : 1 ≤ e) (h : c * d < u) : c * e < v := by
  rcases h1 with ⟨q, _⟩ | ⟨_, _, g⟩
  · omega
  rcases h2 with ⟨q, _⟩ | ⟨_, p, _⟩
  · omega
  have a := g v e p
  have b : c * d * e < u * e := Int.mul_lt_mul_of_pos_right h (by omega)
  have k : c * e * d < v * d := by
    have e1 : c * e * d = c * d * e := by rw [Int.mul_assoc, Int.mul_comm e d, ← Int.mul_assoc]
    omega
  exact Int.lt_of_mul_lt_mul_right k (by omega)
theorem dq_b {u d : Nat} (h : u ≤ 4000000000000 ∧ 1 ≤ d ∧ d ≤ 2000000) : u / Nat.gcd u d ≤ 4000000000000 ∧ 1 ≤ d / Nat.gcd u d ∧ d / Nat.gcd u d ≤ 2000000 :=
  ⟨Nat.le_trans (Nat.div_le_self _ _) h.1, Nat.div_pos (Nat.gcd_le_right _ h.2.1) (Nat.gcd_pos_of_pos_right u h.2.1), Nat.le_trans (Nat.div_le_self _ _) h.2.2⟩
