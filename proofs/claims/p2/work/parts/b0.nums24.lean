/-! JOIN: how far two houses may be apart -/
theorem gpB9 {g : Int32} {D : Nat} (hg : 0 ≤ g.toInt ∧ g.toInt ≤ 1000) (hD : D ≤ 2000000) : (0 ≤ g.toInt * g.toInt ∧ g.toInt * g.toInt ≤ 1000000) ∧ 0 ≤ g.toInt * g.toInt * ((D : Nat) : Int) ∧ g.toInt * g.toInt * ((D : Nat) : Int) ≤ 2000000000000 := by
  have a := mulB (u := g.toInt) (v := g.toInt) (by omega) (by omega) (by omega) (by omega)
  have b := sqZ (u := g.toInt)
  have c := Int.mul_nonneg b (show 0 ≤ ((D : Nat) : Int) by omega)
  have d := Int.mul_le_mul_of_nonneg_right a.2 (show 0 ≤ ((D : Nat) : Int) by omega)
  exact ⟨⟨b, a.2⟩, c, by omega⟩
theorem gpL {g : Int32} {D : Nat} (hg : 0 ≤ g.toInt ∧ g.toInt ≤ 1000) (hD : D ≤ 2000000) : g.toInt64 * g.toInt64 * jI ((D : Nat) : Int) = jI (g.toInt * g.toInt * ((D : Nat) : Int)) := by
  have h := gpB9 hg hD
  have e : g.toInt64 = jI g.toInt := jI_of (i64 _)
  rw [e, jI_mul (by omega) (by omega) (by omega), jI_mul (by omega) (by omega) (by omega)]
theorem rd_lt {c : Int} {u d : Nat} (hd : 1 ≤ d) : c * ((d / Nat.gcd u d : Nat) : Int) < ((u / Nat.gcd u d : Nat) : Int) ↔ c * ((d : Nat) : Int) < ((u : Nat) : Int) := by
  have hg : 0 < Nat.gcd u d := Nat.gcd_pos_of_pos_right u (by omega)
  have h1 : u / Nat.gcd u d * Nat.gcd u d = u := Nat.div_mul_cancel (Nat.gcd_dvd_left u d)
  have h2 : d / Nat.gcd u d * Nat.gcd u d = d := Nat.div_mul_cancel (Nat.gcd_dvd_right u d)
  have e1 : ((u : Nat) : Int) = ((u / Nat.gcd u d : Nat) : Int) * ((Nat.gcd u d : Nat) : Int) := by rw [← Int.natCast_mul, h1]
  have e2 : ((d : Nat) : Int) = ((d / Nat.gcd u d : Nat) : Int) * ((Nat.gcd u d : Nat) : Int) := by rw [← Int.natCast_mul, h2]
  generalize Nat.gcd u d = q at *
  generalize u / q = a at *
  generalize d / q = b at *
  rw [e1, e2, ← Int.mul_assoc]
  exact ⟨fun h => Int.mul_lt_mul_of_pos_right h (by omega), fun h => Int.lt_of_mul_lt_mul_right h (by omega)⟩
