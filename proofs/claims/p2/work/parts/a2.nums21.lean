/-! fractions made plain -/
theorem jN_ne {a : Nat} (h : 0 < a) (h2 : a ≤ 4000000000000) : ¬ jI ((a : Nat) : Int) = 0 := fun q => by
  have e : (jI ((a : Nat) : Int)).toInt = (0 : Int64).toInt := by rw [q]
  rw [jI_toInt (by omega)] at e
  have e0 : (0 : Int64).toInt = 0 := by decide
  omega
theorem jN_div {a b : Nat} (ha : 0 < a) (ha2 : a ≤ 4000000000000) (hb : b ≤ 4000000000000) : jI ((b : Nat) : Int) / jI ((a : Nat) : Int) = jI ((b / a : Nat) : Int) := by
  refine jI_of ?_
  have hd : b / a ≤ b := Nat.div_le_self b a
  rw [Int64.toInt_div, jI_toInt (by omega), jI_toInt (by omega), Int.tdiv_eq_ediv_of_nonneg (by omega), ← Int.natCast_ediv]
  generalize b / a = q at *
  exact fb_bmodL (by omega) (by omega)
theorem jN_rem {a b : Nat} (ha : 0 < a) (ha2 : a ≤ 4000000000000) (hb : b ≤ 4000000000000) : jI ((b : Nat) : Int) - jI ((b : Nat) : Int) / jI ((a : Nat) : Int) * jI ((a : Nat) : Int) = jI ((b % a : Nat) : Int) := by
  have h1 : b / a * a ≤ b := Nat.div_mul_le_self b a
  have h2 : a * (b / a) + b % a = b := Nat.div_add_mod b a
  have h3 : a * (b / a) = b / a * a := Nat.mul_comm _ _
  have hd : b / a ≤ b := Nat.div_le_self b a
  have h4 : ((b / a : Nat) : Int) * ((a : Nat) : Int) = ((b / a * a : Nat) : Int) := (Int.natCast_mul _ _).symm
  rw [jN_div ha ha2 hb]
  generalize b / a = q at *
  generalize b % a = r at *
  refine jI_of ?_
  have e : (jI ((q : Nat) : Int) * jI ((a : Nat) : Int)).toInt = ((q * a : Nat) : Int) := by
    rw [fb_mulL (by rw [jI_toInt (by omega), jI_toInt (by omega), h4]; omega) (by rw [jI_toInt (by omega), jI_toInt (by omega), h4]; omega), jI_toInt (by omega), jI_toInt (by omega), h4]
  rw [fb_subL (by rw [e, jI_toInt (by omega)]; omega) (by rw [e, jI_toInt (by omega)]; omega), e, jI_toInt (by omega)]
  omega
