section
/-! a point's way: the class's words and the reference's -/
theorem par3 {p1 p2 q1 q2 e1 e2 : Int} (hp : p1 * e2 = p2 * e1) (hq : q1 * e2 = q2 * e1) (he : ¬ (e1 = 0 ∧ e2 = 0)) : p1 * q2 - p2 * q1 = 0 := by
  by_cases h1 : e1 = 0
  · have h2 : e2 ≠ 0 := fun h => he ⟨h1, h⟩
    rw [h1, Int.mul_zero] at hp hq
    have a := (Int.mul_eq_zero.mp hp).resolve_right h2
    have b := (Int.mul_eq_zero.mp hq).resolve_right h2
    rw [a, b]; simp
  · have k : (p1 * q2 - p2 * q1) * e1 = 0 := by
      have a : p1 * q2 * e1 = p1 * (q1 * e2) := by rw [hq, Int.mul_assoc]
      have b : p2 * q1 * e1 = p1 * (q1 * e2) := by rw [Int.mul_assoc, Int.mul_comm q1 e1, ← Int.mul_assoc, ← hp, Int.mul_assoc, Int.mul_comm e2 q1]
      rw [Int.sub_mul, a, b]; omega
    exact (Int.mul_eq_zero.mp k).resolve_right h1
theorem way_iff {a1 a2 b1 b2 c1 c2 d1 d2 : Int} (ho : onS c1 c2 d1 d2 a1 a2) : (¬ ldT a1 a2 b1 b2 c1 c2 ∧ ¬ ldT a1 a2 b1 b2 d1 d2) ↔ ((a1 = b1 ∧ a2 = b2) ∨ (c1 = d1 ∧ c2 = d2) ∨ ¬ (b1 - a1) * (d2 - c2) - (b2 - a2) * (d1 - c1) = 0 ∨ (¬ 0 < dt c1 c2 a1 a2 b1 b2 ∧ ¬ 0 < dt d1 d2 a1 a2 b1 b2)) := by
  have e1 : dt c1 c2 a1 a2 b1 b2 = nrT a1 a2 b1 b2 c1 c2 := by unfold dt nrT; simp only [Int.sub_mul, Int.mul_sub, Int.mul_comm]
  have e2 : dt d1 d2 a1 a2 b1 b2 = nrT a1 a2 b1 b2 d1 d2 := by unfold dt nrT; simp only [Int.sub_mul, Int.mul_sub, Int.mul_comm]
  rw [e1, e2]
  have h0 : (d1 - c1) * (a2 - c2) = (d2 - c2) * (a1 - c1) := by have := ho.1; unfold cr at this; omega
  have z1 : c1 = a1 → c2 = a2 → nrT a1 a2 b1 b2 c1 c2 = 0 := fun g1 g2 => by unfold nrT; rw [g1, g2]; simp
  have z2 : d1 = a1 → d2 = a2 → nrT a1 a2 b1 b2 d1 d2 = 0 := fun g1 g2 => by unfold nrT; rw [g1, g2]; simp
  have zb : a1 = b1 → a2 = b2 → ∀ x y, nrT a1 a2 b1 b2 x y = 0 := fun g1 g2 x y => by unfold nrT; rw [g1, g2]; simp
  constructor
  · rintro ⟨n1, n2⟩
    by_cases k1 : a1 = b1 ∧ a2 = b2
    · exact Or.inl k1
    · by_cases k2 : c1 = d1 ∧ c2 = d2
      · exact Or.inr (Or.inl k2)
      · by_cases k3 : (b1 - a1) * (d2 - c2) - (b2 - a2) * (d1 - c1) = 0
        · have he : ¬ (d1 - c1 = 0 ∧ d2 - c2 = 0) := fun h => k2 ⟨by omega, by omega⟩
          have hb : (b1 - a1) * (d2 - c2) = (b2 - a2) * (d1 - c1) := by omega
          have hc : (c1 - a1) * (d2 - c2) = (c2 - a2) * (d1 - c1) := by
            have x1 : (c1 - a1) * (d2 - c2) = -((d2 - c2) * (a1 - c1)) := by simp only [Int.sub_mul, Int.mul_sub, Int.mul_comm]; omega
            have x2 : (c2 - a2) * (d1 - c1) = -((d1 - c1) * (a2 - c2)) := by simp only [Int.sub_mul, Int.mul_sub, Int.mul_comm]; omega
            rw [x1, x2, h0]
          have hd : (d1 - a1) * (d2 - c2) = (d2 - a2) * (d1 - c1) := by
            have x1 : (d1 - a1) * (d2 - c2) = (c1 - a1) * (d2 - c2) + (d1 - c1) * (d2 - c2) := by rw [← Int.add_mul]; congr 1; omega
            have x2 : (d2 - a2) * (d1 - c1) = (c2 - a2) * (d1 - c1) + (d2 - c2) * (d1 - c1) := by rw [← Int.add_mul]; congr 1; omega
            rw [x1, x2, hc, Int.mul_comm (d1 - c1) (d2 - c2)]
          have r1 := par3 hb hc he
          have r2 := par3 hb hd he
          refine Or.inr (Or.inr (Or.inr ⟨fun g => n1 ⟨?_, g⟩, fun g => n2 ⟨?_, g⟩⟩))
          · unfold cr; exact r1
          · unfold cr; exact r2
        · exact Or.inr (Or.inr (Or.inl k3))
  · intro h
    have main : ∀ x1 x2 : Int, (x1 = a1 → x2 = a2 → nrT a1 a2 b1 b2 x1 x2 = 0) → (x1 - a1) * (d2 - c2) = (x2 - a2) * (d1 - c1) → ((¬ (b1 - a1) * (d2 - c2) - (b2 - a2) * (d1 - c1) = 0) → ¬ ldT a1 a2 b1 b2 x1 x2) := by
      intro x1 x2 hz hx hn g
      have hne : ¬ (x1 - a1 = 0 ∧ x2 - a2 = 0) := fun q => by have := hz (by omega) (by omega); have := g.2; omega
      have g1 : (b1 - a1) * (x2 - a2) = (b2 - a2) * (x1 - a1) := by have := g.1; unfold cr at this; omega
      have g2 : (d1 - c1) * (x2 - a2) = (d2 - c2) * (x1 - a1) := by rw [Int.mul_comm (d1 - c1), Int.mul_comm (d2 - c2)]; exact hx.symm
      exact hn (par3 g1 g2 hne)
    have hc : (c1 - a1) * (d2 - c2) = (c2 - a2) * (d1 - c1) := by
      have x1 : (c1 - a1) * (d2 - c2) = -((d2 - c2) * (a1 - c1)) := by simp only [Int.sub_mul, Int.mul_sub, Int.mul_comm]; omega
      have x2 : (c2 - a2) * (d1 - c1) = -((d1 - c1) * (a2 - c2)) := by simp only [Int.sub_mul, Int.mul_sub, Int.mul_comm]; omega
      rw [x1, x2, h0]
    have hd : (d1 - a1) * (d2 - c2) = (d2 - a2) * (d1 - c1) := by
      have x1 : (d1 - a1) * (d2 - c2) = (c1 - a1) * (d2 - c2) + (d1 - c1) * (d2 - c2) := by rw [← Int.add_mul]; congr 1; omega
      have x2 : (d2 - a2) * (d1 - c1) = (c2 - a2) * (d1 - c1) + (d2 - c2) * (d1 - c1) := by rw [← Int.add_mul]; congr 1; omega
      rw [x1, x2, hc, Int.mul_comm (d1 - c1) (d2 - c2)]
    rcases h with h | h | h | h
    · exact ⟨fun g => by have := zb h.1 h.2 c1 c2; have := g.2; omega, fun g => by have := zb h.1 h.2 d1 d2; have := g.2; omega⟩
    · have ea : a1 = c1 ∧ a2 = c2 := by obtain ⟨_, h1, h2, h3, h4⟩ := ho; omega
      exact ⟨fun g => by have := z1 ea.1.symm ea.2.symm; have := g.2; omega, fun g => by have := z2 (by omega) (by omega); have := g.2; omega⟩
    · exact ⟨main c1 c2 z1 hc h, main d1 d2 z2 hd h⟩
    · exact ⟨fun g => h.1 g.2, fun g => h.2 g.2⟩
theorem wy_fWy {x0 y0 x1 y1 : Int} {m : Nat} {U V : Nat → Int32} {k : Nat} : wyF2 x0 y0 x1 y1 m U V k ↔ fWy x0 y0 x1 y1 m U V k := by
  unfold wyF2 fWy oAt
  exact imp_congr_right fun _ => ⟨fun h => ⟨h.1, (way_iff h.1).mp h.2⟩, fun h => ⟨h.1, (way_iff h.1).mpr h.2⟩⟩
end
