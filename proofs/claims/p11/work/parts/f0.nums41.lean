section
/-! a place in a triangle: the class's way and the reference's -/
theorem cr_rel (a1 a2 b1 b2 x y : Int) : cr a1 a2 b1 b2 x y = (a1 - x) * (b2 - y) - (b1 - x) * (a2 - y) := by
  unfold cr
  simp only [Int.sub_mul, Int.mul_sub, Int.mul_comm]
  omega
theorem bary (p q r s t z : Int) : (r * z - t * s) * q + (t * q - p * z) * s + (p * s - r * q) * z = 0 := by
  simp only [Int.sub_mul, Int.mul_sub, Int.mul_assoc, Int.mul_comm, Int.mul_left_comm]
  omega
theorem barx (p q r s t z : Int) : (r * z - t * s) * p + (t * q - p * z) * r + (p * s - r * q) * t = 0 := by
  simp only [Int.sub_mul, Int.mul_sub, Int.mul_assoc, Int.mul_comm, Int.mul_left_comm]
  omega
theorem pp {a b : Int} (ha : 0 < a) (hb : 0 < b) : 0 < a * b := Int.mul_pos ha hb
theorem pn {a b : Int} (ha : 0 < a) (hb : b < 0) : a * b < 0 := Int.mul_neg_of_pos_of_neg ha hb
theorem np {a b : Int} (ha : a < 0) (hb : 0 < b) : a * b < 0 := Int.mul_neg_of_neg_of_pos ha hb
theorem pz {a b : Int} (ha : 0 ≤ a) (hb : 0 ≤ b) : 0 ≤ a * b := Int.mul_nonneg ha hb
theorem pm {a b : Int} (ha : 0 ≤ a) (hb : b ≤ 0) : a * b ≤ 0 := Int.mul_nonpos_of_nonneg_of_nonpos ha hb
theorem mp {a b : Int} (ha : a ≤ 0) (hb : 0 ≤ b) : a * b ≤ 0 := Int.mul_nonpos_of_nonpos_of_nonneg ha hb
theorem mm9 {a b : Int} (ha : a ≤ 0) (hb : b ≤ 0) : 0 ≤ a * b := Int.mul_nonneg_of_nonpos_of_nonpos ha hb
/-- weights of one sign that balance: not both on one side -/
theorem bal2 {v w p q : Int} (hs : (0 ≤ v ∧ 0 ≤ w ∧ 0 < v + w) ∨ (v ≤ 0 ∧ w ≤ 0 ∧ v + w < 0)) (h : v * p + w * q = 0) : ¬ (0 < p ∧ 0 < q) ∧ ¬ (p < 0 ∧ q < 0) := by
  rcases hs with ⟨h1, h2, h3⟩ | ⟨h1, h2, h3⟩
  · refine ⟨fun g => ?_, fun g => ?_⟩
    · have a := pz h1 (Int.le_of_lt g.1); have b := pz h2 (Int.le_of_lt g.2)
      rcases Int.lt_or_eq_of_le h1 with c | c
      · have := pp c g.1; omega
      · have := pp (show 0 < w by omega) g.2; omega
    · have a := pm h1 (Int.le_of_lt g.1); have b := pm h2 (Int.le_of_lt g.2)
      rcases Int.lt_or_eq_of_le h1 with c | c
      · have := pn c g.1; omega
      · have := pn (show 0 < w by omega) g.2; omega
  · refine ⟨fun g => ?_, fun g => ?_⟩
    · have a := mp h1 (Int.le_of_lt g.1); have b := mp h2 (Int.le_of_lt g.2)
      rcases Int.lt_or_eq_of_le h1 with c | c
      · have := np c g.1; omega
      · have := np (show w < 0 by omega) g.2; omega
    · have a := mm9 h1 (Int.le_of_lt g.1); have b := mm9 h2 (Int.le_of_lt g.2)
      rcases Int.lt_or_eq_of_le h1 with c | c
      · have := Int.mul_pos_of_neg_of_neg c g.1; omega
      · have := Int.mul_pos_of_neg_of_neg (show w < 0 by omega) g.2; omega
/-- on a triangle's edge where one weight is 0 and the others of one sign -/
theorem on_bal {a1 a2 b1 b2 c1 c2 x y : Int} (h0 : cr a1 a2 b1 b2 x y = 0) (hs : (0 ≤ cr b1 b2 c1 c2 x y ∧ 0 ≤ cr c1 c2 a1 a2 x y ∧ 0 < cr b1 b2 c1 c2 x y + cr c1 c2 a1 a2 x y) ∨ (cr b1 b2 c1 c2 x y ≤ 0 ∧ cr c1 c2 a1 a2 x y ≤ 0 ∧ cr b1 b2 c1 c2 x y + cr c1 c2 a1 a2 x y < 0)) : onS a1 a2 b1 b2 x y := by
  have i1 := bary (a1 - x) (a2 - y) (b1 - x) (b2 - y) (c1 - x) (c2 - y)
  have i2 := barx (a1 - x) (a2 - y) (b1 - x) (b2 - y) (c1 - x) (c2 - y)
  rw [← cr_rel, ← cr_rel, ← cr_rel] at i1 i2
  rw [h0, Int.zero_mul, Int.add_zero] at i1 i2
  have g1 := bal2 hs i1; have g2 := bal2 hs i2
  unfold onS
  refine ⟨h0, ?_, ?_, ?_, ?_⟩ <;> omega
def tg2 (a1 a2 b1 b2 x y : Int) : Prop := (y < a2 ↔ ¬ y < b2) ∧ ((a2 < b2 ∧ 0 < cr a1 a2 b1 b2 x y) ∨ (¬ a2 < b2 ∧ cr a1 a2 b1 b2 x y < 0))
/-- inside, off the edges: all on one side -/
def st3 (u v w : Int) : Prop := (0 < u ∧ 0 < v ∧ 0 < w) ∨ (u < 0 ∧ v < 0 ∧ w < 0)
theorem tg_a {a2 b2 u y : Int} (h1 : y < a2 ↔ ¬ y < b2) : ((y < a2 ↔ ¬ y < b2) ∧ ((a2 < b2 ∧ 0 < u) ∨ (¬ a2 < b2 ∧ u < 0))) ↔ ((y < a2 ∧ u < 0) ∨ (¬ y < a2 ∧ 0 < u)) := by
  by_cases s : y < a2
  · have hb : ¬ y < b2 := h1.mp s
    exact ⟨fun h => Or.inl ⟨s, by omega⟩, fun h => ⟨h1, Or.inr ⟨by omega, by omega⟩⟩⟩
  · have hb : y < b2 := Classical.byContradiction fun q => s (h1.mpr q)
    exact ⟨fun h => Or.inr ⟨s, by omega⟩, fun h => ⟨h1, Or.inl ⟨by omega, by omega⟩⟩⟩
theorem tg_c {a2 c2 w y : Int} (h1 : y < c2 ↔ ¬ y < a2) : ((y < c2 ↔ ¬ y < a2) ∧ ((c2 < a2 ∧ 0 < w) ∨ (¬ c2 < a2 ∧ w < 0))) ↔ ((y < a2 ∧ 0 < w) ∨ (¬ y < a2 ∧ w < 0)) := by
  by_cases s : y < a2
  · have hb : ¬ y < c2 := fun q => h1.mp q s
    exact ⟨fun h => Or.inl ⟨s, by omega⟩, fun h => ⟨h1, Or.inl ⟨by omega, by omega⟩⟩⟩
  · have hb : y < c2 := h1.mpr s
    exact ⟨fun h => Or.inr ⟨s, by omega⟩, fun h => ⟨h1, Or.inr ⟨by omega, by omega⟩⟩⟩
theorem tri_k {a2 b2 c2 y u v w : Int} (h1 : y < a2 ↔ ¬ y < b2) (h2 : y < b2 ↔ y < c2) (i1 : v * (a2 - y) + w * (b2 - y) + u * (c2 - y) = 0) (nz : v = 0 → ¬ ((0 < u ∧ 0 < w) ∨ (u < 0 ∧ w < 0))) : (0 < u ∧ 0 < w → 0 < v) ∧ (u < 0 ∧ w < 0 → v < 0) := by
  refine ⟨fun g => ?_, fun g => ?_⟩
  · have vz : v ≠ 0 := fun h => nz h (Or.inl g)
    by_cases s : y < a2
    · have e1 := pm (Int.le_of_lt g.2) (show b2 - y ≤ 0 by omega); have e2 := pm (Int.le_of_lt g.1) (show c2 - y ≤ 0 by omega)
      rcases Int.lt_or_gt_of_ne vz with q | q
      · have := np q (show 0 < a2 - y by omega); omega
      · exact q
    · have e1 := pp g.2 (show 0 < b2 - y by omega); have e2 := pp g.1 (show 0 < c2 - y by omega)
      rcases Int.lt_or_gt_of_ne vz with q | q
      · have := mm9 (Int.le_of_lt q) (show a2 - y ≤ 0 by omega); omega
      · exact q
  · have vz : v ≠ 0 := fun h => nz h (Or.inr g)
    by_cases s : y < a2
    · have e1 := mm9 (Int.le_of_lt g.2) (show b2 - y ≤ 0 by omega); have e2 := mm9 (Int.le_of_lt g.1) (show c2 - y ≤ 0 by omega)
      rcases Int.lt_or_gt_of_ne vz with q | q
      · exact q
      · have := pp q (show 0 < a2 - y by omega); omega
    · have e1 := np g.2 (show 0 < b2 - y by omega); have e2 := np g.1 (show 0 < c2 - y by omega)
      rcases Int.lt_or_gt_of_ne vz with q | q
      · exact q
      · have := pm (Int.le_of_lt q) (show a2 - y ≤ 0 by omega); omega
theorem tri_s {s : Prop} {u v w : Int} (u0 : u ≠ 0) (w0 : w ≠ 0) (k1 : 0 < u ∧ 0 < w → 0 < v) (k2 : u < 0 ∧ w < 0 → v < 0) : (((s ∧ u < 0) ∨ (¬ s ∧ 0 < u)) ↔ ¬ ((s ∧ 0 < w) ∨ (¬ s ∧ w < 0))) ↔ st3 u v w := by
  unfold st3
  rcases Int.lt_or_gt_of_ne u0 with p1 | p1 <;> rcases Int.lt_or_gt_of_ne w0 with p2 | p2
  · have v0 := k2 ⟨p1, p2⟩
    have a1 : ¬ 0 < u := by omega
    have a2 : ¬ 0 < w := by omega
    simp [p1, p2, v0, a1, a2]
  · have a1 : ¬ 0 < u := by omega
    have a2 : ¬ w < 0 := by omega
    simp [p1, p2, a1, a2]
  · have a1 : ¬ u < 0 := by omega
    have a2 : ¬ 0 < w := by omega
    simp [p1, p2, a1, a2]
  · have v0 := k1 ⟨p1, p2⟩
    have a1 : ¬ u < 0 := by omega
    have a2 : ¬ w < 0 := by omega
    simp [p1, p2, v0, a1, a2]
/-- corner a lies on another side of the place's height than b and c -/
theorem tri_a {a1 a2 b1 b2 c1 c2 x y : Int} (h1 : y < a2 ↔ ¬ y < b2) (h2 : y < b2 ↔ y < c2) (n1 : ¬ onS a1 a2 b1 b2 x y) (n2 : ¬ onS b1 b2 c1 c2 x y) (n3 : ¬ onS c1 c2 a1 a2 x y) :
    ¬ tg2 b1 b2 c1 c2 x y ∧ ((tg2 a1 a2 b1 b2 x y ↔ ¬ tg2 c1 c2 a1 a2 x y) ↔ st3 (cr a1 a2 b1 b2 x y) (cr b1 b2 c1 c2 x y) (cr c1 c2 a1 a2 x y)) := by
  have i1 := bary (a1 - x) (a2 - y) (b1 - x) (b2 - y) (c1 - x) (c2 - y)
  rw [← cr_rel, ← cr_rel, ← cr_rel] at i1
  have h3 : y < c2 ↔ ¬ y < a2 := by omega
  have u0 : cr a1 a2 b1 b2 x y ≠ 0 := fun h => n1 (on_of_mid h1 h)
  have w0 : cr c1 c2 a1 a2 x y ≠ 0 := fun h => n3 (on_of_mid h3 h)
  have nz : cr b1 b2 c1 c2 x y = 0 → ¬ ((0 < cr a1 a2 b1 b2 x y ∧ 0 < cr c1 c2 a1 a2 x y) ∨ (cr a1 a2 b1 b2 x y < 0 ∧ cr c1 c2 a1 a2 x y < 0)) := fun h g => n2 (on_bal (c1 := a1) (c2 := a2) h (by omega))
  have key := tri_k h1 h2 i1 nz
  refine ⟨fun h => by have := h.1; omega, ?_⟩
  unfold tg2
  rw [tg_a h1, tg_c h3]
  exact tri_s u0 w0 key.1 key.2
theorem tri_n {a1 a2 b1 b2 c1 c2 x y : Int} (h1 : y < a2 ↔ y < b2) (h2 : y < b2 ↔ y < c2) : ¬ st3 (cr a1 a2 b1 b2 x y) (cr b1 b2 c1 c2 x y) (cr c1 c2 a1 a2 x y) := by
  have i1 := bary (a1 - x) (a2 - y) (b1 - x) (b2 - y) (c1 - x) (c2 - y)
  rw [← cr_rel, ← cr_rel, ← cr_rel] at i1
  have e0 : a2 = y → b2 = y → cr a1 a2 b1 b2 x y = 0 := fun g1 g2 => by rw [cr_rel, g1, g2]; simp
  generalize cr a1 a2 b1 b2 x y = u at *
  generalize cr b1 b2 c1 c2 x y = v at *
  generalize cr c1 c2 a1 a2 x y = w at *
  intro g
  rcases g with ⟨g1, g2, g3⟩ | ⟨g1, g2, g3⟩
  · by_cases s : y < a2
    · have a := pp g2 (show 0 < a2 - y by omega); have b := pp g3 (show 0 < b2 - y by omega); have c := pp g1 (show 0 < c2 - y by omega); omega
    · have a := pm (Int.le_of_lt g2) (show a2 - y ≤ 0 by omega); have b := pm (Int.le_of_lt g3) (show b2 - y ≤ 0 by omega); have c := pm (Int.le_of_lt g1) (show c2 - y ≤ 0 by omega)
      rcases Int.lt_or_eq_of_le (show a2 - y ≤ 0 by omega) with q | q
      · have := pn g2 q; omega
      · rcases Int.lt_or_eq_of_le (show b2 - y ≤ 0 by omega) with r | r
        · have := pn g3 r; omega
        · have := e0 (by omega) (by omega); omega
  · by_cases s : y < a2
    · have a := np g2 (show 0 < a2 - y by omega); have b := np g3 (show 0 < b2 - y by omega); have c := np g1 (show 0 < c2 - y by omega); omega
    · have a := mm9 (Int.le_of_lt g2) (show a2 - y ≤ 0 by omega); have b := mm9 (Int.le_of_lt g3) (show b2 - y ≤ 0 by omega); have c := mm9 (Int.le_of_lt g1) (show c2 - y ≤ 0 by omega)
      rcases Int.lt_or_eq_of_le (show a2 - y ≤ 0 by omega) with q | q
      · have := Int.mul_pos_of_neg_of_neg g2 q; omega
      · rcases Int.lt_or_eq_of_le (show b2 - y ≤ 0 by omega) with r | r
        · have := Int.mul_pos_of_neg_of_neg g3 r; omega
        · have := e0 (by omega) (by omega); omega
/-- off the edges: an odd number of edges is crossed just inside -/
theorem tri_p {a1 a2 b1 b2 c1 c2 x y : Int} (n1 : ¬ onS a1 a2 b1 b2 x y) (n2 : ¬ onS b1 b2 c1 c2 x y) (n3 : ¬ onS c1 c2 a1 a2 x y) :
    ((tg2 a1 a2 b1 b2 x y ↔ ¬ tg2 b1 b2 c1 c2 x y) ↔ ¬ tg2 c1 c2 a1 a2 x y) ↔ st3 (cr a1 a2 b1 b2 x y) (cr b1 b2 c1 c2 x y) (cr c1 c2 a1 a2 x y) := by
  by_cases s1 : y < a2 ↔ y < b2
  · by_cases s2 : y < b2 ↔ y < c2
    · have := tri_n (a1 := a1) (b1 := b1) (c1 := c1) (x := x) s1 s2
      have t1 : ¬ tg2 a1 a2 b1 b2 x y := fun h => by unfold tg2 at h; omega
      have t2 : ¬ tg2 b1 b2 c1 c2 x y := fun h => by unfold tg2 at h; omega
      have t3 : ¬ tg2 c1 c2 a1 a2 x y := fun h => by unfold tg2 at h; omega
      simp only [t1, t2, t3, this]; decide
    · have h := tri_a (a1 := c1) (a2 := c2) (b1 := a1) (b2 := a2) (c1 := b1) (c2 := b2) (x := x) (y := y) (by omega) s1 n3 n1 n2
      have e : st3 (cr c1 c2 a1 a2 x y) (cr a1 a2 b1 b2 x y) (cr b1 b2 c1 c2 x y) ↔ st3 (cr a1 a2 b1 b2 x y) (cr b1 b2 c1 c2 x y) (cr c1 c2 a1 a2 x y) := by unfold st3; omega
      rw [← e, ← h.2]
      have t1 := h.1
      by_cases p : tg2 b1 b2 c1 c2 x y <;> by_cases q : tg2 c1 c2 a1 a2 x y <;> simp [t1, p, q]
  · by_cases s2 : y < b2 ↔ y < c2
    · have h := tri_a (a1 := a1) (a2 := a2) (b1 := b1) (b2 := b2) (c1 := c1) (c2 := c2) (x := x) (y := y) (by omega) s2 n1 n2 n3
      rw [← h.2]
      have t1 := h.1
      by_cases p : tg2 a1 a2 b1 b2 x y <;> by_cases q : tg2 c1 c2 a1 a2 x y <;> simp [t1, p, q]
    · have h := tri_a (a1 := b1) (a2 := b2) (b1 := c1) (b2 := c2) (c1 := a1) (c2 := a2) (x := x) (y := y) (by omega) (by omega) n2 n3 n1
      have e : st3 (cr b1 b2 c1 c2 x y) (cr c1 c2 a1 a2 x y) (cr a1 a2 b1 b2 x y) ↔ st3 (cr a1 a2 b1 b2 x y) (cr b1 b2 c1 c2 x y) (cr c1 c2 a1 a2 x y) := by unfold st3; omega
      rw [← e, ← h.2]
      have t1 := h.1
      by_cases p : tg2 a1 a2 b1 b2 x y <;> by_cases q : tg2 b1 b2 c1 c2 x y <;> simp [t1, p, q]
theorem cr_sum (a1 a2 b1 b2 c1 c2 x y : Int) : cr a1 a2 b1 b2 x y + cr b1 b2 c1 c2 x y + cr c1 c2 a1 a2 x y = cr a1 a2 b1 b2 c1 c2 := by
  unfold cr
  simp only [Int.sub_mul, Int.mul_sub, Int.mul_comm]
  omega
/-- the reference's triangle: on an edge, or all on one side -/
theorem wtM_iff {a1 a2 b1 b2 c1 c2 x y : Int} : wtM a1 a2 b1 b2 c1 c2 x y ↔ (onS a1 a2 b1 b2 x y ∨ onS b1 b2 c1 c2 x y ∨ onS c1 c2 a1 a2 x y) ∨ st3 (cr a1 a2 b1 b2 x y) (cr b1 b2 c1 c2 x y) (cr c1 c2 a1 a2 x y) := by
  have hs := cr_sum a1 a2 b1 b2 c1 c2 x y
  unfold wtM
  constructor
  · intro h
    rcases h with ⟨_, h⟩ | ⟨h0, h⟩
    · exact Or.inl h
    · by_cases e1 : cr a1 a2 b1 b2 x y = 0
      · exact Or.inl (Or.inl (on_bal (c1 := c1) (c2 := c2) e1 (by omega)))
      · by_cases e2 : cr b1 b2 c1 c2 x y = 0
        · exact Or.inl (Or.inr (Or.inl (on_bal (c1 := a1) (c2 := a2) e2 (by omega))))
        · by_cases e3 : cr c1 c2 a1 a2 x y = 0
          · exact Or.inl (Or.inr (Or.inr (on_bal (c1 := b1) (c2 := b2) e3 (by omega))))
          · right; unfold st3; omega
  · intro h
    by_cases d0 : cr a1 a2 b1 b2 c1 c2 = 0
    · rcases h with h | h
      · exact Or.inl ⟨d0, h⟩
      · unfold st3 at h; omega
    · refine Or.inr ⟨d0, ?_⟩
      have on1 : ∀ {p1 p2 q1 q2 r1 r2 : Int}, onS p1 p2 q1 q2 x y → cr p1 p2 q1 q2 r1 r2 ≠ 0 → cr p1 p2 q1 q2 x y + cr q1 q2 r1 r2 x y + cr r1 r2 p1 p2 x y = cr p1 p2 q1 q2 r1 r2 → (0 ≤ cr q1 q2 r1 r2 x y ∧ 0 ≤ cr r1 r2 p1 p2 x y) ∨ (cr q1 q2 r1 r2 x y ≤ 0 ∧ cr r1 r2 p1 p2 x y ≤ 0) := by
        intro p1 p2 q1 q2 r1 r2 g gd gs
        have i1 := bary (p1 - x) (p2 - y) (q1 - x) (q2 - y) (r1 - x) (r2 - y)
        have i2 := barx (p1 - x) (p2 - y) (q1 - x) (q2 - y) (r1 - x) (r2 - y)
        rw [← cr_rel, ← cr_rel, ← cr_rel] at i1 i2
        obtain ⟨g0, g1, g2, g3, g4⟩ := g
        rw [g0, Int.zero_mul, Int.add_zero] at i1 i2
        have hd : p1 = q1 → p2 = q2 → cr p1 p2 q1 q2 r1 r2 = 0 := fun e1 e2 => by unfold cr; rw [e1, e2]; simp
        generalize cr q1 q2 r1 r2 x y = v at *
        generalize cr r1 r2 p1 p2 x y = w at *
        apply Classical.byContradiction
        intro hn
        have hvw : (0 < v ∧ w < 0) ∨ (v < 0 ∧ 0 < w) := by omega
        have q2' : ∀ p q : Int, v * p + w * q = 0 → ((p ≤ 0 ∧ 0 ≤ q) ∨ (0 ≤ p ∧ q ≤ 0)) → p = 0 ∧ q = 0 := by
          intro p q e hp
          rcases hvw with hv | hv
          · rcases hp with hp | hp
            · have a := pm (Int.le_of_lt hv.1) hp.1; have b := mp (Int.le_of_lt hv.2) hp.2
              have z1 : p = 0 := Classical.byContradiction fun z => by have := pn hv.1 (show p < 0 by omega); omega
              have z2 : q = 0 := Classical.byContradiction fun z => by have := np hv.2 (show 0 < q by omega); omega
              exact ⟨z1, z2⟩
            · have a := pz (Int.le_of_lt hv.1) hp.1; have b := mm9 (Int.le_of_lt hv.2) hp.2
              have z1 : p = 0 := Classical.byContradiction fun z => by have := pp hv.1 (show 0 < p by omega); omega
              have z2 : q = 0 := Classical.byContradiction fun z => by have := Int.mul_pos_of_neg_of_neg hv.2 (show q < 0 by omega); omega
              exact ⟨z1, z2⟩
          · rcases hp with hp | hp
            · have a := mm9 (Int.le_of_lt hv.1) hp.1; have b := pz (Int.le_of_lt hv.2) hp.2
              have z1 : p = 0 := Classical.byContradiction fun z => by have := Int.mul_pos_of_neg_of_neg hv.1 (show p < 0 by omega); omega
              have z2 : q = 0 := Classical.byContradiction fun z => by have := pp hv.2 (show 0 < q by omega); omega
              exact ⟨z1, z2⟩
            · have a := mp (Int.le_of_lt hv.1) hp.1; have b := pm (Int.le_of_lt hv.2) hp.2
              have z1 : p = 0 := Classical.byContradiction fun z => by have := np hv.1 (show 0 < p by omega); omega
              have z2 : q = 0 := Classical.byContradiction fun z => by have := pn hv.2 (show q < 0 by omega); omega
              exact ⟨z1, z2⟩
        have y1 := q2' _ _ i1 (by omega)
        have x1 := q2' _ _ i2 (by omega)
        exact gd (hd (by omega) (by omega))
      rcases h with (h | h | h) | h
      · have k := on1 h d0 hs; have := h.1; omega
      · have e : cr b1 b2 c1 c2 a1 a2 = cr a1 a2 b1 b2 c1 c2 := by have := cr_sum b1 b2 c1 c2 a1 a2 x y; omega
        have k := on1 (r1 := a1) (r2 := a2) h (by rw [e]; exact d0) (by rw [e]; omega); have := h.1; omega
      · have e : cr c1 c2 a1 a2 b1 b2 = cr a1 a2 b1 b2 c1 c2 := by have := cr_sum c1 c2 a1 a2 b1 b2 x y; omega
        have k := on1 (r1 := b1) (r2 := b2) h (by rw [e]; exact d0) (by rw [e]; omega); have := h.1; omega
      · unfold st3 at h; omega
/-- the class's triangle is the reference's -/
theorem wtR_iff {a1 a2 b1 b2 c1 c2 : Int32} {x y : Int} : wtR a1 a2 b1 b2 c1 c2 x y ↔ wtM a1.toInt a2.toInt b1.toInt b2.toInt c1.toInt c2.toInt x y := by
  rw [wtM_iff]
  have o : (∃ i, i < 3 ∧ eOn 3 (tr3 a1 b1 c1) (tr3 a2 b2 c2) i x y) ↔ (onS a1.toInt a2.toInt b1.toInt b2.toInt x y ∨ onS b1.toInt b2.toInt c1.toInt c2.toInt x y ∨ onS c1.toInt c2.toInt a1.toInt a2.toInt x y) := by
    constructor
    · rintro ⟨i, hi, h⟩
      rcases (show i = 0 ∨ i = 1 ∨ i = 2 by omega) with rfl | rfl | rfl
      · exact Or.inl h
      · exact Or.inr (Or.inl h)
      · exact Or.inr (Or.inr h)
    · rintro (h | h | h)
      · exact ⟨0, by omega, h⟩
      · exact ⟨1, by omega, h⟩
      · exact ⟨2, by omega, h⟩
  unfold wtR
  by_cases e : ∃ i, i < 3 ∧ eOn 3 (tr3 a1 b1 c1) (tr3 a2 b2 c2) i x y
  · rw [whr_2 e]; exact ⟨fun _ => Or.inl (o.mp e), fun _ => by decide⟩
  · rw [whr_n e]
    have n := fun h => e (o.mpr h)
    have t := tri_p (fun h => n (Or.inl h)) (fun h => n (Or.inr (Or.inl h))) (fun h => n (Or.inr (Or.inr h)))
    have p3 : par2 (eTg 3 (tr3 a1 b1 c1) (tr3 a2 b2 c2) x y) 3 ↔ st3 (cr a1.toInt a2.toInt b1.toInt b2.toInt x y) (cr b1.toInt b2.toInt c1.toInt c2.toInt x y) (cr c1.toInt c2.toInt a1.toInt a2.toInt x y) := by
      rw [← t]
      have g0 : eTg 3 (tr3 a1 b1 c1) (tr3 a2 b2 c2) x y 0 ↔ tg2 a1.toInt a2.toInt b1.toInt b2.toInt x y := Iff.rfl
      have g1 : eTg 3 (tr3 a1 b1 c1) (tr3 a2 b2 c2) x y 1 ↔ tg2 b1.toInt b2.toInt c1.toInt c2.toInt x y := Iff.rfl
      have g2 : eTg 3 (tr3 a1 b1 c1) (tr3 a2 b2 c2) x y 2 ↔ tg2 c1.toInt c2.toInt a1.toInt a2.toInt x y := Iff.rfl
      have z : ¬ par2 (eTg 3 (tr3 a1 b1 c1) (tr3 a2 b2 c2) x y) 0 := fun h => h
      by_cases q0 : tg2 a1.toInt a2.toInt b1.toInt b2.toInt x y <;> by_cases q1 : tg2 b1.toInt b2.toInt c1.toInt c2.toInt x y <;> by_cases q2 : tg2 c1.toInt c2.toInt a1.toInt a2.toInt x y <;>
        (first | rw [par2_y (i := 2) (g2.mpr q2)] | rw [par2_n (i := 2) (fun h => q2 (g2.mp h))]) <;> (first | rw [par2_y (i := 1) (g1.mpr q1)] | rw [par2_n (i := 1) (fun h => q1 (g1.mp h))]) <;> (first | rw [par2_y (i := 0) (g0.mpr q0)] | rw [par2_n (i := 0) (fun h => q0 (g0.mp h))]) <;> simp [q0, q1, q2, z]
    constructor
    · intro h
      refine Or.inr (p3.mp (Classical.byContradiction fun q => h ?_))
      rw [zp_f q]; decide
    · rintro (h | h)
      · exact absurd h n
      · rw [zp_t (p3.mpr h)]; decide
end
