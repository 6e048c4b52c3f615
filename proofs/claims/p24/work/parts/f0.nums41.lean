section
/-! a place in a triangle: the class's way and the reference's -/
theorem cr_rel (a1 a2 b1 b2 x y : Int) : cr a1 a2 b1 b2 x y = (a1 - x) * (b2 - y) - (b1 - x) * (a2 - y) := by
  unfold cr
  simp only [Int.sub_mul, Int.mul_sub, Int.mul_comm]
  omega
theorem bary (p q r s t z : Int) : (r * z - t * s) * q + (t * q - p * z) * s + (p * s - r * q) * z = 0 := by
  simp only [Int.sub_mul, Int.mul_sub, Int.mul_assoc, Int.mul_comm, Int.mul_left_comm]
  omega
theorem barx (p q r s t z : Int) : (r * z - t * s) * p + (t * q - p * z) * r + (p * s - r * q) * t = 0 := by
  simp only [Int.sub_mul, Int.mul_sub, Int.mul_assoc, Int.mul_comm, Int.mul_left_comm]
  omega
theorem pp {a b : Int} (ha : 0 < a) (hb : 0 < b) : 0 < a * b := Int.mul_pos ha hb
theorem pn {a b : Int} (ha : 0 < a) (hb : b < 0) : a * b < 0 := Int.mul_neg_of_pos_of_neg ha hb
theorem np {a b : Int} (ha : a < 0) (hb : 0 < b) : a * b < 0 := Int.mul_neg_of_neg_of_pos ha hb
theorem pz {a b : Int} (ha : 0 ≤ a) (hb : 0 ≤ b) : 0 ≤ a * b := Int.mul_nonneg ha hb
theorem pm {a b : Int} (ha : 0 ≤ a) (hb : b ≤ 0) : a * b ≤ 0 := Int.mul_nonpos_of_nonneg_of_nonpos ha hb
theorem mp {a b : Int} (ha : a ≤ 0) (hb : 0 ≤ b) : a * b ≤ 0 := Int.mul_nonpos_of_nonpos_of_nonneg ha hb
theorem mm9 {a b : Int} (ha : a ≤ 0) (hb : b ≤ 0) : 0 ≤ a * b := Int.mul_nonneg_of_nonpos_of_nonpos ha hb
/-- weights of one sign that balance: not both on one side -/
theorem bal2 {v w p q : Int} (hs : (0 ≤ v ∧ 0 ≤ w ∧ 0 < v + w) ∨ (v ≤ 0 ∧ w ≤ 0 ∧ v + w < 0)) (h : v * p + w * q = 0) : ¬ (0 < p ∧ 0 < q) ∧ ¬ (p < 0 ∧ q < 0) := by
  rcases hs with ⟨h1, h2, h3⟩ | ⟨h1, h2, h3⟩
  · refine ⟨fun g => ?_, fun g => ?_⟩
    · have a := pz h1 (Int.le_of_lt g.1); have b := pz h2 (Int.le_of_lt g.2)
      rcases Int.lt_or_eq_of_le h1 with c | c
      · have := pp c g.1; omega
      · have := pp (show 0 < w by omega) g.2; omega
    · have a := pm h1 (Int.le_of_lt g.1); have b := pm h2 (Int.le_of_lt g.2)
      rcases Int.lt_or_eq_of_le h1 with c | c
      · have := pn c g.1; omega
      · have := pn (show 0 < w by omega) g.2; omega
  · refine ⟨fun g => ?_, fun g => ?_⟩
    · have a := mp h1 (Int.le_of_lt g.1); have b := mp h2 (Int.le_of_lt g.2)
      rcases Int.lt_or_eq_of_le h1 with c | c
      · have := np c g.1; omega
      · have := np (show w < 0 by omega) g.2; omega
    · have a := mm9 h1 (Int.le_of_lt g.1); have b := mm9 h2 (Int.le_of_lt g.2)
      rcases Int.lt_or_eq_of_le h1 with c | c
      · have := Int.mul_pos_of_neg_of_neg c g.1; omega
      · have := Int.mul_pos_of_neg_of_neg (show w < 0 by omega) g.2; omega
/-- on a triangle's edge where one weight is 0 and the others of one sign -/
theorem on_bal {a1 a2 b1 b2 c1 c2 x y : Int} (h0 : cr a1 a2 b1 b2 x y = 0) (hs : (0 ≤ cr b1 b2 c1 c2 x y ∧ 0 ≤ cr c1 c2 a1 a2 x y ∧ 0 < cr b1 b2 c1 c2 x y + cr c1 c2 a1 a2 x y) ∨ (cr b1 b2 c1 c2 x y ≤ 0 ∧ cr c1 c2 a1 a2 x y ≤ 0 ∧ cr b1 b2 c1 c2 x y + cr c1 c2 a1 a2 x y < 0)) : onS a1 a2 b1 b2 x y := by
  have i1 := bary (a1 - x) (a2 - y) (b1 - x) (b2 - y) (c1 - x) (c2 - y)
  have i2 := barx (a1 - x) (a2 - y) (b1 - x) (b2 - y) (c1 - x) (c2 - y)
  rw [← cr_rel, ← cr_rel, ← cr_rel] at i1 i2
  rw [h0, Int.zero_mul, Int.add_zero] at i1 i2
  have g1 := bal2 hs i1; have g2 := bal2 hs i2
  unfold onS
  refine ⟨h0, ?_, ?_, ?_, ?_⟩ <;> omega
def tg2 (a1 a2 b1 b2 x y : Int) : Prop := (y < a2 ↔ ¬ y < b2) ∧ ((a2 < b2 ∧ 0 < cr a1 a2 b1 b2 x y) ∨ (¬ a2 < b2 ∧ cr a1 a2 b1 b2 x y < 0))
/-- inside, off the edges: all on one side -/
def st3 (u v w : Int) : Prop := (0 < u ∧ 0 < v ∧ 0 < w) ∨ (u < 0 ∧ v < 0 ∧ w < 0)
theorem tg_a {a2 b2 u y : Int} (h1 : y < a2 ↔ ¬ y < b2) : ((y < a2 ↔ ¬ y < b2) ∧ ((a2 < b2 ∧ 0 < u) ∨ (¬ a2 < b2 ∧ u < 0))) ↔ ((y < a2 ∧ u < 0) ∨ (¬ y < a2 ∧ 0 < u)) := by
  by_cases s : y < a2
  · have hb : ¬ y < b2 := h1.mp s
    exact ⟨fun h => Or.inl ⟨s, by omega⟩, fun h => ⟨h1, Or.inr ⟨by omega, by omega⟩⟩⟩
  · have hb : y < b2 := Classical.byContradiction fun q => s (h1.mpr q)
    exact ⟨fun h => Or.inr ⟨s, by omega⟩, fun h => ⟨h1, Or.inl ⟨by omega, by omega⟩⟩⟩
theorem tg_c {a2 c2 w y : Int} (h1 : y < c2 ↔ ¬ y < a2) : ((y < c2 ↔ ¬ y < a2) ∧ ((c2 < a2 ∧ 0 < w) ∨ (¬ c2 < a2 ∧ w < 0))) ↔ ((y < a2 ∧ 0 < w) ∨ (¬ y < a2 ∧ w < 0)) := by
  by_cases s : y < a2
  · have hb : ¬ y < c2 := fun q => h1.mp q s
    exact ⟨fun h => Or.inl ⟨s, by omega⟩, fun h => ⟨h1, Or.inl ⟨by omega, by omega⟩⟩⟩
  · have hb : y < c2 := h1.mpr s
    exact ⟨fun h => Or.inr ⟨s, by omega⟩, fun h => ⟨h1, Or.inr ⟨by omega, by omega⟩⟩⟩
theorem tri_k {a2 b2 c2 y u v w : Int} (h1 : y < a2 ↔ ¬ y < b2) (h2 : y < b2 ↔ y < c2) (i1 : v * (a2 - y) + w * (b2 - y) + u * (c2 - y) = 0) (nz : v = 0 → ¬ ((0 < u ∧ 0 < w) ∨ (u < 0 ∧ w < 0))) : (0 < u ∧ 0 < w → 0 < v) ∧ (u < 0 ∧ w < 0 → v < 0) := by
  refine ⟨fun g => ?_, fun g => ?_⟩
  · have vz : v ≠ 0 := fun h => nz h (Or.inl g)
    by_cases s : y < a2
    · have e1 := pm (Int.le_of_lt g.2) (show b2 - y ≤ 0 by omega); have e2 := pm (Int.le_of_lt g.1) (show c2 - y ≤ 0 by omega)
      rcases Int.lt_or_gt_of_ne vz with q | q
      · have := np q (show 0 < a2 - y by omega); omega
      · exact q
    · have e1 := pp g.2 (show 0 < b2 - y by omega); have e2 := pp g.1 (show 0 < c2 - y by omega)
      rcases Int.lt_or_gt_of_ne vz with q | q
      · have := mm9 (Int.le_of_lt q) (show a2 - y ≤ 0 by omega); omega
      · exact q
  · have vz : v ≠ 0 := fun h => nz h (Or.inr g)
    by_cases s : y < a2
    · have e1 := mm9 (Int.le_of_lt g.2) (show b2 - y ≤ 0 by omega); have e2 := mm9 (Int.le_of_lt g.1) (show c2 - y ≤ 0 by omega)
      rcases Int.lt_or_gt_of_ne vz with q | q
      · exact q
      · have := pp q (show 0 < a2 - y by omega); omega
    · have e1 := np g.2 (show 0 < b2 - y by omega); have e2 := np g.1 (show 0 < c2 - y by omega)
      rcases Int.lt_or_gt_of_ne vz with q | q
      · exact q
      · have := pm (Int.le_of_lt q) (show a2 - y ≤ 0 by omega); omega
theorem tri_s {s : Prop} {u v w : Int} (u0 : u ≠ 0) (w0 : w ≠ 0) (k1 : 0 < u ∧ 0 < w → 0 < v) (k2 : u < 0 ∧ w < 0 → v < 0) : (((s ∧ u < 0) ∨ (¬ s ∧ 0 < u)) ↔ ¬ ((s ∧ 0 < w) ∨ (¬ s ∧ w < 0))) ↔ st3 u v w := by
  unfold st3
  rcases Int.lt_or_gt_of_ne u0 with p1 | p1 <;> rcases Int.lt_or_gt_of_ne w0 with p2 | p2
  · have v0 := k2 ⟨p1, p2⟩
    have a1 : ¬ 0 < u := by omega
    have a2 : ¬ 0 < w := by omega
    simp [p1, p2, v0, a1, a2]
  · have a1 : ¬ 0 < u := by omega
    have a2 : ¬ w < 0 := by omega
    simp [p1, p2, a1, a2]
  · have a1 : ¬ u < 0 := by omega
    have a2 : ¬ 0 < w := by omega
    simp [p1, p2, a1, a2]
  · have v0 := k1 ⟨p1, p2⟩
    have a1 : ¬ u < 0 := by omega
    have a2 : ¬ w < 0 := by omega
    simp [p1, p2, v0, a1, a2]
/-- corner a lies on another side of the place's height than b and c -/
theorem tri_a {a1 a2 b1 b2 c1 c2 x y : Int} (h1 : y < a2 ↔ ¬ y < b2) (h2 : y < b2 ↔ y < c2) (n1 : ¬ onS a1 a2 b1 b2 x y) (n2 : ¬ onS b1 b2 c1 c2 x y) (n3 : ¬ onS c1 c2 a1 a2 x y) :
    ¬ tg2 b1 b2 c1 c2 x y ∧ ((tg2 a1 a2 b1 b2 x y ↔ ¬ tg2 c1 c2 a1 a2 x y) ↔ st3 (cr a1 a2 b1 b2 x y) (cr b1 b2 c1 c2 x y) (cr c1 c2 a1 a2 x y)) := by
  have i1 := bary (a1 - x) (a2 - y) (b1 - x) (b2 - y) (c1 - x) (c2 - y)
  rw [← cr_rel, ← cr_rel, ← cr_rel] at i1
  have h3 : y < c2 ↔ ¬ y < a2 := by omega
  have u0 : cr a1 a2 b1 b2 x y ≠ 0 := fun h => n1 (on_of_mid h1 h)
  have w0 : cr c1 c2 a1 a2 x y ≠ 0 := fun h => n3 (on_of_mid h3 h)
  have nz : cr b1 b2 c1 c2 x y = 0 → ¬ ((0 < cr a1 a2 b1 b2 x y ∧ 0 < cr c1 c2 a1 a2 x y) ∨ (cr a1 a2 b1 b2 x y < 0 ∧ cr c1 c2 a1 a2 x y < 0)) := fun h g => n2 (on_bal (c1 := a1) (c2 := a2) h (by omega))
  have key := tri_k h1 h2 i1 nz
  refine ⟨fun h => by have := h.1; omega, ?_⟩
  unfold tg2
  rw [tg_a h1, tg_c h3]
  exact tri_s u0 w0 key.1 key.2
theorem tri_n {a1 a2 b1 b2 c1 c2 x y : Int} (h1 : y < a2 ↔ y < b2) (h2 : y < b2 ↔ y < c2) : ¬ st3 (cr a1 a2 b1 b2 x y) (cr b1 b2 c1 c2 x y) (cr c1 c2 a1 a2 x y) := by
  have i1 := bary (a1 - x) (a2 - y) (b1 - x) (b2 - y) (c1 - x) (c2 - y)
  rw [← cr_rel, ← cr_rel, ← cr_rel] at i1
  have e0 : a2 = y → b2 = y → cr a1 a2 b1 b2 x y = 0 := fun g1 g2 => by rw [cr_rel, g1, g2]; simp
  generalize cr a1 a2 b1 b2 x y = u at *
  generalize cr b1 b2 c1 c2 x y = v at *
  generalize cr c1 c2 a1 a2 x y = w at *
  intro g
  rcases g with ⟨g1, g2, g3⟩ | ⟨g1, g2, g3⟩
  · by_cases s : y < a2
    · have a := pp g2 (show 0 < a2 - y by omega); have b := pp g3 (show 0 < b2 - y by omega); have c := pp g1 (show 0 < c2 - y by omega); omega
    · have a := pm (Int.le_of_lt g2) (show a2 - y ≤ 0 by omega); have b := pm (Int.le_of_lt g3) (show b2 - y ≤ 0 by omega); have c := pm (Int.le_of_lt g1) (show c2 - y ≤ 0 by omega)
      rcases Int.lt_or_eq_of_le (show a2 - y ≤ 0 by omega) with q | q
      · have := pn g2 q; omega
      · rcases Int.lt_or_eq_of_le (show b2 - y ≤ 0 by omega) with r | r
        · have := pn g3 r; omega
        · have := e0 (by omega) (by omega); omega
  · by_cases s : y < a2
    · have a := np g2 (show 0 < a2 - y by omega); have b := np g3 (show 0 < b2 - y by omega); have c := np g1 (show 0 < c2 - y by omega); omega
    · have a := mm9 (Int.le_of_lt g2) (show a2 - y ≤ 0 by omega); have b := mm9 (Int.le_of_lt g3) (show b2 - y ≤ 0 by omega); have c := mm9 (Int.le_of_lt g1) (show c2 - y ≤ 0 by omega)
      rcases Int.lt_or_eq_of_le (show a2 - y ≤ 0 by omega) with q | q
      · have := Int.mul_pos_of_neg_of_neg g2 q; omega
      · rcases Int.lt_or_eq_of_le (show b2 - y ≤ 0 by omega) with r | r
        · have := Int.mul_pos_of_neg_of_neg g3 r; omega
        · have := e0 (by omega) (by omega); omega
/-- off the edges: an odd number of edges is crossed just inside -/
theorem tri_p {a1 a2 b1 b2 c1 c2 x y : Int} (n1 : ¬ onS a1 a2 b1 b2 x y) (n2 : ¬ onS b1 b2 c1 c2 x y) (n3 : ¬ onS c1 c2 a1 a2 x y) :
    ((tg2 a1 a2 b1 b2 x y ↔ ¬ tg2 b1 b2 c1 c2 x y) ↔ ¬ tg2 c1 c2 a1 a2 x y) ↔ st3 (cr a1 a2 b1 b2 x y) (cr b1 b2 c1 c2 x y) (cr c1 c2 a1 a2 x y) := by
  by_cases s1 : y < a2 ↔ y < b2
  · by_cases s2 : y < b2 ↔ y < c2
    · have := tri_n (a1 := a1) (b1 := b1) (c1 := c1) (x := x) s1 s2
      have t1 : ¬ tg2 a1 a2 b1 b2 x y := fun h => by unfold tg2 at h; omega
      have t2 : ¬ tg2 b1 b2 c1 c2 x y := fun h => by unfold tg2 at h; omega
      have t3 : ¬ tg2 c1 c2 a1 a2 x y := fun h => by unfold tg2 at h; omega
      simp only [t1, t2, t3, this]; decide
    · have h := tri_a (a1 := c1) (a2 := c2) (b1 := a1) (b2 := a2) (c1 := b1) (c2 := b2) (x := x) (y := y) (by omega) s1 n3 n1 n2
      have e : st3 (cr c1 c2 a1 a2 x y) (cr a1 a2 b1 b2 x y) (cr b1 b2 c1 c2 x y) ↔ st3 (cr a1 a2 b1 b2 x y) (cr b1 b2 c1 c2 x y) (cr c1 c2 a1 a2 x y) := by unfold st3; omega
      rw [← e, ← h.2]
      have t1 := h.1
      by_cases p : tg2 b1 b2 c1 c2 x y <;> by_cases q : tg2 c1 c2 a1 a2 x y <;> simp [t1, p, q]
  · by_cases s2 : y < b2 ↔ y < c2
    · have h := tri_a (a1 := a1) (a2 := a2) (b1 := b1) (b2 := b2) (c1 := c1) (c2 := c2) (x := x) (y := y) (by omega) s2 n1 n2 n3
      rw [← h.2]
      have t1 := h.1
      by_cases p : tg2 a1 a2 b1 b2 x y <;> by_cases q : tg2 c1 c2 a1 a2 x y <;> simp [t1, p, q]
    · have h := tri_a (a1 := b1) (a2 := b2) (b1 := c1) (b2 := c2) (c1 := a1) (c2 := a2) (x := x) (y := y) (by omega) (by omega) n2 n3 n1
      have e : st3 (cr b1 b2 c1 c2 x y) (cr c1 c2 a1 a2 x y) (cr a1 a2 b1 b2 x y) ↔ st3 (cr a1 a2 b1 b2 x y) (cr b1 b2 c1 c2 x y) (cr c1 c2 a1 a2 x y) := by unfold st3; omega
      rw [← e, ← h.2]
      have t1 := h.1
      by_cases p : tg2 a1 a2 b1 b2 x y <;> by_cases q : tg2 b1 b2 c1 c2 x y <;> simp [t1, p, q]
theorem cr_sum (a1 a2 b1 b2 c1 c2 x y : Int) : cr a1 a2 b1 b2 x y + cr b1 b2 c1 c2 x y + cr c1 c2 a1 a2 x y = cr a1 a2 b1 b2 c1 c2 := by
  unfold cr
  simp only [Int.sub_mul, Int.mul_sub, Int.mul_comm]
  omega
/-- the reference's triangle: on an edge, or all on one side -/
theorem wtM_iff {a1 a2 b1 b2 c1 c2 x y : Int} : wtM a1 a2 b1 b2 c1 c2 x y ↔ (onS a1 a2 b1 b2 x y ∨ onS b1 b2 c1 c2 x y ∨ onS c1 c2 a1 a2 x y) ∨ st3 (cr a1 a2 b1 b2 x y) (cr b1 b2 c1 c2 x y) (cr c1 c2 a1 a2 x y) := by
  have hs := cr_sum a1 a2 b1 b2 c1 c2 x y
  unfold wtM
  constructor
  · intro h
    rcases h with ⟨_, h⟩ | ⟨h0, h⟩
    · exact Or.inl h
    · by_cases e1 : cr a1 a2 b1 b2 x y = 0
      · exact Or.inl (Or.inl (on_bal (c1 := c1) (c2 := c2) e1 (by omega)))
      · by_cases e2 : cr b1 b2 c1 c2 x y = 0
        · exact Or.inl (Or.inr (Or.inl (on_bal (c1 := a1) (c2 := a2) e2 (by omega))))
        · by_cases e3 : cr c1 c2 a1 a2 x y = 0
          · exact Or.inl (Or.inr (Or.inr (on_bal (c1 := b1) (c2 := b2) e3 (by omega))))
          · right; unfold st3; omega
  · intro h
    by_cases d0 : cr a1 a2 b1 b2 c1 c2 = 0
    · rcases h with h | h
      · exact Or.inl ⟨d0, h⟩
      · unfold st3 at h; omega
    · refine Or.inr ⟨d0, ?_⟩
      have on1 : ∀ {p1 p2 q1 q2 r1 r2 : Int}, onS p1 p2 q1 q2 x y → cr p1 p2 q1 q2 r1 r2 ≠ 0 → cr p1 p2 q1 q2 x y + cr q1 q2 r1 r2 x y + cr r1 r2 p1 p2 x y = cr p1 p2 q1 q2 r1 r2 → (0 ≤ cr q1 q2 r1 r2 x y ∧ 0 ≤ cr r1 r2 p1 p2 x y) ∨ (cr q1 q2 r1 r2 x y ≤ 0 ∧ cr r1 r2 p1 p2 x y ≤ 0) := by
        intro p1 p2 q1 q2 r1 r2 g gd gs
        have i1 := bary (p1 - x) (p2 - y) (q1 - x) (q2 - y) (r1 - x) (r2 - y)
        have i2 := barx (p1 - x) (p2 - y) (q1 - x) (q2 - y) (r1 - x) (r2 - y)
        rw [← cr_rel, ← cr_rel, ← cr_rel] at i1 i2
        obtain ⟨g0, g1, g2, g3, g4⟩ := g
        rw [g0, Int.zero_mul, Int.add_zero] at i1 i2
        have hd : p1 = q1 → p2 = q2 → cr p1 p2 q1 q2 r1 r2 = 0 := fun e1 e2 => by unfold cr; rw [e1, e2]; simp
        generalize cr q1 q2 r1 r2 x y = v at *
        generalize cr r1 r2 p1 p2 x y = w at *
        apply Classical.byContradiction
        intro hn
        have hvw : (0 < v ∧ w < 0) ∨ (v < 0 ∧ 0 < w) := by omega
        have q2' : ∀ p q : Int, v * p + w * q = 0 → ((p ≤ 0 ∧ 0 ≤ q) ∨ (0 ≤ p ∧ q ≤ 0)) → p = 0 ∧ q = 0 := by
          intro p q e hp
          rcases hvw with hv | hv
          · rcases hp with hp | hp
            · have a := pm (Int.le_of_lt hv.1) hp.1; have b := mp (Int.le_of_lt hv.2) hp.2
              have z1 : p = 0 := Classical.byContradiction fun z => by have := pn hv.1 (show p < 0 by omega); omega
              have z2 : q = 0 := Classical.byContradiction fun z => by have := np hv.2 (show 0 < q by omega); omega
              exact ⟨z1, z2⟩
            · have a := pz (Int.le_of_lt hv.1) hp.1; have b := mm9 (Int.le_of_lt hv.2) hp.2
              have z1 : p = 0 := Classical.byContradiction fun z => by have := pp hv.1 (show 0 < p by omega); omega
              have z2 : q = 0 := Classical.byContradiction fun z => by have := Int.mul_pos_of_neg_of_neg hv.2 (show q < 0 by omega); omega
              exact ⟨z1, z2⟩
          · rcases hp with hp | hp
            · have a := mm9 (Int.le_of_lt hv.1) hp.1; have b := pz (Int.le_of_lt hv.2) hp.2
              have z1 : p = 0 := Classical.byContradiction fun z => by have := Int.mul_pos_of_neg_of_neg hv.1 (show p < 0 by omega); omega
              have z2 : q = 0 := Classical.byContradiction fun z => by have := pp hv.2 (show 0 < q by omega); omega
              exact ⟨z1, z2⟩
            · have a := mp (Int.le_of_lt hv.1) hp.1; have b := pm (Int.le_of_lt hv.2) hp.2
              have z1 : p = 0 := Classical.byContradiction fun z => by have := np hv.1 (show 0 < p by omega); omega
              have z2 : q = 0 := Classical.byContradiction fun z => by have := pn hv.2 (show q < 0 by omega); omega
              exact ⟨z1, z2⟩
        have y1 := q2' _ _ i1 (by omega)
        have x1 := q2' _ _ i2 (by omega)
        exact gd (hd (by omega) (by omega))
      rcases h with (h | h | h) | h
      · have k := on1 h d0 hs; have := h.1; omega
      · have e : cr b1 b2 c1 c2 a1 a2 = cr a1 a2 b1 b2 c1 c2 := by have := cr_sum b1 b2 c1 c2 a1 a2 x y; omega
        have k := on1 (r1 := a1) (r2 := a2) h (by rw [e]; exact d0) (by rw [e]; omega); have := h.1; omega
      · have e : cr c1 c2 a1 a2 b1 b2 = cr a1 a2 b1 b2 c1 c2 := by have := cr_sum c1 c2 a1 a2 b1 b2 x y; omega
        have k := on1 (r1 := b1) (r2 := b2) h (by rw [e]; exact d0) (by rw [e]; omega); have := h.1; omega
      · unfold st3 at h; omega
/-- the class's triangle is the reference's -/
theorem wtR_iff {a1 a2 b1 b2 c1 c2 : Int32} {x y : Int} : wtR a1 a2 b1 b2 c1 c2 x y ↔ wtM a1.toInt a2.toInt b1.toInt b2.toInt c1.toInt c2.toInt x y := by
  rw [wtM_iff]
  have o : (∃ i, i < 3 ∧ eOn 3 (tr3 a1 b1 c1) (tr3 a2 b2 c2) i x y) ↔ (onS a1.toInt a2.toInt b1.toInt b2.toInt x y ∨ onS b1.toInt b2.toInt c1.toInt c2.toInt x y ∨ onS c1.toInt c2.toInt a1.toInt a2.toInt x y) := by
    constructor
    · rintro ⟨i, hi, h⟩
      rcases (show i = 0 ∨ i = 1 ∨ i = 2 by omega) with rfl | rfl | rfl
      · exact Or.inl h
      · exact Or.inr (Or.inl h)
      · exact Or.inr (Or.inr h)
    · rintro (h | h | h)
      · exact ⟨0, by omega, h⟩
      · exact ⟨1, by omega, h⟩
      · exact ⟨2, by omega, h⟩
  unfold wtR
  by_cases e : ∃ i, i < 3 ∧ eOn 3 (tr3 a1 b1 c1) (tr3 a2 b2 c2) i x y
  · rw [whr_2 e]; exact ⟨fun _ => Or.inl (o.mp e), fun _ => by decide⟩
  · rw [whr_n e]
    have n := fun h => e (o.mpr h)
    have t := tri_p (fun h => n (Or.inl h)) (fun h => n (Or.inr (Or.inl h))) (fun h => n (Or.inr (Or.inr h)))
    have p3 : par2 (eTg 3 (tr3 a1 b1 c1) (tr3 a2 b2 c2) x y) 3 ↔ st3 (cr a1.toInt a2.toInt b1.toInt b2.toInt x y) (cr b1.toInt b2.toInt c1.toInt c2.toInt x y) (cr c1.toInt c2.toInt a1.toInt a2.toInt x y) := by
      rw [← t]
      have g0 : eTg 3 (tr3 a1 b1 c1) (tr3 a2 b2 c2) x y 0 ↔ tg2 a1.toInt a2.toInt b1.toInt b2.toInt x y := Iff.rfl
      have g1 : eTg 3 (tr3 a1 b1 c1) (tr3 a2 b2 c2) x y 1 ↔ tg2 b1.toInt b2.toInt c1.toInt c2.toInt x y := Iff.rfl
      have g2 : eTg 3 (tr3 a1 b1 c1) (tr3 a2 b2 c2) x y 2 ↔ tg2 c1.toInt c2.toInt a1.toInt a2.toInt x y := Iff.rfl
      have z : ¬ par2 (eTg 3 (tr3 a1 b1 c1) (tr3 a2 b2 c2) x y) 0 := fun h => h
      by_cases q0 : tg2 a1.toInt a2.toInt b1.toInt b2.toInt x y <;> by_cases q1 : tg2 b1.toInt b2.toInt c1.toInt c2.toInt x y <;> by_cases q2 : tg2 c1.toInt c2.toInt a1.toInt a2.toInt x y <;>
        (first | rw [par2_y (i := 2) (g2.mpr q2)] | rw [par2_n (i := 2) (fun h => q2 (g2.mp h))]) <;> (first | rw [par2_y (i := 1) (g1.mpr q1)] | rw [par2_n (i := 1) (fun h => q1 (g1.mp h))]) <;> (first | rw [par2_y (i := 0) (g0.mpr q0)] | rw [par2_n (i := 0) (fun h => q0 (g0.mp h))]) <;> simp [q0, q1, q2, z]
    constructor
    · intro h
      refine Or.inr (p3.mp (Classical.byContradiction fun q => h ?_))
      rw [zp_f q]; decide
    · rintro (h | h)
      · exact absurd h n
      · rw [zp_t (p3.mpr h)]; decide
end
section
/-! a point's way: the class's words and the reference's -/
theorem par3 {p1 p2 q1 q2 e1 e2 : Int} (hp : p1 * e2 = p2 * e1) (hq : q1 * e2 = q2 * e1) (he : ¬ (e1 = 0 ∧ e2 = 0)) : p1 * q2 - p2 * q1 = 0 := by
  by_cases h1 : e1 = 0
  · have h2 : e2 ≠ 0 := fun h => he ⟨h1, h⟩
    rw [h1, Int.mul_zero] at hp hq
    have a := (Int.mul_eq_zero.mp hp).resolve_right h2
    have b := (Int.mul_eq_zero.mp hq).resolve_right h2
    rw [a, b]; simp
  · have k : (p1 * q2 - p2 * q1) * e1 = 0 := by
      have a : p1 * q2 * e1 = p1 * (q1 * e2) := by rw [hq, Int.mul_assoc]
      have b : p2 * q1 * e1 = p1 * (q1 * e2) := by rw [Int.mul_assoc, Int.mul_comm q1 e1, ← Int.mul_assoc, ← hp, Int.mul_assoc, Int.mul_comm e2 q1]
      rw [Int.sub_mul, a, b]; omega
    exact (Int.mul_eq_zero.mp k).resolve_right h1
theorem way_iff {a1 a2 b1 b2 c1 c2 d1 d2 : Int} (ho : onS c1 c2 d1 d2 a1 a2) : (¬ ldT a1 a2 b1 b2 c1 c2 ∧ ¬ ldT a1 a2 b1 b2 d1 d2) ↔ ((a1 = b1 ∧ a2 = b2) ∨ (c1 = d1 ∧ c2 = d2) ∨ ¬ (b1 - a1) * (d2 - c2) - (b2 - a2) * (d1 - c1) = 0 ∨ (¬ 0 < dt c1 c2 a1 a2 b1 b2 ∧ ¬ 0 < dt d1 d2 a1 a2 b1 b2)) := by
  have e1 : dt c1 c2 a1 a2 b1 b2 = nrT a1 a2 b1 b2 c1 c2 := by unfold dt nrT; simp only [Int.sub_mul, Int.mul_sub, Int.mul_comm]
  have e2 : dt d1 d2 a1 a2 b1 b2 = nrT a1 a2 b1 b2 d1 d2 := by unfold dt nrT; simp only [Int.sub_mul, Int.mul_sub, Int.mul_comm]
  rw [e1, e2]
  have h0 : (d1 - c1) * (a2 - c2) = (d2 - c2) * (a1 - c1) := by have := ho.1; unfold cr at this; omega
  have z1 : c1 = a1 → c2 = a2 → nrT a1 a2 b1 b2 c1 c2 = 0 := fun g1 g2 => by unfold nrT; rw [g1, g2]; simp
  have z2 : d1 = a1 → d2 = a2 → nrT a1 a2 b1 b2 d1 d2 = 0 := fun g1 g2 => by unfold nrT; rw [g1, g2]; simp
  have zb : a1 = b1 → a2 = b2 → ∀ x y, nrT a1 a2 b1 b2 x y = 0 := fun g1 g2 x y => by unfold nrT; rw [g1, g2]; simp
  constructor
  · rintro ⟨n1, n2⟩
    by_cases k1 : a1 = b1 ∧ a2 = b2
    · exact Or.inl k1
    · by_cases k2 : c1 = d1 ∧ c2 = d2
      · exact Or.inr (Or.inl k2)
      · by_cases k3 : (b1 - a1) * (d2 - c2) - (b2 - a2) * (d1 - c1) = 0
        · have he : ¬ (d1 - c1 = 0 ∧ d2 - c2 = 0) := fun h => k2 ⟨by omega, by omega⟩
          have hb : (b1 - a1) * (d2 - c2) = (b2 - a2) * (d1 - c1) := by omega
          have hc : (c1 - a1) * (d2 - c2) = (c2 - a2) * (d1 - c1) := by
            have x1 : (c1 - a1) * (d2 - c2) = -((d2 - c2) * (a1 - c1)) := by simp only [Int.sub_mul, Int.mul_sub, Int.mul_comm]; omega
            have x2 : (c2 - a2) * (d1 - c1) = -((d1 - c1) * (a2 - c2)) := by simp only [Int.sub_mul, Int.mul_sub, Int.mul_comm]; omega
            rw [x1, x2, h0]
          have hd : (d1 - a1) * (d2 - c2) = (d2 - a2) * (d1 - c1) := by
            have x1 : (d1 - a1) * (d2 - c2) = (c1 - a1) * (d2 - c2) + (d1 - c1) * (d2 - c2) := by rw [← Int.add_mul]; congr 1; omega
            have x2 : (d2 - a2) * (d1 - c1) = (c2 - a2) * (d1 - c1) + (d2 - c2) * (d1 - c1) := by rw [← Int.add_mul]; congr 1; omega
            rw [x1, x2, hc, Int.mul_comm (d1 - c1) (d2 - c2)]
          have r1 := par3 hb hc he
          have r2 := par3 hb hd he
          refine Or.inr (Or.inr (Or.inr ⟨fun g => n1 ⟨?_, g⟩, fun g => n2 ⟨?_, g⟩⟩))
          · unfold cr; exact r1
          · unfold cr; exact r2
        · exact Or.inr (Or.inr (Or.inl k3))
  · intro h
    have main : ∀ x1 x2 : Int, (x1 = a1 → x2 = a2 → nrT a1 a2 b1 b2 x1 x2 = 0) → (x1 - a1) * (d2 - c2) = (x2 - a2) * (d1 - c1) → ((¬ (b1 - a1) * (d2 - c2) - (b2 - a2) * (d1 - c1) = 0) → ¬ ldT a1 a2 b1 b2 x1 x2) := by
      intro x1 x2 hz hx hn g
      have hne : ¬ (x1 - a1 = 0 ∧ x2 - a2 = 0) := fun q => by have := hz (by omega) (by omega); have := g.2; omega
      have g1 : (b1 - a1) * (x2 - a2) = (b2 - a2) * (x1 - a1) := by have := g.1; unfold cr at this; omega
      have g2 : (d1 - c1) * (x2 - a2) = (d2 - c2) * (x1 - a1) := by rw [Int.mul_comm (d1 - c1), Int.mul_comm (d2 - c2)]; exact hx.symm
      exact hn (par3 g1 g2 hne)
    have hc : (c1 - a1) * (d2 - c2) = (c2 - a2) * (d1 - c1) := by
      have x1 : (c1 - a1) * (d2 - c2) = -((d2 - c2) * (a1 - c1)) := by simp only [Int.sub_mul, Int.mul_sub, Int.mul_comm]; omega
      have x2 : (c2 - a2) * (d1 - c1) = -((d1 - c1) * (a2 - c2)) := by simp only [Int.sub_mul, Int.mul_sub, Int.mul_comm]; omega
      rw [x1, x2, h0]
    have hd : (d1 - a1) * (d2 - c2) = (d2 - a2) * (d1 - c1) := by
      have x1 : (d1 - a1) * (d2 - c2) = (c1 - a1) * (d2 - c2) + (d1 - c1) * (d2 - c2) := by rw [← Int.add_mul]; congr 1; omega
      have x2 : (d2 - a2) * (d1 - c1) = (c2 - a2) * (d1 - c1) + (d2 - c2) * (d1 - c1) := by rw [← Int.add_mul]; congr 1; omega
      rw [x1, x2, hc, Int.mul_comm (d1 - c1) (d2 - c2)]
    rcases h with h | h | h | h
    · exact ⟨fun g => by have := zb h.1 h.2 c1 c2; have := g.2; omega, fun g => by have := zb h.1 h.2 d1 d2; have := g.2; omega⟩
    · have ea : a1 = c1 ∧ a2 = c2 := by obtain ⟨_, h1, h2, h3, h4⟩ := ho; omega
      exact ⟨fun g => by have := z1 ea.1.symm ea.2.symm; have := g.2; omega, fun g => by have := z2 (by omega) (by omega); have := g.2; omega⟩
    · exact ⟨main c1 c2 z1 hc h, main d1 d2 z2 hd h⟩
    · exact ⟨fun g => h.1 g.2, fun g => h.2 g.2⟩
theorem wy_fWy {x0 y0 x1 y1 : Int} {m : Nat} {U V : Nat → Int32} {k : Nat} : wyF2 x0 y0 x1 y1 m U V k ↔ fWy x0 y0 x1 y1 m U V k := by
  unfold wyF2 fWy oAt
  exact imp_congr_right fun _ => ⟨fun h => ⟨h.1, (way_iff h.1).mp h.2⟩, fun h => ⟨h.1, (way_iff h.1).mpr h.2⟩⟩
end
section
/-! what lies apart from the box of all that moves is as before -/
theorem mnI_le {z : Int} {X : Nat → Int32} : ∀ {n k : Nat}, k < n → mnI z X n ≤ (X k).toInt := by
  intro n
  induction n with
  | zero => intro k hk; exact absurd hk (Nat.not_lt_zero _)
  | succ n ih =>
    intro k hk
    rw [mnI_s]
    rcases Nat.lt_or_ge k n with q | q
    · have := ih q; omega
    · rw [show k = n by omega]; omega
theorem le_mxI {z : Int} {X : Nat → Int32} : ∀ {n k : Nat}, k < n → (X k).toInt ≤ mxI z X n := by
  intro n
  induction n with
  | zero => intro k hk; exact absurd hk (Nat.not_lt_zero _)
  | succ n ih =>
    intro k hk
    rw [mxI_s]
    rcases Nat.lt_or_ge k n with q | q
    · have := ih q; omega
    · rw [show k = n by omega]; omega
theorem mnI_z {z : Int} {X : Nat → Int32} : ∀ n, mnI z X n ≤ z := by
  intro n
  induction n with
  | zero => exact Int.le_refl _
  | succ n ih => rw [mnI_s]; omega
theorem mxI_z {z : Int} {X : Nat → Int32} : ∀ n, z ≤ mxI z X n := by
  intro n
  induction n with
  | zero => exact Int.le_refl _
  | succ n ih => rw [mxI_s]; omega
/-- all of one row lie on one side of all of another -/
def sepR (n : Nat) (X Y : Nat → Int32) (m : Nat) (U V : Nat → Int32) : Prop :=
  (∀ i, i < n → ∀ j, j < m → (X i).toInt < (U j).toInt) ∨ (∀ i, i < n → ∀ j, j < m → (U j).toInt < (X i).toInt) ∨ (∀ i, i < n → ∀ j, j < m → (Y i).toInt < (V j).toInt) ∨ (∀ i, i < n → ∀ j, j < m → (V j).toInt < (Y i).toInt)
/-- a row inside a box -/
def inB (l o r h : Int) (n : Nat) (X Y : Nat → Int32) : Prop := ∀ i, i < n → (l ≤ (X i).toInt ∧ (X i).toInt ≤ r) ∧ (o ≤ (Y i).toInt ∧ (Y i).toInt ≤ h)
theorem ap_sep {l o r h : Int} {n m : Nat} {X Y U V : Nat → Int32} (hb : inB l o r h n X Y) (ha : apB l o r h m U V) : sepR n X Y m U V := by
  rcases ha with g | g | g | g
  · exact Or.inl fun i hi j hj => by have := (hb i hi).1; have := mnI_le (z := (U 0).toInt) (X := U) hj; omega
  · exact Or.inr (Or.inl fun i hi j hj => by have := (hb i hi).1; have := le_mxI (z := (U 0).toInt) (X := U) hj; omega)
  · exact Or.inr (Or.inr (Or.inl fun i hi j hj => by have := (hb i hi).2; have := mnI_le (z := (V 0).toInt) (X := V) hj; omega))
  · exact Or.inr (Or.inr (Or.inr fun i hi j hj => by have := (hb i hi).2; have := le_mxI (z := (V 0).toInt) (X := V) hj; omega))
section
variable {n m : Nat} {X Y U V : Nat → Int32}
theorem sep_mt (h : sepR n X Y m U V) {i j : Nat} (hi : i < n) (hj : j < m) : ¬ eMt n X Y i m U V j := by
  have h2 := nxt_lt (n := n) (i := i) (by omega); have h3 := nxt_lt (n := m) (i := j) (by omega)
  intro g
  unfold eMt mtC at g
  have g1 := g.1; have g2 := g.2.1
  clear g
  rcases h with h | h | h | h
  · have := h i hi j hj; have := h i hi _ h3; have := h _ h2 j hj; have := h _ h2 _ h3; exact g1 (Or.inl (by clear g1 g2; omega))
  · have := h i hi j hj; have := h i hi _ h3; have := h _ h2 j hj; have := h _ h2 _ h3; exact g1 (Or.inr (by clear g1 g2; omega))
  · have := h i hi j hj; have := h i hi _ h3; have := h _ h2 j hj; have := h _ h2 _ h3; exact g2 (Or.inl (by clear g1 g2; omega))
  · have := h i hi j hj; have := h i hi _ h3; have := h _ h2 j hj; have := h _ h2 _ h3; exact g2 (Or.inr (by clear g1 g2; omega))
theorem sep_tch (h : sepR n X Y m U V) {rg rh : Int32} : ¬ tch n X Y rg m U V rh := fun ⟨i, hi, j, hj, g⟩ => by
  have := prt_le n rg; have := prt_le m rh
  exact sep_mt h (by omega) (by omega) g
theorem sep_in (h : sepR n X Y m U V) (hn : 1 ≤ n) {j : Nat} (hj : j < m) : ¬ inF 5 n X Y (U j).toInt (V j).toInt := by
  rw [← whr_in, whr_out hn (by
    rcases h with h | h | h | h
    · exact Or.inl fun i hi => h i hi j hj
    · exact Or.inr (Or.inl fun i hi => h i hi j hj)
    · exact Or.inr (Or.inr (Or.inl fun i hi => h i hi j hj))
    · exact Or.inr (Or.inr (Or.inr fun i hi => h i hi j hj)))]
  decide
theorem sep_ni (h : sepR n X Y m U V) (hm : 1 ≤ m) {i : Nat} (hi : i < n) : ¬ inF 5 m U V (X i).toInt (Y i).toInt := by
  rw [← whr_in, whr_out hm (by
    rcases h with h | h | h | h
    · exact Or.inr (Or.inl fun j hj => h i hi j hj)
    · exact Or.inl fun j hj => h i hi j hj
    · exact Or.inr (Or.inr (Or.inr fun j hj => h i hi j hj))
    · exact Or.inr (Or.inr (Or.inl fun j hj => h i hi j hj)))]
  decide
/-- a triangle of corners in a box has no place that lies apart from it -/
theorem box_wt {l o r h : Int} {a1 a2 b1 b2 c1 c2 : Int32} {x y : Int} (ha : (l ≤ a1.toInt ∧ a1.toInt ≤ r) ∧ (o ≤ a2.toInt ∧ a2.toInt ≤ h)) (hb : (l ≤ b1.toInt ∧ b1.toInt ≤ r) ∧ (o ≤ b2.toInt ∧ b2.toInt ≤ h)) (hc : (l ≤ c1.toInt ∧ c1.toInt ≤ r) ∧ (o ≤ c2.toInt ∧ c2.toInt ≤ h)) (hx : r < x ∨ x < l ∨ h < y ∨ y < o) : ¬ wtR a1 a2 b1 b2 c1 c2 x y := by
  unfold wtR
  rw [whr_out (n := 3) (by decide) (by
    have k : ∀ i, i < 3 → i = 0 ∨ i = 1 ∨ i = 2 := fun i hi => by omega
    rcases hx with g | g | g | g
    · refine Or.inl fun i hi => ?_
      rcases k i hi with rfl | rfl | rfl
      · show a1.toInt < x; omega
      · show b1.toInt < x; omega
      · show c1.toInt < x; omega
    · refine Or.inr (Or.inl fun i hi => ?_)
      rcases k i hi with rfl | rfl | rfl
      · show x < a1.toInt; omega
      · show x < b1.toInt; omega
      · show x < c1.toInt; omega
    · refine Or.inr (Or.inr (Or.inl fun i hi => ?_))
      rcases k i hi with rfl | rfl | rfl
      · show a2.toInt < y; omega
      · show b2.toInt < y; omega
      · show c2.toInt < y; omega
    · refine Or.inr (Or.inr (Or.inr fun i hi => ?_))
      rcases k i hi with rfl | rfl | rfl
      · show y < a2.toInt; omega
      · show y < b2.toInt; omega
      · show y < c2.toInt; omega)]
  decide
end
theorem ap_out {l o r h : Int} {m : Nat} {U V : Nat → Int32} (ha : apB l o r h m U V) {j : Nat} (hj : j < m) : r < (U j).toInt ∨ (U j).toInt < l ∨ h < (V j).toInt ∨ (V j).toInt < o := by
  have a := mnI_le (z := (U 0).toInt) (X := U) hj; have b := le_mxI (z := (U 0).toInt) (X := U) hj
  have c := mnI_le (z := (V 0).toInt) (X := V) hj; have d := le_mxI (z := (V 0).toInt) (X := V) hj
  unfold apB at ha; omega
theorem mv_in {n nd : Nat} {X Y P Q : Nat → Int32} : inB (mnI (mnI (X 0).toInt X n) P nd) (mnI (mnI (Y 0).toInt Y n) Q nd) (mxI (mxI (X 0).toInt X n) P nd) (mxI (mxI (Y 0).toInt Y n) Q nd) n X Y ∧ inB (mnI (mnI (X 0).toInt X n) P nd) (mnI (mnI (Y 0).toInt Y n) Q nd) (mxI (mxI (X 0).toInt X n) P nd) (mxI (mxI (Y 0).toInt Y n) Q nd) nd P Q := by
  refine ⟨fun i hi => ?_, fun i hi => ?_⟩
  · have a := mnI_le (z := (X 0).toInt) (X := X) hi; have b := le_mxI (z := (X 0).toInt) (X := X) hi; have c := mnI_le (z := (Y 0).toInt) (X := Y) hi; have d := le_mxI (z := (Y 0).toInt) (X := Y) hi
    have e := mnI_z (z := mnI (X 0).toInt X n) (X := P) nd; have f := mxI_z (z := mxI (X 0).toInt X n) (X := P) nd; have g := mnI_z (z := mnI (Y 0).toInt Y n) (X := Q) nd; have k := mxI_z (z := mxI (Y 0).toInt Y n) (X := Q) nd
    omega
  · exact ⟨⟨mnI_le hi, le_mxI hi⟩, mnI_le hi, le_mxI hi⟩
/-- the prune of a move: as before, nothing swept, and a free way -/
theorem ap_asb {n nd m : Nat} {X Y P Q U V : Nat → Int32} {rg rd rh : Int32} {l o r h : Int} (hn : 1 ≤ n) (hd : 1 ≤ nd) (hm : 1 ≤ m) (h1 : inB l o r h n X Y) (h2 : inB l o r h nd P Q) (ha : apB l o r h m U V) : asb n X Y rg nd P Q rd m U V rh := by
  have s1 := ap_sep h1 ha; have s2 := ap_sep h2 ha
  exact ⟨⟨fun g => absurd g (sep_tch s1), fun g => absurd g (sep_tch s2)⟩, fun _ k hk => ⟨fun g => absurd g (sep_in s1 hn hk), fun g => absurd g (sep_in s2 hd hk)⟩, fun _ => ⟨fun g => absurd g (sep_ni s1 hm (by omega)), fun g => absurd g (sep_ni s2 hm (by omega))⟩⟩
theorem ap_swM {n m : Nat} {X Y P Q U V : Nat → Int32} {rg : Int32} {l o r h : Int} (h1 : inB l o r h n X Y) (h2 : inB l o r h n P Q) (ha : apB l o r h m U V) : ¬ ∃ i, i < edg n rg ∧ ∃ k, k < m ∧ swR n X Y P Q (U k).toInt (V k).toInt i := by
  rintro ⟨i, hi, k, hk, _, g⟩
  have le := edg_le n rg
  have hx := nxt_lt (n := n) (i := i) (by omega)
  have ho := ap_out ha hk
  rcases g with g | g
  · exact box_wt (h1 i (by omega)) (h1 _ hx) (h2 _ hx) ho g
  · exact box_wt (h1 i (by omega)) (h2 i (by omega)) (h2 _ hx) ho g
theorem ap_wy {nd n m : Nat} {X Y P Q U V : Nat → Int32} {rh : Int32} {l o r h : Int} (hn : 1 ≤ n) (hd : 1 ≤ nd) (h1 : inB l o r h n X Y) (h2 : inB l o r h nd P Q) (ha : apB l o r h m U V) : ∀ k, k < prt m rh → wyF2 (X 0).toInt (Y 0).toInt (P 0).toInt (Q 0).toInt m U V k := by
  intro k hk g
  exfalso
  have le := prt_le m rh
  have hx := nxt_lt (n := m) (i := k) (by omega)
  have a := h1 0 (by omega); have b := h2 0 (by omega)
  have m1 := mnI_le (z := (U 0).toInt) (X := U) (show k < m by omega); have m2 := le_mxI (z := (U 0).toInt) (X := U) (show k < m by omega); have m3 := mnI_le (z := (V 0).toInt) (X := V) (show k < m by omega); have m4 := le_mxI (z := (V 0).toInt) (X := V) (show k < m by omega)
  have p1 := mnI_le (z := (U 0).toInt) (X := U) hx; have p2 := le_mxI (z := (U 0).toInt) (X := U) hx; have p3 := mnI_le (z := (V 0).toInt) (X := V) hx; have p4 := le_mxI (z := (V 0).toInt) (X := V) hx
  have g1 := g.1; have g2 := g.2.1
  clear g
  unfold apB at ha
  rcases ha with z | z | z | z
  · exact g1 (Or.inl (by clear g1 g2; omega))
  · exact g1 (Or.inr (by clear g1 g2; omega))
  · exact g2 (Or.inl (by clear g1 g2; omega))
  · exact g2 (Or.inr (by clear g1 g2; omega))
end
section
/-! a corner goes: what lies apart from its triangle is as before -/
def phi (k j : Nat) : Nat := if j < k then j else j + 1
def gap (n k : Nat) : Nat := prv (n - 1) (gpK (n - 1) k)
theorem gap_e {n k : Nat} (hk : k < n) (hn : 3 ≤ n) : gap n k = if k = 0 then n - 2 else k - 1 := by
  unfold gap gpK prv
  repeat' split
  all_goals omega
theorem ct_phi (X : Nat → Int32) (k j : Nat) : ctF X k j = X (phi k j) := by unfold ctF phi; split <;> rfl
theorem phi_gap {n k : Nat} (hk : k < n) (hn : 3 ≤ n) : phi k (gap n k) = prv n k ∧ phi k (nxt (n - 1) (gap n k)) = nxt n k := by
  rw [gap_e hk hn]
  unfold phi prv nxt
  constructor <;> (repeat' split) <;> omega
theorem phi_nx {n k j : Nat} (hk : k < n) (hn : 3 ≤ n) (hj : j < n - 1) (hg : j ≠ gap n k) : phi k (nxt (n - 1) j) = nxt n (phi k j) ∧ phi k j < n ∧ phi k j ≠ k ∧ phi k j ≠ prv n k := by
  rw [gap_e hk hn] at hg
  have hg2 : (k = 0 → j ≠ n - 2) ∧ (k ≠ 0 → j ≠ k - 1) := by
    by_cases h0 : k = 0
    · rw [if_pos h0] at hg; omega
    · rw [if_neg h0] at hg; omega
  clear hg
  unfold phi prv nxt
  refine ⟨?_, ?_, ?_, ?_⟩ <;> (repeat' split) <;> omega
theorem phi_ex {n k i : Nat} (hk : k < n) (hn : 3 ≤ n) (hi : i < n) (h1 : i ≠ k) (h2 : i ≠ prv n k) : ∃ j, j < n - 1 ∧ j ≠ gap n k ∧ phi k j = i := by
  rw [gap_e hk hn]
  have h3 : (k = 0 → i ≠ n - 1) ∧ (k ≠ 0 → i ≠ k - 1) := by
    unfold prv at h2
    by_cases h0 : 0 < k
    · rw [if_pos h0] at h2; omega
    · rw [if_neg h0] at h2; omega
  unfold phi
  by_cases q : i < k
  · exact ⟨i, by omega, by split <;> omega, by rw [if_pos q]⟩
  · exact ⟨i - 1, by omega, by split <;> omega, by rw [if_neg (by omega)]; omega⟩
section
variable {n k : Nat} {X Y : Nat → Int32}
theorem ct_mt (hk : k < n) (hn : 3 ≤ n) {j : Nat} (hj : j < n - 1) (hg : j ≠ gap n k) {m q : Nat} {U V : Nat → Int32} : eMt (n - 1) (ctF X k) (ctF Y k) j m U V q = eMt n X Y (phi k j) m U V q := by
  have e := phi_nx hk hn hj hg
  unfold eMt; rw [ct_phi, ct_phi, ct_phi, ct_phi, e.1]
theorem ct_on (hk : k < n) (hn : 3 ≤ n) {j : Nat} (hj : j < n - 1) (hg : j ≠ gap n k) {x y : Int} : eOn (n - 1) (ctF X k) (ctF Y k) j x y = eOn n X Y (phi k j) x y := by
  have e := phi_nx hk hn hj hg
  unfold eOn; rw [ct_phi, ct_phi, ct_phi, ct_phi, e.1]
theorem ct_tg (hk : k < n) (hn : 3 ≤ n) {j : Nat} (hj : j < n - 1) (hg : j ≠ gap n k) {x y : Int} : eTg (n - 1) (ctF X k) (ctF Y k) x y j = eTg n X Y x y (phi k j) := by
  have e := phi_nx hk hn hj hg
  unfold eTg eCr; rw [ct_phi, ct_phi, ct_phi, ct_phi, e.1]
end
/-- three corners in a box, a place apart from it: the third edge turns the parity as the first two do -/
theorem tg_box {a1 a2 b1 b2 c1 c2 x y l o r h : Int} (ha : (l ≤ a1 ∧ a1 ≤ r) ∧ (o ≤ a2 ∧ a2 ≤ h)) (hb : (l ≤ b1 ∧ b1 ≤ r) ∧ (o ≤ b2 ∧ b2 ≤ h)) (hc : (l ≤ c1 ∧ c1 ≤ r) ∧ (o ≤ c2 ∧ c2 ≤ h)) (hx : r < x ∨ x < l ∨ h < y ∨ y < o) : tg2 a1 a2 c1 c2 x y ↔ (tg2 a1 a2 b1 b2 x y ↔ ¬ tg2 b1 b2 c1 c2 x y) := by
  have left : ∀ {p1 p2 q1 q2 : Int}, x < p1 → x < q1 → (tg2 p1 p2 q1 q2 x y ↔ (y < p2 ↔ ¬ y < q2)) := by
    intro p1 p2 q1 q2 g1 g2
    refine ⟨fun g => g.1, fun g => ⟨g, ?_⟩⟩
    have t := tg_left (a1 := -p1) (a2 := p2) (b1 := -q1) (b2 := q2) (x := -x) (y := y) (by omega) (by omega) g
    have e : cr (-p1) p2 (-q1) q2 (-x) y = - cr p1 p2 q1 q2 x y := by unfold cr; grind
    rw [e] at t
    by_cases q : p2 < q2
    · exact Or.inl ⟨q, by have := t.1 q; omega⟩
    · exact Or.inr ⟨q, by have := t.2 q; omega⟩
  have right : ∀ {p1 p2 q1 q2 : Int}, p1 < x → q1 < x → ¬ tg2 p1 p2 q1 q2 x y := by
    intro p1 p2 q1 q2 g1 g2 g
    have t := tg_left g1 g2 g.1
    rcases g.2 with q | q
    · have := t.1 q.1; omega
    · have := t.2 q.1; omega
  rcases hx with g | g | g | g
  · have t1 := right (p1 := a1) (p2 := a2) (q1 := c1) (q2 := c2) (by omega) (by omega)
    have t2 := right (p1 := a1) (p2 := a2) (q1 := b1) (q2 := b2) (by omega) (by omega)
    have t3 := right (p1 := b1) (p2 := b2) (q1 := c1) (q2 := c2) (by omega) (by omega)
    simp [t1, t2, t3]
  · rw [left (by omega) (by omega), left (by omega) (by omega), left (by omega) (by omega)]
    by_cases s1 : y < a2 <;> by_cases s2 : y < b2 <;> by_cases s3 : y < c2 <;> simp [s1, s2, s3]
  · have t1 : ¬ tg2 a1 a2 c1 c2 x y := fun q => by have := q.1; omega
    have t2 : ¬ tg2 a1 a2 b1 b2 x y := fun q => by have := q.1; omega
    have t3 : ¬ tg2 b1 b2 c1 c2 x y := fun q => by have := q.1; omega
    simp [t1, t2, t3]
  · have t1 : ¬ tg2 a1 a2 c1 c2 x y := fun q => by have := q.1; omega
    have t2 : ¬ tg2 a1 a2 b1 b2 x y := fun q => by have := q.1; omega
    have t3 : ¬ tg2 b1 b2 c1 c2 x y := fun q => by have := q.1; omega
    simp [t1, t2, t3]
theorem par2_x {A : Nat → Prop} {i : Nat} : par2 A (i + 1) ↔ (par2 A i ↔ ¬ A i) := by
  by_cases h : A i
  · rw [par2_y h]; by_cases g : par2 A i <;> simp [g, h]
  · rw [par2_n h]; simp [h]
/-- the parities, where one edge stands for two -/
theorem par_cut {A B : Nat → Prop} {n k : Nat} (hk : k < n) (hn : 3 ≤ n) (h : ∀ j, j < n - 1 → j ≠ gap n k → (B j ↔ A (phi k j))) (hg : B (gap n k) ↔ (A (prv n k) ↔ ¬ A k)) : par2 A n ↔ par2 B (n - 1) := by
  rw [gap_e hk hn] at h hg
  by_cases h0 : k = 0
  · subst h0
    simp only [if_true] at h hg
    have hp : prv n 0 = n - 1 := by unfold prv; rw [if_neg (by omega)]
    rw [hp] at hg
    have st : ∀ t, t ≤ n - 2 → (par2 A (1 + t) ↔ (A 0 ↔ ¬ par2 B t)) := by
      intro t
      induction t with
      | zero => intro _; show par2 A (0 + 1) ↔ _; rw [par2_x]; show (False ↔ ¬ A 0) ↔ (A 0 ↔ ¬ False); by_cases q : A 0 <;> simp [q]
      | succ t ih =>
        intro ht
        have e := h t (by omega) (by omega)
        rw [show phi 0 t = t + 1 from if_neg (by omega)] at e
        rw [show 1 + (t + 1) = (1 + t) + 1 by omega, par2_x, ih (by omega), par2_x, show 1 + t = t + 1 by omega, e]
        by_cases q : A 0 <;> by_cases q2 : par2 B t <;> by_cases q3 : A (t + 1) <;> simp [q, q2, q3]
    have e1 : par2 A n ↔ (par2 A (1 + (n - 2)) ↔ ¬ A (n - 1)) := by
      have := par2_x (A := A) (i := n - 1)
      rw [show n - 1 + 1 = n by omega] at this
      rw [this, show 1 + (n - 2) = n - 1 by omega]
    have e2 : par2 B (n - 1) ↔ (par2 B (n - 2) ↔ ¬ B (n - 2)) := by
      have := par2_x (A := B) (i := n - 2)
      rw [show n - 2 + 1 = n - 1 by omega] at this; exact this
    rw [e1, st (n - 2) (Nat.le_refl _), e2, hg]
    by_cases q : A 0 <;> by_cases q2 : par2 B (n - 2) <;> by_cases q3 : A (n - 1) <;> simp [q, q2, q3]
  · simp only [h0, if_false] at h hg
    have hp : prv n k = k - 1 := by unfold prv; rw [if_pos (by omega)]
    rw [hp] at hg
    obtain ⟨c, rfl⟩ : ∃ c, k = c + 1 := ⟨k - 1, by omega⟩
    simp only [Nat.add_sub_cancel] at h hg
    have lo : par2 A c ↔ par2 B c := par2_cg c fun j hj => by
      have e := h j (by omega) (by omega)
      rw [show phi (c + 1) j = j from if_pos (by omega)] at e; exact e.symm
    have mid : par2 A (c + 2) ↔ par2 B (c + 1) := by
      rw [show c + 2 = (c + 1) + 1 from rfl, par2_x, par2_x, par2_x (A := B), lo, hg]
      by_cases q : par2 B c <;> by_cases q2 : A c <;> by_cases q3 : A (c + 1) <;> simp [q, q2, q3]
    have st : ∀ t, c + 1 + t ≤ n - 1 → (par2 A (c + 2 + t) ↔ par2 B (c + 1 + t)) := by
      intro t
      induction t with
      | zero => intro _; exact mid
      | succ t ih =>
        intro ht
        have e := h (c + 1 + t) (by omega) (by omega)
        rw [show phi (c + 1) (c + 1 + t) = c + 2 + t from (if_neg (by omega)).trans (by omega)] at e
        rw [show c + 2 + (t + 1) = (c + 2 + t) + 1 by omega, show c + 1 + (t + 1) = (c + 1 + t) + 1 by omega, par2_x, par2_x, ih (by omega), e]
    have := st (n - 1 - (c + 1)) (by omega)
    rw [show c + 2 + (n - 1 - (c + 1)) = n by omega, show c + 1 + (n - 1 - (c + 1)) = n - 1 by omega] at this
    exact this
/-- the triangle's box -/
theorem ap_cut {n k m : Nat} {X Y U V : Nat → Int32} {rg rh : Int32} {l o r h : Int} (hk : k < n) (hr : (¬ rg.toInt = 0 ∧ 4 ≤ n) ∨ (rg.toInt = 0 ∧ 0 < k ∧ k < n - 1)) (hm : 1 ≤ m) (ha : apB l o r h m U V)
    (hp : (l ≤ (X (prv n k)).toInt ∧ (X (prv n k)).toInt ≤ r) ∧ (o ≤ (Y (prv n k)).toInt ∧ (Y (prv n k)).toInt ≤ h)) (hc : (l ≤ (X k).toInt ∧ (X k).toInt ≤ r) ∧ (o ≤ (Y k).toInt ∧ (Y k).toInt ≤ h)) (hx : (l ≤ (X (nxt n k)).toInt ∧ (X (nxt n k)).toInt ≤ r) ∧ (o ≤ (Y (nxt n k)).toInt ∧ (Y (nxt n k)).toInt ≤ h)) :
    asb n X Y rg (n - 1) (ctF X k) (ctF Y k) rg m U V rh ∧ ¬ ∃ j, j < m ∧ swC n X Y k (U j).toInt (V j).toInt := by
  have hn : 3 ≤ n := by omega
  have hpv := prv_lt (n := n) (i := k) hk
  have hgl : gap n k < n - 1 := by rw [gap_e hk hn]; split <;> omega
  have pg := phi_gap hk hn
  -- an edge of two corners in the box meets nobody apart from it
  have nomt : ∀ {a1 a2 b1 b2 : Int}, ((l ≤ a1 ∧ a1 ≤ r) ∧ (o ≤ a2 ∧ a2 ≤ h)) → ((l ≤ b1 ∧ b1 ≤ r) ∧ (o ≤ b2 ∧ b2 ≤ h)) → ∀ q, q < m → ¬ mtC a1 a2 b1 b2 (U q).toInt (V q).toInt (U (nxt m q)).toInt (V (nxt m q)).toInt := by
    intro a1 a2 b1 b2 g1 g2 q hq g
    have hx := nxt_lt (n := m) (i := q) (by omega)
    have m1 := mnI_le (z := (U 0).toInt) (X := U) hq; have m2 := le_mxI (z := (U 0).toInt) (X := U) hq; have m3 := mnI_le (z := (V 0).toInt) (X := V) hq; have m4 := le_mxI (z := (V 0).toInt) (X := V) hq
    have p1 := mnI_le (z := (U 0).toInt) (X := U) hx; have p2 := le_mxI (z := (U 0).toInt) (X := U) hx; have p3 := mnI_le (z := (V 0).toInt) (X := V) hx; have p4 := le_mxI (z := (V 0).toInt) (X := V) hx
    have q1 := g.1; have q2 := g.2.1
    clear g
    unfold apB at ha
    rcases ha with z | z | z | z
    · exact q1 (Or.inl (by clear q1 q2; omega))
    · exact q1 (Or.inr (by clear q1 q2; omega))
    · exact q2 (Or.inl (by clear q1 q2; omega))
    · exact q2 (Or.inr (by clear q1 q2; omega))
  have nxp : nxt n (prv n k) = k := by unfold nxt prv; (repeat' split) <;> omega
  have e1 : ∀ q, q < m → ¬ eMt n X Y k m U V q := fun q hq => nomt hc hx q hq
  have e2 : ∀ q, q < m → ¬ eMt n X Y (prv n k) m U V q := fun q hq => by unfold eMt; rw [nxp]; exact nomt hp hc q hq
  have e3 : ∀ q, q < m → ¬ eMt (n - 1) (ctF X k) (ctF Y k) (gap n k) m U V q := fun q hq => by unfold eMt; rw [ct_phi, ct_phi, ct_phi, ct_phi, pg.1, pg.2]; exact nomt hp hx q hq
  have pm2 := prt_le m rh
  have po : prt n rg = if rg.toInt = 0 then n - 1 else n := by unfold prt edg; rw [if_neg (by omega), if_neg (by omega)]
  have pd : prt (n - 1) rg = if rg.toInt = 0 then n - 2 else n - 1 := by
    unfold prt edg
    by_cases q : n - 1 = 1
    · omega
    · rw [if_neg q, if_neg (by omega)]; split <;> omega
  refine ⟨⟨⟨?_, ?_⟩, fun hrd q hq => ?_, fun _ => ?_⟩, ?_⟩
  · rintro ⟨i, hi, q, hq, g⟩
    have hi2 : i < n := by rw [po] at hi; split at hi <;> omega
    have i1 : i ≠ k := fun e => e1 q (by omega) (by rw [← e]; exact g)
    have i2 : i ≠ prv n k := fun e => e2 q (by omega) (by rw [← e]; exact g)
    obtain ⟨j, hj, hjg, ej⟩ := phi_ex hk hn hi2 i1 i2
    refine ⟨j, ?_, q, hq, by rw [ct_mt hk hn hj hjg, ej]; exact g⟩
    rw [pd]; rw [po] at hi
    by_cases z : rg.toInt = 0
    · rw [if_pos z] at hi ⊢
      have : ¬ j = n - 2 := fun e => by
        have : phi k j = n - 1 := by unfold phi; rw [if_neg (by omega)]; omega
        omega
      omega
    · rw [if_neg z]; exact hj
  · rintro ⟨j, hj, q, hq, g⟩
    have hj2 : j < n - 1 := by rw [pd] at hj; split at hj <;> omega
    have jg : j ≠ gap n k := fun e => e3 q (by omega) (by rw [← e]; exact g)
    have pn := phi_nx hk hn hj2 jg
    refine ⟨phi k j, ?_, q, hq, by rw [← ct_mt hk hn hj2 jg]; exact g⟩
    rw [po]; rw [pd] at hj
    by_cases z : rg.toInt = 0
    · rw [if_pos z] at hj ⊢; unfold phi; split <;> omega
    · rw [if_neg z]; exact pn.2.1
  · have out := ap_out ha hq
    have eo : ∀ z, eO 5 z = z := fun z => by unfold eO; rw [if_neg (by decide), if_pos (by decide)]
    unfold inF
    rw [eo, eo]
    have noon : ∀ {a1 a2 b1 b2 : Int}, ((l ≤ a1 ∧ a1 ≤ r) ∧ (o ≤ a2 ∧ a2 ≤ h)) → ((l ≤ b1 ∧ b1 ≤ r) ∧ (o ≤ b2 ∧ b2 ≤ h)) → ¬ onS a1 a2 b1 b2 (U q).toInt (V q).toInt := by
      intro a1 a2 b1 b2 g1 g2 g
      obtain ⟨_, z1, z2, z3, z4⟩ := g
      omega
    refine and_congr (not_congr ⟨?_, ?_⟩) ?_
    · rintro ⟨i, hi, g⟩
      have i1 : i ≠ k := fun e => noon hc hx (by rw [e] at g; exact g)
      have i2 : i ≠ prv n k := fun e => noon hp hc (by rw [e] at g; unfold eOn at g; rw [nxp] at g; exact g)
      obtain ⟨j, hj, hjg, ej⟩ := phi_ex hk hn hi i1 i2
      exact ⟨j, hj, by rw [ct_on hk hn hj hjg, ej]; exact g⟩
    · rintro ⟨j, hj, g⟩
      have jg : j ≠ gap n k := fun e => noon hp hx (by rw [e] at g; unfold eOn at g; rw [ct_phi, ct_phi, ct_phi, ct_phi, pg.1, pg.2] at g; exact g)
      exact ⟨phi k j, (phi_nx hk hn hj jg).2.1, by rw [← ct_on hk hn hj jg]; exact g⟩
    · refine par_cut hk hn (fun j hj hjg => by rw [ct_tg hk hn hj hjg]) ?_
      have t := tg_box (a1 := (X (prv n k)).toInt) (a2 := (Y (prv n k)).toInt) (b1 := (X k).toInt) (b2 := (Y k).toInt) (c1 := (X (nxt n k)).toInt) (c2 := (Y (nxt n k)).toInt) hp hc hx out
      have g1 : eTg (n - 1) (ctF X k) (ctF Y k) (U q).toInt (V q).toInt (gap n k) ↔ tg2 (X (prv n k)).toInt (Y (prv n k)).toInt (X (nxt n k)).toInt (Y (nxt n k)).toInt (U q).toInt (V q).toInt := by
        unfold eTg eCr tg2; rw [ct_phi, ct_phi, ct_phi, ct_phi, pg.1, pg.2]
      have g2 : eTg n X Y (U q).toInt (V q).toInt (prv n k) ↔ tg2 (X (prv n k)).toInt (Y (prv n k)).toInt (X k).toInt (Y k).toInt (U q).toInt (V q).toInt := by
        unfold eTg eCr tg2; rw [nxp]
      have g3 : eTg n X Y (U q).toInt (V q).toInt k ↔ tg2 (X k).toInt (Y k).toInt (X (nxt n k)).toInt (Y (nxt n k)).toInt (U q).toInt (V q).toInt := Iff.rfl
      rw [g1, g2, g3]; exact t
  · by_cases h0 : k = 0
    · subst h0
      have z : ctF X 0 0 = X (nxt n 0) ∧ ctF Y 0 0 = Y (nxt n 0) := by
        have : nxt n 0 = 1 := by unfold nxt; rw [if_pos (by omega)]
        rw [this]; exact ⟨rfl, rfl⟩
      rw [z.1, z.2]
      have ni : ∀ {x y : Int}, ((l ≤ x ∧ x ≤ r) ∧ (o ≤ y ∧ y ≤ h)) → ¬ inF 5 m U V x y := by
        intro x y g
        rw [← whr_in, whr_out hm (by
          unfold apB at ha
          rcases ha with q | q | q | q
          · exact Or.inr (Or.inl fun j hj => by have := mnI_le (z := (U 0).toInt) (X := U) hj; omega)
          · exact Or.inl fun j hj => by have := le_mxI (z := (U 0).toInt) (X := U) hj; omega
          · exact Or.inr (Or.inr (Or.inr fun j hj => by have := mnI_le (z := (V 0).toInt) (X := V) hj; omega))
          · exact Or.inr (Or.inr (Or.inl fun j hj => by have := le_mxI (z := (V 0).toInt) (X := V) hj; omega)))]
        decide
      exact ⟨fun g => absurd g (ni hc), fun g => absurd g (ni hx)⟩
    · have z : ctF X k 0 = X 0 ∧ ctF Y k 0 = Y 0 := ⟨if_pos (by omega), if_pos (by omega)⟩
      rw [z.1, z.2]
  · rintro ⟨j, hj, g⟩
    exact box_wt hp hc hx (ap_out ha hj) g.2.2
end
section
/-! a corner goes: only the edge over the gap is new -/
theorem mtC_sy {a1 a2 b1 b2 c1 c2 d1 d2 : Int} (h : mtC a1 a2 b1 b2 c1 c2 d1 d2) : mtC c1 c2 d1 d2 a1 a2 b1 b2 := by
  obtain ⟨h1, h2, h3, h4⟩ := h
  exact ⟨fun g => h1 (by omega), fun g => h2 (by omega), h4, h3⟩
/-- two edges of one row get on -/
def eC (n : Nat) (X Y : Nat → Int32) (i j : Nat) : Prop := (nxt n i = j → ¬ eFd n X Y j) ∧ (nxt n i ≠ j → nxt n j = i → ¬ eFd n X Y i) ∧ (nxt n i ≠ j → nxt n j ≠ i → ¬ eMt n X Y i n X Y j)
theorem nxt_no2 {n i j : Nat} (hn : 3 ≤ n) (hi : i < n) (hj : j < n) (h : nxt n i = j) : nxt n j ≠ i := by
  unfold nxt at h ⊢
  split at h <;> split <;> omega
theorem eC_sy {n : Nat} {X Y : Nat → Int32} {i j : Nat} (hn : 3 ≤ n) (hi : i < n) (hj : j < n) (h : eC n X Y i j) : eC n X Y j i := by
  refine ⟨fun g => ?_, fun g g2 => ?_, fun g g2 => ?_⟩
  · exact h.2.1 (nxt_no2 hn hj hi g) g
  · exact h.1 g2
  · exact fun q => h.2.2 g2 g (mtC_sy q)
theorem eFr_e {n : Nat} {X Y : Nat → Int32} {rg : Int32} {i f : Nat} : eFr n X Y rg i f ↔ (¬ ((X i).toInt = (X (nxt n i)).toInt ∧ (Y i).toInt = (Y (nxt n i)).toInt) ∧ ∀ j, f ≤ j → j < edg n rg → j ≠ i → eC n X Y i j) := Iff.rfl
theorem phi_inj {k i j : Nat} (h : phi k i = phi k j) : i = j := by unfold phi at h; split at h <;> split at h <;> omega
theorem phi_lt {k i j : Nat} (h : i < j) : phi k i < phi k j := by unfold phi; split <;> split <;> omega
theorem prv_nx {n i : Nat} (hi : i < n) : prv n (nxt n i) = i := by unfold prv nxt; (repeat' split) <;> omega
/-- two old edges get on as they did -/
theorem eC_cut {n k : Nat} {X Y : Nat → Int32} {i j : Nat} (hk : k < n) (hn : 4 ≤ n) (hi : i < n - 1) (hj : j < n - 1) (gi : i ≠ gap n k) (gj : j ≠ gap n k) (h : eC n X Y (phi k i) (phi k j)) : eC (n - 1) (ctF X k) (ctF Y k) i j := by
  have pi := phi_nx hk (by omega) hi gi; have pj := phi_nx hk (by omega) hj gj
  have ni := nxt_lt (n := n - 1) (i := i) (by omega); have nj := nxt_lt (n := n - 1) (i := j) (by omega)
  -- the fold at a corner between two old edges
  have fd : ∀ {s t : Nat}, s < n - 1 → t < n - 1 → s ≠ gap n k → t ≠ gap n k → nxt (n - 1) s = t → (eFd (n - 1) (ctF X k) (ctF Y k) t ↔ eFd n X Y (phi k t)) := by
    intro s t hs ht gs gt e
    have ps := phi_nx hk (by omega) hs gs; have pt := phi_nx hk (by omega) ht gt
    have e1 : prv (n - 1) t = s := by rw [← e]; exact prv_nx hs
    have e2 : prv n (phi k t) = phi k s := by rw [← e, ps.1]; exact prv_nx ps.2.1
    unfold eFd
    rw [ct_phi, ct_phi, ct_phi, ct_phi, ct_phi, ct_phi, e1, e2, pt.1]
  refine ⟨fun g => ?_, fun g g2 => ?_, fun g g2 => ?_⟩
  · rw [fd hi hj gi gj g]; exact h.1 (by rw [← pi.1, g])
  · rw [fd hj hi gj gi g2]; exact h.2.1 (fun q => g (phi_inj (by rw [pi.1]; exact q))) (by rw [← pj.1, g2])
  · rw [ct_mt hk (by omega) hi gi]
    unfold eMt
    rw [ct_phi, ct_phi, ct_phi, ct_phi, pj.1]
    exact h.2.2 (fun q => g (phi_inj (by rw [pi.1]; exact q))) (fun q => g2 (phi_inj (by rw [pj.1]; exact q)))
/-- where all edges got on before, the row without a corner is sound just where the edge over the gap gets on with all -/
theorem gap_snd {n k : Nat} {X Y : Nat → Int32} {rg : Int32} (hk : k < n) (hr : (¬ rg.toInt = 0 ∧ 4 ≤ n) ∨ (rg.toInt = 0 ∧ 0 < k ∧ k < n - 1)) (ho : ∀ i, i < edg n rg → eFr n X Y rg i (i + 1)) :
    eFr (n - 1) (ctF X k) (ctF Y k) rg (gap n k) 0 ↔ ∀ i, i < edg (n - 1) rg → eFr (n - 1) (ctF X k) (ctF Y k) rg i (i + 1) := by
  have hn : 3 ≤ n := by omega
  have pd : edg (n - 1) rg = if rg.toInt = 0 then n - 2 else n - 1 := by unfold edg; rw [if_neg (by omega)]; split <;> omega
  have po : edg n rg = if rg.toInt = 0 then n - 1 else n := by unfold edg; rw [if_neg (by omega)]
  have gl : gap n k < edg (n - 1) rg := by
    rw [gap_e hk hn, pd]
    split <;> split <;> omega
  have le : edg (n - 1) rg ≤ n - 1 := by rw [pd]; split <;> omega
  have el : ∀ j, j < edg (n - 1) rg → phi k j < edg n rg := fun j hj => by
    rw [po]; rw [pd] at hj; unfold phi
    split at hj <;> (repeat' split) <;> omega
  have two : ∀ {i j : Nat}, i < edg (n - 1) rg → j < edg (n - 1) rg → i ≠ j → 4 ≤ n := by
    intro i j hi hj hij
    rw [pd] at hi hj
    by_cases z : rg.toInt = 0
    · rw [if_pos z] at hi hj; omega
    · omega
  have oldC : ∀ {i j : Nat}, i < edg n rg → j < edg n rg → i < j → eC n X Y i j := fun hi hj hij => (ho _ hi).2 _ hij hj (by omega)
  have oldN : ∀ i, i < edg (n - 1) rg → i ≠ gap n k → ¬ ((ctF X k i).toInt = (ctF X k (nxt (n - 1) i)).toInt ∧ (ctF Y k i).toInt = (ctF Y k (nxt (n - 1) i)).toInt) := fun i hi gi => by
    rw [ct_phi, ct_phi, ct_phi, ct_phi, (phi_nx hk hn (by omega) gi).1]
    exact (ho _ (el i hi)).1
  constructor
  · intro h i hi
    refine eFr_e.mpr ⟨?_, fun j h1 hj hji => ?_⟩
    · by_cases gi : i = gap n k
      · rw [gi]; exact h.1
      · exact oldN i hi gi
    · have h4 := two hi hj (fun q => hji q.symm)
      by_cases gi : i = gap n k
      · rw [gi]; exact h.2 j (Nat.zero_le _) hj (by omega)
      · by_cases gj : j = gap n k
        · rw [gj]; exact eC_sy (by omega) (by omega) (by omega) (h.2 i (Nat.zero_le _) hi gi)
        · exact eC_cut hk h4 (by omega) (by omega) gi gj (oldC (el i hi) (el j hj) (phi_lt (by omega)))
  · intro h
    refine eFr_e.mpr ⟨(h _ gl).1, fun j _ hj hjg => ?_⟩
    have h4 := two hj gl hjg
    rcases Nat.lt_or_ge (gap n k) j with q | q
    · exact (h _ gl).2 j q hj hjg
    · exact eC_sy (by omega) (by omega) (by omega) ((h j hj).2 (gap n k) (by omega) gl (fun e => hjg e.symm))
end
section
/-! the class's law is the reference's: a corner goes -/
theorem rgK_t (k : Int) : (rgK k).toInt = if 5 ≤ k then 1 else 0 := by unfold rgK; split <;> decide
theorem rgK_0 (k : Int) : (rgK k).toInt = 0 ↔ ¬ 5 ≤ k := by rw [rgK_t]; split <;> omega
def okK (k : Int) (n : Nat) : Prop := (k = 0 ∧ n = 1) ∨ (¬ k = 0 ∧ 2 ≤ n)
theorem inF_5 {k : Int} {n : Nat} {X Y : Nat → Int32} {x y : Int} (h : 5 ≤ k) : inF k n X Y x y ↔ inF 5 n X Y x y := by
  have e1 : eO k n = n := by unfold eO; rw [if_neg (by omega), if_pos h]
  have e2 : eO 5 n = n := by unfold eO; rw [if_neg (by decide), if_pos (by decide)]
  unfold inF; rw [e1, e2]
theorem tch_mt {kf kg : Int} {n m : Nat} {X Y U V : Nat → Int32} (h1 : okK kf n) (h2 : okK kg m) : tch n X Y (rgK kf) m U V (rgK kg) ↔ mtF kf n X Y kg m U V := by
  show (∃ i, i < prt n (rgK kf) ∧ ∃ j, j < prt m (rgK kg) ∧ eMt n X Y i m U V j) ↔ _
  rw [prt_eO (rgK_t kf) h1, prt_eO (rgK_t kg) h2]; rfl
theorem asb_law {kf kd kg : Int} {n nd m : Nat} {X Y P Q U V : Nat → Int32} (h1 : okK kf n) (h2 : okK kd nd) (h3 : okK kg m) (hr : 5 ≤ kf ↔ 5 ≤ kd) : asb n X Y (rgK kf) nd P Q (rgK kd) m U V (rgK kg) ↔ ((mtF kd nd P Q kg m U V ↔ mtF kf n X Y kg m U V) ∧ (5 ≤ kg → (inF kg m U V (P 0).toInt (Q 0).toInt ↔ inF kg m U V (X 0).toInt (Y 0).toInt)) ∧ ∀ k, k < m → (5 ≤ kd → (inF kd nd P Q (U k).toInt (V k).toInt ↔ inF kf n X Y (U k).toInt (V k).toInt))) := by
  unfold asb
  rw [tch_mt h1 h3, tch_mt h2 h3, rgK_0, rgK_0]
  constructor
  · rintro ⟨a, b, c⟩
    refine ⟨a.symm, fun g => ?_, fun k hk g => ?_⟩
    · rw [inF_5 g, inF_5 g]; exact (c (fun q => q g)).symm
    · rw [inF_5 g, inF_5 (hr.mpr g)]; exact (b (fun q => q g) k hk).symm
  · rintro ⟨a, b, c⟩
    refine ⟨a.symm, fun g k hk => ?_, fun g => ?_⟩
    · have g := Classical.not_not.mp g
      have := c k hk g; rw [inF_5 g, inF_5 (hr.mpr g)] at this; exact this.symm
    · have g := Classical.not_not.mp g
      have := b g; rw [inF_5 g, inF_5 g] at this; exact this.symm
theorem swC_B {n : Nat} {X Y : Nat → Int32} {b : Nat} {x y : Int} : swC n X Y b x y ↔ swB n X Y b x y := by
  unfold swC swB
  rw [wtR_iff]
  exact and_congr (not_congr ⟨fun h => ⟨h.1.symm, h.2.symm⟩, fun h => ⟨h.1.symm, h.2.symm⟩⟩) (and_congr (not_congr ⟨fun h => ⟨h.1.symm, h.2.symm⟩, fun h => ⟨h.1.symm, h.2.symm⟩⟩) Iff.rfl)
theorem law_cut {kf kg : Int} {n nd m k : Nat} {X Y P Q U V : Nat → Int32} {x0 y0 : Int32} (h0 : ¬ kf = 0) (h1 : okK kf n) (h2 : okK kf nd) (h3 : okK kg m) :
    (asb n X Y (rgK kf) nd P Q (rgK kf) m U V (rgK kg) ∧ ¬ ∃ j, j < m ∧ swC n X Y k (U j).toInt (V j).toInt) ↔ lawTo x0 y0 kf nd P Q kg m U V (mtF kf n X Y kg m U V) (inF kg m U V (X 0).toInt (Y 0).toInt) (fun j => inF kf n X Y (U j).toInt (V j).toInt) (fun j => swB n X Y k (U j).toInt (V j).toInt) := by
  rw [asb_law h1 h2 h3 Iff.rfl]
  unfold lawTo
  constructor
  · rintro ⟨⟨a, b, c⟩, d⟩
    exact ⟨a, b, fun j hj => ⟨c j hj, fun _ g => d ⟨j, hj, swC_B.mpr g⟩⟩, fun g => absurd g h0⟩
  · rintro ⟨a, b, c, _⟩
    exact ⟨⟨a, b, fun j hj => (c j hj).1⟩, fun ⟨j, hj, g⟩ => (c j hj).2 h0 (swC_B.mp g)⟩
theorem fWy_cg {x0 y0 x1 y1 : Int} {m : Nat} {U V S T : Nat → Int32} {k : Nat} (hk : k < m) (h : ∀ j, j < m → U j = S j ∧ V j = T j) : fWy x0 y0 x1 y1 m U V k = fWy x0 y0 x1 y1 m S T k := by
  have hx := nxt_lt (n := m) (i := k) (by omega)
  unfold fWy; rw [(h k hk).1, (h k hk).2, (h _ hx).1, (h _ hx).2]
theorem lawTo_cg {x0 y0 : Int32} {kf kg : Int} {n m : Nat} {P Q A B U V S T : Nat → Int32} {mt wi : Prop} {ins sw sv : Nat → Prop} (hn : 1 ≤ n) (hm : 1 ≤ m) (h : ∀ j, j < n → P j = A j ∧ Q j = B j) (g : ∀ j, j < m → U j = S j ∧ V j = T j) (hs : ∀ k, k < m → (sw k ↔ sv k)) :
    lawTo x0 y0 kf n P Q kg m U V mt wi ins sw ↔ lawTo x0 y0 kf n A B kg m S T mt wi ins sv := by
  have le := eO_le (k := kg) (n := m) hm
  unfold lawTo
  rw [mtF_cg hn hm h g, (h 0 (by omega)).1, (h 0 (by omega)).2]
  refine and_congr Iff.rfl (and_congr (imp_congr_right fun _ => by rw [inF_cg hm g]) (and_congr (forall_congr' fun k => imp_congr_right fun hk => ?_) (imp_congr_right fun _ => forall_congr' fun k => imp_congr_right fun hk => by rw [fWy_cg (by omega) g])))
  rw [inF_cg hn h, (g k hk).1, (g k hk).2, hs k hk]
theorem shp_ct {f k n : Nat} {c : Nat → Int32} : ∀ j, j < n - 1 → cF40 (shp f k (n - 1) c) f j = ctF (cF40 c f) k j := by
  intro j hj
  show shp f k (n - 1) c (40 * f + j) = if j < k then c (40 * f + j) else c (40 * f + (j + 1))
  unfold shp
  by_cases q : j < k
  · rw [if_neg (by omega), if_pos q]
  · rw [if_pos (by omega), if_neg q]; rfl
theorem shp_ot {f k n q : Nat} {c : Nat → Int32} (hq : q ≠ f) (hn : n ≤ 40) : ∀ j, j < 40 → cF40 (shp f k (n - 1) c) q j = cF40 c q j := by
  intro j hj
  show shp f k (n - 1) c (40 * q + j) = c (40 * q + j)
  unfold shp; rw [if_neg (by omega)]
/-- the class's law and the reference's, where a corner goes -/
theorem alC_lw {ft : Nat} {st tn kd mn cx cy : Nat → Int32} {f n k : Nat} (hk : k < n) (hn : n ≤ 40) (hkd : 1 ≤ (kd f).toInt ∧ (kd f).toInt ≤ 5) (hr : (5 ≤ (kd f).toInt ∧ 4 ≤ n) ∨ (¬ 5 ≤ (kd f).toInt ∧ 0 < k ∧ k < n - 1)) (hs : mSm (kd f).toInt n (cF40 cx f) (cF40 cy f)) (hwf : ∀ q, lvF ft st tn q → wfM mn cx cy q) (hkn : okN ft st tn kd mn) :
    alC ft st tn kd mn cx cy f n (cF40 cx f) (cF40 cy f) (rgK (kd f).toInt) (n - 1) (ctF (cF40 cx f) k) (ctF (cF40 cy f) k) (rgK (kd f).toInt) k ↔ lwP ft st tn kd mn cx cy f n k := by
  have hrg : (¬ (rgK (kd f).toInt).toInt = 0 ∧ 4 ≤ n) ∨ ((rgK (kd f).toInt).toInt = 0 ∧ 0 < k ∧ k < n - 1) := by rw [rgK_0]; omega
  have h3 : 3 ≤ n := by omega
  have c1 : ∀ j, j < n - 1 → cF40 (shp f k (n - 1) cx) f j = ctF (cF40 cx f) k j ∧ cF40 (shp f k (n - 1) cy) f j = ctF (cF40 cy f) k j := fun j hj => ⟨shp_ct j hj, shp_ct j hj⟩
  have o1 : okK (kd f).toInt n := Or.inr ⟨by omega, by omega⟩
  have o2 : okK (kd f).toInt (n - 1) := Or.inr ⟨by omega, by omega⟩
  have hso := (snd_iff (rg := rgK (kd f).toInt) (rgK_t _) (by omega) (by unfold mnc; split <;> omega)).mpr hs
  have sm : mSm (kd f).toInt (n - 1) (ctF (cF40 cx f) k) (ctF (cF40 cy f) k) ↔ eFr (n - 1) (ctF (cF40 cx f) k) (ctF (cF40 cy f) k) (rgK (kd f).toInt) (gap n k) 0 := by
    rw [← snd_iff (rg := rgK (kd f).toInt) (rgK_t _) (by omega) (by unfold mnc; split <;> omega), gap_snd hk hrg hso.1]
    exact ⟨fun h => h.1, fun h => ⟨h, Or.inl (by omega)⟩⟩
  unfold alC lwP lwA
  rw [pls_cg c1]
  refine and_congr_right fun _ => and_congr (sm.symm.trans ⟨mSm_cg fun j hj => ⟨(c1 j hj).1.symm, (c1 j hj).2.symm⟩, mSm_cg c1⟩) ?_
  have one : ∀ q, lvF ft st tn q → q ≠ f → ((apB (min (min (cF40 cx f k).toInt (cF40 cx f (prv n k)).toInt) (cF40 cx f (nxt n k)).toInt) (min (min (cF40 cy f k).toInt (cF40 cy f (prv n k)).toInt) (cF40 cy f (nxt n k)).toInt) (max (max (cF40 cx f k).toInt (cF40 cx f (prv n k)).toInt) (cF40 cx f (nxt n k)).toInt) (max (max (cF40 cy f k).toInt (cF40 cy f (prv n k)).toInt) (cF40 cy f (nxt n k)).toInt) (nN (mn q)) (cF40 cx q) (cF40 cy q) ∨ (asb n (cF40 cx f) (cF40 cy f) (rgK (kd f).toInt) (n - 1) (ctF (cF40 cx f) k) (ctF (cF40 cy f) k) (rgK (kd f).toInt) (nN (mn q)) (cF40 cx q) (cF40 cy q) (rgK (kd q).toInt) ∧ (¬ ∃ j, j < nN (mn q) ∧ swC n (cF40 cx f) (cF40 cy f) k (cF40 cx q j).toInt (cF40 cy q j).toInt))) ↔
      lawTo (cF40 cx f 0) (cF40 cy f 0) (kd f).toInt (n - 1) (cF40 (shp f k (n - 1) cx) f) (cF40 (shp f k (n - 1) cy) f) (kd q).toInt (nN (upd mn f (nI (n - 1)) q)) (cF40 (shp f k (n - 1) cx) q) (cF40 (shp f k (n - 1) cy) q) (bMt kd mn cx cy f n q) (bWi kd mn cx cy f q) (bIn kd cx cy f n q) (sWp n (cF40 cx f) (cF40 cy f) (shp f k (n - 1) cx) (shp f k (n - 1) cy) k q)) := by
    intro q hq hqf
    have w := hwf q hq
    have c2 : ∀ j, j < nN (mn q) → cF40 (shp f k (n - 1) cx) q j = cF40 cx q j ∧ cF40 (shp f k (n - 1) cy) q j = cF40 cy q j := fun j hj => ⟨shp_ot hqf hn j (by have := w.2.1; omega), shp_ot hqf hn j (by have := w.2.1; omega)⟩
    rw [show upd mn f (nI (n - 1)) q = mn q from if_neg hqf]
    have cut := @ap_cut n k (nN (mn q)) (cF40 cx f) (cF40 cy f) (cF40 cx q) (cF40 cy q) (rgK (kd f).toInt) (rgK (kd q).toInt) (min (min (cF40 cx f k).toInt (cF40 cx f (prv n k)).toInt) (cF40 cx f (nxt n k)).toInt) (min (min (cF40 cy f k).toInt (cF40 cy f (prv n k)).toInt) (cF40 cy f (nxt n k)).toInt) (max (max (cF40 cx f k).toInt (cF40 cx f (prv n k)).toInt) (cF40 cx f (nxt n k)).toInt) (max (max (cF40 cy f k).toInt (cF40 cy f (prv n k)).toInt) (cF40 cy f (nxt n k)).toInt) hk hrg w.2.1.1
    rw [lawTo_cg (A := ctF (cF40 cx f) k) (B := ctF (cF40 cy f) k) (S := cF40 cx q) (T := cF40 cy q) (sv := fun j => swB n (cF40 cx f) (cF40 cy f) k (cF40 cx q j).toInt (cF40 cy q j).toInt) (by omega) w.2.1.1 c1 c2 (fun j hj => by show swB n (cF40 cx f) (cF40 cy f) k (cF40 (shp f k (n - 1) cx) q j).toInt (cF40 (shp f k (n - 1) cy) q j).toInt ↔ _; rw [(c2 j hj).1, (c2 j hj).2])]
    rw [← law_cut (by omega) o1 o2 (hkn q hq)]
    exact ⟨fun g => g.elim (fun g => cut g (by omega) (by omega) (by omega)) id, Or.inr⟩
  constructor
  · intro h q hq hqf; exact (one q hq hqf).mp (h q hq.1 hqf hq)
  · intro h q _ hqf hq; exact (one q hq hqf).mpr (h q hq hqf)
/-- which corner may go: the class's word is the reference's -/
theorem go_iff {ft : Nat} {st tn kd mn cx cy : Nat → Int32} {f n L k : Nat} {lim : Int32} (hL : lim.toInt = ((L : Nat) : Int)) (hk : k < n) (hn : n ≤ 40) (hkd : 1 ≤ (kd f).toInt ∧ (kd f).toInt ≤ 5) (hr : ¬ 5 ≤ (kd f).toInt ∨ 4 ≤ n) (h2 : 2 ≤ n) (hs : mSm (kd f).toInt n (cF40 cx f) (cF40 cy f)) (hwf : ∀ q, lvF ft st tn q → wfM mn cx cy q) (hkn : okN ft st tn kd mn) :
    goK ft st tn kd mn cx cy f n (cF40 cx f) (cF40 cy f) (rgK (kd f).toInt) lim k ↔ (cnd ft st tn kd mn cx cy f n L k ∧ lwP ft st tn kd mn cx cy f n k) := by
  have nxp : nxt n (prv n k) = k := by unfold nxt prv; (repeat' split) <;> omega
  have et : arT n (cF40 cx f) (cF40 cy f) k = trF cx cy f n k := by unfold arT eCr; rw [nxp]
  unfold goK cnd mGo arE bareK
  rw [et, hL, rgK_0]
  constructor
  · rintro ⟨a, b, c, d⟩
    have hr2 : (5 ≤ (kd f).toInt ∧ 4 ≤ n) ∨ (¬ 5 ≤ (kd f).toInt ∧ 0 < k ∧ k < n - 1) := by omega
    exact ⟨⟨⟨by omega, fun ⟨q, hq, hqf, g⟩ => c q hq.1 hqf hq g⟩, by omega⟩, (alC_lw hk hn hkd hr2 hs hwf hkn).mp d⟩
  · rintro ⟨⟨⟨a, c⟩, b⟩, d⟩
    have hr2 : (5 ≤ (kd f).toInt ∧ 4 ≤ n) ∨ (¬ 5 ≤ (kd f).toInt ∧ 0 < k ∧ k < n - 1) := by omega
    exact ⟨by omega, by omega, fun q _ hqf hq g => c ⟨q, hq, hqf, g⟩, (alC_lw hk hn hkd hr2 hs hwf hkn).mpr d⟩
end
section
/-! the class's law is the reference's: corners move, or a row becomes its box -/
section
variable (ft : Nat) (st tn kd mn cx cy : Nat → Int32) (f0 n : Nat) (X Y : Nat → Int32) (rg : Int32) (nd : Nat) (P Q : Nat → Int32) (rd kd9 : Int32)
abbrev apMv (q : Nat) : Prop := apB (mnI (mnI (X 0).toInt X n) P nd) (mnI (mnI (Y 0).toInt Y n) Q nd) (mxI (mxI (X 0).toInt X n) P nd) (mxI (mxI (Y 0).toInt Y n) Q nd) (nN (mn q)) (cF40 cx q) (cF40 cy q)
abbrev asQ (q : Nat) : Prop := asb n X Y rg nd P Q rd (nN (mn q)) (cF40 cx q) (cF40 cy q) (rgK (kd q).toInt)
abbrev sndK : Prop := (∀ i, i < edg nd rd → eFr nd P Q rd i (i + 1)) ∧ (¬ kd9.toInt = 6 ∨ ∀ k, k < nd → eRt nd P Q k)
/-- lawful: corners move -/
def alM : Prop := pls nd P Q ∧ sndK nd P Q rd kd9 ∧ ∀ q, q < ft → (q ≠ f0 → lvF ft st tn q → (apMv mn cx cy n X Y nd P Q q ∨ (asQ kd mn cx cy n X Y rg nd P Q rd q ∧ (¬ ∃ i, i < edg n rg ∧ ∃ k, k < nN (mn q) ∧ swR n X Y P Q (cF40 cx q k).toInt (cF40 cy q k).toInt i))))
/-- lawful: a point moves -/
def alW : Prop := pls nd P Q ∧ sndK nd P Q rd kd9 ∧ ∀ q, q < ft → (q ≠ f0 → lvF ft st tn q → (apMv mn cx cy n X Y nd P Q q ∨ (asQ kd mn cx cy n X Y rg nd P Q rd q ∧ (∀ k, k < prt (nN (mn q)) (rgK (kd q).toInt) → wyF2 (X 0).toInt (Y 0).toInt (P 0).toInt (Q 0).toInt (nN (mn q)) (cF40 cx q) (cF40 cy q) k))))
/-- lawful: a row becomes its box -/
def alB : Prop := pls nd P Q ∧ sndK nd P Q rd 6 ∧ ∀ q, q < ft → (q ≠ f0 → lvF ft st tn q → (apMv mn cx cy n X Y nd P Q q ∨ asQ kd mn cx cy n X Y rg nd P Q rd q))
end
theorem swR_p {n : Nat} {X Y P Q : Nat → Int32} {x y : Int} {i : Nat} : swR n X Y P Q x y i ↔ swp n X Y P Q x y i := by
  unfold swR swp; rw [wtR_iff, wtR_iff]
theorem law_mv {kf kg : Int} {n m : Nat} {X Y P Q U V : Nat → Int32} {x0 y0 : Int32} (h0 : ¬ kf = 0) (h1 : okK kf n) (h3 : okK kg m) :
    (asb n X Y (rgK kf) n P Q (rgK kf) m U V (rgK kg) ∧ ¬ ∃ i, i < edg n (rgK kf) ∧ ∃ k, k < m ∧ swR n X Y P Q (U k).toInt (V k).toInt i) ↔ lawTo x0 y0 kf n P Q kg m U V (mtF kf n X Y kg m U V) (inF kg m U V (X 0).toInt (Y 0).toInt) (fun j => inF kf n X Y (U j).toInt (V j).toInt) (fun k => ∃ e, e < eO kf n ∧ swp n X Y P Q (U k).toInt (V k).toInt e) := by
  have e : edg n (rgK kf) = eO kf n := edg_eO (rgK_t kf) h0 (by unfold okK at h1; omega)
  rw [asb_law h1 h1 h3 Iff.rfl, e]
  unfold lawTo
  constructor
  · rintro ⟨⟨a, b, c⟩, d⟩
    exact ⟨a, b, fun j hj => ⟨c j hj, fun _ ⟨i, hi, g⟩ => d ⟨i, hi, j, hj, swR_p.mpr g⟩⟩, fun g => absurd g h0⟩
  · rintro ⟨a, b, c, _⟩
    exact ⟨⟨a, b, fun j hj => (c j hj).1⟩, fun ⟨i, hi, j, hj, g⟩ => (c j hj).2 h0 ⟨i, hi, swR_p.mp g⟩⟩
theorem law_wy {kg : Int} {m : Nat} {X Y P Q U V : Nat → Int32} {sw : Nat → Prop} (h3 : okK kg m) :
    (asb 1 X Y (rgK 0) 1 P Q (rgK 0) m U V (rgK kg) ∧ ∀ k, k < prt m (rgK kg) → wyF2 (X 0).toInt (Y 0).toInt (P 0).toInt (Q 0).toInt m U V k) ↔ lawTo (X 0) (Y 0) 0 1 P Q kg m U V (mtF 0 1 X Y kg m U V) (inF kg m U V (X 0).toInt (Y 0).toInt) (fun j => inF 0 1 X Y (U j).toInt (V j).toInt) sw := by
  have o1 : okK 0 1 := Or.inl ⟨rfl, rfl⟩
  rw [asb_law o1 o1 h3 Iff.rfl, prt_eO (rgK_t kg) h3]
  unfold lawTo
  constructor
  · rintro ⟨⟨a, b, c⟩, d⟩
    exact ⟨a, b, fun j hj => ⟨c j hj, fun g => absurd rfl g⟩, fun _ k hk => wy_fWy.mp (d k hk)⟩
  · rintro ⟨a, b, c, d⟩
    exact ⟨⟨a, b, fun j hj => (c j hj).1⟩, fun k hk => wy_fWy.mpr (d rfl k hk)⟩
theorem law_bx {kg : Int} {n m : Nat} {X Y P Q U V : Nat → Int32} {x0 y0 : Int32} (h1 : okK 5 n) (h3 : okK kg m) :
    asb n X Y (rgK 5) 4 P Q (rgK 6) m U V (rgK kg) ↔ lawTo x0 y0 6 4 P Q kg m U V (mtF 5 n X Y kg m U V) (inF kg m U V (X 0).toInt (Y 0).toInt) (fun j => inF 5 n X Y (U j).toInt (V j).toInt) (fun _ => False) := by
  have o2 : okK 6 4 := Or.inr ⟨by decide, by decide⟩
  rw [asb_law h1 o2 h3 ⟨fun _ => by decide, fun _ => by decide⟩]
  unfold lawTo
  constructor
  · rintro ⟨a, b, c⟩
    exact ⟨a, b, fun j hj => ⟨c j hj, fun _ g => g⟩, fun g => absurd g (by decide)⟩
  · rintro ⟨a, b, c, _⟩
    exact ⟨a, b, fun j hj => (c j hj).1⟩
theorem fgX_f {f n : Nat} {V c : Nat → Int32} : ∀ j, j < n → cF40 (fgX f n V c) f j = V j := by
  intro j hj
  show fgX f n V c (40 * f + j) = V j
  unfold fgX; rw [if_pos (by omega), show 40 * f + j - 40 * f = j by omega]
theorem fgX_q {f n q : Nat} {V c : Nat → Int32} (hq : q ≠ f) (hn : n ≤ 40) : ∀ j, j < 40 → cF40 (fgX f n V c) q j = cF40 c q j := by
  intro j hj
  show fgX f n V c (40 * q + j) = c (40 * q + j)
  unfold fgX; rw [if_neg (by omega)]
section
variable {ft : Nat} {st tn kd mn cx cy : Nat → Int32} {f n : Nat} {P Q VX VY : Nat → Int32}
theorem alM_lw (hn : n ≤ 40) (h0 : ¬ (kd f).toInt = 0) (hmc : mnc (kd f).toInt ≤ n) (hv : ∀ j, j < n → P j = VX j ∧ Q j = VY j) (hwf : ∀ q, lvF ft st tn q → wfM mn cx cy q) (hkn : okN ft st tn kd mn) :
    alM ft st tn kd mn cx cy f n (cF40 cx f) (cF40 cy f) (rgK (kd f).toInt) n P Q (rgK (kd f).toInt) (kd f) ↔ lwM ft st tn kd mn cx cy f n VX VY := by
  have h2 : 2 ≤ n := by unfold mnc at hmc; split at hmc <;> omega
  have o1 : okK (kd f).toInt n := Or.inr ⟨h0, h2⟩
  have c1 : ∀ j, j < n → cF40 (fgX f n VX cx) f j = P j ∧ cF40 (fgX f n VY cy) f j = Q j := fun j hj => by rw [fgX_f j hj, fgX_f j hj, (hv j hj).1, (hv j hj).2]; exact ⟨rfl, rfl⟩
  unfold alM lwM lwA
  rw [pls_cg c1]
  refine and_congr_right fun _ => and_congr ?_ ?_
  · exact (snd_iff (rgK_t _) h0 hmc).trans ⟨mSm_cg fun j hj => ⟨(c1 j hj).1.symm, (c1 j hj).2.symm⟩, mSm_cg c1⟩
  · have one : ∀ q, lvF ft st tn q → q ≠ f → ((apMv mn cx cy n (cF40 cx f) (cF40 cy f) n P Q q ∨ (asQ kd mn cx cy n (cF40 cx f) (cF40 cy f) (rgK (kd f).toInt) n P Q (rgK (kd f).toInt) q ∧ (¬ ∃ i, i < edg n (rgK (kd f).toInt) ∧ ∃ k, k < nN (mn q) ∧ swR n (cF40 cx f) (cF40 cy f) P Q (cF40 cx q k).toInt (cF40 cy q k).toInt i))) ↔
        lawTo (cF40 cx f 0) (cF40 cy f 0) (kd f).toInt n (cF40 (fgX f n VX cx) f) (cF40 (fgX f n VY cy) f) (kd q).toInt (nN (mn q)) (cF40 (fgX f n VX cx) q) (cF40 (fgX f n VY cy) q) (bMt kd mn cx cy f n q) (bWi kd mn cx cy f q) (bIn kd cx cy f n q) (sWm (kd f).toInt n (cF40 cx f) (cF40 cy f) (fgX f n VX cx) (fgX f n VY cy) f q)) := by
      intro q hq hqf
      have w := hwf q hq
      have c2 : ∀ j, j < nN (mn q) → cF40 (fgX f n VX cx) q j = cF40 cx q j ∧ cF40 (fgX f n VY cy) q j = cF40 cy q j := fun j hj => ⟨fgX_q hqf hn j (by have := w.2.1; omega), fgX_q hqf hn j (by have := w.2.1; omega)⟩
      have le := eO_le (k := (kd f).toInt) (n := n) (by omega)
      have sw : ∀ k, k < nN (mn q) → (sWm (kd f).toInt n (cF40 cx f) (cF40 cy f) (fgX f n VX cx) (fgX f n VY cy) f q k ↔ ∃ e, e < eO (kd f).toInt n ∧ swp n (cF40 cx f) (cF40 cy f) P Q (cF40 cx q k).toInt (cF40 cy q k).toInt e) := fun k hk => by
        refine exists_congr fun e => and_congr_right fun he => ?_
        have hx := nxt_lt (n := n) (i := e) (by omega)
        unfold swp spr stay
        rw [(c2 k hk).1, (c2 k hk).2, (c1 e (by omega)).1, (c1 e (by omega)).2, (c1 _ hx).1, (c1 _ hx).2]
      rw [lawTo_cg (A := P) (B := Q) (S := cF40 cx q) (T := cF40 cy q) (sv := fun k => ∃ e, e < eO (kd f).toInt n ∧ swp n (cF40 cx f) (cF40 cy f) P Q (cF40 cx q k).toInt (cF40 cy q k).toInt e) (by omega) w.2.1.1 c1 c2 sw]
      rw [← law_mv h0 o1 (hkn q hq)]
      have bx := mv_in (n := n) (nd := n) (X := cF40 cx f) (Y := cF40 cy f) (P := P) (Q := Q)
      exact ⟨fun g => g.elim (fun g => ⟨ap_asb (by omega) (by omega) w.2.1.1 bx.1 bx.2 g, ap_swM bx.1 bx.2 g⟩) id, Or.inr⟩
    exact ⟨fun h q hq hqf => (one q hq hqf).mp (h q hq.1 hqf hq), fun h q _ hqf hq => (one q hq hqf).mpr (h q hq hqf)⟩
theorem alW_lw (h0 : (kd f).toInt = 0) (hv : ∀ j, j < 1 → P j = VX j ∧ Q j = VY j) (hwf : ∀ q, lvF ft st tn q → wfM mn cx cy q) (hkn : okN ft st tn kd mn) :
    alW ft st tn kd mn cx cy f 1 (cF40 cx f) (cF40 cy f) (rgK (kd f).toInt) 1 P Q (rgK (kd f).toInt) (kd f) ↔ lwM ft st tn kd mn cx cy f 1 VX VY := by
  have c1 : ∀ j, j < 1 → cF40 (fgX f 1 VX cx) f j = P j ∧ cF40 (fgX f 1 VY cy) f j = Q j := fun j hj => by rw [fgX_f j hj, fgX_f j hj, (hv j hj).1, (hv j hj).2]; exact ⟨rfl, rfl⟩
  unfold alW lwM lwA
  rw [pls_cg c1, h0]
  refine and_congr_right fun _ => and_congr ?_ ?_
  · refine ⟨fun _ => ⟨fun _ => rfl, fun g => absurd rfl g⟩, fun _ => ⟨fun i hi => ?_, Or.inl (by omega)⟩⟩
    unfold edg at hi; rw [if_pos (by omega)] at hi; omega
  · have one : ∀ q, lvF ft st tn q → q ≠ f → ((apMv mn cx cy 1 (cF40 cx f) (cF40 cy f) 1 P Q q ∨ (asQ kd mn cx cy 1 (cF40 cx f) (cF40 cy f) (rgK 0) 1 P Q (rgK 0) q ∧ (∀ k, k < prt (nN (mn q)) (rgK (kd q).toInt) → wyF2 (cF40 cx f 0).toInt (cF40 cy f 0).toInt (P 0).toInt (Q 0).toInt (nN (mn q)) (cF40 cx q) (cF40 cy q) k))) ↔
        lawTo (cF40 cx f 0) (cF40 cy f 0) 0 1 (cF40 (fgX f 1 VX cx) f) (cF40 (fgX f 1 VY cy) f) (kd q).toInt (nN (mn q)) (cF40 (fgX f 1 VX cx) q) (cF40 (fgX f 1 VY cy) q) (mtF 0 1 (cF40 cx f) (cF40 cy f) (kd q).toInt (nN (mn q)) (cF40 cx q) (cF40 cy q)) (bWi kd mn cx cy f q) (fun k => inF 0 1 (cF40 cx f) (cF40 cy f) (cF40 cx q k).toInt (cF40 cy q k).toInt) (sWm 0 1 (cF40 cx f) (cF40 cy f) (fgX f 1 VX cx) (fgX f 1 VY cy) f q)) := by
      intro q hq hqf
      have w := hwf q hq
      have c2 : ∀ j, j < nN (mn q) → cF40 (fgX f 1 VX cx) q j = cF40 cx q j ∧ cF40 (fgX f 1 VY cy) q j = cF40 cy q j := fun j hj => ⟨fgX_q hqf (by omega) j (by have := w.2.1; omega), fgX_q hqf (by omega) j (by have := w.2.1; omega)⟩
      rw [lawTo_cg (A := P) (B := Q) (S := cF40 cx q) (T := cF40 cy q) (by omega) w.2.1.1 c1 c2 (fun _ _ => Iff.rfl)]
      rw [← law_wy (hkn q hq)]
      have bx := mv_in (n := 1) (nd := 1) (X := cF40 cx f) (Y := cF40 cy f) (P := P) (Q := Q)
      exact ⟨fun g => g.elim (fun g => ⟨ap_asb (by omega) (by omega) w.2.1.1 bx.1 bx.2 g, ap_wy (by omega) (by omega) bx.1 bx.2 g⟩) id, Or.inr⟩
    have hb : ∀ q, bMt kd mn cx cy f 1 q ↔ mtF 0 1 (cF40 cx f) (cF40 cy f) (kd q).toInt (nN (mn q)) (cF40 cx q) (cF40 cy q) := fun q => by show mtF (kd f).toInt 1 _ _ _ _ _ _ ↔ _; rw [h0]
    constructor
    · intro h q hq hqf
      have := (one q hq hqf).mp (h q hq.1 hqf hq)
      rw [← h0] at this ⊢; exact this
    · intro h q _ hqf hq
      refine (one q hq hqf).mpr ?_
      have := h q hq hqf
      rw [← h0] at this ⊢; exact this
end
end
section
/-! the class's law is the reference's: a row becomes its box; two rows become one -/
theorem bx_f {f : Nat} {a b c d : Int32} {cx cy P Q : Nat → Int32} (h0 : P 0 = a ∧ Q 0 = c) (h1 : P 1 = b ∧ Q 1 = c) (h2 : P 2 = b ∧ Q 2 = d) (h3 : P 3 = a ∧ Q 3 = d) : ∀ j, j < 4 → cF40 (bxX f a b 4 cx) f j = P j ∧ cF40 (bxY f c d 4 cy) f j = Q j := by
  intro j hj
  have e1 : cF40 (bxX f a b 4 cx) f j = if j = 1 ∨ j = 2 then b else a := by
    show bxX f a b 4 cx (40 * f + j) = _
    unfold bxX
    rw [if_pos (by omega)]
    by_cases q : j = 1 ∨ j = 2
    · rw [if_pos q, if_pos (by omega)]
    · rw [if_neg q, if_neg (by omega)]
  have e2 : cF40 (bxY f c d 4 cy) f j = if 1 < j then d else c := by
    show bxY f c d 4 cy (40 * f + j) = _
    unfold bxY
    rw [if_pos (by omega)]
    by_cases q : 1 < j
    · rw [if_pos q, if_pos (by omega)]
    · rw [if_neg q, if_neg (by omega)]
  rw [e1, e2]
  rcases (show j = 0 ∨ j = 1 ∨ j = 2 ∨ j = 3 by omega) with rfl | rfl | rfl | rfl
  · exact ⟨h0.1.symm, h0.2.symm⟩
  · exact ⟨h1.1.symm, h1.2.symm⟩
  · exact ⟨h2.1.symm, h2.2.symm⟩
  · exact ⟨h3.1.symm, h3.2.symm⟩
section
variable {ft : Nat} {st tn kd mn cx cy : Nat → Int32} {f n : Nat} {P Q : Nat → Int32}
theorem alB_lw (hn : 3 ≤ n ∧ n ≤ 40) (h5 : (kd f).toInt = 5) (h0 : P 0 = iI (bL (cF40 cx f) n) ∧ Q 0 = iI (bL (cF40 cy f) n)) (h1 : P 1 = iI (bH (cF40 cx f) n) ∧ Q 1 = iI (bL (cF40 cy f) n)) (h2 : P 2 = iI (bH (cF40 cx f) n) ∧ Q 2 = iI (bH (cF40 cy f) n)) (h3 : P 3 = iI (bL (cF40 cx f) n) ∧ Q 3 = iI (bH (cF40 cy f) n)) (hwf : ∀ q, lvF ft st tn q → wfM mn cx cy q) (hkn : okN ft st tn kd mn) :
    alB ft st tn kd mn cx cy f n (cF40 cx f) (cF40 cy f) (rgK 5) 4 P Q (rgK 6) ↔ lwS ft st tn kd mn cx cy f n := by
  have c1 := bx_f (f := f) (cx := cx) (cy := cy) h0 h1 h2 h3
  have u6 : ((upd kd f 6) f).toInt = 6 := by rw [up_at]; decide
  unfold alB lwS lwA
  rw [pls_cg c1, u6]
  refine and_congr_right fun _ => and_congr ?_ ?_
  · have s := snd_iff (kd := 6) (n := 4) (X := P) (Y := Q) (rg := rgK 6) (rgK_t _) (by decide) (by decide)
    have e6 : (6 : Int32).toInt = 6 := by decide
    show ((∀ i, i < edg 4 (rgK 6) → eFr 4 P Q (rgK 6) i (i + 1)) ∧ (¬ (6 : Int32).toInt = 6 ∨ ∀ k, k < 4 → eRt 4 P Q k)) ↔ _
    rw [e6, s]
    exact ⟨mSm_cg fun j hj => ⟨(c1 j hj).1.symm, (c1 j hj).2.symm⟩, mSm_cg c1⟩
  · have one : ∀ q, lvF ft st tn q → q ≠ f → ((apMv mn cx cy n (cF40 cx f) (cF40 cy f) 4 P Q q ∨ asQ kd mn cx cy n (cF40 cx f) (cF40 cy f) (rgK 5) 4 P Q (rgK 6) q) ↔
        lawTo (cF40 cx f 0) (cF40 cy f 0) 6 4 (cF40 (bxX f (iI (bL (cF40 cx f) n)) (iI (bH (cF40 cx f) n)) 4 cx) f) (cF40 (bxY f (iI (bL (cF40 cy f) n)) (iI (bH (cF40 cy f) n)) 4 cy) f) ((upd kd f 6) q).toInt (nN ((upd mn f 4) q)) (cF40 (bxX f (iI (bL (cF40 cx f) n)) (iI (bH (cF40 cx f) n)) 4 cx) q) (cF40 (bxY f (iI (bL (cF40 cy f) n)) (iI (bH (cF40 cy f) n)) 4 cy) q) (bMt kd mn cx cy f n q) (bWi kd mn cx cy f q) (bIn kd cx cy f n q) (sW0 q)) := by
      intro q hq hqf
      have w := hwf q hq
      have c2 : ∀ j, j < nN (mn q) → cF40 (bxX f (iI (bL (cF40 cx f) n)) (iI (bH (cF40 cx f) n)) 4 cx) q j = cF40 cx q j ∧ cF40 (bxY f (iI (bL (cF40 cy f) n)) (iI (bH (cF40 cy f) n)) 4 cy) q j = cF40 cy q j := fun j hj => by
        have := w.2.1
        exact ⟨bxX_o (by omega), bxY_o (by omega)⟩
      rw [show (upd kd f 6) q = kd q from if_neg hqf, show (upd mn f 4) q = mn q from if_neg hqf]
      rw [lawTo_cg (A := P) (B := Q) (S := cF40 cx q) (T := cF40 cy q) (sv := fun _ => False) (by omega) w.2.1.1 c1 c2 (fun _ _ => Iff.rfl)]
      have hb : bMt kd mn cx cy f n q ↔ mtF 5 n (cF40 cx f) (cF40 cy f) (kd q).toInt (nN (mn q)) (cF40 cx q) (cF40 cy q) := by show mtF (kd f).toInt n _ _ _ _ _ _ ↔ _; rw [h5]
      have hi : bIn kd cx cy f n q = fun k => inF 5 n (cF40 cx f) (cF40 cy f) (cF40 cx q k).toInt (cF40 cy q k).toInt := by funext k; show inF (kd f).toInt n _ _ _ _ = _; rw [h5]
      rw [hi, propext hb, ← law_bx (Or.inr ⟨by decide, by omega⟩) (hkn q hq)]
      have bx := mv_in (n := n) (nd := 4) (X := cF40 cx f) (Y := cF40 cy f) (P := P) (Q := Q)
      exact ⟨fun g => g.elim (fun g => ap_asb (by omega) (by omega) w.2.1.1 bx.1 bx.2 g) id, Or.inr⟩
    exact ⟨fun h q hq hqf => (one q hq hqf).mp (h q hq.1 hqf hq), fun h q _ hqf hq => (one q hq hqf).mpr (h q hq hqf)⟩
end
/-- nobody but two is met by the box of a JOIN, or begins inside it -/
theorem free_iff {ft : Nat} {st tn kd mn cx cy : Nat → Int32} {f g : Nat} {a b c d : Int32} {P Q : Nat → Int32} (h200 : ft ≤ 200) (h0 : P 0 = a ∧ Q 0 = c) (h1 : P 1 = b ∧ Q 1 = c) (h2 : P 2 = b ∧ Q 2 = d) (h3 : P 3 = a ∧ Q 3 = d) (hwf : ∀ q, lvF ft st tn q → wfM mn cx cy q) (hkn : okN ft st tn kd mn) :
    (∀ q, q < ft → (q ≠ f → q ≠ g → lvF ft st tn q → ¬ tch 4 P Q (rgK 6) (nN (mn q)) (cF40 cx q) (cF40 cy q) (rgK (kd q).toInt) ∧ ¬ inF 5 4 P Q (cF40 cx q 0).toInt (cF40 cy q 0).toInt)) ↔ jFr ft st tn (upd kd 200 6) (upd mn 200 4) (bxX 200 a b 4 cx) (bxY 200 c d 4 cy) f g ft := by
  have c1 := bx_f (f := 200) (cx := cx) (cy := cy) h0 h1 h2 h3
  have u6 : ((upd kd 200 6) 200).toInt = 6 := by rw [up_at]; decide
  have o2 : okK 6 4 := Or.inr ⟨by decide, by decide⟩
  unfold jFr
  rw [u6]
  refine forall_congr' fun q => imp_congr_right fun hq => imp_congr_right fun _ => imp_congr_right fun _ => imp_congr_right fun hl => ?_
  have w := hwf q hl
  have hq2 : q ≠ 200 := by omega
  have c2 : ∀ j, j < nN (mn q) → cF40 (bxX 200 a b 4 cx) q j = cF40 cx q j ∧ cF40 (bxY 200 c d 4 cy) q j = cF40 cy q j := fun j hj => by
    have := w.2.1
    exact ⟨bxX_o (by omega), bxY_o (by omega)⟩
  have z := c2 0 w.2.1.1
  have z1 : bxX 200 a b 4 cx (40 * q) = cF40 cx q 0 := z.1
  have z2 : bxY 200 c d 4 cy (40 * q) = cF40 cy q 0 := z.2
  rw [show (upd kd 200 6) q = kd q from if_neg hq2, show (upd mn 200 4) q = mn q from if_neg hq2, tch_mt o2 (hkn q hl), mtF_cg (by omega) w.2.1.1 c1 c2, z1, z2, inF_cg (by omega) c1, inF_5 (k := 6) (by decide)]
end
section
/-! PLAINER of one feature, by the class -/
section
variable {ft : Nat} {st tn kd mn cx cy : Nat → Int32} {f0 n : Nat} {X Y A B : Nat → Int32} {rg lim : Int32}
theorem ctF_cg (h : ∀ j, j < n → X j = A j ∧ Y j = B j) {k : Nat} : ∀ j, j < n - 1 → ctF X k j = ctF A k j ∧ ctF Y k j = ctF B k j := by
  intro j hj
  unfold ctF
  by_cases q : j < k
  · rw [if_pos q, if_pos q, if_pos q, if_pos q]; exact h j (by omega)
  · rw [if_neg q, if_neg q, if_neg q, if_neg q]; exact h (j + 1) (by omega)
theorem swC_cg (h : ∀ j, j < n → X j = A j ∧ Y j = B j) {k : Nat} (hk : k < n) {x y : Int} : swC n X Y k x y = swC n A B k x y := by
  have h1 := h _ (prv_lt (n := n) (i := k) hk); have h2 := h _ (nxt_lt (n := n) (i := k) (by omega)); have h3 := h k hk
  unfold swC; rw [h1.1, h1.2, h2.1, h2.2, h3.1, h3.2]
theorem asb_cx (hn : 1 ≤ n) (h : ∀ j, j < n → X j = A j ∧ Y j = B j) {nd m : Nat} {P Q U V : Nat → Int32} {rd rh : Int32} : asb n X Y rg nd P Q rd m U V rh ↔ asb n A B rg nd P Q rd m U V rh := by
  unfold asb
  rw [tch_cl h, (h 0 (by omega)).1, (h 0 (by omega)).2]
  exact and_congr_right fun _ => and_congr (imp_congr_right fun _ => forall_congr' fun k => imp_congr_right fun _ => by rw [inF_cg hn h]) Iff.rfl
theorem alC_cx (hn : 2 ≤ n) (h : ∀ j, j < n → X j = A j ∧ Y j = B j) {k : Nat} (hk : k < n) : alC ft st tn kd mn cx cy f0 n X Y rg (n - 1) (ctF X k) (ctF Y k) rg k ↔ alC ft st tn kd mn cx cy f0 n A B rg (n - 1) (ctF A k) (ctF B k) rg k := by
  rw [alC_cg (by omega) (ctF_cg h)]
  have h1 := h _ (prv_lt (n := n) (i := k) hk); have h2 := h _ (nxt_lt (n := n) (i := k) (by omega)); have h3 := h k hk
  unfold alC
  rw [h1.1, h1.2, h2.1, h2.2, h3.1, h3.2]
  refine and_congr_right fun _ => and_congr_right fun _ => forall_congr' fun q => imp_congr_right fun _ => imp_congr_right fun _ => imp_congr_right fun _ => or_congr Iff.rfl (and_congr (asb_cx (by omega) h) (not_congr (exists_congr fun j => by rw [swC_cg h hk])))
theorem arT_cg (h : ∀ j, j < n → X j = A j ∧ Y j = B j) {k : Nat} (hk : k < n) : arT n X Y k = arT n A B k := by
  have hv := prv_lt (n := n) (i := k) hk
  have h1 := h _ hv; have h2 := h _ (nxt_lt (n := n) (i := k) (by omega)); have h3 := h _ (nxt_lt (n := n) (i := prv n k) (by omega))
  unfold arT eCr; rw [h1.1, h1.2, h2.1, h2.2, h3.1, h3.2]
theorem goK_cg (hn : 2 ≤ n) (h : ∀ j, j < n → X j = A j ∧ Y j = B j) {k : Nat} (hk : k < n) : goK ft st tn kd mn cx cy f0 n X Y rg lim k ↔ goK ft st tn kd mn cx cy f0 n A B rg lim k := by
  unfold goK
  rw [arT_cg h hk, (h k hk).1, (h k hk).2, alC_cx hn h hk]
end
/-- what holds of a feature while its corners go one by one -/
def thI (ft : Nat) (st tn kd : Nat → Int32) (f : Nat) (mn cx cy : Nat → Int32) (n : Nat) : Prop :=
  plI ft st tn kd f mn cx cy n ∧ mSm (kd f).toInt n (cF40 cx f) (cF40 cy f) ∧ okN ft st tn kd mn ∧ (1 ≤ (kd f).toInt ∧ (kd f).toInt ≤ 5) ∧ 2 ≤ n ∧ (5 ≤ (kd f).toInt → 3 ≤ n) ∧ lvF ft st tn f
/-- the corner that the class lets go is the reference's -/
theorem thB {ft : Nat} {st tn kd mn cx cy : Nat → Int32} {f n L : Nat} {X Y : Nat → Int32} {lim zb : Int32} (hI : thI ft st tn kd f mn cx cy n) (hn : n ≤ 40) (hL : lim.toInt = ((L : Nat) : Int)) (hX : ∀ j, j < n → X j = cF40 cx f j ∧ Y j = cF40 cy f j) (hr : ¬ 5 ≤ (kd f).toInt ∨ 4 ≤ n) (hwf : ∀ q, lvF ft st tn q → wfM mn cx cy q)
    (hb : bstS (arT n X Y) (fun k => ¬ goK ft st tn kd mn cx cy f n X Y (rgK (kd f).toInt) lim k) n zb) : (zb.toInt = -1 ∧ ¬ ∃ k, pBest ft st tn kd mn cx cy f n L k) ∨ ∃ k, zb = nI k ∧ pBest ft st tn kd mn cx cy f n L k := by
  obtain ⟨_, hs, hk, hkd, h2, _, _⟩ := hI
  have go : ∀ k, k < n → (goK ft st tn kd mn cx cy f n X Y (rgK (kd f).toInt) lim k ↔ (cnd ft st tn kd mn cx cy f n L k ∧ lwP ft st tn kd mn cx cy f n k)) := fun k hkn => (goK_cg h2 hX hkn).trans (go_iff hL hkn hn hkd hr h2 hs hwf hk)
  have et : ∀ k, k < n → arT n X Y k = trF cx cy f n k := fun k hkn => by
    rw [arT_cg hX hkn]
    have nxp : nxt n (prv n k) = k := by unfold nxt prv; (repeat' split) <;> omega
    unfold arT eCr; rw [nxp]
  rcases hb with ⟨hz, hall⟩ | ⟨b, hz, hb, hF, hm⟩
  · refine Or.inl ⟨by rw [hz]; decide, fun ⟨k, hk1, hk2, hk3, _⟩ => ?_⟩
    exact hall k hk1 ((go k hk1).mpr ⟨hk2, hk3⟩)
  · have g := (go b hb).mp (Classical.not_not.mp hF)
    refine Or.inr ⟨b, hz, hb, g.1, g.2, fun j hj h1 h2 => ?_⟩
    have := hm j hj (fun q => q ((go j hj).mpr ⟨h1, h2⟩))
    rw [et b hb, et j hj] at this; exact this
/-- a feature that others have not touched is as it was -/
theorem vwO_cg {cI : ClassId} {L : List Nat} {f : Nat → va_E} {FA : Nat → Option Nat} {kd st tn mn cx cy mn1 cx1 cy1 : Nat → Int32} {q : Nat} (hm : mn1 q = mn q) (hc : ∀ j, j < 40 → cF40 cx1 q j = cF40 cx q j ∧ cF40 cy1 q j = cF40 cy q j) (h : vwO cI L f FA kd st tn mn cx cy q) : vwO cI L f FA kd st tn mn1 cx1 cy1 q := by
  refine ⟨h.1, h.2.1, fun g => ?_⟩
  obtain ⟨fe, lk, lo, rk, wd, tw, pa, pb, gb, jt, we, fm, r, rx, ry, cap, X, Y, rg, h1, h2, h3, h4, h5⟩ := h.2.2 g
  refine ⟨fe, lk, lo, rk, wd, tw, pa, pb, gb, jt, we, fm, r, rx, ry, cap, X, Y, rg, h1, h2, h3, by rw [hm]; exact h4, ?_⟩
  obtain ⟨a, b, c, d, e⟩ := h5
  unfold rwR
  rw [hm]
  exact ⟨a, b, c, d, fun k hk => by rw [(hc k (by omega)).1, (hc k (by omega)).2]; exact e k hk⟩
end
section
/-! the corners of one feature go one by one -/
theorem rgK_01 (k : Int) : rgK k = 0 ∨ rgK k = 1 := by unfold rgK; split <;> simp
theorem th_r {ft : Nat} {st tn kd : Nat → Int32} {f : Nat} {mn cx cy : Nat → Int32} {n : Nat} (h : thI ft st tn kd f mn cx cy n) : ((¬ (rgK (kd f).toInt).toInt = 0 ∧ n ≤ 3) ∧ ∀ L, ¬ ∃ k, pBest ft st tn kd mn cx cy f n L k) ∨ (((rgK (kd f).toInt).toInt = 0 ∨ 4 ≤ n) ∧ (¬ 5 ≤ (kd f).toInt ∨ 4 ≤ n)) := by
  rw [rgK_0]
  by_cases e : 5 ≤ (kd f).toInt ∧ n ≤ 3
  · refine Or.inl ⟨by omega, fun L ⟨k, hk⟩ => ?_⟩
    have := hk.2.1.1.1; have := h.2.2.2.2.2.1 e.1; omega
  · exact Or.inr (by omega)
theorem nN_n9 {n : Nat} (h : n ≤ 1000) : nN (nI n) = n := by unfold nN; rw [nI_toInt (by omega)]; omega
theorem thI_s {ft : Nat} {st tn kd : Nat → Int32} {f L : Nat} {mn cx cy : Nat → Int32} {n k : Nat} (h : thI ft st tn kd f mn cx cy n) (hb : pBest ft st tn kd mn cx cy f n L k) : thI ft st tn kd f (upd mn f (nI (n - 1))) (shp f k (n - 1) cx) (shp f k (n - 1) cy) (n - 1) := by
  obtain ⟨hp, hs, hk, hkd, h2, h3, hl⟩ := h
  obtain ⟨b1, b2, b3, b4⟩ := hb
  have hg := b2.1.1
  have n40 := hp.2.1
  have hq : ∀ q, lvF ft st tn q → q ≠ f → wfM (upd mn f (nI (n - 1))) (shp f k (n - 1) cx) (shp f k (n - 1) cy) q := fun q hq hqf => by
    have w := hp.2.2.2.1 q hq
    unfold wfM at w ⊢
    rw [show upd mn f (nI (n - 1)) q = mn q from if_neg hqf]
    refine ⟨w.1, w.2.1, fun j hj => ?_⟩
    rw [shp_ot hqf n40.2 j (by have := w.2.1; omega), shp_ot hqf n40.2 j (by have := w.2.1; omega)]; exact w.2.2 j hj
  have hf : wfM (upd mn f (nI (n - 1))) (shp f k (n - 1) cx) (shp f k (n - 1) cy) f := by
    unfold wfM
    rw [up_at, nN_n9 (by omega)]
    exact ⟨rfl, by omega, b3.1⟩
  refine ⟨⟨up_at _ _ _, by omega, b3.1, fun q hq9 => ?_, fun g => by omega⟩, b3.2.1, fun q hq9 => ?_, hkd, by omega, fun g => by have := h3 g; omega, hl⟩
  · by_cases e : q = f
    · rw [e]; exact hf
    · exact hq q hq9 e
  · by_cases e : q = f
    · rw [e, up_at, nN_n9 (by omega)]; exact Or.inr ⟨by omega, by omega⟩
    · rw [show upd mn f (nI (n - 1)) q = mn q from if_neg e]; exact hk q hq9
/-- others stay as they are while corners of one feature go -/
def othE (f : Nat) (mn cx cy mn1 cx1 cy1 : Nat → Int32) : Prop := (∀ q, q ≠ f → mn1 q = mn q) ∧ ∀ q, q ≠ f → ∀ j, j < 40 → cF40 cx1 q j = cF40 cx q j ∧ cF40 cy1 q j = cF40 cy q j
theorem othE_0 (f : Nat) (mn cx cy : Nat → Int32) : othE f mn cx cy mn cx cy := ⟨fun _ _ => rfl, fun _ _ _ _ => ⟨rfl, rfl⟩⟩
theorem othE_s {f k n : Nat} {mn cx cy mn1 cx1 cy1 : Nat → Int32} {x : Int32} (h : othE f mn cx cy mn1 cx1 cy1) (hn : n ≤ 40) : othE f mn cx cy (upd mn1 f x) (shp f k (n - 1) cx1) (shp f k (n - 1) cy1) :=
  ⟨fun q hq => by rw [show upd mn1 f x q = mn1 q from if_neg hq]; exact h.1 q hq, fun q hq j hj => by rw [shp_ot hq hn j hj, shp_ot hq hn j hj]; exact h.2 q hq j hj⟩
theorem cut_row {f k n : Nat} {cx cy X Y X1 Y1 : Nat → Int32} (hX : ∀ j, j < n → X j = cF40 cx f j ∧ Y j = cF40 cy f j) (h1 : ∀ j, j < k → X1 j = X j ∧ Y1 j = Y j) (h2 : ∀ j, k ≤ j → j < n - 1 → X1 j = X (j + 1) ∧ Y1 j = Y (j + 1)) (hk : k < n) : ∀ j, j < n - 1 → X1 j = cF40 (shp f k (n - 1) cx) f j ∧ Y1 j = cF40 (shp f k (n - 1) cy) f j := by
  intro j hj
  have c := ct_cg hX h1 h2 hk j hj
  rw [shp_ct j hj, shp_ct j hj]; exact c
theorem pl_go {ft : Nat} {st tn kd : Nat → Int32} {f L m : Nat} {mn cx cy mn1 cx1 cy1 : Nat → Int32} {n n1 k : Nat} (h : plN ft st tn kd f L m mn cx cy n mn1 cx1 cy1 n1) (hk : pBest ft st tn kd mn cx cy f n L k) : ∃ r, m = r + 1 ∧ plN ft st tn kd f L r (upd mn f (nI (n - 1))) (shp f k (n - 1) cx) (shp f k (n - 1) cy) (n - 1) mn1 cx1 cy1 n1 := by
  rcases Nat.eq_zero_or_pos m with e | e
  · exact absurd ⟨k, hk⟩ (plN_z e h).2.2.2.2
  · obtain ⟨r, k2, e1, h1, h2⟩ := plN_p e h
    rw [pBest_u hk h1]; exact ⟨r, e1, h2⟩
theorem pl_no {ft : Nat} {st tn kd : Nat → Int32} {f L m : Nat} {mn cx cy mn1 cx1 cy1 : Nat → Int32} {n n1 : Nat} (h : plN ft st tn kd f L m mn cx cy n mn1 cx1 cy1 n1) (hk : ¬ ∃ k, pBest ft st tn kd mn cx cy f n L k) : m = 0 ∧ mn1 = mn ∧ cx1 = cx ∧ cy1 = cy ∧ n1 = n := by
  rcases Nat.eq_zero_or_pos m with e | e
  · have z := plN_z e h; exact ⟨e, z.1, z.2.1, z.2.2.1, z.2.2.2.1⟩
  · obtain ⟨r, k2, e1, h1, h2⟩ := plN_p e h
    exact absurd ⟨k2, h1⟩ hk
end
section
/-! the corners of a row, and those that went from it -/
def isR (n : Nat) (X Y : Nat → Int32) (x y : Int32) : Prop := ∃ k, k < n ∧ X k = x ∧ Y k = y
def dsR (n : Nat) (X Y : Nat → Int32) : Prop := ∀ i j, i < j → j < n → ¬ (X i = X j ∧ Y i = Y j)
/-- behind a, up to w, stand just those corners of the row X, Y that the row P, Q has no more -/
def lsC (a w : Nat) (A B LX LY : Nat → Int32) (n : Nat) (X Y : Nat → Int32) (m : Nat) (P Q : Nat → Int32) : Prop :=
  (∀ i, i < a → LX i = A i ∧ LY i = B i) ∧ a ≤ w ∧ (∀ x y, (∃ i, a ≤ i ∧ i < w ∧ LX i = x ∧ LY i = y) ↔ (isR n X Y x y ∧ ¬ isR m P Q x y)) ∧ dsR m P Q ∧ ∀ x y, isR m P Q x y → isR n X Y x y
theorem lsC_0 {a : Nat} {A B : Nat → Int32} {n : Nat} {X Y : Nat → Int32} (h : dsR n X Y) : lsC a a A B A B n X Y n X Y :=
  ⟨fun _ _ => ⟨rfl, rfl⟩, Nat.le_refl _, fun x y => ⟨fun ⟨i, h1, h2, _⟩ => absurd h1 (by omega), fun g => absurd g.1 g.2⟩, h, fun _ _ g => g⟩
section
variable {n m k a w v r : Nat} {A B LX LY LX1 LY1 X Y P Q P1 Q1 X1 Y1 U S : Nat → Int32}
theorem isR_cut (hk : k < n) (h1 : ∀ j, j < k → P1 j = P j ∧ Q1 j = Q j) (h2 : ∀ j, k ≤ j → j < n - 1 → P1 j = P (j + 1) ∧ Q1 j = Q (j + 1)) : ∀ x y, isR (n - 1) P1 Q1 x y ↔ ∃ j, j < n ∧ j ≠ k ∧ P j = x ∧ Q j = y := by
  intro x y
  constructor
  · rintro ⟨j, hj, e1, e2⟩
    rcases Nat.lt_or_ge j k with h | h
    · exact ⟨j, by omega, by omega, (h1 j h).1.symm.trans e1, (h1 j h).2.symm.trans e2⟩
    · exact ⟨j + 1, by omega, by omega, (h2 j h hj).1.symm.trans e1, (h2 j h hj).2.symm.trans e2⟩
  · rintro ⟨j, hj, hne, e1, e2⟩
    rcases Nat.lt_or_ge j k with h | h
    · exact ⟨j, by omega, (h1 j h).1.trans e1, (h1 j h).2.trans e2⟩
    · obtain ⟨i, rfl⟩ : ∃ i, j = i + 1 := ⟨j - 1, by omega⟩
      have g := h2 i (by omega) (by omega)
      exact ⟨i, by omega, g.1.trans e1, g.2.trans e2⟩
theorem dsR_cut (hd : dsR n P Q) (hk : k < n) (h1 : ∀ j, j < k → P1 j = P j ∧ Q1 j = Q j) (h2 : ∀ j, k ≤ j → j < n - 1 → P1 j = P (j + 1) ∧ Q1 j = Q (j + 1)) : dsR (n - 1) P1 Q1 := by
  have hs : ∀ i, i < n - 1 → ∃ i', ((i' = i ∧ i < k) ∨ (i' = i + 1 ∧ k ≤ i)) ∧ P1 i = P i' ∧ Q1 i = Q i' := fun i hi => by
    rcases Nat.lt_or_ge i k with h | h
    · exact ⟨i, Or.inl ⟨rfl, h⟩, h1 i h⟩
    · exact ⟨i + 1, Or.inr ⟨rfl, h⟩, h2 i h hi⟩
  intro i j hij hj e
  obtain ⟨i', a1, a2, a3⟩ := hs i (by omega)
  obtain ⟨j', b1, b2, b3⟩ := hs j hj
  exact hd i' j' (by omega) (by omega) ⟨a2.symm.trans (e.1.trans b2), a3.symm.trans (e.2.trans b3)⟩
/-- one corner more goes -/
theorem lsC_s (h : lsC a w A B LX LY n X Y m P Q) (hk : k < m) (h1 : ∀ j, j < k → P1 j = P j ∧ Q1 j = Q j) (h2 : ∀ j, k ≤ j → j < m - 1 → P1 j = P (j + 1) ∧ Q1 j = Q (j + 1)) (hl : ∀ i, i < w → LX1 i = LX i ∧ LY1 i = LY i) (hx : LX1 w = P k) (hy : LY1 w = Q k) : lsC a (w + 1) A B LX1 LY1 n X Y (m - 1) P1 Q1 := by
  obtain ⟨g1, g2, g3, g4, g5⟩ := h
  have hc := isR_cut hk h1 h2
  have hsub : ∀ x y, isR (m - 1) P1 Q1 x y → isR m P Q x y := fun x y hr => by
    obtain ⟨j, hj, _, e⟩ := (hc x y).mp hr
    exact ⟨j, hj, e⟩
  refine ⟨fun i hi => ⟨(hl i (by omega)).1.trans (g1 i hi).1, (hl i (by omega)).2.trans (g1 i hi).2⟩, by omega, fun x y => ⟨?_, ?_⟩, dsR_cut g4 hk h1 h2, fun x y hr => g5 x y (hsub x y hr)⟩
  · rintro ⟨i, i1, i2, e1, e2⟩
    rcases Nat.lt_or_ge i w with q | q
    · have z := (g3 x y).mp ⟨i, i1, q, (hl i q).1.symm.trans e1, (hl i q).2.symm.trans e2⟩
      exact ⟨z.1, fun hr => z.2 (hsub x y hr)⟩
    · have e : i = w := by omega
      rw [e, hx] at e1
      rw [e, hy] at e2
      refine ⟨g5 x y ⟨k, hk, e1, e2⟩, fun hr => ?_⟩
      obtain ⟨j, hj, hne, f1, f2⟩ := (hc x y).mp hr
      rcases Nat.lt_or_gt_of_ne hne with z | z
      · exact g4 j k z hk ⟨f1.trans e1.symm, f2.trans e2.symm⟩
      · exact g4 k j z hj ⟨e1.trans f1.symm, e2.trans f2.symm⟩
  · rintro ⟨r1, r2⟩
    by_cases q : isR m P Q x y
    · obtain ⟨j, hj, e1, e2⟩ := q
      have e : j = k := Classical.byContradiction fun e => r2 ((hc x y).mpr ⟨j, hj, e, e1, e2⟩)
      rw [e] at e1 e2
      exact ⟨w, g2, by omega, hx.trans e1, hy.trans e2⟩
    · obtain ⟨i, i1, i2, e1, e2⟩ := (g3 x y).mpr ⟨r1, q⟩
      exact ⟨i, i1, by omega, (hl i i2).1.trans e1, (hl i i2).2.trans e2⟩
theorem isR_cg (h : ∀ j, j < n → X j = A j ∧ Y j = B j) {x y : Int32} : isR n X Y x y ↔ isR n A B x y :=
  ⟨fun ⟨j, hj, e1, e2⟩ => ⟨j, hj, (h j hj).1.symm.trans e1, (h j hj).2.symm.trans e2⟩, fun ⟨j, hj, e1, e2⟩ => ⟨j, hj, (h j hj).1.trans e1, (h j hj).2.trans e2⟩⟩
theorem dsR_cg (h : ∀ j, j < n → X j = A j ∧ Y j = B j) (hd : dsR n A B) : dsR n X Y := fun i j hij hj e =>
  hd i j hij hj ⟨(h i (by omega)).1.symm.trans (e.1.trans (h j hj).1), (h i (by omega)).2.symm.trans (e.2.trans (h j hj).2)⟩
theorem lsC_cg (hx : ∀ j, j < n → X j = X1 j ∧ Y j = Y1 j) (hp : ∀ j, j < m → P j = P1 j ∧ Q j = Q1 j) (h : lsC a w A B LX LY n X Y m P Q) : lsC a w A B LX LY n X1 Y1 m P1 Q1 := by
  obtain ⟨g1, g2, g3, g4, g5⟩ := h
  refine ⟨g1, g2, fun x y => (g3 x y).trans (and_congr (isR_cg hx) (not_congr (isR_cg hp))), dsR_cg (fun j hj => ⟨(hp j hj).1.symm, (hp j hj).2.symm⟩) g4, fun x y g => (isR_cg hx).mp (g5 x y ((isR_cg hp).mpr g))⟩
theorem lsC_t (h : lsC a w A B LX LY n X Y m P Q) (h2 : lsC w v LX LY LX1 LY1 m P Q r U S) : lsC a v A B LX1 LY1 n X Y r U S := by
  obtain ⟨g1, g2, g3, g4, g5⟩ := h
  obtain ⟨i1, i2, i3, i4, i5⟩ := h2
  refine ⟨fun i hi => ⟨(i1 i (by omega)).1.trans (g1 i hi).1, (i1 i (by omega)).2.trans (g1 i hi).2⟩, by omega, fun x y => ⟨?_, ?_⟩, i4, fun x y g => g5 x y (i5 x y g)⟩
  · rintro ⟨i, h1, h2, e1, e2⟩
    rcases Nat.lt_or_ge i w with q | q
    · have z := (g3 x y).mp ⟨i, h1, q, (i1 i q).1.symm.trans e1, (i1 i q).2.symm.trans e2⟩
      exact ⟨z.1, fun hr => z.2 (i5 x y hr)⟩
    · have z := (i3 x y).mp ⟨i, q, h2, e1, e2⟩
      exact ⟨g5 x y z.1, z.2⟩
  · rintro ⟨r1, r2⟩
    by_cases q : isR m P Q x y
    · obtain ⟨i, h1, h2, e⟩ := (i3 x y).mpr ⟨q, r2⟩
      exact ⟨i, by omega, h2, e⟩
    · obtain ⟨i, h1, h2, e1, e2⟩ := (g3 x y).mpr ⟨r1, q⟩
      exact ⟨i, h1, by omega, (i1 i h2).1.trans e1, (i1 i h2).2.trans e2⟩
end
/-- a simple row has no corner twice -/
theorem mt_sh {a1 a2 b1 b2 c1 c2 : Int} : mtC a1 a2 b1 b2 c1 c2 a1 a2 := by
  refine mtM_iff.mp (Or.inr (Or.inr (Or.inl ⟨?_, ?_, ?_, ?_, ?_⟩)))
  · unfold cr; grind
  · omega
  · omega
  · omega
  · omega
theorem sq_pos9 {u v : Int} (h : ¬ (u = 0 ∧ v = 0)) : 0 < u * u + v * v := by
  have h1 : ∀ z : Int, 0 ≤ z * z := fun z => by
    rcases Int.le_total 0 z with g | g
    · exact Int.mul_nonneg g g
    · exact Int.mul_nonneg_of_nonpos_of_nonpos g g
  have h2 : ∀ z : Int, z ≠ 0 → 0 < z * z := fun z hz => by
    rcases Int.lt_or_gt_of_ne hz with g | g
    · exact Int.mul_pos_of_neg_of_neg g g
    · exact Int.mul_pos g g
  have a := h1 u
  have b := h1 v
  by_cases e : u = 0
  · have := h2 v (fun g => h ⟨e, g⟩); omega
  · have := h2 u e; omega
theorem mSm_ds {kd : Int} {n : Nat} {X Y : Nat → Int32} (h0 : ¬ kd = 0) (h : mSm kd n X Y) : dsR n X Y := by
  obtain ⟨_, h1, h2, _⟩ := h.2 h0
  have hO : n - 1 ≤ eO kd n := by unfold eO; rw [if_neg h0]; split <;> omega
  have nx : ∀ i, i + 1 < n → nxt n i = i + 1 := fun i hi => by unfold nxt; rw [if_pos hi]
  intro i j hij hj e
  by_cases q : j = i + 1
  · refine h1 i (by omega) ?_
    rw [nx i (by omega), ← q, e.1, e.2]; exact ⟨rfl, rfl⟩
  · obtain ⟨k, rfl⟩ : ∃ k, j = k + 1 := ⟨j - 1, by omega⟩
    obtain ⟨c1, c2, c3⟩ := h2 i k (by omega) (by omega)
    by_cases q2 : k = i + 1
    · refine c1 q2 ?_
      have d := h1 i (by omega)
      rw [nx i (by omega)] at d
      unfold mFl
      rw [nx i (by omega), nx k (by omega), ← e.1, ← e.2]
      refine ⟨by unfold cr; grind, ?_⟩
      unfold dt
      exact sq_pos9 (fun g => d ⟨by omega, by omega⟩)
    · refine c3 q2 (fun g => ?_) ?_
      · have : eO kd n = n := by unfold eO; rw [if_neg h0, if_pos g.1]
        omega
      · unfold eMt
        rw [nx k (by omega), ← e.1, ← e.2]
        exact mt_sh
end
section
set_option maxHeartbeats 4000000 in
set_option maxRecDepth 100000 in
theorem k_thin_f (l : Launch) (dC : Nat → ClassId) (dI : Nat → Nat → Nat) (cI cZ cF : ClassId) (sz : Nat) (x : Nat) (ro : Nat) (bq : Nat) (bp : Nat) (dq : Nat) (dp : Nat) (lv : Nat) (sl : Nat) (ds : Int32) (sd : Int32) (ul : Int32) (su : Int32) (lw : Nat) (dr : Nat) (tg : Nat) (wy : Nat) (br : Nat) (bo : Nat) (aa : Nat) (tx : Nat) (ty : Nat) (nt : Nat) (TX : Nat → Int32) (TY : Nat → Int32) (rt : Int32) (wx : Nat) (wz : Nat) (nw : Nat) (WX : Nat → Int32) (WY : Nat → Int32) (rw : Int32) (dx : Nat) (dy : Nat) (nd : Nat) (cd : Nat) (P : Nat → Int32) (Q : Nat → Int32) (rd : Int32) (b1 : Int32) (b2 : Int32) (b3 : Int32) (b4 : Int32) (b5 : Int32) (b6 : Int32) (b7 : Int32) (b8 : Int32) (AR : Nat → Int32) (sh : Nat) (fa : Nat) (ft : Nat) (FA : Nat → Option Nat) (fe : Nat) (lo : Nat) (rk9 : Int32) (wd9 : Int32) (tw9 : Int32) (pa9 : Int32) (pb9 : Int32) (lk : Nat) (gb9 : Int32) (jt9 : Int32) (r : Nat) (rx : Nat) (ry : Nat) (n : Nat) (cap : Nat) (X : Nat → Int32) (Y : Nat → Int32) (ln9 : Nat) (cl9 : Nat) (lx : Nat) (ly : Nat) (LX : Nat → Int32) (LY : Nat → Int32) (f0 : Nat) (wn : Nat) (LM : Nat) (m9 : Nat) (n1 : Nat) (L : List Nat) (f : Nat → va_E) (kd : Nat → Int32) (st : Nat → Int32) (tn : Nat → Int32) (mn : Nat → Int32) (cx : Nat → Int32) (cy : Nat → Int32) (mn1 : Nat → Int32) (cx1 : Nat → Int32) (cy1 : Nat → Int32) (lim : Int32) (fm : Nat) (h200 : ft ≤ 200) (hf0 : f0 < ft) (hFA : FA f0 = some fe) (hvw : ∀ q, q < ft → q ≠ f0 → vwO cI L f FA kd st tn mn cx cy q) (hI : thI ft st tn kd f0 mn cx cy n) (hpl : plN ft st tn kd f0 LM m9 mn cx cy n mn1 cx1 cy1 n1) (hL : lim.toInt = ((LM : Nat) : Int)) (hX : ∀ j, j < n → X j = cF40 cx f0 j ∧ Y j = cF40 cy f0 j) (hn : n ≤ cap ∧ cap ≤ 40) (hcd : 40 ≤ cd ∧ cd ≤ 1000) (hwl : wn + n ≤ cl9 ∧ cl9 ≤ 1000) (hds : dsR n X Y) (hwln : wn ≤ ln9) (hp : pls n X Y) (hln : ln9 ≤ cl9) : zM l yX10_thin cX10_thin 6 (some .int) ({ frames := 6, cells := 0, slots := 0, locals := 157 } : Room) [.ref x, .ref fe, .int lim] (dC, dI) (zTy cI cZ cF) ([(oc8 x (.ref sh) (.ref lw) (.ref ro) (.ref bq) (.ref bp) (.ref dq) (.ref dp) (.ref lv) (.ref sl) ds sd ul su), (oc3 lw (.ref dr) (.ref tg) (.ref wy) (.ref br) (.ref bo) (.ref aa)), (oc6 tg (.ref tx) (.ref ty) (nI nt) rt), (oa tx cI 3 TX), (oa ty cI 3 TY), (oc6 wy (.ref wx) (.ref wz) (nI nw) rw), (oa wx cI 2 WX), (oa wz cI 2 WY), (oc6 dr (.ref dx) (.ref dy) (nI nd) rd), (oa dx cI cd P), (oa dy cI cd Q), (oc0 br b1 b2 b3 b4), (oc0 bo b5 b6 b7 b8), (oa aa cI 40 AR), (oc7 sh (.ref fa) (nI ft)), (oq fa cF 200 FA), (oc1 fe rk9 wd9 tw9 pa9 pb9 (.ref lo) (.ref lk) (.ref fm)), (oc4 lk (kd f0) (st f0) (.ref r) gb9 jt9 (nI wn)), (oc6 r (.ref rx) (.ref ry) (nI n) (rgK (kd f0).toInt)), (oa rx cI cap X), (oa ry cI cap Y), (oc6 lo (.ref lx) (.ref ly) (nI ln9) 0), (oa lx cI cl9 LX), (oa ly cI cl9 LY)] ++ va_pl L f) sz (some (.int (nI m9))) (fun A t => ∃ (nt1 : Nat), ∃ (TX1 : Nat → Int32), ∃ (TY1 : Nat → Int32), ∃ (rt1 : Int32), ∃ (nw1 : Nat), ∃ (WX1 : Nat → Int32), ∃ (WY1 : Nat → Int32), ∃ (rw1 : Int32), ∃ (nd1 : Nat), ∃ (P1 : Nat → Int32), ∃ (Q1 : Nat → Int32), ∃ (rd1 : Int32), ∃ (d5 : Int32), ∃ (d6 : Int32), ∃ (d7 : Int32), ∃ (d8 : Int32), ∃ (e5 : Int32), ∃ (e6 : Int32), ∃ (e7 : Int32), ∃ (e8 : Int32), ∃ (AR1 : Nat → Int32), ∃ (X2 : Nat → Int32), ∃ (Y2 : Nat → Int32), ∃ (LX2 : Nat → Int32), ∃ (LY2 : Nat → Int32), ∃ (lc2 : Nat), (∀ j, j < n1 → X2 j = cF40 cx1 f0 j ∧ Y2 j = cF40 cy1 f0 j) ∧ (lc2 ≤ cl9) ∧ (lsC wn (wn + m9) LX LY LX2 LY2 n (cF40 cx f0) (cF40 cy f0) n1 (cF40 cx1 f0) (cF40 cy1 f0)) ∧ (wn + m9 ≤ lc2) ∧ zPD (dC, dI) classes A ([(oc8 x (.ref sh) (.ref lw) (.ref ro) (.ref bq) (.ref bp) (.ref dq) (.ref dp) (.ref lv) (.ref sl) ds sd ul su), (oc3 lw (.ref dr) (.ref tg) (.ref wy) (.ref br) (.ref bo) (.ref aa)), (oc6 tg (.ref tx) (.ref ty) (nI nt1) rt1), (oa tx cI 3 TX1), (oa ty cI 3 TY1), (oc6 wy (.ref wx) (.ref wz) (nI nw1) rw1), (oa wx cI 2 WX1), (oa wz cI 2 WY1), (oc6 dr (.ref dx) (.ref dy) (nI nd1) rd1), (oa dx cI cd P1), (oa dy cI cd Q1), (oc0 br d5 d6 d7 d8), (oc0 bo e5 e6 e7 e8), (oa aa cI 40 AR1), (oc7 sh (.ref fa) (nI ft)), (oq fa cF 200 FA), (oc1 fe rk9 wd9 tw9 pa9 pb9 (.ref lo) (.ref lk) (.ref fm)), (oc4 lk (kd f0) (st f0) (.ref r) gb9 jt9 (nI (wn + m9))), (oc6 r (.ref rx) (.ref ry) (nI n1) (rgK (kd f0).toInt)), (oa rx cI cap X2), (oa ry cI cap Y2), (oc6 lo (.ref lx) (.ref ly) (nI lc2) 0), (oa lx cI cl9 LX2), (oa ly cI cl9 LY2)] ++ va_pl L f) t.heap) 0 0 := by
  refine zIn (own := "ScaleShop") (loc := [(0, .ref x), (1, .ref fe), (2, .int lim)]) rfl rfl rfl rfl (fun p e s m below meth c hx hb hr hts hown hlocks hml hnm9 A hA hS hP hD hK hXN Q9 hQ9 ls hl => ?_)
  refine lv_iconst (v := 0) hx hb dX10_thin_0 rfl ?_
  refine lv_istore_n (lv' := [(3, .int 0), (0, .ref x), (1, .ref fe), (2, .int lim)]) hx hb dX10_thin_1 rfl hl (Nat.le_of_ble_eq_true rfl) rfl (fun ls hl => ?_)
  refine lv_iconst (v := 0) hx hb dX10_thin_2 rfl ?_
  refine lv_istore (lv' := [(4, .int 0), (3, .int 0), (0, .ref x), (1, .ref fe), (2, .int lim)]) hx hb dX10_thin_3 hl (Nat.le_of_ble_eq_true rfl) rfl (fun ls hl => ?_)
  have hl_5 : ∀ (n9 : Nat) (i5 : Nat) (w3 : Nat) (m2r : Nat) (n2 : Nat) (wn2 : Nat) (lc2 : Nat) (X2 : Nat → Int32) (Y2 : Nat → Int32) (LX2 : Nat → Int32) (LY2 : Nat → Int32) (mnj : Nat → Int32) (cxj : Nat → Int32) (cyj : Nat → Int32) (nt1 : Nat) (TX1 : Nat → Int32) (TY1 : Nat → Int32) (rt1 : Int32) (nw1 : Nat) (WX1 : Nat → Int32) (WY1 : Nat → Int32) (rw1 : Int32) (nd1 : Nat) (P1 : Nat → Int32) (Q1 : Nat → Int32) (rd1 : Int32) (d5 : Int32) (d6 : Int32) (d7 : Int32) (d8 : Int32) (e5 : Int32) (e6 : Int32) (e7 : Int32) (e8 : Int32) (AR1 : Nat → Int32) (H : Heap) (locs : List Loc) (ls : Array Slot), m2r < n9 → (thI ft st tn kd f0 mnj cxj cyj n2) → (plN ft st tn kd f0 LM m2r mnj cxj cyj n2 mn1 cx1 cy1 n1) → (∀ j, j < n2 → X2 j = cF40 cxj f0 j ∧ Y2 j = cF40 cyj f0 j) → (othE f0 mn cx cy mnj cxj cyj) → (i5 + n2 ≤ 40 ∧ n2 ≤ cap ∧ wn2 + n2 ≤ cl9 ∧ n2 ≤ n) → (w3 + m2r = m9 ∧ wn2 + m2r = wn + m9) → (lc2 ≤ cl9 ∧ wn2 ≤ lc2) → (lsC wn wn2 LX LY LX2 LY2 n X Y n2 X2 Y2) → va_P (dC, dI) classes ([(oc8 x (.ref sh) (.ref lw) (.ref ro) (.ref bq) (.ref bp) (.ref dq) (.ref dp) (.ref lv) (.ref sl) ds sd ul su), (oc3 lw (.ref dr) (.ref tg) (.ref wy) (.ref br) (.ref bo) (.ref aa)), (oc6 tg (.ref tx) (.ref ty) (nI nt1) rt1), (oa tx cI 3 TX1), (oa ty cI 3 TY1), (oc6 wy (.ref wx) (.ref wz) (nI nw1) rw1), (oa wx cI 2 WX1), (oa wz cI 2 WY1), (oc6 dr (.ref dx) (.ref dy) (nI nd1) rd1), (oa dx cI cd P1), (oa dy cI cd Q1), (oc0 br d5 d6 d7 d8), (oc0 bo e5 e6 e7 e8), (oa aa cI 40 AR1), (oc7 sh (.ref fa) (nI ft)), (oq fa cF 200 FA), (oc1 fe rk9 wd9 tw9 pa9 pb9 (.ref lo) (.ref lk) (.ref fm)), (oc4 lk (kd f0) (st f0) (.ref r) gb9 jt9 (nI wn2)), (oc6 r (.ref rx) (.ref ry) (nI n2) (rgK (kd f0).toInt)), (oa rx cI cap X2), (oa ry cI cap Y2), (oc6 lo (.ref lx) (.ref ly) (nI lc2) 0), (oa lx cI cl9 LX2), (oa ly cI cl9 LY2)] ++ va_pl L f) H → va_D A ([(oc8 x (.ref sh) (.ref lw) (.ref ro) (.ref bq) (.ref bp) (.ref dq) (.ref dp) (.ref lv) (.ref sl) ds sd ul su), (oc3 lw (.ref dr) (.ref tg) (.ref wy) (.ref br) (.ref bo) (.ref aa)), (oc6 tg (.ref tx) (.ref ty) (nI nt1) rt1), (oa tx cI 3 TX1), (oa ty cI 3 TY1), (oc6 wy (.ref wx) (.ref wz) (nI nw1) rw1), (oa wx cI 2 WX1), (oa wz cI 2 WY1), (oc6 dr (.ref dx) (.ref dy) (nI nd1) rd1), (oa dx cI cd P1), (oa dy cI cd Q1), (oc0 br d5 d6 d7 d8), (oc0 bo e5 e6 e7 e8), (oa aa cI 40 AR1), (oc7 sh (.ref fa) (nI ft)), (oq fa cF 200 FA), (oc1 fe rk9 wd9 tw9 pa9 pb9 (.ref lo) (.ref lk) (.ref fm)), (oc4 lk (kd f0) (st f0) (.ref r) gb9 jt9 (nI wn2)), (oc6 r (.ref rx) (.ref ry) (nI n2) (rgK (kd f0).toInt)), (oa rx cI cap X2), (oa ry cI cap Y2), (oc6 lo (.ref lx) (.ref ly) (nI lc2) 0), (oa lx cI cl9 LX2), (oa ly cI cl9 LY2)] ++ va_pl L f) → va_S A s.heap H locs → lv_has ls 6 [(4, .int (nI i5)), (3, .int (nI w3)), (0, .ref x), (1, .ref fe), (2, .int lim)] → W p l e ({ frames := 6, cells := 0, slots := 0, locals := 157 } : Room) s m ([.ref x, .ref fe, .int lim] : List Value).toArray below meth c H locs 0 0 Q9 (F0 m 5 ls []) := by
    intro n9
    induction n9 with
    | zero => intro i5 w3 m2r n2 wn2 lc2 X2 Y2 LX2 LY2 mnj cxj cyj nt1 TX1 TY1 rt1 nw1 WX1 WY1 rw1 nd1 P1 Q1 rd1 d5 d6 d7 d8 e5 e6 e7 e8 AR1 H locs ls hm; exact absurd hm (Nat.not_lt_zero _)
    | succ n9 ih_5 =>
      intro i5 w3 m2r n2 wn2 lc2 X2 Y2 LX2 LY2 mnj cxj cyj nt1 TX1 TY1 rt1 nw1 WX1 WY1 rw1 nd1 P1 Q1 rd1 d5 d6 d7 d8 e5 e6 e7 e8 AR1 H locs ls hm hIj hplj hXj hoj hcn hwm hlc2 hlSj hP hD hS hl
      refine lv_iload hx hb dX10_thin_5 (lv_at hl 0 rfl) ?_
      refine lv_bipush (v := 40) hx hb dX10_thin_7 rfl ?_
      have b9_2 : zlt (i5) := show i5 < 2147483648 by omega
      refine lv_icmp_ge (tgt := 51) hx hb dX10_thin_9 rfl (fun c_1 => ?_) (fun c_1 => ?_)
      · have c_1 : 40 ≤ ((i5 : Nat) : Int) := zc_le rfl (nI_toInt b9_2) c_1
        exfalso; have h9 := hIj.2.2.2.2.1; omega
      · have c_1 : ((i5 : Nat) : Int) < 40 := zc_nle rfl (nI_toInt b9_2) c_1
        have hwfj := hIj.1.2.2.2.1
        have hpj := hIj.1.2.2.1
        have h2j := hIj.2.2.2.2.1
        have hvwj : ∀ q, q < ft → q ≠ f0 → vwO cI L f FA kd st tn mnj cxj cyj q := fun q h1 h2 => vwO_cg (hoj.1 q h2) (hoj.2 q h2) (hvw q h1 h2)
        have hpx2 : pls n2 X2 Y2 := (pls_cg hXj).mpr hpj
        refine lv_aload_n hx hb dX10_thin_12 rfl (lv_at hl 2 rfl) ?_
        refine va_get (D := (dC, dI)) (ci := 8) (v := .ref lw) (C := RX10) (T := TX10) (N := 13) hx hb hts inX10 hown hK hP 0 rfl rfl 1 (Nat.le_of_ble_eq_true rfl) (hts _ mw_310) (fun _ h9 => h9) rfl dX10_thin_13 ?_
        rcases th_r hIj with ⟨h3, hno3⟩ | ⟨h3, hr3⟩
        · skip
          refine lv_aload_n hx hb dX10_thin_16 rfl (lv_at hl 2 rfl) ?_
          refine va_get (D := (dC, dI)) (ci := 8) (v := .ref sh) (C := RX10) (T := TX10) (N := 13) hx hb hts inX10 hown hK hP 0 rfl rfl 0 (Nat.le_of_ble_eq_true rfl) (hts _ mw_309) (fun _ h9 => h9) rfl dX10_thin_17 ?_
          refine lv_aload_n hx hb dX10_thin_20 rfl (lv_at hl 3 rfl) ?_
          refine lv_iload_n hx hb dX10_thin_21 rfl (lv_at hl 4 rfl) ?_
          obtain ⟨hPc, hDc, hFc, hI1⟩ := zi_part (cx := [_, _, _, _, _, _, _, _, _, _, _, _, _, _, _, _, _, _, _, _]) hP hD hS hA [1, 2, 3, 4, 5, 6, 7, 8, 9, 10, 11, 12, 13, 14, 15, 16, 17, 18, 19, 20] (by decide +kernel) rfl
          refine zcall (st1 := [.int (-1)]) (va_runV (As := [.ref sh, .ref fe, .int lim]) (rest := []) ⟨hx, hb, hml, hown, hts⟩ (k_Law_cornerThatGoes_3 l dC dI cI cZ cF H.size lw dr tg wy br bo aa tx ty nt1 TX1 TY1 rt1 wx wz nw1 WX1 WY1 rw1 dx dy nd1 cd P1 Q1 rd1 d5 d6 d7 d8 e5 e6 e7 e8 AR1 sh fa ft FA fe lo rk9 wd9 tw9 pa9 pb9 lk (kd f0) (st f0) gb9 jt9 (nI wn2) r rx ry n2 cap X2 Y2 (rgK (kd f0).toInt) f0 (.ref fm) L f kd st tn mnj cxj cyj lim (by first | with_reducible assumption | omega) (by first | with_reducible assumption | omega) (hFA) (hIj.2.2.2.2.2.2.2.1) (hvwj) (hwfj) (hIj.2.2.1) (by first | with_reducible assumption | omega) (by first | with_reducible assumption | omega) (hpx2) (rgK_01 _) (by first | with_reducible assumption | omega) (by first | with_reducible assumption | omega) (h3)) (csV_78 hts rfl rfl ⟨Nat.le_of_ble_eq_true rfl, Nat.le_of_ble_eq_true rfl⟩) (zPV2 (q0 := 0) (ci := 3) hPc hDc hK hXN rfl rfl) rfl rfl hl.1 rfl (lv_room (Nat.le_of_ble_eq_true rfl)) dX10_thin_22 ⟨Nat.le_of_ble_eq_true rfl, Nat.le_of_ble_eq_true rfl⟩) hS hFc hFc rfl (fun t H locs ht hB hk1 hS => ?_)
          obtain ⟨hP1, hD1⟩ := hB
          rw [ht] at hP1
          replace hP := z0 hP hD hk1 hP1 hI1
          clear hk1 hPc hDc hFc hP1 hD1 ht hI1
          refine lv_istore (lv' := [(5, .int (-1)), (4, .int (nI i5)), (3, .int (nI w3)), (0, .ref x), (1, .ref fe), (2, .int lim)]) hx hb dX10_thin_25 hl (Nat.le_of_ble_eq_true rfl) rfl (fun ls hl => ?_)
          refine lv_iload hx hb dX10_thin_27 (lv_at hl 0 rfl) ?_
          refine lv_iconst (v := (-1)) hx hb dX10_thin_29 rfl ?_
          refine lv_icmp_ne (tgt := 36) hx hb dX10_thin_30 rfl (fun c_3 => ?_) (fun c_3 => ?_)
          · exact absurd (by decide) c_3
          · refine lv_goto (tgt := 51) hx hb dX10_thin_33 rfl ?_
            have hz9 := pl_no hplj (hno3 LM)
            refine lv_iload_n hx hb dX10_thin_51 rfl (lv_at hl 2 rfl) ?_
            obtain ⟨z0, z1, z2, z3, z4⟩ := hz9
            obtain ⟨hP9, hD9⟩ := zu_part (cx := [(oc8 x (.ref sh) (.ref lw) (.ref ro) (.ref bq) (.ref bp) (.ref dq) (.ref dp) (.ref lv) (.ref sl) ds sd ul su), (oc3 lw (.ref dr) (.ref tg) (.ref wy) (.ref br) (.ref bo) (.ref aa)), (oc6 tg (.ref tx) (.ref ty) (nI nt1) rt1), (oa tx cI 3 TX1), (oa ty cI 3 TY1), (oc6 wy (.ref wx) (.ref wz) (nI nw1) rw1), (oa wx cI 2 WX1), (oa wz cI 2 WY1), (oc6 dr (.ref dx) (.ref dy) (nI nd1) rd1), (oa dx cI cd P1), (oa dy cI cd Q1), (oc0 br d5 d6 d7 d8), (oc0 bo e5 e6 e7 e8), (oa aa cI 40 AR1), (oc7 sh (.ref fa) (nI ft)), (oq fa cF 200 FA), (oc1 fe rk9 wd9 tw9 pa9 pb9 (.ref lo) (.ref lk) (.ref fm)), (oc4 lk (kd f0) (st f0) (.ref r) gb9 jt9 (nI wn2)), (oc6 r (.ref rx) (.ref ry) (nI n2) (rgK (kd f0).toInt)), (oa rx cI cap X2), (oa ry cI cap Y2), (oc6 lo (.ref lx) (.ref ly) (nI lc2) 0), (oa lx cI cl9 LX2), (oa ly cI cl9 LY2)]) hP hD [true, true, true, true, true, true, true, true, true, true, true, true, true, true, true, true, true, true, true, true, true, true, true, true] rfl rfl
            have hE9 : (([(oc8 x (.ref sh) (.ref lw) (.ref ro) (.ref bq) (.ref bp) (.ref dq) (.ref dp) (.ref lv) (.ref sl) ds sd ul su), (oc3 lw (.ref dr) (.ref tg) (.ref wy) (.ref br) (.ref bo) (.ref aa)), (oc6 tg (.ref tx) (.ref ty) (nI nt1) rt1), (oa tx cI 3 TX1), (oa ty cI 3 TY1), (oc6 wy (.ref wx) (.ref wz) (nI nw1) rw1), (oa wx cI 2 WX1), (oa wz cI 2 WY1), (oc6 dr (.ref dx) (.ref dy) (nI nd1) rd1), (oa dx cI cd P1), (oa dy cI cd Q1), (oc0 br d5 d6 d7 d8), (oc0 bo e5 e6 e7 e8), (oa aa cI 40 AR1), (oc7 sh (.ref fa) (nI ft)), (oq fa cF 200 FA), (oc1 fe rk9 wd9 tw9 pa9 pb9 (.ref lo) (.ref lk) (.ref fm)), (oc4 lk (kd f0) (st f0) (.ref r) gb9 jt9 (nI wn2)), (oc6 r (.ref rx) (.ref ry) (nI n2) (rgK (kd f0).toInt)), (oa rx cI cap X2), (oa ry cI cap Y2), (oc6 lo (.ref lx) (.ref ly) (nI lc2) 0), (oa lx cI cl9 LX2), (oa ly cI cl9 LY2)] ++ va_pl L f) : va_W) = ([(oc8 x (.ref sh) (.ref lw) (.ref ro) (.ref bq) (.ref bp) (.ref dq) (.ref dp) (.ref lv) (.ref sl) ds sd ul su), (oc3 lw (.ref dr) (.ref tg) (.ref wy) (.ref br) (.ref bo) (.ref aa)), (oc6 tg (.ref tx) (.ref ty) (nI nt1) rt1), (oa tx cI 3 TX1), (oa ty cI 3 TY1), (oc6 wy (.ref wx) (.ref wz) (nI nw1) rw1), (oa wx cI 2 WX1), (oa wz cI 2 WY1), (oc6 dr (.ref dx) (.ref dy) (nI nd1) rd1), (oa dx cI cd P1), (oa dy cI cd Q1), (oc0 br d5 d6 d7 d8), (oc0 bo e5 e6 e7 e8), (oa aa cI 40 AR1), (oc7 sh (.ref fa) (nI ft)), (oq fa cF 200 FA), (oc1 fe rk9 wd9 tw9 pa9 pb9 (.ref lo) (.ref lk) (.ref fm)), (oc4 lk (kd f0) (st f0) (.ref r) gb9 jt9 (nI (wn + m9))), (oc6 r (.ref rx) (.ref ry) (nI n1) (rgK (kd f0).toInt)), (oa rx cI cap X2), (oa ry cI cap Y2), (oc6 lo (.ref lx) (.ref ly) (nI lc2) 0), (oa lx cI cl9 LX2), (oa ly cI cl9 LY2)] ++ va_pl L f) := by rw [z4, show wn2 = wn + m9 by omega]
            rw [hE9] at hP9 hD9
            rw [hQ9]
            exact W.iret (v := nI w3) hx hb hr (fun t ht hW => ⟨⟨congrArg (fun z => Outcome.returned (some (Value.int z))) (show (nI w3 : Int32) = nI m9 from zn_eq (by omega)), nt1, TX1, TY1, rt1, nw1, WX1, WY1, rw1, nd1, P1, Q1, rd1, d5, d6, d7, d8, e5, e6, e7, e8, AR1, X2, Y2, LX2, LY2, lc2, (fun j hj => by rw [z2, z3]; exact hXj j (by omega)), (by omega), (lsC_cg hX (fun j hj => by rw [z2, z3]; exact hXj j (by omega)) (by rw [z4, show wn + m9 = wn2 by omega]; exact hlSj)), (by omega), by rw [ht]; exact hP9, hD9⟩, hS.F ht⟩) hS.2.2 dX10_thin_52
        · skip
          refine lv_aload_n hx hb dX10_thin_16 rfl (lv_at hl 2 rfl) ?_
          refine va_get (D := (dC, dI)) (ci := 8) (v := .ref sh) (C := RX10) (T := TX10) (N := 13) hx hb hts inX10 hown hK hP 0 rfl rfl 0 (Nat.le_of_ble_eq_true rfl) (hts _ mw_309) (fun _ h9 => h9) rfl dX10_thin_17 ?_
          refine lv_aload_n hx hb dX10_thin_20 rfl (lv_at hl 3 rfl) ?_
          refine lv_iload_n hx hb dX10_thin_21 rfl (lv_at hl 4 rfl) ?_
          obtain ⟨hPc, hDc, hFc⟩ := zo_part (cx := [_, _, _, _, _, _, _, _, _, _, _, _, _, _, _, _, _, _, _, _]) hP hD hS hA [1, 2, 3, 4, 5, 6, 7, 8, 9, 10, 11, 12, 13, 14, 15, 16, 17, 18, 19, 20] (by decide +kernel) rfl
          refine zcalle (va_runV (As := [.ref sh, .ref fe, .int lim]) (rest := []) ⟨hx, hb, hml, hown, hts⟩ (k_Law_cornerThatGoes l dC dI cI cZ cF H.size lw dr tg wy br bo aa tx ty nt1 TX1 TY1 rt1 wx wz nw1 WX1 WY1 rw1 dx dy nd1 cd P1 Q1 rd1 d5 d6 d7 d8 e5 e6 e7 e8 AR1 sh fa ft FA fe lo rk9 wd9 tw9 pa9 pb9 lk (kd f0) (st f0) gb9 jt9 (nI wn2) r rx ry n2 cap X2 Y2 (rgK (kd f0).toInt) f0 (.ref fm) L f kd st tn mnj cxj cyj lim (by first | with_reducible assumption | omega) (by first | with_reducible assumption | omega) (hFA) (hIj.2.2.2.2.2.2.2.1) (hvwj) (hwfj) (hIj.2.2.1) (by first | with_reducible assumption | omega) (by first | with_reducible assumption | omega) (hpx2) (rgK_01 _) (by first | with_reducible assumption | omega) (by first | with_reducible assumption | omega) (h3)) (csV_78 hts rfl rfl ⟨Nat.le_of_ble_eq_true rfl, Nat.le_of_ble_eq_true rfl⟩) (zPV2 (q0 := 0) (ci := 3) hPc hDc hK hXN rfl rfl) rfl rfl hl.1 rfl (lv_room (Nat.le_of_ble_eq_true rfl)) dX10_thin_22 ⟨Nat.le_of_ble_eq_true rfl, Nat.le_of_ble_eq_true rfl⟩) hS hFc hFc (fun v9 t H locs ht hB hk1 hS => ?_)
          obtain ⟨zb5, nt6, TX6, TY6, rt6, nw6, WX6, WY6, rw6, nd6, P6, Q6, rd6, g06, g16, g26, g36, g46, g56, g66, g76, AR6, rfl, hbs5, hP1, hD1⟩ := hB
          refine W.eq (g2 := F0 m 25 ls [.int zb5]) rfl ?_
          rw [ht] at hP1
          obtain ⟨hP, hD⟩ := znP (W2 := [_, _, (oc6 tg (.ref tx) (.ref ty) (nI nt6) rt6), (oa tx cI 3 TX6), (oa ty cI 3 TY6), (oc6 wy (.ref wx) (.ref wz) (nI nw6) rw6), (oa wx cI 2 WX6), (oa wz cI 2 WY6), (oc6 dr (.ref dx) (.ref dy) (nI nd6) rd6), (oa dx cI cd P6), (oa dy cI cd Q6), (oc0 br g06 g16 g26 g36), (oc0 bo g46 g56 g66 g76), (oa aa cI 40 AR6), _, _, _, _, _, _, _, _, _, _]) hP hD hk1 hFc hP1 hD1 zl_41 zl_42 zl_42 zl_41 (by decide +kernel) rfl rfl rfl rfl rfl
          clear hk1 hPc hDc hFc hP1 hD1 ht
          refine lv_istore (lv' := [(5, .int zb5), (4, .int (nI i5)), (3, .int (nI w3)), (0, .ref x), (1, .ref fe), (2, .int lim)]) hx hb dX10_thin_25 hl (Nat.le_of_ble_eq_true rfl) rfl (fun ls hl => ?_)
          refine lv_iload hx hb dX10_thin_27 (lv_at hl 0 rfl) ?_
          refine lv_iconst (v := (-1)) hx hb dX10_thin_29 rfl ?_
          refine lv_icmp_ne (tgt := 36) hx hb dX10_thin_30 rfl (fun c_4 => ?_) (fun c_4 => ?_)
          · have c_4 : ¬ zb5.toInt = (-1) := zc_ne rfl rfl c_4
            obtain ⟨k5, hz5, hbest⟩ := (thB hIj (by omega) hL hXj hr3 hwfj hbs5).resolve_left (fun h9 => by omega)
            obtain ⟨m8, hm8, hplr⟩ := pl_go hplj hbest
            have hk5 := hbest.1
            refine lv_aload_n hx hb dX10_thin_36 rfl (lv_at hl 4 rfl) ?_
            refine lv_iload hx hb dX10_thin_37 (lv_at hl 0 rfl) ?_
            refine zz_i (v := nI k5) (hz5) ?_
            obtain ⟨hPc, hDc, hFc⟩ := zo_sub (wc := [_, _, _, _, _, _, _, _]) hP hD hS hA [16, 17, 18, 19, 20, 21, 22, 23] (by decide +kernel) rfl
            refine zcall (st1 := []) (va_runV (As := [.int (nI k5)]) (rest := []) ⟨hx, hb, hml, hown, hts⟩ (k_Feature_losef l dC dI cI cZ cF H.size fe lo rk9 wd9 tw9 pa9 pb9 lk (kd f0) (st f0) gb9 jt9 fm k5 wn2 r rx ry n2 cap X2 Y2 (rgK (kd f0).toInt) lx ly lc2 cl9 LX2 LY2 (by first | with_reducible assumption | omega) (by first | with_reducible assumption | omega) (by first | with_reducible assumption | omega) (by first | with_reducible assumption | omega) (by first | with_reducible assumption | omega) (rgK_01 _)) (csV_79 hts rfl rfl ⟨Nat.le_of_ble_eq_true rfl, Nat.le_of_ble_eq_true rfl⟩) (zPV2 (q0 := 0) (ci := 1) hPc hDc hK hXN rfl rfl) rfl rfl hl.1 rfl (lv_room (Nat.le_of_ble_eq_true rfl)) dX10_thin_39 ⟨Nat.le_of_ble_eq_true rfl, Nat.le_of_ble_eq_true rfl⟩) hS hFc hFc rfl (fun t H locs ht hB hk1 hS => ?_)
            obtain ⟨X5, Y5, hlo5, hhi5, hP1, hD1⟩ := hB
            rw [ht] at hP1
            obtain ⟨hP, hD⟩ := znQ (W2 := [_, _, _, _, _, _, _, _, _, _, _, _, _, _, _, _, _, (oc4 lk (kd f0) (st f0) (.ref r) gb9 jt9 (nI (wn2 + 1))), (oc6 r (.ref rx) (.ref ry) (nI (n2 - 1)) (rgK (kd f0).toInt)), (oa rx cI cap X5), (oa ry cI cap Y5), (oc6 lo (.ref lx) (.ref ly) (nI (wn2 + 1)) 0), (oa lx cI cl9 (upd LX2 wn2 (X2 k5))), (oa ly cI cl9 (upd LY2 wn2 (Y2 k5)))]) hP hD hk1 hFc hP1 hD1 zl_43 zl_44 zl_45 zl_43 (by decide +kernel) rfl rfl rfl rfl rfl
            clear hk1 hPc hDc hFc hP1 hD1 ht
            refine lv_iinc (v := nI (w3 + 1)) (lv' := [(3, .int (nI (w3 + 1))), (5, .int zb5), (4, .int (nI i5)), (0, .ref x), (1, .ref fe), (2, .int lim)]) hx hb dX10_thin_42 hl (k := 2) rfl (nI_add w3 1) (Nat.le_of_ble_eq_true rfl) rfl (fun ls hl => ?_)
            refine lv_iinc (v := nI (i5 + 1)) (lv' := [(4, .int (nI (i5 + 1))), (3, .int (nI (w3 + 1))), (5, .int zb5), (0, .ref x), (1, .ref fe), (2, .int lim)]) hx hb dX10_thin_45 hl (k := 2) rfl (nI_add i5 1) (Nat.le_of_ble_eq_true rfl) rfl (fun ls hl => ?_)
            refine lv_goto (tgt := 5) hx hb dX10_thin_48 rfl ?_
            exact ih_5 (i5 + 1) (w3 + 1) m8 (n2 - 1) (wn2 + 1) (wn2 + 1) X5 Y5 (upd LX2 wn2 (X2 k5)) (upd LY2 wn2 (Y2 k5)) (upd mnj f0 (nI (n2 - 1))) (shp f0 k5 (n2 - 1) cxj) (shp f0 k5 (n2 - 1) cyj) nt6 TX6 TY6 rt6 nw6 WX6 WY6 rw6 nd6 P6 Q6 rd6 g06 g16 g26 g36 g46 g56 g66 g76 AR6 H locs ls (by first | with_reducible assumption | omega) (thI_s hIj hbest) (hplr) (cut_row hXj hlo5 hhi5 hbest.1) (othE_s hoj (by first | with_reducible assumption | omega)) (by first | with_reducible assumption | omega) (by first | with_reducible assumption | omega) (by first | with_reducible assumption | omega) (lsC_s hlSj hbest.1 hlo5 hhi5 (fun i hi => ⟨if_neg (by first | with_reducible assumption | omega), if_neg (by first | with_reducible assumption | omega)⟩) (up_at _ _ _) (up_at _ _ _)) hP hD hS (lv_sub hl [0, 1, 3, 4, 5] rfl)
          · have c_4 : zb5.toInt = (-1) := zc_eq rfl rfl c_4
            refine lv_goto (tgt := 51) hx hb dX10_thin_33 rfl ?_
            have hz9 := pl_no hplj (by rcases thB hIj (by omega) hL hXj hr3 hwfj hbs5 with h9 | ⟨k9, h9, h8⟩; exact h9.2; exact absurd (show (zb5.toInt) = -1 by omega) (by rw [h9, nI_toInt (by have := h8.1; omega)]; omega))
            refine lv_iload_n hx hb dX10_thin_51 rfl (lv_at hl 2 rfl) ?_
            obtain ⟨z0, z1, z2, z3, z4⟩ := hz9
            obtain ⟨hP9, hD9⟩ := zu_part (cx := [(oc8 x (.ref sh) (.ref lw) (.ref ro) (.ref bq) (.ref bp) (.ref dq) (.ref dp) (.ref lv) (.ref sl) ds sd ul su), (oc3 lw (.ref dr) (.ref tg) (.ref wy) (.ref br) (.ref bo) (.ref aa)), (oc6 tg (.ref tx) (.ref ty) (nI nt6) rt6), (oa tx cI 3 TX6), (oa ty cI 3 TY6), (oc6 wy (.ref wx) (.ref wz) (nI nw6) rw6), (oa wx cI 2 WX6), (oa wz cI 2 WY6), (oc6 dr (.ref dx) (.ref dy) (nI nd6) rd6), (oa dx cI cd P6), (oa dy cI cd Q6), (oc0 br g06 g16 g26 g36), (oc0 bo g46 g56 g66 g76), (oa aa cI 40 AR6), (oc7 sh (.ref fa) (nI ft)), (oq fa cF 200 FA), (oc1 fe rk9 wd9 tw9 pa9 pb9 (.ref lo) (.ref lk) (.ref fm)), (oc4 lk (kd f0) (st f0) (.ref r) gb9 jt9 (nI wn2)), (oc6 r (.ref rx) (.ref ry) (nI n2) (rgK (kd f0).toInt)), (oa rx cI cap X2), (oa ry cI cap Y2), (oc6 lo (.ref lx) (.ref ly) (nI lc2) 0), (oa lx cI cl9 LX2), (oa ly cI cl9 LY2)]) hP hD [true, true, true, true, true, true, true, true, true, true, true, true, true, true, true, true, true, true, true, true, true, true, true, true] rfl rfl
            have hE9 : (([(oc8 x (.ref sh) (.ref lw) (.ref ro) (.ref bq) (.ref bp) (.ref dq) (.ref dp) (.ref lv) (.ref sl) ds sd ul su), (oc3 lw (.ref dr) (.ref tg) (.ref wy) (.ref br) (.ref bo) (.ref aa)), (oc6 tg (.ref tx) (.ref ty) (nI nt6) rt6), (oa tx cI 3 TX6), (oa ty cI 3 TY6), (oc6 wy (.ref wx) (.ref wz) (nI nw6) rw6), (oa wx cI 2 WX6), (oa wz cI 2 WY6), (oc6 dr (.ref dx) (.ref dy) (nI nd6) rd6), (oa dx cI cd P6), (oa dy cI cd Q6), (oc0 br g06 g16 g26 g36), (oc0 bo g46 g56 g66 g76), (oa aa cI 40 AR6), (oc7 sh (.ref fa) (nI ft)), (oq fa cF 200 FA), (oc1 fe rk9 wd9 tw9 pa9 pb9 (.ref lo) (.ref lk) (.ref fm)), (oc4 lk (kd f0) (st f0) (.ref r) gb9 jt9 (nI wn2)), (oc6 r (.ref rx) (.ref ry) (nI n2) (rgK (kd f0).toInt)), (oa rx cI cap X2), (oa ry cI cap Y2), (oc6 lo (.ref lx) (.ref ly) (nI lc2) 0), (oa lx cI cl9 LX2), (oa ly cI cl9 LY2)] ++ va_pl L f) : va_W) = ([(oc8 x (.ref sh) (.ref lw) (.ref ro) (.ref bq) (.ref bp) (.ref dq) (.ref dp) (.ref lv) (.ref sl) ds sd ul su), (oc3 lw (.ref dr) (.ref tg) (.ref wy) (.ref br) (.ref bo) (.ref aa)), (oc6 tg (.ref tx) (.ref ty) (nI nt6) rt6), (oa tx cI 3 TX6), (oa ty cI 3 TY6), (oc6 wy (.ref wx) (.ref wz) (nI nw6) rw6), (oa wx cI 2 WX6), (oa wz cI 2 WY6), (oc6 dr (.ref dx) (.ref dy) (nI nd6) rd6), (oa dx cI cd P6), (oa dy cI cd Q6), (oc0 br g06 g16 g26 g36), (oc0 bo g46 g56 g66 g76), (oa aa cI 40 AR6), (oc7 sh (.ref fa) (nI ft)), (oq fa cF 200 FA), (oc1 fe rk9 wd9 tw9 pa9 pb9 (.ref lo) (.ref lk) (.ref fm)), (oc4 lk (kd f0) (st f0) (.ref r) gb9 jt9 (nI (wn + m9))), (oc6 r (.ref rx) (.ref ry) (nI n1) (rgK (kd f0).toInt)), (oa rx cI cap X2), (oa ry cI cap Y2), (oc6 lo (.ref lx) (.ref ly) (nI lc2) 0), (oa lx cI cl9 LX2), (oa ly cI cl9 LY2)] ++ va_pl L f) := by rw [z4, show wn2 = wn + m9 by omega]
            rw [hE9] at hP9 hD9
            rw [hQ9]
            exact W.iret (v := nI w3) hx hb hr (fun t ht hW => ⟨⟨congrArg (fun z => Outcome.returned (some (Value.int z))) (show (nI w3 : Int32) = nI m9 from zn_eq (by omega)), nt6, TX6, TY6, rt6, nw6, WX6, WY6, rw6, nd6, P6, Q6, rd6, g06, g16, g26, g36, g46, g56, g66, g76, AR6, X2, Y2, LX2, LY2, lc2, (fun j hj => by rw [z2, z3]; exact hXj j (by omega)), (by omega), (lsC_cg hX (fun j hj => by rw [z2, z3]; exact hXj j (by omega)) (by rw [z4, show wn + m9 = wn2 by omega]; exact hlSj)), (by omega), by rw [ht]; exact hP9, hD9⟩, hS.F ht⟩) hS.2.2 dX10_thin_52
  exact hl_5 _ 0 0 m9 n wn ln9 X Y LX LY mn cx cy nt TX TY rt nw WX WY rw nd P Q rd b1 b2 b3 b4 b5 b6 b7 b8 AR s.heap [] ls (Nat.lt_succ_self _) (hI) (hpl) (hX) (othE_0 _ _ _ _) (by first | with_reducible assumption | omega) (by first | with_reducible assumption | omega) (by first | with_reducible assumption | omega) (lsC_0 hds) hP hD hS (lv_sub hl [0, 1, 2, 3, 4] rfl)
end
section
/-! the list of steps: what its methods want of the start; rows for its instructions -/
abbrev zTyO (cI cZ cF cO : ClassId) : List (ClassId × FieldType) := [(cI, .int), (cZ, .boolean), (cF, .object "ScaleShop$Feature"), (cO, .object "java/lang/Object")]
def zE0 (e0 : Nat) (A : Nat → Prop) (U : State) (H : Heap) : Prop := ∃ cell : Cell, H[e0]? = some cell ∧ cell.slots.size = 0 ∧ U.isArrayOf cell (.object "java/lang/Object") ∧ ¬ A e0
def zXL (e0 mi : Nat) (A : Nat → Prop) (U : State) : Prop := zXN U ∧ va_Z "java/util/ArrayList" "DEFAULTCAPACITY_EMPTY_ELEMENTDATA" "[Ljava/lang/Object;" (.ref e0) A U U.heap ∧ va_Dc U ∧ va_Mi "[Ljava/lang/Object;" mi U ∧ zE0 e0 A U U.heap
theorem zE0_k {e0 : Nat} {A A1 : Nat → Prop} {s U : State} {H : Heap} {locs : List Loc} (h : zE0 e0 A s s.heap) (hS : va_S A s.heap H locs) (hF : ∀ q, A1 q → A q) (hW : s.vm.Alike U.vm) : zE0 e0 A1 U H := by
  obtain ⟨cell, h1, h2, h3, h4⟩ := h
  exact ⟨cell, by rw [hS.2.1 e0 (Array.getElem?_eq_some_iff.mp h1).1 h4]; exact h1, h2, State.isArrayOf_alike hW h3, fun g => h4 (hF e0 g)⟩
theorem zXL_c {e0 mi : Nat} {A : Nat → Prop} (a : Array Value) (U : State) (g : JFrame) (mk : MethodId) (h : zXL e0 mi A U) : zXL e0 mi A (U.calling g mk a) :=
  ⟨zXN_c a U g mk h.1, va_Z.moved (u := U) (U := U.calling g mk a) (Vm.Alike.refl U.vm) h.2.1, va_Dc.moved (u := U) (U := U.calling g mk a) (Vm.Alike.refl U.vm) h.2.2.1, va_Mi.moved (u := U) (U := U.calling g mk a) (Vm.Alike.refl U.vm) h.2.2.2.1, zE0_k (U := U.calling g mk a) h.2.2.2.2 (va_S.rf : va_S A U.heap U.heap []) (fun _ h => h) (Vm.Alike.refl U.vm)⟩
theorem zXL_at {e0 mi : Nat} {A A1 : Nat → Prop} {s U : State} {H : Heap} {locs : List Loc} (h : zXL e0 mi A s) (hS : va_S A s.heap H locs) (hF : ∀ q, A1 q → A q) (hU : U.heap = H) (hW : s.WarmedH U.vm) : zXL e0 mi A1 U := by
  refine ⟨zXN_w hW h.1, ?_, va_Dc.moved hW.alike h.2.2.1, va_Mi.moved hW.alike h.2.2.2.1, ?_⟩
  · rw [hU]; exact ((va_Z.kept h.2.1 hS.2.1).narrow hF).moved hW.alike
  · rw [hU]; exact zE0_k h.2.2.2.2 hS hF hW.alike
theorem zPSL {s : State} {H : Heap} {D : va_G} {cl : List vw_C} {tys : List (ClassId × FieldType)} {w : va_W} {A A1 A2 : Nat → Prop} {av : List Value} {e0 mi : Nat} {locs : List Loc} (hP : va_P D cl w H) (hD : va_D A1 w) (hK : va_K D cl tys s) (hX : zXL e0 mi A s) (hS : va_S A s.heap H locs) (hF : ∀ q, A2 q → A q) : PreS s H (va_Pc av (zPre D cl tys w H.size (zXL e0 mi A2))) av :=
  ⟨zBlind zXL_c, zAt hP hD hK (fun _ hU hW => zXL_at hX hS hF hU hW)⟩
theorem zPVL {s : State} {H : Heap} {D : va_G} {cl : List vw_C} {tys : List (ClassId × FieldType)} {w : va_W} {A A1 A2 : Nat → Prop} {b q0 ci : Nat} {C : String} {T : u_T} {N : Nat} {fs : List Value} {As : List Value} {e0 mi : Nat} {locs : List Loc} (hP : va_P D cl w H) (hD : va_D A1 w) (hK : va_K D cl tys s) (hX : zXL e0 mi A s) (hS : va_S A s.heap H locs) (hF : ∀ q, A2 q → A q) (hc : cl[ci]? = some (C, T, N)) (he : w[q0]? = some (b, .inr (ci, fs))) : PreV s H C b (va_Pc (.ref b :: As) (zPre D cl tys w H.size (zXL e0 mi A2))) As :=
  ⟨zBlind zXL_c, va_recv hK hP hc he, zAt hP hD hK (fun _ hU hW => zXL_at hX hS hF hU hW)⟩
section LS
variable {p : Program} {l : Launch} {e₀ : Env} {R : Room} {s : State} {m : MethodId} {args : Array Value} {below : List Frame} {meth : Method} {c : Code} {H : Heap} {locs : List Loc} {cells slots : Nat} {Q : State → Prop}
variable {cc : ByteArray} {pc : Nat} {ls : Array Slot} {rest : List Value} {D : va_G} {cl : List vw_C} {A : Nat → Prop} {a : Nat} {tys : List (ClassId × FieldType)} {ws : va_W} {H0 : Heap}
theorem z_alen0 {e0 : Nat} (hexec : p.tables.exec = Jvm.exec) (hb : c.code = cc) (hE : zE0 e0 A s s.heap) (hS : va_S A s.heap H locs) (hdg : decode cc pc = .ok (.arraylength, 1))
    (kk : W p l e₀ R s m args below meth c H locs cells slots Q (F0 m (pc + 1) ls (.int 0 :: rest))) : W p l e₀ R s m args below meth c H locs cells slots Q (F0 m pc ls (.ref e0 :: rest)) := by
  obtain ⟨cell, h1, h2, h3, h4⟩ := hE
  exact W.alen (n := 0) hexec hb (by rw [hS.2.1 e0 (Array.getElem?_eq_some_iff.mp h1).1 h4]; exact h1) h3 (by rw [h2]; rfl) rfl rfl hdg kk
theorem z_newq (hexec : p.tables.exec = Jvm.exec) (hb : c.code = cc) {own C : String} {index : Nat} (hown : s.vm.findClass own = some m.cls) (hclink : (Cond.classLink own index C).before args s = true) (hover : va_AO C s) (hK : va_K D cl tys s) (hP : va_P D cl ws H) (hD : va_D A ws) (hS : va_S A H0 H locs) (hA : ∀ q, H0.size ≤ q → A q)
    {n : Int32} {N' : Nat} {cA : ClassId} (t0 : Nat) (ht : tys[t0]? = some (cA, .object C)) (hn : ¬ n < 0) (hN : n.toNatClampNeg = N') (hbytes : N' * 4 ≤ 536870912) (hcells : cells + 1 ≤ R.cells) (hslots : slots + N' ≤ R.slots) (hdg : decode cc pc = .ok (.anewarray index, 3))
    (kk : ∀ (q : Nat) (H1 : Heap), va_P D cl (ws ++ [(q, .inl (cA, N', .inr (.inr (.inr (.inr (fun _ => none))))))]) H1 → va_D A (ws ++ [(q, .inl (cA, N', .inr (.inr (.inr (.inr (fun _ => none))))))]) → va_S A H0 H1 locs →
      W p l e₀ R s m args below meth c H1 locs (cells + 1) (slots + N') Q (F0 m (pc + 3) ls (.ref q :: rest))) : W p l e₀ R s m args below meth c H locs cells slots Q (F0 m pc ls (.int n :: rest)) := by
  refine va_newq hexec hb hown hclink hover hK hP hD hS hA hn hN hbytes hcells hslots hdg (fun q cB H1 hK1 hP1 hD1 hS1 => ?_)
  have e1 : (tys ++ [(cB, .object C)])[tys.length]? = some (cB, FieldType.object C) := by rw [List.getElem?_append_right (Nat.le_refl _)]; simp
  have e2 : cB = cA := zz_sameArr (hK1.2 _ _ e1).2 (hK.2 t0 _ ht).2
  subst e2
  exact kk q H1 hP1 hD1 hS1
theorem z_aastO (hexec : p.tables.exec = Jvm.exec) (hb : c.code = cc) (hK : va_K D cl tys s) (hP : va_P D cl ws H) (hD : va_D A ws) (hS : va_S A H0 H locs) (q0 t0 qk ci : Nat) {E : String} {cA : ClassId} {r : vw_C} {n v : Nat} {vs : List Value} {f : Nat → Option Nat} (ha : ws[q0]? = some (a, .inl (cA, n, .inr (.inr (.inr (.inr f)))))) (ht : tys[t0]? = some (cA, .object E)) (hca : va_Nw (.castable r.1 E) s) (hv : ws[qk]? = some (v, .inr (ci, vs))) (hc : cl[ci]? = some r) {i : Int32} {e : Nat} (hi : i = nI e) (hlt : e < n) (hn : n < 2147483648) (hdg : decode cc pc = .ok (.aastore, 1))
    (kk : ∀ (H1 : Heap) (locs1 : List Loc), va_P D cl (ws.set q0 (a, .inl (cA, n, .inr (.inr (.inr (.inr (va_up f e (some v)))))))) H1 → va_D A (ws.set q0 (a, .inl (cA, n, .inr (.inr (.inr (.inr (va_up f e (some v)))))))) → va_S A H0 H1 locs1 → W p l e₀ R s m args below meth c H1 locs1 cells slots Q (F0 m (pc + 1) ls rest)) : W p l e₀ R s m args below meth c H locs cells slots Q (F0 m pc ls (.ref v :: .int i :: .ref a :: rest)) := by
  subst hi
  refine va_astqO hexec hb hK hP hD hS q0 t0 qk ci ha ht hca hv hc (vp_in_nI hlt hn) hdg (fun H1 locs1 h1 h2 h3 => ?_)
  rw [nI_clamp (by omega)] at h1 h2; exact kk H1 locs1 h1 h2 h3
theorem z_aastN (hexec : p.tables.exec = Jvm.exec) (hb : c.code = cc) (hK : va_K D cl tys s) (hP : va_P D cl ws H) (hD : va_D A ws) (hS : va_S A H0 H locs) (q0 t0 : Nat) {C : String} {cA : ClassId} {n : Nat} {f : Nat → Option Nat} (ha : ws[q0]? = some (a, .inl (cA, n, .inr (.inr (.inr (.inr f)))))) (ht : tys[t0]? = some (cA, .object C)) {i : Int32} {e : Nat} (hi : i = nI e) (hlt : e < n) (hn : n < 2147483648) (hdg : decode cc pc = .ok (.aastore, 1))
    (kk : ∀ (H1 : Heap) (locs1 : List Loc), va_P D cl (ws.set q0 (a, .inl (cA, n, .inr (.inr (.inr (.inr (va_up f e none))))))) H1 → va_D A (ws.set q0 (a, .inl (cA, n, .inr (.inr (.inr (.inr (va_up f e none))))))) → va_S A H0 H1 locs1 → W p l e₀ R s m args below meth c H1 locs1 cells slots Q (F0 m (pc + 1) ls rest)) : W p l e₀ R s m args below meth c H locs cells slots Q (F0 m pc ls (.null :: .int i :: .ref a :: rest)) := by
  subst hi
  refine va_astqN hexec hb hK hP hD hS q0 t0 ha ht (vp_in_nI hlt hn) hdg (fun H1 locs1 h1 h2 h3 => ?_)
  rw [nI_clamp (by omega)] at h1 h2; exact kk H1 locs1 h1 h2 h3
theorem z_cellA {cO : ClassId} {x : vp_A} {q0 t0 : Nat} {C nm : String} (hK : va_K D cl tys s) (hP : va_P D cl ws H) (ha : ws[q0]? = some (a, .inl (cO, x))) (ht : tys[t0]? = some (cO, .object C)) (e : "[" ++ (FieldType.object C).toString = nm) : ∃ cell : Cell, H[a]? = some cell ∧ cell.vm.isStatics = false ∧ s.vm.findClass nm = some cell.cls := by
  refine ⟨vp_cell cO x, hP q0 _ ha, ?_, ?_⟩
  · obtain ⟨n, f | f | f | f | f⟩ := x <;> rfl
  · rw [va_nmO (hK.2 t0 _ ht).2 e]
    obtain ⟨n, f | f | f | f | f⟩ := x <;> rfl
theorem z_cellR {i b : Nat} {r : vw_C} {ci : Nat} {vs : List Value} (hK : va_K D cl tys s) (hP : va_at D cl (b, .inr (ci, vs)) H) (hc : cl[ci]? = some r) : ∃ cell : Cell, H[b]? = some cell ∧ cell.vm.isStatics = false ∧ s.vm.findClass r.1 = some cell.cls := by
  obtain ⟨r', hr', cellV, g1, g2, g3, g4⟩ := hP
  cases hr'.symm.trans hc
  exact ⟨cellV, g1, by rw [g3]; rfl, by rw [g2]; exact (hK.1 ci r hc).2.1⟩
end LS
theorem zn_shr {n : Nat} (h : n < 2147483648) : nI n >>> ((1 : Int32) &&& 31) = nI (n / 2) := by
  have k := pk_shrN (n := n) h ((1 : Int32) &&& 31) 1 (by decide)
  rw [Nat.pow_one] at k
  exact k
theorem z_asg {s : State} (h : va_Nw (.castable "ScaleShop$Step" "java/lang/Object") s) : ∀ comp c0 : ClassId, s.vm.findClass "java/lang/Object" = some comp → s.vm.findClass "ScaleShop$Step" = some c0 → s.vm.assignable c0 comp = true := by
  intro comp c0 h1 h2
  obtain ⟨c1, t1, f1, f2, f3⟩ := Cond.castable_spec (va_Nw.use (A := #[]) rfl h)
  cases f1.symm.trans h2
  cases f2.symm.trans h1
  exact f3
section LC
variable {p : Program} {l : Launch} {e₀ : Env} {R : Room} {s : State} {m : MethodId} {args : Array Value} {below : List Frame} {meth : Method} {c : Code} {H : Heap} {locs : List Loc} {cells slots : Nat} {Q : State → Prop}
variable {cc : ByteArray} {pc : Nat} {ls : Array Slot} {rest : List Value} {D : va_G} {cl : List vw_C} {A : Nat → Prop} {a : Nat} {tys : List (ClassId × FieldType)} {ws : va_W} {H0 : Heap}
theorem z_copyq (hexec : p.tables.exec = Jvm.exec) (hb : c.code = cc) (hml : c.maxLocals = ls.size) {own : String} {index : Nat} (hown : s.vm.findClass own = some m.cls) (hlink : (Cond.methodLink own index arraycopyName).before args s = true) (hnat : (Cond.native arraycopyName).before args s = true) (hstat : (Cond.static arraycopyName).before args s = true) (hini : (Cond.initialized "java/lang/System").before args s = true)
    (hK : va_K D cl tys s) (hP : va_P D cl ws H) (hD : va_D A ws) (hS : va_S A H0 H locs) (q0 q1 t0 t1 : Nat) {a0 : Nat} {c0 c1 : ClassId} {n0 n1 : Nat} {f g : Nat → Option Nat} {E0 E1 C : String} (ha0 : ws[q0]? = some (a0, .inl (c0, n0, .inr (.inr (.inr (.inr f)))))) (ha1 : ws[q1]? = some (a, .inl (c1, n1, .inr (.inr (.inr (.inr g)))))) (ht0 : tys[t0]? = some (c0, .object E0)) (ht1 : tys[t1]? = some (c1, .object E1))
    {n : Int32} {nn : Nat} (hn : n = nI nn) (hn1 : nn < 2147483648) (hn2 : 0 ≤ nn) (h4 : nn ≤ n0) (h5 : nn ≤ n1) (hel : ∀ i : Nat, i < nn → ∀ y : Nat, f i = some y → ∃ cellV : Cell, H[y]? = some cellV ∧ cellV.vm.isStatics = false ∧ s.vm.findClass C = some cellV.cls) (hasg : ∀ comp c0 : ClassId, s.vm.findClass E1 = some comp → s.vm.findClass C = some c0 → s.vm.assignable c0 comp = true)
    (hframes : 1 ≤ R.frames) (hlocals : (rest.map fun v => v.category).sum + 24 ≤ R.locals) (hdg : decode cc pc = .ok (.invokestatic index, 3))
    (kk : ∀ (H1 : Heap) (locs1 : List Loc), va_P D cl (ws.set q1 (a, .inl (c1, n1, .inr (.inr (.inr (.inr (va_cpy f g 0 0 nn))))))) H1 → va_D A (ws.set q1 (a, .inl (c1, n1, .inr (.inr (.inr (.inr (va_cpy f g 0 0 nn))))))) → va_S A H0 H1 locs1 → W p l e₀ R s m args below meth c H1 locs1 cells slots Q (F0 m (pc + 3) ls rest)) : W p l e₀ R s m args below meth c H locs cells slots Q (F0 m pc ls (.int n :: .int 0 :: .ref a :: .int 0 :: .ref a0 :: rest)) := by
  subst hn
  have ec : (nI nn).toNatClampNeg = nn := nI_clamp (by omega)
  have e0 : (0 : Int32).toNatClampNeg = 0 := by decide
  have hw : nativeFrameWords "java/lang/System" "arraycopy" 5 ≤ 13 := by decide
  refine va_copyq hexec hb hml hown hlink hnat hstat hini hK hP hD hS q0 q1 t0 t1 ha0 ha1 ht0 ht1 (by decide) (by decide) (nI_pos (by omega)) (by rw [ec, e0]; omega) (by rw [ec, e0]; omega) (fun i hi y hy => hel i (by rw [ec] at hi; exact hi) y (by rw [e0, Nat.zero_add] at hy; exact hy)) hasg hframes (by omega) hdg (fun H1 locs1 h1 h2 h3 => ?_)
  rw [ec, e0] at h1 h2
  exact kk H1 locs1 h1 h2 h3
end LC
theorem z_elS {s : State} {D : va_G} {tys : List (ClassId × FieldType)} {X : va_W} {L : List Nat} {f : Nat → va_E} {H : Heap} {n : Nat} {SA : Nat → Option Nat} (hK : va_K D classes tys s) (hP : va_P D classes (X ++ va_pl L f) H) (h : ∀ i, i < n → ∃ y vs, SA i = some y ∧ y ∈ L ∧ f y = .inr (11, vs)) :
    ∀ i : Nat, i < n → ∀ y : Nat, SA i = some y → ∃ cellV : Cell, H[y]? = some cellV ∧ cellV.vm.isStatics = false ∧ s.vm.findClass "ScaleShop$Step" = some cellV.cls := by
  intro i hi y hy
  obtain ⟨y', vs, h1, h2, h3⟩ := h i hi
  cases h1.symm.trans hy
  have h4 := vaP_mem.mp hP (y, f y) (List.mem_append.mpr (Or.inr (pl_mem.mpr ⟨h2, rfl⟩)))
  rw [h3] at h4
  exact z_cellR (i := 0) hK h4 rfl
theorem mw_acopy : (Jvm.Cond.native ({ cls := "java/lang/System", name := "arraycopy", desc := "(Ljava/lang/Object;ILjava/lang/Object;II)V" } : Jvm.MethodName)) ∈ ws0 := zz_m 488 (by decide +kernel) (by decide +kernel)
theorem mw_getCn : (Jvm.Cond.native ({ cls := "java/lang/Object", name := "getClass", desc := "()Ljava/lang/Class;" } : Jvm.MethodName)) ∈ ws0 := zz_m 850 (by decide +kernel) (by decide +kernel)
theorem mw_same_modCount : (Jvm.Cond.sameField "java/util/ArrayList" "java/util/AbstractList" "modCount" "I") ∈ ws0 := zz_m 300 (by decide +kernel) (by decide +kernel)
theorem mw_getCs : (Jvm.Cond.selects "[Ljava/lang/Object;" ({ cls := "java/lang/Object", name := "getClass", desc := "()Ljava/lang/Class;" } : Jvm.MethodName) ({ cls := "java/lang/Object", name := "getClass", desc := "()Ljava/lang/Class;" } : Jvm.MethodName)) ∈ ws0 := zz_m 1732 (by decide +kernel) (by decide +kernel)
end
section
abbrev zML (l : Launch) (y : MethodName) (cc : ByteArray) (maxL : Nat) (ret : Option FieldType) (R : Room) (av : List Value) (D : va_G) (tys : List (ClassId × FieldType)) (e0 mi : Nat) (w : va_W) (sz : Nat) (v : Option Value) (B : (Nat → Prop) → State → Prop) (mc ms : Nat) : Prop := Met l y (.code y cc maxL ret :: ws0) R (va_Pc av (zPre D classes tys w sz (zXL e0 mi (va_A w sz)))) (zQ v (B (va_A w sz)) (va_A w sz)) mc ms (va_A w sz)
theorem zInL {l : Launch} {y : MethodName} {cc : ByteArray} {maxL : Nat} {ret : Option FieldType} {R : Room} {av : List Value} {D : va_G} {cI cZ cF cO : ClassId} {e0 mi : Nat} {w : va_W} {sz : Nat} {v : Option Value} {B : (Nat → Prop) → State → Prop} {mc ms : Nat} {own : String} {loc : List (Nat × Value)} (hy : plainName y.cls = true) (ho : y.cls = own) (hlen : Nat.ble (lg_sl av).length maxL = true) (hloc : lv_args 0 av = loc)
    (k : ∀ (p : Program) (e : Env) (s : State) (m : MethodId) (below : List Frame) (meth : Method) (c : Code), p.tables.exec = Jvm.exec → c.code = cc → meth.sig.returnType = ret → (∀ w9 ∈ ws0, w9.before av.toArray s = true) → s.vm.findClass own = some m.cls → meth.locks = false → c.maxLocals = maxL → meth.name = y.name → ∀ (A : Nat → Prop), (∀ q : Nat, s.heap.size ≤ q → A q) → va_S A s.heap s.heap [] → va_P D classes w s.heap → va_D A w → va_K D classes (zTyO cI cZ cF cO) s → zXL e0 mi A s → zXN s → va_K D classes (zTy cI cZ cF) s → ∀ (Q9 : State → Prop), Q9 = MQ below (zQ v (B A) A) av.toArray s mc ms A → ∀ (ls : Array Slot), lv_has ls maxL loc → W p l e R s m av.toArray below meth c s.heap [] 0 0 Q9 (F0 m 0 ls [])) : zML l y cc maxL ret R av D (zTyO cI cZ cF cO) e0 mi w sz v B mc ms := by
  refine Met.ofW (cc := cc) (maxL := maxL) (ret := ret) hy rfl ?_
  intro p e s m args below meth c s₁ Bd hml hv
  obtain ⟨rfl, hsz, hP, hK, hD0, hXL⟩ := hv
  have hts0 := atoms_spec (ws := .code y cc maxL ret :: ws0) Bd.pre
  subst hsz
  have hl := lv_entry av (n := maxL) (Nat.le_of_ble_eq_true hlen)
  rw [hloc] at hl
  rw [lg_entry_eq]
  exact k p e s m below meth c Bd.exec Bd.bytes Bd.returns (fun w9 h => hts0 w9 (List.mem_cons_of_mem _ h)) (by rw [← ho]; exact findClass_of_methodNamed Bd.named) Bd.notSynchronized hml (name_of_methodNamed Bd.named Bd.method).1 (va_A w s.heap.size) (fun q h => Or.inr h) va_S.rf hP hD0.self hK hXL hXL.1 (hK.sub [0, 1, 2] rfl) _ rfl _ hl
end
section
set_option maxHeartbeats 4000000 in
set_option maxRecDepth 100000 in
theorem k_J_checkIndex (l : Launch) (dC : Nat → ClassId) (dI : Nat → Nat → Nat) (cI cZ cF : ClassId) (sz : Nat) (i : Nat) (n : Nat) (hi : i < n) (hn : n < 2147483648) : zM l yJ3_checkIndex_8e157 cJ3_checkIndex_8e157 3 (some .int) ({ frames := 0, cells := 0, slots := 0, locals := 0 } : Room) [.int (nI i), .int (nI n), .null] (dC, dI) (zTy cI cZ cF) [] sz (some (.int (nI i))) (fun A t => zPD (dC, dI) classes A [] t.heap) 0 0 := by
  refine zIn (own := "jdk/internal/util/Preconditions") (loc := [(0, .int (nI i)), (1, .int (nI n)), (2, .null)]) rfl rfl rfl rfl (fun p e s m below meth c hx hb hr hts hown hlocks hml hnm9 A hA hS hP hD hK hXN Q9 hQ9 ls hl => ?_)
  refine lv_iload_n hx hb dJ3_checkIndex_8e157_0 rfl (lv_at hl 0 rfl) ?_
  have b9_2 : zlt (i) := show i < 2147483648 by omega
  refine lv_if_lt (tgt := 9) hx hb dJ3_checkIndex_8e157_1 rfl (fun c_1 => ?_) (fun c_1 => ?_)
  · have c_1 : ((i : Nat) : Int) < 0 := zc_lt (nI_toInt b9_2) rfl c_1
    exfalso; omega
  · have c_1 : 0 ≤ ((i : Nat) : Int) := zc_nlt (nI_toInt b9_2) rfl c_1
    refine lv_iload_n hx hb dJ3_checkIndex_8e157_4 rfl (lv_at hl 0 rfl) ?_
    refine lv_iload_n hx hb dJ3_checkIndex_8e157_5 rfl (lv_at hl 1 rfl) ?_
    have b9_4 : zlt (n) := show n < 2147483648 by omega
    refine lv_icmp_lt (tgt := 16) hx hb dJ3_checkIndex_8e157_6 rfl (fun c_3 => ?_) (fun c_3 => ?_)
    · have c_3 : ((i : Nat) : Int) < ((n : Nat) : Int) := zc_lt (nI_toInt b9_2) (nI_toInt b9_4) c_3
      refine lv_iload_n hx hb dJ3_checkIndex_8e157_16 rfl (lv_at hl 0 rfl) ?_
      obtain ⟨hP9, hD9⟩ := zu_sub (wc := []) hP hD [] rfl rfl
      rw [hQ9]
      exact W.iret (v := nI i) hx hb hr (fun t ht hW => ⟨⟨rfl, by rw [ht]; exact hP9, hD9⟩, hS.F ht⟩) hS.2.2 dJ3_checkIndex_8e157_17
    · have c_3 : ((n : Nat) : Int) ≤ ((i : Nat) : Int) := zc_nlt (nI_toInt b9_2) (nI_toInt b9_4) c_3
      exfalso; omega
set_option maxHeartbeats 4000000 in
set_option maxRecDepth 100000 in
theorem k_O_checkIndex (l : Launch) (dC : Nat → ClassId) (dI : Nat → Nat → Nat) (cI cZ cF : ClassId) (sz : Nat) (i : Nat) (n : Nat) (hi : i < n) (hn : n < 2147483648) : zM l yJ15_checkIndex_7cf53 cJ15_checkIndex_7cf53 2 (some .int) ({ frames := 1, cells := 0, slots := 0, locals := 22 } : Room) [.int (nI i), .int (nI n)] (dC, dI) (zTy cI cZ cF) [] sz (some (.int (nI i))) (fun A t => zPD (dC, dI) classes A [] t.heap) 0 0 := by
  refine zIn (own := "java/util/Objects") (loc := [(0, .int (nI i)), (1, .int (nI n))]) rfl rfl rfl rfl (fun p e s m below meth c hx hb hr hts hown hlocks hml hnm9 A hA hS hP hD hK hXN Q9 hQ9 ls hl => ?_)
  refine lv_iload_n hx hb dJ15_checkIndex_7cf53_0 rfl (lv_at hl 0 rfl) ?_
  refine lv_iload_n hx hb dJ15_checkIndex_7cf53_1 rfl (lv_at hl 1 rfl) ?_
  refine lv_null hx hb dJ15_checkIndex_7cf53_2 ?_
  obtain ⟨hPc, hDc, hFc⟩ := zo_sub (wc := []) hP hD hS hA [] rfl rfl
  refine zcall (st1 := [.int (nI i)]) (va_runS (As := [.int (nI i), .int (nI n), .null]) (rest := []) ⟨hx, hb, hml, hown, hts⟩ (k_J_checkIndex l dC dI cI cZ cF s.heap.size i n (by first | with_reducible assumption | omega) (by first | with_reducible assumption | omega)) (csS_85 hts rfl rfl ⟨Nat.le_of_ble_eq_true rfl, Nat.le_of_ble_eq_true rfl⟩) (zPS2 hPc hDc hK hXN) rfl rfl hl.1 rfl (lv_room (Nat.le_of_ble_eq_true rfl)) dJ15_checkIndex_7cf53_3 ⟨Nat.le_of_ble_eq_true rfl, Nat.le_of_ble_eq_true rfl⟩) hS hFc hFc rfl (fun t H locs ht hB hk1 hS => ?_)
  obtain ⟨hP1, hD1⟩ := hB
  rw [ht] at hP1
  obtain ⟨hP, hD⟩ := zk (W2 := []) hP hD [] [] [] [] [] 0 rfl rfl rfl rfl rfl rfl rfl rfl rfl hk1 hFc hP1 hD1
  clear hk1 hPc hDc hFc hP1 hD1 ht
  obtain ⟨hP9, hD9⟩ := zu_sub (wc := []) hP hD [] rfl rfl
  rw [hQ9]
  exact W.iret (v := nI i) hx hb hr (fun t ht hW => ⟨⟨rfl, by rw [ht]; exact hP9, hD9⟩, hS.F ht⟩) hS.2.2 dJ15_checkIndex_7cf53_6
set_option maxHeartbeats 4000000 in
set_option maxRecDepth 100000 in
theorem k_AL_size (l : Launch) (dC : Nat → ClassId) (dI : Nat → Nat → Nat) (cI cZ cF : ClassId) (sz : Nat) (sl : Nat) (ea : Nat) (n9 : Nat) (mc9 : Int32) : zM l yJx4a65c_size_8abf5 cJx4a65c_size_8abf5 1 (some .int) ({ frames := 0, cells := 0, slots := 0, locals := 0 } : Room) [.ref sl] (dC, dI) (zTy cI cZ cF) [(oc10 sl mc9 (.ref ea) (nI n9))] sz (some (.int (nI n9))) (fun A t => zPD (dC, dI) classes A [(oc10 sl mc9 (.ref ea) (nI n9))] t.heap) 0 0 := by
  refine zIn (own := "java/util/ArrayList") (loc := [(0, .ref sl)]) rfl rfl rfl rfl (fun p e s m below meth c hx hb hr hts hown hlocks hml hnm9 A hA hS hP hD hK hXN Q9 hQ9 ls hl => ?_)
  refine lv_aload_n hx hb dJx4a65c_size_8abf5_0 rfl (lv_at hl 0 rfl) ?_
  refine va_get (D := (dC, dI)) (ci := 10) (v := .int (nI n9)) (C := RJx4a65c) (T := TJx4a65c) (N := 3) hx hb hts inJx4a65c hown hK hP 0 rfl rfl 2 (Nat.le_of_ble_eq_true rfl) (hts _ mw_297) (fun _ h9 => h9) rfl dJx4a65c_size_8abf5_1 ?_
  obtain ⟨hP9, hD9⟩ := zu_sub (wc := [_]) hP hD [true] rfl rfl
  rw [hQ9]
  exact W.iret (v := nI n9) hx hb hr (fun t ht hW => ⟨⟨rfl, by rw [ht]; exact hP9, hD9⟩, hS.F ht⟩) hS.2.2 dJx4a65c_size_8abf5_4
set_option maxHeartbeats 4000000 in
set_option maxRecDepth 100000 in
theorem k_AL_elem (l : Launch) (dC : Nat → ClassId) (dI : Nat → Nat → Nat) (cI cZ cF : ClassId) (sz : Nat) (cO : ClassId) (e0 : Nat) (mi : Nat) (sl : Nat) (ea : Nat) (n9 : Nat) (mc9 : Int32) (i : Nat) (cp9 : Nat) (y9 : Nat) (SA : Nat → Option Nat) (hSA : SA i = some y9) (hic : i < cp9) (hcp : cp9 < 2147483648) : zML l yJx4a65c_elementData_915e3 cJx4a65c_elementData_915e3 2 (some (.object "java/lang/Object")) ({ frames := 0, cells := 0, slots := 0, locals := 0 } : Room) [.ref sl, .int (nI i)] (dC, dI) (zTyO cI cZ cF cO) e0 mi [(oc10 sl mc9 (.ref ea) (nI n9)), (oq ea cO cp9 SA)] sz (some (.ref y9)) (fun A t => zPD (dC, dI) classes A [(oc10 sl mc9 (.ref ea) (nI n9)), (oq ea cO cp9 SA)] t.heap) 0 0 := by
  refine zInL (own := "java/util/ArrayList") (loc := [(0, .ref sl), (1, .int (nI i))]) rfl rfl rfl rfl (fun p e s m below meth c hx hb hr hts hown hlocks hml hnm9 A hA hS hP hD hK hXL hXN hK3 Q9 hQ9 ls hl => ?_)
  refine lv_aload_n hx hb dJx4a65c_elementData_915e3_0 rfl (lv_at hl 0 rfl) ?_
  refine va_get (D := (dC, dI)) (ci := 10) (v := .ref ea) (C := RJx4a65c) (T := TJx4a65c) (N := 3) hx hb hts inJx4a65c hown hK hP 0 rfl rfl 1 (Nat.le_of_ble_eq_true rfl) (hts _ mw_296) (fun _ h9 => h9) rfl dJx4a65c_elementData_915e3_1 ?_
  refine lv_iload_n hx hb dJx4a65c_elementData_915e3_4 rfl (lv_at hl 1 rfl) ?_
  have b9_1 : i < cp9 := by omega
  have b9_2 : zlt (cp9) := show cp9 < 2147483648 by omega
  refine z_aald hx hb hK hP 1 3 rfl rfl (e := i) rfl b9_1 b9_2 (v := .ref y9) (by rw [hSA]; rfl) dJx4a65c_elementData_915e3_5 ?_
  obtain ⟨hP9, hD9⟩ := zu_sub (wc := [_, _]) hP hD [true, true] rfl rfl
  rw [hQ9]
  exact W.aret hx hb hr (Or.inl ⟨_, rfl⟩) (Or.inr ⟨_, rfl⟩) (fun t ht hW => ⟨⟨rfl, by rw [ht]; exact hP9, hD9⟩, hS.F ht⟩) hS.2.2 dJx4a65c_elementData_915e3_6
set_option maxHeartbeats 4000000 in
set_option maxRecDepth 100000 in
theorem k_AL_get (l : Launch) (dC : Nat → ClassId) (dI : Nat → Nat → Nat) (cI cZ cF : ClassId) (sz : Nat) (cO : ClassId) (e0 : Nat) (mi : Nat) (sl : Nat) (ea : Nat) (n9 : Nat) (mc9 : Int32) (i : Nat) (cp9 : Nat) (y9 : Nat) (SA : Nat → Option Nat) (hSA : SA i = some y9) (hic : i < cp9) (hcp : cp9 < 2147483648) (hin : i < n9) (hnc : n9 ≤ cp9) : zML l yJx4a65c_get_915e3 cJx4a65c_get_915e3 2 (some (.object "java/lang/Object")) ({ frames := 2, cells := 0, slots := 0, locals := 43 } : Room) [.ref sl, .int (nI i)] (dC, dI) (zTyO cI cZ cF cO) e0 mi [(oc10 sl mc9 (.ref ea) (nI n9)), (oq ea cO cp9 SA)] sz (some (.ref y9)) (fun A t => zPD (dC, dI) classes A [(oc10 sl mc9 (.ref ea) (nI n9)), (oq ea cO cp9 SA)] t.heap) 0 0 := by
  refine zInL (own := "java/util/ArrayList") (loc := [(0, .ref sl), (1, .int (nI i))]) rfl rfl rfl rfl (fun p e s m below meth c hx hb hr hts hown hlocks hml hnm9 A hA hS hP hD hK hXL hXN hK3 Q9 hQ9 ls hl => ?_)
  refine lv_iload_n hx hb dJx4a65c_get_915e3_0 rfl (lv_at hl 1 rfl) ?_
  refine lv_aload_n hx hb dJx4a65c_get_915e3_1 rfl (lv_at hl 0 rfl) ?_
  refine va_get (D := (dC, dI)) (ci := 10) (v := .int (nI n9)) (C := RJx4a65c) (T := TJx4a65c) (N := 3) hx hb hts inJx4a65c hown hK hP 0 rfl rfl 2 (Nat.le_of_ble_eq_true rfl) (hts _ mw_297) (fun _ h9 => h9) rfl dJx4a65c_get_915e3_2 ?_
  obtain ⟨hPc, hDc, hFc, hI1⟩ := zi_sub (wc := []) hP hD hS hA [] rfl rfl
  refine zcall (st1 := [.int (nI i)]) (va_runS (As := [.int (nI i), .int (nI n9)]) (rest := []) ⟨hx, hb, hml, hown, hts⟩ (k_O_checkIndex l dC dI cI cZ cF s.heap.size i n9 (by first | with_reducible assumption | omega) (by first | with_reducible assumption | omega)) (csS_86 hts rfl rfl ⟨Nat.le_of_ble_eq_true rfl, Nat.le_of_ble_eq_true rfl⟩) (zPS2 hPc hDc hK3 hXN) rfl rfl hl.1 rfl (lv_room (Nat.le_of_ble_eq_true rfl)) dJx4a65c_get_915e3_5 ⟨Nat.le_of_ble_eq_true rfl, Nat.le_of_ble_eq_true rfl⟩) hS hFc hFc rfl (fun t H locs ht hB hk1 hS => ?_)
  obtain ⟨hP1, hD1⟩ := hB
  rw [ht] at hP1
  replace hP := z0 hP hD hk1 hP1 hI1
  clear hk1 hPc hDc hFc hP1 hD1 ht hI1
  refine lv_pop hx hb dJx4a65c_get_915e3_8 rfl ?_
  refine lv_aload_n hx hb dJx4a65c_get_915e3_9 rfl (lv_at hl 0 rfl) ?_
  refine lv_iload_n hx hb dJx4a65c_get_915e3_10 rfl (lv_at hl 1 rfl) ?_
  obtain ⟨hPc, hDc, hFc, hI1⟩ := zi_sub (wc := [_, _]) hP hD hS hA [0, 1] rfl rfl
  refine zcall (st1 := [.ref y9]) (va_runV (As := [.int (nI i)]) (rest := []) ⟨hx, hb, hml, hown, hts⟩ (k_AL_elem l dC dI cI cZ cF H.size cO e0 mi sl ea n9 mc9 i cp9 y9 SA (by first | with_reducible assumption | assumption) (by first | with_reducible assumption | omega) (by first | with_reducible assumption | omega)) (csV_80 hts rfl rfl ⟨Nat.le_of_ble_eq_true rfl, Nat.le_of_ble_eq_true rfl⟩) (zPVL (q0 := 0) (ci := 10) hPc hDc hK hXL hS hFc rfl rfl) rfl rfl hl.1 rfl (lv_room (Nat.le_of_ble_eq_true rfl)) dJx4a65c_get_915e3_11 ⟨Nat.le_of_ble_eq_true rfl, Nat.le_of_ble_eq_true rfl⟩) hS hFc hFc rfl (fun t H locs ht hB hk1 hS => ?_)
  obtain ⟨hP1, hD1⟩ := hB
  rw [ht] at hP1
  replace hP := z0 hP hD hk1 hP1 hI1
  clear hk1 hPc hDc hFc hP1 hD1 ht hI1
  obtain ⟨hP9, hD9⟩ := zu_sub (wc := [_, _]) hP hD [true, true] rfl rfl
  rw [hQ9]
  exact W.aret hx hb hr (Or.inl ⟨_, rfl⟩) (Or.inr ⟨_, rfl⟩) (fun t ht hW => ⟨⟨rfl, by rw [ht]; exact hP9, hD9⟩, hS.F ht⟩) hS.2.2 dJx4a65c_get_915e3_14
set_option maxHeartbeats 4000000 in
set_option maxRecDepth 100000 in
theorem k_AL_fastRemove (l : Launch) (dC : Nat → ClassId) (dI : Nat → Nat → Nat) (cI cZ cF : ClassId) (sz : Nat) (cO : ClassId) (e0 : Nat) (mi : Nat) (sl : Nat) (ea : Nat) (mc9 : Int32) (i : Nat) (cp9 : Nat) (SA : Nat → Option Nat) (hic : i < cp9) (hcp : cp9 < 2147483648) : zML l yJx4a65c_fastRemove_b59b0 cJx4a65c_fastRemove_b59b0 4 none ({ frames := 0, cells := 0, slots := 0, locals := 0 } : Room) [.ref sl, .ref ea, .int (nI i)] (dC, dI) (zTyO cI cZ cF cO) e0 mi [(oc10 sl mc9 (.ref ea) (nI (i + 1))), (oq ea cO cp9 SA)] sz none (fun A t => zPD (dC, dI) classes A [(oc10 sl (mc9 + 1) (.ref ea) (nI i)), (oq ea cO cp9 (va_up SA i none))] t.heap) 0 0 := by
  refine zInL (own := "java/util/ArrayList") (loc := [(0, .ref sl), (1, .ref ea), (2, .int (nI i))]) rfl rfl rfl rfl (fun p e s m below meth c hx hb hr hts hown hlocks hml hnm9 A hA hS hP hD hK hXL hXN hK3 Q9 hQ9 ls hl => ?_)
  refine lv_aload_n hx hb dJx4a65c_fastRemove_b59b0_0 rfl (lv_at hl 0 rfl) ?_
  refine lv_dup hx hb dJx4a65c_fastRemove_b59b0_1 rfl ?_
  refine va_get (D := (dC, dI)) (ci := 10) (v := .int mc9) (C := RJx4a65c) (T := TJx4a65c) (N := 3) hx hb hts inJx4a65c hown hK hP 0 rfl rfl 0 (Nat.le_of_ble_eq_true rfl) (hts _ mw_299) (fun x9 h9 => u_same (hts _ mw_same_modCount) x9 h9) rfl dJx4a65c_fastRemove_b59b0_2 ?_
  refine lv_iconst (v := 1) hx hb dJx4a65c_fastRemove_b59b0_5 rfl ?_
  refine lv_iadd hx hb dJx4a65c_fastRemove_b59b0_6 ?_
  refine va_put (D := (dC, dI)) (ci := 10) (v := .int (mc9 + 1)) (ty := .int) (C := RJx4a65c) (T := TJx4a65c) (N := 3) hx hb hts inJx4a65c tyJx4a65c tyJx4a65c_ok nmJx4a65c hown hK hP hD hS 0 rfl rfl 0 (by decide) (hts _ mw_299) (fun x9 h9 => u_same (hts _ mw_same_modCount) x9 h9) rfl (by decide +kernel) rfl rfl (Nat.le_of_ble_eq_true rfl) dJx4a65c_fastRemove_b59b0_7 (fun H locs hP hD hS => ?_)
  obtain ⟨hP, hD⟩ := zre (W2 := [(oc10 sl (mc9 + 1) (.ref ea) (nI (i + 1))), _]) hP hD rfl
  refine lv_aload_n hx hb dJx4a65c_fastRemove_b59b0_10 rfl (lv_at hl 0 rfl) ?_
  refine va_get (D := (dC, dI)) (ci := 10) (v := .int (nI (i + 1))) (C := RJx4a65c) (T := TJx4a65c) (N := 3) hx hb hts inJx4a65c hown hK hP 0 rfl rfl 2 (Nat.le_of_ble_eq_true rfl) (hts _ mw_297) (fun _ h9 => h9) rfl dJx4a65c_fastRemove_b59b0_11 ?_
  refine lv_iconst (v := 1) hx hb dJx4a65c_fastRemove_b59b0_14 rfl ?_
  refine lv_isub hx hb dJx4a65c_fastRemove_b59b0_15 ?_
  refine zz_i (v := nI ((i + 1) - 1)) (pk_sub (a := i + 1) (b := 1) (by omega)) ?_
  refine zz_i (v := nI i) (zn_eq (by omega)) ?_
  refine lv_dup hx hb dJx4a65c_fastRemove_b59b0_16 rfl ?_
  refine lv_istore_n (lv' := [(3, .int (nI i)), (0, .ref sl), (1, .ref ea), (2, .int (nI i))]) hx hb dJx4a65c_fastRemove_b59b0_17 rfl hl (Nat.le_of_ble_eq_true rfl) rfl (fun ls hl => ?_)
  refine lv_iload_n hx hb dJx4a65c_fastRemove_b59b0_18 rfl (lv_at hl 3 rfl) ?_
  have b9_2 : zlt (i) := show i < 2147483648 by omega
  refine lv_icmp_le (tgt := 34) hx hb dJx4a65c_fastRemove_b59b0_19 rfl (fun c_1 => ?_) (fun c_1 => ?_)
  · have c_1 : ((i : Nat) : Int) ≤ ((i : Nat) : Int) := zc_le (nI_toInt b9_2) (nI_toInt b9_2) c_1
    refine lv_aload_n hx hb dJx4a65c_fastRemove_b59b0_34 rfl (lv_at hl 2 rfl) ?_
    refine lv_aload_n hx hb dJx4a65c_fastRemove_b59b0_35 rfl (lv_at hl 1 rfl) ?_
    refine lv_iload_n hx hb dJx4a65c_fastRemove_b59b0_36 rfl (lv_at hl 0 rfl) ?_
    refine lv_dup_x1 hx hb dJx4a65c_fastRemove_b59b0_37 rfl rfl ?_
    refine va_put (D := (dC, dI)) (ci := 10) (v := .int (nI i)) (ty := .int) (C := RJx4a65c) (T := TJx4a65c) (N := 3) hx hb hts inJx4a65c tyJx4a65c tyJx4a65c_ok nmJx4a65c hown hK hP hD hS 0 rfl rfl 2 (by decide) (hts _ mw_297) (fun _ h9 => h9) rfl (by decide +kernel) rfl rfl (Nat.le_of_ble_eq_true rfl) dJx4a65c_fastRemove_b59b0_38 (fun H locs hP hD hS => ?_)
    obtain ⟨hP, hD⟩ := zre (W2 := [(oc10 sl (mc9 + 1) (.ref ea) (nI i)), _]) hP hD rfl
    refine lv_null hx hb dJx4a65c_fastRemove_b59b0_41 ?_
    have b9_3 : i < cp9 := by omega
    have b9_4 : zlt (cp9) := show cp9 < 2147483648 by omega
    refine z_aastN hx hb hK hP hD hS 1 3 rfl rfl (e := i) rfl b9_3 b9_4 dJx4a65c_fastRemove_b59b0_42 (fun H locs hP hD hS => ?_)
    obtain ⟨hP, hD⟩ := zre (W2 := [_, (oq ea cO cp9 (va_up SA i none))]) hP hD rfl
    obtain ⟨hP9, hD9⟩ := zu_sub (wc := [_, _]) hP hD [true, true] rfl rfl
    rw [hQ9]
    exact W.vret hx hb hr (fun t ht hW => ⟨⟨rfl, by rw [ht]; exact hP9, hD9⟩, hS.F ht⟩) hS.2.2 dJx4a65c_fastRemove_b59b0_43
  · have c_1 : ((i : Nat) : Int) < ((i : Nat) : Int) := zc_nle (nI_toInt b9_2) (nI_toInt b9_2) c_1
    exfalso; omega
set_option maxHeartbeats 4000000 in
set_option maxRecDepth 100000 in
theorem k_AL_remove (l : Launch) (dC : Nat → ClassId) (dI : Nat → Nat → Nat) (cI cZ cF : ClassId) (sz : Nat) (cO : ClassId) (e0 : Nat) (mi : Nat) (sl : Nat) (ea : Nat) (mc9 : Int32) (i : Nat) (cp9 : Nat) (y9 : Nat) (SA : Nat → Option Nat) (hSA : SA i = some y9) (hic : i < cp9) (hcp : cp9 < 2147483648) : zML l yJx4a65c_remove_915e3 cJx4a65c_remove_915e3 4 (some (.object "java/lang/Object")) ({ frames := 2, cells := 0, slots := 0, locals := 43 } : Room) [.ref sl, .int (nI i)] (dC, dI) (zTyO cI cZ cF cO) e0 mi [(oc10 sl mc9 (.ref ea) (nI (i + 1))), (oq ea cO cp9 SA)] sz (some (.ref y9)) (fun A t => zPD (dC, dI) classes A [(oc10 sl (mc9 + 1) (.ref ea) (nI i)), (oq ea cO cp9 (va_up SA i none))] t.heap) 0 0 := by
  refine zInL (own := "java/util/ArrayList") (loc := [(0, .ref sl), (1, .int (nI i))]) rfl rfl rfl rfl (fun p e s m below meth c hx hb hr hts hown hlocks hml hnm9 A hA hS hP hD hK hXL hXN hK3 Q9 hQ9 ls hl => ?_)
  refine lv_iload_n hx hb dJx4a65c_remove_915e3_0 rfl (lv_at hl 1 rfl) ?_
  refine lv_aload_n hx hb dJx4a65c_remove_915e3_1 rfl (lv_at hl 0 rfl) ?_
  refine va_get (D := (dC, dI)) (ci := 10) (v := .int (nI (i + 1))) (C := RJx4a65c) (T := TJx4a65c) (N := 3) hx hb hts inJx4a65c hown hK hP 0 rfl rfl 2 (Nat.le_of_ble_eq_true rfl) (hts _ mw_297) (fun _ h9 => h9) rfl dJx4a65c_remove_915e3_2 ?_
  obtain ⟨hPc, hDc, hFc, hI1⟩ := zi_sub (wc := []) hP hD hS hA [] rfl rfl
  refine zcall (st1 := [.int (nI i)]) (va_runS (As := [.int (nI i), .int (nI (i + 1))]) (rest := []) ⟨hx, hb, hml, hown, hts⟩ (k_O_checkIndex l dC dI cI cZ cF s.heap.size i (i + 1) (by first | with_reducible assumption | omega) (by first | with_reducible assumption | omega)) (csS_86 hts rfl rfl ⟨Nat.le_of_ble_eq_true rfl, Nat.le_of_ble_eq_true rfl⟩) (zPS2 hPc hDc hK3 hXN) rfl rfl hl.1 rfl (lv_room (Nat.le_of_ble_eq_true rfl)) dJx4a65c_remove_915e3_5 ⟨Nat.le_of_ble_eq_true rfl, Nat.le_of_ble_eq_true rfl⟩) hS hFc hFc rfl (fun t H locs ht hB hk1 hS => ?_)
  obtain ⟨hP1, hD1⟩ := hB
  rw [ht] at hP1
  replace hP := z0 hP hD hk1 hP1 hI1
  clear hk1 hPc hDc hFc hP1 hD1 ht hI1
  refine lv_pop hx hb dJx4a65c_remove_915e3_8 rfl ?_
  refine lv_aload_n hx hb dJx4a65c_remove_915e3_9 rfl (lv_at hl 0 rfl) ?_
  refine va_get (D := (dC, dI)) (ci := 10) (v := .ref ea) (C := RJx4a65c) (T := TJx4a65c) (N := 3) hx hb hts inJx4a65c hown hK hP 0 rfl rfl 1 (Nat.le_of_ble_eq_true rfl) (hts _ mw_296) (fun _ h9 => h9) rfl dJx4a65c_remove_915e3_10 ?_
  refine lv_astore_n (lv' := [(2, .ref ea), (0, .ref sl), (1, .int (nI i))]) hx hb dJx4a65c_remove_915e3_13 rfl hl (Nat.le_of_ble_eq_true rfl) rfl (fun ls hl => ?_)
  refine lv_aload_n hx hb dJx4a65c_remove_915e3_14 rfl (lv_at hl 0 rfl) ?_
  refine lv_iload_n hx hb dJx4a65c_remove_915e3_15 rfl (lv_at hl 2 rfl) ?_
  have b9_1 : i < cp9 := by omega
  have b9_2 : zlt (cp9) := show cp9 < 2147483648 by omega
  refine z_aald hx hb hK hP 1 3 rfl rfl (e := i) rfl b9_1 b9_2 (v := .ref y9) (by rw [hSA]; rfl) dJx4a65c_remove_915e3_16 ?_
  refine lv_astore_n (lv' := [(3, .ref y9), (2, .ref ea), (0, .ref sl), (1, .int (nI i))]) hx hb dJx4a65c_remove_915e3_17 rfl hl (Nat.le_of_ble_eq_true rfl) rfl (fun ls hl => ?_)
  refine lv_aload_n hx hb dJx4a65c_remove_915e3_18 rfl (lv_at hl 2 rfl) ?_
  refine lv_aload_n hx hb dJx4a65c_remove_915e3_19 rfl (lv_at hl 1 rfl) ?_
  refine lv_iload_n hx hb dJx4a65c_remove_915e3_20 rfl (lv_at hl 3 rfl) ?_
  obtain ⟨hPc, hDc, hFc⟩ := zo_sub (wc := [_, _]) hP hD hS hA [0, 1] rfl rfl
  refine zcall (st1 := []) (va_runV (As := [.ref ea, .int (nI i)]) (rest := []) ⟨hx, hb, hml, hown, hts⟩ (k_AL_fastRemove l dC dI cI cZ cF H.size cO e0 mi sl ea mc9 i cp9 SA (by first | with_reducible assumption | omega) (by first | with_reducible assumption | omega)) (csV_81 hts rfl rfl ⟨Nat.le_of_ble_eq_true rfl, Nat.le_of_ble_eq_true rfl⟩) (zPVL (q0 := 0) (ci := 10) hPc hDc hK hXL hS hFc rfl rfl) rfl rfl hl.1 rfl (lv_room (Nat.le_of_ble_eq_true rfl)) dJx4a65c_remove_915e3_21 ⟨Nat.le_of_ble_eq_true rfl, Nat.le_of_ble_eq_true rfl⟩) hS hFc hFc rfl (fun t H locs ht hB hk1 hS => ?_)
  obtain ⟨hP1, hD1⟩ := hB
  rw [ht] at hP1
  obtain ⟨hP, hD⟩ := zn (W2 := [(oc10 sl (mc9 + 1) (.ref ea) (nI i)), (oq ea cO cp9 (va_up SA i none))]) hP hD hk1 hFc hP1 hD1 [0, 1] [] [false, false] [0, 1] (by decide +kernel) rfl rfl rfl rfl rfl
  clear hk1 hPc hDc hFc hP1 hD1 ht
  refine lv_aload_n hx hb dJx4a65c_remove_915e3_24 rfl (lv_at hl 0 rfl) ?_
  obtain ⟨hP9, hD9⟩ := zu_sub (wc := [_, _]) hP hD [true, true] rfl rfl
  rw [hQ9]
  exact W.aret hx hb hr (Or.inl ⟨_, rfl⟩) (Or.inr ⟨_, rfl⟩) (fun t ht hW => ⟨⟨rfl, by rw [ht]; exact hP9, hD9⟩, hS.F ht⟩) hS.2.2 dJx4a65c_remove_915e3_25
set_option maxHeartbeats 4000000 in
set_option maxRecDepth 100000 in
theorem k_J_newLength (l : Launch) (dC : Nat → ClassId) (dI : Nat → Nat → Nat) (cI cZ cF : ClassId) (sz : Nat) (n : Nat) (a1 : Nat) (b1 : Nat) (h1n : 1 ≤ n) (hn : n ≤ 100000) (ha : a1 ≤ 100000) (hbb : b1 ≤ 100000) : zM l yJ8_newLength_cabcc cJ8_newLength_cabcc 4 (some .int) ({ frames := 1, cells := 0, slots := 0, locals := 14 } : Room) [.int (nI n), .int (nI a1), .int (nI b1)] (dC, dI) (zTy cI cZ cF) [] sz (some (.int (nI (n + max a1 b1)))) (fun A t => zPD (dC, dI) classes A [] t.heap) 0 0 := by
  refine zIn (own := "jdk/internal/util/ArraysSupport") (loc := [(0, .int (nI n)), (1, .int (nI a1)), (2, .int (nI b1))]) rfl rfl rfl rfl (fun p e s m below meth c hx hb hr hts hown hlocks hml hnm9 A hA hS hP hD hK hXN Q9 hQ9 ls hl => ?_)
  refine lv_iload_n hx hb dJ8_newLength_cabcc_0 rfl (lv_at hl 0 rfl) ?_
  refine lv_iload_n hx hb dJ8_newLength_cabcc_1 rfl (lv_at hl 1 rfl) ?_
  refine lv_iload_n hx hb dJ8_newLength_cabcc_2 rfl (lv_at hl 2 rfl) ?_
  refine va_mmax hx hb (by rw [hml]; exact hl.1.symm) hown (hts _ mw_826) (hts _ mw_159) (hts _ mw_103) (hts _ mw_maxcode) (Nat.le_of_ble_eq_true rfl) (Nat.le_of_ble_eq_true rfl) (Nat.le_of_ble_eq_true rfl) (Nat.le_of_ble_eq_true rfl) dJ8_newLength_cabcc_3 ?_
  have b9_1 : zlt (a1) := show a1 < 2147483648 by omega
  have b9_2 : zlt (b1) := show b1 < 2147483648 by omega
  refine lv_topi (fun v_3 ev_3 => ?_)
  have hv_3 : v_3.toInt = max ((a1 : Nat) : Int) ((b1 : Nat) : Int) := zmax (nI_toInt b9_1) (nI_toInt b9_2) ev_3
  refine zz_i (v := nI (max a1 b1)) (Int32.toInt_inj.mp (by rw [hv_3, nI_toInt (by omega)]; omega)) ?_
  refine lv_iadd hx hb dJ8_newLength_cabcc_6 ?_
  refine zz_i (v := nI (n + (max a1 b1))) (nI_add n (max a1 b1)) ?_
  refine lv_istore_n (lv' := [(3, .int (nI (n + (max a1 b1)))), (0, .int (nI n)), (1, .int (nI a1)), (2, .int (nI b1))]) hx hb dJ8_newLength_cabcc_7 rfl hl (Nat.le_of_ble_eq_true rfl) rfl (fun ls hl => ?_)
  refine lv_iconst (v := 0) hx hb dJ8_newLength_cabcc_8 rfl ?_
  refine lv_iload_n hx hb dJ8_newLength_cabcc_9 rfl (lv_at hl 0 rfl) ?_
  have b9_5 : zlt ((n + (max a1 b1))) := show (n + (max a1 b1)) < 2147483648 by omega
  refine lv_icmp_ge (tgt := 21) hx hb dJ8_newLength_cabcc_10 rfl (fun c_4 => ?_) (fun c_4 => ?_)
  · have c_4 : ((n + (max a1 b1) : Nat) : Int) ≤ 0 := zc_le (nI_toInt b9_5) rfl c_4
    exfalso; omega
  · have c_4 : 0 < ((n + (max a1 b1) : Nat) : Int) := zc_nle (nI_toInt b9_5) rfl c_4
    refine lv_iload_n hx hb dJ8_newLength_cabcc_13 rfl (lv_at hl 0 rfl) ?_
    refine lv_ldc hx hb hown (hts _ mw_827) dJ8_newLength_cabcc_14 ?_
    refine lv_icmp_gt (tgt := 21) hx hb dJ8_newLength_cabcc_16 rfl (fun c_6 => ?_) (fun c_6 => ?_)
    · have c_6 : 2147483639 < ((n + (max a1 b1) : Nat) : Int) := zc_lt rfl (nI_toInt b9_5) c_6
      exfalso; omega
    · have c_6 : ((n + (max a1 b1) : Nat) : Int) ≤ 2147483639 := zc_nlt rfl (nI_toInt b9_5) c_6
      refine lv_iload_n hx hb dJ8_newLength_cabcc_19 rfl (lv_at hl 0 rfl) ?_
      obtain ⟨hP9, hD9⟩ := zu_sub (wc := []) hP hD [] rfl rfl
      rw [hQ9]
      exact W.iret (v := nI (n + (max a1 b1))) hx hb hr (fun t ht hW => ⟨⟨rfl, by rw [ht]; exact hP9, hD9⟩, hS.F ht⟩) hS.2.2 dJ8_newLength_cabcc_20
set_option maxHeartbeats 4000000 in
set_option maxRecDepth 100000 in
theorem k_J_copyOf3 (l : Launch) (dC : Nat → ClassId) (dI : Nat → Nat → Nat) (cI cZ cF : ClassId) (sz : Nat) (cO : ClassId) (e0 : Nat) (mi : Nat) (ea : Nat) (n : Nat) (N9 : Nat) (SA : Nat → Option Nat) (L : List Nat) (f : Nat → va_E) (hn10 : 10 ≤ n) (hn : n ≤ 100000) (hel : ∀ i, i < n → ∃ y vs, SA i = some y ∧ y ∈ L ∧ f y = .inr (11, vs)) (hN9 : n ≤ N9 ∧ N9 ≤ 200000) : Met l yJ7_copyOf_6403c (.code yJ7_copyOf_6403c cJ7_copyOf_6403c 4 (some (.array (.object "java/lang/Object"))) :: ws0) ({ frames := 1, cells := 1, slots := N9, locals := 24 } : Room) (va_Pc [.ref ea, .int (nI N9), .ref mi] (zPre (dC, dI) classes (zTyO cI cZ cF cO) ([(oq ea cO n SA)] ++ va_pl L f) sz (zXL e0 mi (va_A ([(oq ea cO n SA)] ++ va_pl L f) sz)))) (zQe (fun v9 t => ∃ (q9 : Nat), v9 = (some (.ref q9)) ∧ va_P (dC, dI) classes ([(oq ea cO n SA), (oq q9 cO N9 (va_cpy SA (fun _ => none) 0 0 n))] ++ va_pl L f) t.heap ∧ va_D (va_A ([(oq ea cO n SA)] ++ va_pl L f) sz) ([(oq ea cO n SA), (oq q9 cO N9 (va_cpy SA (fun _ => none) 0 0 n))] ++ va_pl L f)) (va_A ([(oq ea cO n SA)] ++ va_pl L f) sz)) 1 N9 (va_A ([(oq ea cO n SA)] ++ va_pl L f) sz) := by
  refine Met.ofW (cc := cJ7_copyOf_6403c) (maxL := 4) (ret := (some (.array (.object "java/lang/Object")))) rfl rfl ?_
  intro p e s m args below meth c s₁ B hml hv
  obtain ⟨rfl, hsz, hP, hK, hD0, hXL⟩ := hv
  have hx := B.exec
  have hb := B.bytes
  have hr := B.returns
  have hts0 := atoms_spec (ws := .code yJ7_copyOf_6403c cJ7_copyOf_6403c 4 (some (.array (.object "java/lang/Object"))) :: ws0) B.pre
  have hts : ∀ w9 ∈ ws0, w9.before ([.ref ea, .int (nI N9), .ref mi] : List Value).toArray s = true := fun w9 h => hts0 w9 (List.mem_cons_of_mem _ h)
  have hown : s.vm.findClass "java/util/Arrays" = some m.cls := findClass_of_methodNamed B.named
  have hlocks := B.notSynchronized
  subst hsz
  have hD := hD0.self (sz := s.heap.size)
  clear hD0
  generalize hAe : va_A ([(oq ea cO n SA)] ++ va_pl L f) s.heap.size = A at hD hXL ⊢
  have hA : ∀ q : Nat, s.heap.size ≤ q → A q := fun q h => by rw [← hAe]; exact Or.inr h
  clear hAe
  have hS : va_S A s.heap s.heap [] := va_S.rf
  have hXN := hXL.1
  have hK3 := hK.sub [0, 1, 2] rfl
  have hP : va_P (dC, dI) classes ([(oq ea cO n SA)] ++ va_pl L f) s.heap := hP
  obtain ⟨Q9, hQ9⟩ : ∃ Q9 : State → Prop, Q9 = MQ below (zQe (fun v9 t => ∃ (q9 : Nat), v9 = (some (.ref q9)) ∧ va_P (dC, dI) classes ([(oq ea cO n SA), (oq q9 cO N9 (va_cpy SA (fun _ => none) 0 0 n))] ++ va_pl L f) t.heap ∧ va_D A ([(oq ea cO n SA), (oq q9 cO N9 (va_cpy SA (fun _ => none) 0 0 n))] ++ va_pl L f)) A) ([.ref ea, .int (nI N9), .ref mi] : List Value).toArray s 1 N9 A := ⟨_, rfl⟩
  rw [← hQ9]
  have hl := lv_entry ([.ref ea, .int (nI N9), .ref mi]) (n := 4) (Nat.le_of_ble_eq_true rfl)
  rw [lg_entry_eq]
  generalize (lg_sl ([.ref ea, .int (nI N9), .ref mi]) ++ List.replicate (4 - (lg_sl ([.ref ea, .int (nI N9), .ref mi])).length) Slot.unset).toArray = ls at hl ⊢
  have hl : lv_has ls 4 [(0, .ref ea), (1, .int (nI N9)), (2, .ref mi)] := hl
  refine lv_aload_n hx hb dJ7_copyOf_6403c_0 rfl (lv_at hl 2 rfl) ?_
  refine va_ldcM hx hb hown (hts _ mw_854) hXL.2.2.2.1 dJ7_copyOf_6403c_1 ?_
  refine z_acmpne (rx := mi) (ry := mi) (tgt := 13) hx hb dJ7_copyOf_6403c_3 (by decide) (fun c_1 => ?_) (fun c_1 => ?_)
  · have c_1 : ¬ mi = mi := c_1
    exact absurd rfl c_1
  · have c_1 : mi = mi := c_1
    refine lv_iload_n hx hb dJ7_copyOf_6403c_6 rfl (lv_at hl 1 rfl) ?_
    refine z_newq (C := "java/lang/Object") hx hb hown (hts _ mw_856) hXN.2.2.2 hK hP hD hS hA (n := nI N9) (N' := N9) (cA := cO) 3 rfl (nI_pos (by omega)) (nI_clamp (by omega)) (show N9 * 4 ≤ 536870912 by omega) (show 1 ≤ 1 by omega) (show (0 + N9) ≤ N9 by omega) dJ7_copyOf_6403c_7 (fun q9 H hP hD hS => ?_)
    have hP := va_P.swap hP
    have hD := va_D.swap hD
    obtain ⟨hP, hD⟩ := zre (W2 := ([_, (oq q9 cO N9 (fun _ => none))] ++ va_pl L f)) hP hD rfl
    refine lv_goto (tgt := 24) hx hb dJ7_copyOf_6403c_10 rfl ?_
    refine lv_astore_n (lv' := [(3, .ref q9), (0, .ref ea), (1, .int (nI N9)), (2, .ref mi)]) hx hb dJ7_copyOf_6403c_24 rfl hl (Nat.le_of_ble_eq_true rfl) rfl (fun ls hl => ?_)
    refine lv_aload_n hx hb dJ7_copyOf_6403c_25 rfl (lv_at hl 1 rfl) ?_
    refine lv_iconst (v := 0) hx hb dJ7_copyOf_6403c_26 rfl ?_
    refine lv_aload_n hx hb dJ7_copyOf_6403c_27 rfl (lv_at hl 0 rfl) ?_
    refine lv_iconst (v := 0) hx hb dJ7_copyOf_6403c_28 rfl ?_
    refine lv_aload_n hx hb dJ7_copyOf_6403c_29 rfl (lv_at hl 1 rfl) ?_
    refine va_alen (v := nI n) hx hb hK hP 0 3 rfl rfl rfl dJ7_copyOf_6403c_30 ?_
    refine lv_iload_n hx hb dJ7_copyOf_6403c_31 rfl (lv_at hl 2 rfl) ?_
    refine va_mmin hx hb (by rw [hml]; exact hl.1.symm) hown (hts _ mw_857) (hts _ mw_858) (hts _ mw_103) (hts _ mw_mincode) (Nat.le_of_ble_eq_true rfl) (Nat.le_of_ble_eq_true rfl) (show 1 ≤ 1 by omega) (show (0 + N9) ≤ N9 by omega) dJ7_copyOf_6403c_32 ?_
    have b9_2 : zlt (n) := show n < 2147483648 by omega
    have b9_3 : zlt (N9) := show N9 < 2147483648 by omega
    refine lv_topi (fun v_4 ev_4 => ?_)
    have hv_4 : v_4.toInt = min ((n : Nat) : Int) ((N9 : Nat) : Int) := zmin (nI_toInt b9_2) (nI_toInt b9_3) ev_4
    refine zz_i (v := nI n) (Int32.toInt_inj.mp (by rw [hv_4, nI_toInt (by omega)]; omega)) ?_
    refine z_copyq hx hb (by rw [hml]; exact hl.1.symm) hown (hts _ mw_860) (hts _ mw_acopy) (hts _ mw_487) (hts _ mw_115) hK hP hD hS 0 1 3 3 rfl rfl rfl rfl (nn := n) (n := nI n) rfl (by omega) (by omega) (by omega) (by omega) (z_elS hK hP hel) (z_asg hXN.2.1) (Nat.le_of_ble_eq_true rfl) (Nat.le_of_ble_eq_true rfl) dJ7_copyOf_6403c_35 (fun H locs hP hD hS => ?_)
    obtain ⟨hP, hD⟩ := zre (W2 := ([_, (oq q9 cO N9 (va_cpy SA (fun _ => none) 0 0 n))] ++ va_pl L f)) hP hD rfl
    refine lv_aload_n hx hb dJ7_copyOf_6403c_38 rfl (lv_at hl 0 rfl) ?_
    obtain ⟨hP9, hD9⟩ := zu_part (cx := [_, _]) hP hD [true, true] rfl rfl
    refine W.widen (k := 1) (n := N9) (by omega) (by omega) ?_
    rw [hQ9]
    exact W.aret hx hb hr (Or.inr ⟨_, rfl⟩) (Or.inr ⟨_, rfl⟩) (fun t ht hW => ⟨⟨_, rfl, q9, rfl, by rw [ht]; exact hP9, hD9⟩, hS.F ht⟩) hS.2.2 dJ7_copyOf_6403c_39
set_option maxHeartbeats 4000000 in
set_option maxRecDepth 100000 in
theorem k_J_copyOf2 (l : Launch) (dC : Nat → ClassId) (dI : Nat → Nat → Nat) (cI cZ cF : ClassId) (sz : Nat) (cO : ClassId) (e0 : Nat) (mi : Nat) (ea : Nat) (n : Nat) (N9 : Nat) (SA : Nat → Option Nat) (L : List Nat) (f : Nat → va_E) (hn10 : 10 ≤ n) (hn : n ≤ 100000) (hel : ∀ i, i < n → ∃ y vs, SA i = some y ∧ y ∈ L ∧ f y = .inr (11, vs)) (hN9 : n ≤ N9 ∧ N9 ≤ 200000) : Met l yJ7_copyOf_1904c (.code yJ7_copyOf_1904c cJ7_copyOf_1904c 2 (some (.array (.object "java/lang/Object"))) :: ws0) ({ frames := 2, cells := 1, slots := N9, locals := 47 } : Room) (va_Pc [.ref ea, .int (nI N9)] (zPre (dC, dI) classes (zTyO cI cZ cF cO) ([(oq ea cO n SA)] ++ va_pl L f) sz (zXL e0 mi (va_A ([(oq ea cO n SA)] ++ va_pl L f) sz)))) (zQe (fun v9 t => ∃ (q9 : Nat), v9 = (some (.ref q9)) ∧ va_P (dC, dI) classes ([(oq ea cO n SA), (oq q9 cO N9 (va_cpy SA (fun _ => none) 0 0 n))] ++ va_pl L f) t.heap ∧ va_D (va_A ([(oq ea cO n SA)] ++ va_pl L f) sz) ([(oq ea cO n SA), (oq q9 cO N9 (va_cpy SA (fun _ => none) 0 0 n))] ++ va_pl L f)) (va_A ([(oq ea cO n SA)] ++ va_pl L f) sz)) 1 N9 (va_A ([(oq ea cO n SA)] ++ va_pl L f) sz) := by
  refine Met.ofW (cc := cJ7_copyOf_1904c) (maxL := 2) (ret := (some (.array (.object "java/lang/Object")))) rfl rfl ?_
  intro p e s m args below meth c s₁ B hml hv
  obtain ⟨rfl, hsz, hP, hK, hD0, hXL⟩ := hv
  have hx := B.exec
  have hb := B.bytes
  have hr := B.returns
  have hts0 := atoms_spec (ws := .code yJ7_copyOf_1904c cJ7_copyOf_1904c 2 (some (.array (.object "java/lang/Object"))) :: ws0) B.pre
  have hts : ∀ w9 ∈ ws0, w9.before ([.ref ea, .int (nI N9)] : List Value).toArray s = true := fun w9 h => hts0 w9 (List.mem_cons_of_mem _ h)
  have hown : s.vm.findClass "java/util/Arrays" = some m.cls := findClass_of_methodNamed B.named
  have hlocks := B.notSynchronized
  subst hsz
  have hD := hD0.self (sz := s.heap.size)
  clear hD0
  generalize hAe : va_A ([(oq ea cO n SA)] ++ va_pl L f) s.heap.size = A at hD hXL ⊢
  have hA : ∀ q : Nat, s.heap.size ≤ q → A q := fun q h => by rw [← hAe]; exact Or.inr h
  clear hAe
  have hS : va_S A s.heap s.heap [] := va_S.rf
  have hXN := hXL.1
  have hK3 := hK.sub [0, 1, 2] rfl
  have hP : va_P (dC, dI) classes ([(oq ea cO n SA)] ++ va_pl L f) s.heap := hP
  obtain ⟨Q9, hQ9⟩ : ∃ Q9 : State → Prop, Q9 = MQ below (zQe (fun v9 t => ∃ (q9 : Nat), v9 = (some (.ref q9)) ∧ va_P (dC, dI) classes ([(oq ea cO n SA), (oq q9 cO N9 (va_cpy SA (fun _ => none) 0 0 n))] ++ va_pl L f) t.heap ∧ va_D A ([(oq ea cO n SA), (oq q9 cO N9 (va_cpy SA (fun _ => none) 0 0 n))] ++ va_pl L f)) A) ([.ref ea, .int (nI N9)] : List Value).toArray s 1 N9 A := ⟨_, rfl⟩
  rw [← hQ9]
  have hl := lv_entry ([.ref ea, .int (nI N9)]) (n := 2) (Nat.le_of_ble_eq_true rfl)
  rw [lg_entry_eq]
  generalize (lg_sl ([.ref ea, .int (nI N9)]) ++ List.replicate (2 - (lg_sl ([.ref ea, .int (nI N9)])).length) Slot.unset).toArray = ls at hl ⊢
  have hl : lv_has ls 2 [(0, .ref ea), (1, .int (nI N9))] := hl
  refine lv_aload_n hx hb dJ7_copyOf_1904c_0 rfl (lv_at hl 0 rfl) ?_
  refine lv_iload_n hx hb dJ7_copyOf_1904c_1 rfl (lv_at hl 1 rfl) ?_
  refine lv_aload_n hx hb dJ7_copyOf_1904c_2 rfl (lv_at hl 0 rfl) ?_
  refine va_getC hx hb (by rw [hml]; exact hl.1.symm) hown (hts _ mw_834) (va_Dc.use hXL.2.2.1) (hts _ mw_getCs) (hts _ mw_835) (hts _ mw_getCn) hXL.2.2.2.1 (z_cellA (q0 := 0) (t0 := 3) hK hP rfl rfl (by decide)) (Nat.le_of_ble_eq_true rfl) (Nat.le_of_ble_eq_true rfl) dJ7_copyOf_1904c_3 ?_
  obtain ⟨hPc, hDc, hFc⟩ := zo_part (cx := [_]) hP hD hS hA [0] rfl rfl
  refine zcalle (va_runS (As := [.ref ea, .int (nI N9), .ref mi]) (rest := []) ⟨hx, hb, hml, hown, hts⟩ (k_J_copyOf3 l dC dI cI cZ cF s.heap.size cO e0 mi ea n N9 SA L f (by first | with_reducible assumption | omega) (by first | with_reducible assumption | omega) (by first | with_reducible assumption | assumption) (by first | with_reducible assumption | omega)) (csS_87 hts rfl rfl ⟨Nat.le_of_ble_eq_true rfl, Nat.le_of_ble_eq_true rfl⟩) (zPSL hPc hDc hK hXL hS hFc) rfl rfl hl.1 rfl (lv_room (Nat.le_of_ble_eq_true rfl)) dJ7_copyOf_1904c_6 ⟨show (0 + 1) ≤ 1 by omega, show (0 + N9) ≤ N9 by omega⟩) hS hFc hFc (fun v9 t H locs ht hB hk1 hS => ?_)
  obtain ⟨q9, rfl, hP1, hD1⟩ := hB
  refine W.eq (g2 := F0 m 9 ls [.ref q9]) rfl ?_
  rw [ht] at hP1
  obtain ⟨hP, hD⟩ := znP (W2 := [(oq ea cO n SA), (oq q9 cO N9 (va_cpy SA (fun _ => none) 0 0 n))]) hP hD hk1 hFc hP1 hD1 [0] [] [false, false] [0, 1] (by decide +kernel) rfl rfl rfl rfl rfl
  clear hk1 hPc hDc hFc hP1 hD1 ht
  obtain ⟨hP9, hD9⟩ := zu_part (cx := [_, _]) hP hD [true, true] rfl rfl
  refine W.widen (k := 1) (n := N9) (by omega) (by omega) ?_
  rw [hQ9]
  exact W.aret hx hb hr (Or.inr ⟨_, rfl⟩) (Or.inr ⟨_, rfl⟩) (fun t ht hW => ⟨⟨_, rfl, q9, rfl, by rw [ht]; exact hP9, hD9⟩, hS.F ht⟩) hS.2.2 dJ7_copyOf_1904c_9
set_option maxHeartbeats 4000000 in
set_option maxRecDepth 100000 in
theorem k_AL_growi_0 (l : Launch) (dC : Nat → ClassId) (dI : Nat → Nat → Nat) (cI cZ cF : ClassId) (sz : Nat) (cO : ClassId) (e0 : Nat) (mi : Nat) (sl : Nat) (m9 : Nat) (mc9 : Int32) (z7 : Int32) (hm9 : m9 ≤ 10) : Met l yJx4a65c_grow_92f84 (.code yJx4a65c_grow_92f84 cJx4a65c_grow_92f84 4 (some (.array (.object "java/lang/Object"))) :: ws0) ({ frames := 1, cells := 1, slots := 10, locals := 14 } : Room) (va_Pc [.ref sl, .int (nI m9)] (zPre (dC, dI) classes (zTyO cI cZ cF cO) [(oc10 sl mc9 (.ref e0) z7)] sz (zXL e0 mi (va_A [(oc10 sl mc9 (.ref e0) z7)] sz)))) (zQe (fun v9 t => ∃ (q9 : Nat), v9 = (some (.ref q9)) ∧ va_P (dC, dI) classes [(oc10 sl mc9 (.ref q9) z7), (oq q9 cO 10 (fun _ => none))] t.heap ∧ va_D (va_A [(oc10 sl mc9 (.ref e0) z7)] sz) [(oc10 sl mc9 (.ref q9) z7), (oq q9 cO 10 (fun _ => none))]) (va_A [(oc10 sl mc9 (.ref e0) z7)] sz)) 1 10 (va_A [(oc10 sl mc9 (.ref e0) z7)] sz) := by
  refine Met.ofW (cc := cJx4a65c_grow_92f84) (maxL := 4) (ret := (some (.array (.object "java/lang/Object")))) rfl rfl ?_
  intro p e s m args below meth c s₁ B hml hv
  obtain ⟨rfl, hsz, hP, hK, hD0, hXL⟩ := hv
  have hx := B.exec
  have hb := B.bytes
  have hr := B.returns
  have hts0 := atoms_spec (ws := .code yJx4a65c_grow_92f84 cJx4a65c_grow_92f84 4 (some (.array (.object "java/lang/Object"))) :: ws0) B.pre
  have hts : ∀ w9 ∈ ws0, w9.before ([.ref sl, .int (nI m9)] : List Value).toArray s = true := fun w9 h => hts0 w9 (List.mem_cons_of_mem _ h)
  have hown : s.vm.findClass "java/util/ArrayList" = some m.cls := findClass_of_methodNamed B.named
  have hlocks := B.notSynchronized
  subst hsz
  have hD := hD0.self (sz := s.heap.size)
  clear hD0
  generalize hAe : va_A [(oc10 sl mc9 (.ref e0) z7)] s.heap.size = A at hD hXL ⊢
  have hA : ∀ q : Nat, s.heap.size ≤ q → A q := fun q h => by rw [← hAe]; exact Or.inr h
  clear hAe
  have hS : va_S A s.heap s.heap [] := va_S.rf
  have hXN := hXL.1
  have hK3 := hK.sub [0, 1, 2] rfl
  have hP : va_P (dC, dI) classes [(oc10 sl mc9 (.ref e0) z7)] s.heap := hP
  obtain ⟨Q9, hQ9⟩ : ∃ Q9 : State → Prop, Q9 = MQ below (zQe (fun v9 t => ∃ (q9 : Nat), v9 = (some (.ref q9)) ∧ va_P (dC, dI) classes [(oc10 sl mc9 (.ref q9) z7), (oq q9 cO 10 (fun _ => none))] t.heap ∧ va_D A [(oc10 sl mc9 (.ref q9) z7), (oq q9 cO 10 (fun _ => none))]) A) ([.ref sl, .int (nI m9)] : List Value).toArray s 1 10 A := ⟨_, rfl⟩
  rw [← hQ9]
  have hl := lv_entry ([.ref sl, .int (nI m9)]) (n := 4) (Nat.le_of_ble_eq_true rfl)
  rw [lg_entry_eq]
  generalize (lg_sl ([.ref sl, .int (nI m9)]) ++ List.replicate (4 - (lg_sl ([.ref sl, .int (nI m9)])).length) Slot.unset).toArray = ls at hl ⊢
  have hl : lv_has ls 4 [(0, .ref sl), (1, .int (nI m9))] := hl
  refine lv_aload_n hx hb dJx4a65c_grow_92f84_0 rfl (lv_at hl 0 rfl) ?_
  refine va_get (D := (dC, dI)) (ci := 10) (v := .ref e0) (C := RJx4a65c) (T := TJx4a65c) (N := 3) hx hb hts inJx4a65c hown hK hP 0 rfl rfl 1 (Nat.le_of_ble_eq_true rfl) (hts _ mw_296) (fun _ h9 => h9) rfl dJx4a65c_grow_92f84_1 ?_
  refine z_alen0 hx hb hXL.2.2.2.2 hS dJx4a65c_grow_92f84_4 ?_
  refine lv_istore_n (lv' := [(2, .int 0), (0, .ref sl), (1, .int (nI m9))]) hx hb dJx4a65c_grow_92f84_5 rfl hl (Nat.le_of_ble_eq_true rfl) rfl (fun ls hl => ?_)
  refine lv_iload_n hx hb dJx4a65c_grow_92f84_6 rfl (lv_at hl 0 rfl) ?_
  refine lv_if_gt (tgt := 20) hx hb dJx4a65c_grow_92f84_7 rfl (fun c_1 => ?_) (fun c_1 => ?_)
  · exact absurd c_1 (by decide)
  · refine lv_aload_n hx hb dJx4a65c_grow_92f84_10 rfl (lv_at hl 1 rfl) ?_
    refine va_get (D := (dC, dI)) (ci := 10) (v := .ref e0) (C := RJx4a65c) (T := TJx4a65c) (N := 3) hx hb hts inJx4a65c hown hK hP 0 rfl rfl 1 (Nat.le_of_ble_eq_true rfl) (hts _ mw_296) (fun _ h9 => h9) rfl dJx4a65c_grow_92f84_11 ?_
    refine va_gets hx hb hXL.2.1 hS hown (hts _ mw_294) (fun _ h9 => h9) dJx4a65c_grow_92f84_14 ?_
    refine z_acmpeq (rx := e0) (ry := e0) (tgt := 45) hx hb dJx4a65c_grow_92f84_17 (by decide) (fun c_2 => ?_) (fun c_2 => ?_)
    · have c_2 : e0 = e0 := c_2
      refine lv_aload_n hx hb dJx4a65c_grow_92f84_45 rfl (lv_at hl 1 rfl) ?_
      refine lv_bipush (v := 10) hx hb dJx4a65c_grow_92f84_46 rfl ?_
      refine lv_iload_n hx hb dJx4a65c_grow_92f84_48 rfl (lv_at hl 2 rfl) ?_
      refine va_mmax hx hb (by rw [hml]; exact hl.1.symm) hown (hts _ mw_861) (hts _ mw_159) (hts _ mw_103) (hts _ mw_maxcode) (Nat.le_of_ble_eq_true rfl) (Nat.le_of_ble_eq_true rfl) (Nat.le_of_ble_eq_true rfl) (Nat.le_of_ble_eq_true rfl) dJx4a65c_grow_92f84_49 ?_
      have b9_3 : zlt (m9) := show m9 < 2147483648 by omega
      refine lv_topi (fun v_4 ev_4 => ?_)
      have hv_4 : v_4.toInt = max 10 ((m9 : Nat) : Int) := zmax (by decide) (nI_toInt b9_3) ev_4
      refine zz_i (v := 10) (Int32.toInt_inj.mp (by rw [hv_4]; show _ = (10 : Int); omega)) ?_
      refine z_newq (C := "java/lang/Object") hx hb hown (hts _ mw_862) hXN.2.2.2 hK hP hD hS hA (n := nI 10) (N' := 10) (cA := cO) 3 rfl (nI_pos (by omega)) (nI_clamp (by omega)) (show 10 * 4 ≤ 536870912 by omega) (show 1 ≤ 1 by omega) (show 10 ≤ 10 by omega) dJx4a65c_grow_92f84_52 (fun q9 H hP hD hS => ?_)
      obtain ⟨hP, hD⟩ := zre (W2 := [_, (oq q9 cO 10 (fun _ => none))]) hP hD rfl
      refine lv_dup_x1 hx hb dJx4a65c_grow_92f84_55 rfl rfl ?_
      refine va_put (D := (dC, dI)) (ci := 10) (v := .ref q9) (ty := .array (.object "java/lang/Object")) (C := RJx4a65c) (T := TJx4a65c) (N := 3) hx hb hts inJx4a65c tyJx4a65c tyJx4a65c_ok nmJx4a65c hown hK hP hD hS 0 rfl rfl 1 (by decide) (hts _ mw_296) (fun _ h9 => h9) rfl (by decide +kernel) rfl rfl (Nat.le_of_ble_eq_true rfl) dJx4a65c_grow_92f84_56 (fun H locs hP hD hS => ?_)
      obtain ⟨hP, hD⟩ := zre (W2 := [(oc10 sl mc9 (.ref q9) z7), _]) hP hD rfl
      obtain ⟨hP9, hD9⟩ := zu_sub (wc := [_, _]) hP hD [true, true] rfl rfl
      refine W.widen (k := 1) (n := 10) (by omega) (by omega) ?_
      rw [hQ9]
      exact W.aret hx hb hr (Or.inr ⟨_, rfl⟩) (Or.inr ⟨_, rfl⟩) (fun t ht hW => ⟨⟨_, rfl, q9, rfl, by rw [ht]; exact hP9, hD9⟩, hS.F ht⟩) hS.2.2 dJx4a65c_grow_92f84_59
    · have c_2 : ¬ e0 = e0 := c_2
      exact absurd rfl c_2
set_option maxHeartbeats 4000000 in
set_option maxRecDepth 100000 in
theorem k_AL_growi_g (l : Launch) (dC : Nat → ClassId) (dI : Nat → Nat → Nat) (cI cZ cF : ClassId) (sz : Nat) (cO : ClassId) (e0 : Nat) (mi : Nat) (sl : Nat) (ea : Nat) (n : Nat) (mc9 : Int32) (z7 : Int32) (SA : Nat → Option Nat) (L : List Nat) (f : Nat → va_E) (hn10 : 10 ≤ n) (hn : n ≤ 100000) (hel : ∀ i, i < n → ∃ y vs, SA i = some y ∧ y ∈ L ∧ f y = .inr (11, vs)) : Met l yJx4a65c_grow_92f84 (.code yJx4a65c_grow_92f84 cJx4a65c_grow_92f84 4 (some (.array (.object "java/lang/Object"))) :: ws0) ({ frames := 3, cells := 1, slots := n + n / 2, locals := 68 } : Room) (va_Pc [.ref sl, .int (nI (n + 1))] (zPre (dC, dI) classes (zTyO cI cZ cF cO) ([(oc10 sl mc9 (.ref ea) z7), (oq ea cO n SA)] ++ va_pl L f) sz (zXL e0 mi (va_A ([(oc10 sl mc9 (.ref ea) z7), (oq ea cO n SA)] ++ va_pl L f) sz)))) (zQe (fun v9 t => ∃ (q9 : Nat), v9 = (some (.ref q9)) ∧ va_P (dC, dI) classes ([(oc10 sl mc9 (.ref q9) z7), (oq ea cO n SA), (oq q9 cO (n + n / 2) (va_cpy SA (fun _ => none) 0 0 n))] ++ va_pl L f) t.heap ∧ va_D (va_A ([(oc10 sl mc9 (.ref ea) z7), (oq ea cO n SA)] ++ va_pl L f) sz) ([(oc10 sl mc9 (.ref q9) z7), (oq ea cO n SA), (oq q9 cO (n + n / 2) (va_cpy SA (fun _ => none) 0 0 n))] ++ va_pl L f)) (va_A ([(oc10 sl mc9 (.ref ea) z7), (oq ea cO n SA)] ++ va_pl L f) sz)) 1 (n + n / 2) (va_A ([(oc10 sl mc9 (.ref ea) z7), (oq ea cO n SA)] ++ va_pl L f) sz) := by
  refine Met.ofW (cc := cJx4a65c_grow_92f84) (maxL := 4) (ret := (some (.array (.object "java/lang/Object")))) rfl rfl ?_
  intro p e s m args below meth c s₁ B hml hv
  obtain ⟨rfl, hsz, hP, hK, hD0, hXL⟩ := hv
  have hx := B.exec
  have hb := B.bytes
  have hr := B.returns
  have hts0 := atoms_spec (ws := .code yJx4a65c_grow_92f84 cJx4a65c_grow_92f84 4 (some (.array (.object "java/lang/Object"))) :: ws0) B.pre
  have hts : ∀ w9 ∈ ws0, w9.before ([.ref sl, .int (nI (n + 1))] : List Value).toArray s = true := fun w9 h => hts0 w9 (List.mem_cons_of_mem _ h)
  have hown : s.vm.findClass "java/util/ArrayList" = some m.cls := findClass_of_methodNamed B.named
  have hlocks := B.notSynchronized
  subst hsz
  have hD := hD0.self (sz := s.heap.size)
  clear hD0
  generalize hAe : va_A ([(oc10 sl mc9 (.ref ea) z7), (oq ea cO n SA)] ++ va_pl L f) s.heap.size = A at hD hXL ⊢
  have hA : ∀ q : Nat, s.heap.size ≤ q → A q := fun q h => by rw [← hAe]; exact Or.inr h
  clear hAe
  have hS : va_S A s.heap s.heap [] := va_S.rf
  have hXN := hXL.1
  have hK3 := hK.sub [0, 1, 2] rfl
  have hP : va_P (dC, dI) classes ([(oc10 sl mc9 (.ref ea) z7), (oq ea cO n SA)] ++ va_pl L f) s.heap := hP
  obtain ⟨Q9, hQ9⟩ : ∃ Q9 : State → Prop, Q9 = MQ below (zQe (fun v9 t => ∃ (q9 : Nat), v9 = (some (.ref q9)) ∧ va_P (dC, dI) classes ([(oc10 sl mc9 (.ref q9) z7), (oq ea cO n SA), (oq q9 cO (n + n / 2) (va_cpy SA (fun _ => none) 0 0 n))] ++ va_pl L f) t.heap ∧ va_D A ([(oc10 sl mc9 (.ref q9) z7), (oq ea cO n SA), (oq q9 cO (n + n / 2) (va_cpy SA (fun _ => none) 0 0 n))] ++ va_pl L f)) A) ([.ref sl, .int (nI (n + 1))] : List Value).toArray s 1 (n + n / 2) A := ⟨_, rfl⟩
  rw [← hQ9]
  have hl := lv_entry ([.ref sl, .int (nI (n + 1))]) (n := 4) (Nat.le_of_ble_eq_true rfl)
  rw [lg_entry_eq]
  generalize (lg_sl ([.ref sl, .int (nI (n + 1))]) ++ List.replicate (4 - (lg_sl ([.ref sl, .int (nI (n + 1))])).length) Slot.unset).toArray = ls at hl ⊢
  have hl : lv_has ls 4 [(0, .ref sl), (1, .int (nI (n + 1)))] := hl
  refine lv_aload_n hx hb dJx4a65c_grow_92f84_0 rfl (lv_at hl 0 rfl) ?_
  refine va_get (D := (dC, dI)) (ci := 10) (v := .ref ea) (C := RJx4a65c) (T := TJx4a65c) (N := 3) hx hb hts inJx4a65c hown hK hP 0 rfl rfl 1 (Nat.le_of_ble_eq_true rfl) (hts _ mw_296) (fun _ h9 => h9) rfl dJx4a65c_grow_92f84_1 ?_
  refine va_alen (v := nI n) hx hb hK hP 1 3 rfl rfl rfl dJx4a65c_grow_92f84_4 ?_
  refine lv_istore_n (lv' := [(2, .int (nI n)), (0, .ref sl), (1, .int (nI (n + 1)))]) hx hb dJx4a65c_grow_92f84_5 rfl hl (Nat.le_of_ble_eq_true rfl) rfl (fun ls hl => ?_)
  refine lv_iload_n hx hb dJx4a65c_grow_92f84_6 rfl (lv_at hl 0 rfl) ?_
  have b9_2 : zlt (n) := show n < 2147483648 by omega
  refine lv_if_gt (tgt := 20) hx hb dJx4a65c_grow_92f84_7 rfl (fun c_1 => ?_) (fun c_1 => ?_)
  · have c_1 : 0 < ((n : Nat) : Int) := zc_lt rfl (nI_toInt b9_2) c_1
    refine lv_iload_n hx hb dJx4a65c_grow_92f84_20 rfl (lv_at hl 0 rfl) ?_
    refine lv_iload_n hx hb dJx4a65c_grow_92f84_21 rfl (lv_at hl 2 rfl) ?_
    refine lv_iload_n hx hb dJx4a65c_grow_92f84_22 rfl (lv_at hl 0 rfl) ?_
    refine lv_isub hx hb dJx4a65c_grow_92f84_23 ?_
    refine zz_i (v := nI ((n + 1) - n)) (pk_sub (a := n + 1) (b := n) (by omega)) ?_
    refine lv_iload_n hx hb dJx4a65c_grow_92f84_24 rfl (lv_at hl 0 rfl) ?_
    refine lv_iconst (v := 1) hx hb dJx4a65c_grow_92f84_25 rfl ?_
    refine lv_ishr hx hb dJx4a65c_grow_92f84_26 ?_
    refine zz_i (v := nI (n / 2)) (zn_shr (by omega)) ?_
    obtain ⟨hPc, hDc, hFc, hI1⟩ := zi_sub (wc := []) hP hD hS hA [] rfl rfl
    refine zcall (st1 := [.int (nI (n + max ((n + 1) - n) (n / 2)))]) (va_runS (As := [.int (nI n), .int (nI ((n + 1) - n)), .int (nI (n / 2))]) (rest := []) ⟨hx, hb, hml, hown, hts⟩ (k_J_newLength l dC dI cI cZ cF s.heap.size n ((n + 1) - n) (n / 2) (by first | with_reducible assumption | omega) (by first | with_reducible assumption | omega) (by first | with_reducible assumption | omega) (by first | with_reducible assumption | omega)) (csS_88 hts rfl rfl ⟨Nat.le_of_ble_eq_true rfl, Nat.le_of_ble_eq_true rfl⟩) (zPS2 hPc hDc hK3 hXN) rfl rfl hl.1 rfl (lv_room (Nat.le_of_ble_eq_true rfl)) dJx4a65c_grow_92f84_27 ⟨Nat.zero_le _, Nat.zero_le _⟩) hS hFc hFc rfl (fun t H locs ht hB hk1 hS => ?_)
    obtain ⟨hP1, hD1⟩ := hB
    rw [ht] at hP1
    replace hP := z0 hP hD hk1 hP1 hI1
    clear hk1 hPc hDc hFc hP1 hD1 ht hI1
    refine zz_i (v := nI (n + n / 2)) (zn_eq (by omega)) ?_
    refine lv_istore_n (lv' := [(3, .int (nI (n + n / 2))), (2, .int (nI n)), (0, .ref sl), (1, .int (nI (n + 1)))]) hx hb dJx4a65c_grow_92f84_30 rfl hl (Nat.le_of_ble_eq_true rfl) rfl (fun ls hl => ?_)
    refine lv_aload_n hx hb dJx4a65c_grow_92f84_31 rfl (lv_at hl 2 rfl) ?_
    refine lv_aload_n hx hb dJx4a65c_grow_92f84_32 rfl (lv_at hl 2 rfl) ?_
    refine va_get (D := (dC, dI)) (ci := 10) (v := .ref ea) (C := RJx4a65c) (T := TJx4a65c) (N := 3) hx hb hts inJx4a65c hown hK hP 0 rfl rfl 1 (Nat.le_of_ble_eq_true rfl) (hts _ mw_296) (fun _ h9 => h9) rfl dJx4a65c_grow_92f84_33 ?_
    refine lv_iload_n hx hb dJx4a65c_grow_92f84_36 rfl (lv_at hl 0 rfl) ?_
    obtain ⟨hPc, hDc, hFc⟩ := zo_part (cx := [_]) hP hD hS hA [1] rfl rfl
    refine zcalle (va_runS (As := [.ref ea, .int (nI (n + n / 2))]) (rest := [.ref sl]) ⟨hx, hb, hml, hown, hts⟩ (k_J_copyOf2 l dC dI cI cZ cF H.size cO e0 mi ea n (n + n / 2) SA L f (by first | with_reducible assumption | omega) (by first | with_reducible assumption | omega) (by first | with_reducible assumption | assumption) (by first | with_reducible assumption | omega)) (csS_89 hts rfl rfl ⟨Nat.le_of_ble_eq_true rfl, Nat.le_of_ble_eq_true rfl⟩) (zPSL hPc hDc hK hXL hS hFc) rfl rfl hl.1 rfl (lv_room (Nat.le_of_ble_eq_true rfl)) dJx4a65c_grow_92f84_37 ⟨show (0 + 1) ≤ 1 by omega, show (0 + (n + n / 2)) ≤ n + n / 2 by omega⟩) hS hFc hFc (fun v9 t H locs ht hB hk1 hS => ?_)
    obtain ⟨q9, rfl, hP1, hD1⟩ := hB
    refine W.eq (g2 := F0 m 40 ls [.ref q9, .ref sl]) rfl ?_
    rw [ht] at hP1
    obtain ⟨hP, hD⟩ := znP (W2 := [_, (oq ea cO n SA), (oq q9 cO (n + n / 2) (va_cpy SA (fun _ => none) 0 0 n))]) hP hD hk1 hFc hP1 hD1 [1] [true] [true, false, false] [1, 2] (by decide +kernel) rfl rfl rfl rfl rfl
    clear hk1 hPc hDc hFc hP1 hD1 ht
    refine lv_dup_x1 hx hb dJx4a65c_grow_92f84_40 rfl rfl ?_
    refine va_put (D := (dC, dI)) (ci := 10) (v := .ref q9) (ty := .array (.object "java/lang/Object")) (C := RJx4a65c) (T := TJx4a65c) (N := 3) hx hb hts inJx4a65c tyJx4a65c tyJx4a65c_ok nmJx4a65c hown hK hP hD hS 0 rfl rfl 1 (by decide) (hts _ mw_296) (fun _ h9 => h9) rfl (by decide +kernel) rfl rfl (Nat.le_of_ble_eq_true rfl) dJx4a65c_grow_92f84_41 (fun H locs hP hD hS => ?_)
    obtain ⟨hP, hD⟩ := zre (W2 := ([(oc10 sl mc9 (.ref q9) z7), _, _] ++ va_pl L f)) hP hD rfl
    obtain ⟨hP9, hD9⟩ := zu_part (cx := [_, _, _]) hP hD [true, true, true] rfl rfl
    refine W.widen (k := 1) (n := n + n / 2) (by omega) (by omega) ?_
    rw [hQ9]
    exact W.aret hx hb hr (Or.inr ⟨_, rfl⟩) (Or.inr ⟨_, rfl⟩) (fun t ht hW => ⟨⟨_, rfl, q9, rfl, by rw [ht]; exact hP9, hD9⟩, hS.F ht⟩) hS.2.2 dJx4a65c_grow_92f84_44
  · have c_1 : ((n : Nat) : Int) ≤ 0 := zc_nlt rfl (nI_toInt b9_2) c_1
    exfalso; omega
set_option maxHeartbeats 4000000 in
set_option maxRecDepth 100000 in
theorem k_AL_grow_0 (l : Launch) (dC : Nat → ClassId) (dI : Nat → Nat → Nat) (cI cZ cF : ClassId) (sz : Nat) (cO : ClassId) (e0 : Nat) (mi : Nat) (sl : Nat) (mc9 : Int32) : Met l yJx4a65c_grow_d5877 (.code yJx4a65c_grow_d5877 cJx4a65c_grow_d5877 1 (some (.array (.object "java/lang/Object"))) :: ws0) ({ frames := 2, cells := 1, slots := 10, locals := 37 } : Room) (va_Pc [.ref sl] (zPre (dC, dI) classes (zTyO cI cZ cF cO) [(oc10 sl mc9 (.ref e0) 0)] sz (zXL e0 mi (va_A [(oc10 sl mc9 (.ref e0) 0)] sz)))) (zQe (fun v9 t => ∃ (q9 : Nat), v9 = (some (.ref q9)) ∧ va_P (dC, dI) classes [(oc10 sl mc9 (.ref q9) 0), (oq q9 cO 10 (fun _ => none))] t.heap ∧ va_D (va_A [(oc10 sl mc9 (.ref e0) 0)] sz) [(oc10 sl mc9 (.ref q9) 0), (oq q9 cO 10 (fun _ => none))]) (va_A [(oc10 sl mc9 (.ref e0) 0)] sz)) 1 10 (va_A [(oc10 sl mc9 (.ref e0) 0)] sz) := by
  refine Met.ofW (cc := cJx4a65c_grow_d5877) (maxL := 1) (ret := (some (.array (.object "java/lang/Object")))) rfl rfl ?_
  intro p e s m args below meth c s₁ B hml hv
  obtain ⟨rfl, hsz, hP, hK, hD0, hXL⟩ := hv
  have hx := B.exec
  have hb := B.bytes
  have hr := B.returns
  have hts0 := atoms_spec (ws := .code yJx4a65c_grow_d5877 cJx4a65c_grow_d5877 1 (some (.array (.object "java/lang/Object"))) :: ws0) B.pre
  have hts : ∀ w9 ∈ ws0, w9.before ([.ref sl] : List Value).toArray s = true := fun w9 h => hts0 w9 (List.mem_cons_of_mem _ h)
  have hown : s.vm.findClass "java/util/ArrayList" = some m.cls := findClass_of_methodNamed B.named
  have hlocks := B.notSynchronized
  subst hsz
  have hD := hD0.self (sz := s.heap.size)
  clear hD0
  generalize hAe : va_A [(oc10 sl mc9 (.ref e0) 0)] s.heap.size = A at hD hXL ⊢
  have hA : ∀ q : Nat, s.heap.size ≤ q → A q := fun q h => by rw [← hAe]; exact Or.inr h
  clear hAe
  have hS : va_S A s.heap s.heap [] := va_S.rf
  have hXN := hXL.1
  have hK3 := hK.sub [0, 1, 2] rfl
  have hP : va_P (dC, dI) classes [(oc10 sl mc9 (.ref e0) 0)] s.heap := hP
  obtain ⟨Q9, hQ9⟩ : ∃ Q9 : State → Prop, Q9 = MQ below (zQe (fun v9 t => ∃ (q9 : Nat), v9 = (some (.ref q9)) ∧ va_P (dC, dI) classes [(oc10 sl mc9 (.ref q9) 0), (oq q9 cO 10 (fun _ => none))] t.heap ∧ va_D A [(oc10 sl mc9 (.ref q9) 0), (oq q9 cO 10 (fun _ => none))]) A) ([.ref sl] : List Value).toArray s 1 10 A := ⟨_, rfl⟩
  rw [← hQ9]
  have hl := lv_entry ([.ref sl]) (n := 1) (Nat.le_of_ble_eq_true rfl)
  rw [lg_entry_eq]
  generalize (lg_sl ([.ref sl]) ++ List.replicate (1 - (lg_sl ([.ref sl])).length) Slot.unset).toArray = ls at hl ⊢
  have hl : lv_has ls 1 [(0, .ref sl)] := hl
  refine lv_aload_n hx hb dJx4a65c_grow_d5877_0 rfl (lv_at hl 0 rfl) ?_
  refine lv_aload_n hx hb dJx4a65c_grow_d5877_1 rfl (lv_at hl 0 rfl) ?_
  refine va_get (D := (dC, dI)) (ci := 10) (v := .int 0) (C := RJx4a65c) (T := TJx4a65c) (N := 3) hx hb hts inJx4a65c hown hK hP 0 rfl rfl 2 (Nat.le_of_ble_eq_true rfl) (hts _ mw_297) (fun _ h9 => h9) rfl dJx4a65c_grow_d5877_2 ?_
  refine lv_iconst (v := 1) hx hb dJx4a65c_grow_d5877_5 rfl ?_
  refine lv_iadd hx hb dJx4a65c_grow_d5877_6 ?_
  refine zz_i (v := 1) (by decide) ?_
  obtain ⟨hPc, hDc, hFc⟩ := zo_sub (wc := [_]) hP hD hS hA [0] rfl rfl
  refine zcalle (va_runV (As := [.int 1]) (rest := []) ⟨hx, hb, hml, hown, hts⟩ (k_AL_growi_0 l dC dI cI cZ cF s.heap.size cO e0 mi sl 1 mc9 0 (by first | with_reducible assumption | omega)) (csV_82 hts rfl rfl ⟨Nat.le_of_ble_eq_true rfl, Nat.le_of_ble_eq_true rfl⟩) (zPVL (q0 := 0) (ci := 10) hPc hDc hK hXL hS hFc rfl rfl) rfl rfl hl.1 rfl (lv_room (Nat.le_of_ble_eq_true rfl)) dJx4a65c_grow_d5877_7 ⟨show (0 + 1) ≤ 1 by omega, show (0 + 10) ≤ 10 by omega⟩) hS hFc hFc (fun v9 t H locs ht hB hk1 hS => ?_)
  obtain ⟨q9, rfl, hP1, hD1⟩ := hB
  refine W.eq (g2 := F0 m 10 ls [.ref q9]) rfl ?_
  rw [ht] at hP1
  obtain ⟨hP, hD⟩ := zn (W2 := [(oc10 sl mc9 (.ref q9) 0), (oq q9 cO 10 (fun _ => none))]) hP hD hk1 hFc hP1 hD1 [0] [] [false, false] [0, 1] (by decide +kernel) rfl rfl rfl rfl rfl
  clear hk1 hPc hDc hFc hP1 hD1 ht
  obtain ⟨hP9, hD9⟩ := zu_sub (wc := [_, _]) hP hD [true, true] rfl rfl
  refine W.widen (k := 1) (n := 10) (by omega) (by omega) ?_
  rw [hQ9]
  exact W.aret hx hb hr (Or.inr ⟨_, rfl⟩) (Or.inr ⟨_, rfl⟩) (fun t ht hW => ⟨⟨_, rfl, q9, rfl, by rw [ht]; exact hP9, hD9⟩, hS.F ht⟩) hS.2.2 dJx4a65c_grow_d5877_10
set_option maxHeartbeats 4000000 in
set_option maxRecDepth 100000 in
theorem k_AL_grow_g (l : Launch) (dC : Nat → ClassId) (dI : Nat → Nat → Nat) (cI cZ cF : ClassId) (sz : Nat) (cO : ClassId) (e0 : Nat) (mi : Nat) (sl : Nat) (ea : Nat) (n : Nat) (mc9 : Int32) (SA : Nat → Option Nat) (L : List Nat) (f : Nat → va_E) (hn10 : 10 ≤ n) (hn : n ≤ 100000) (hel : ∀ i, i < n → ∃ y vs, SA i = some y ∧ y ∈ L ∧ f y = .inr (11, vs)) : Met l yJx4a65c_grow_d5877 (.code yJx4a65c_grow_d5877 cJx4a65c_grow_d5877 1 (some (.array (.object "java/lang/Object"))) :: ws0) ({ frames := 4, cells := 1, slots := n + n / 2, locals := 91 } : Room) (va_Pc [.ref sl] (zPre (dC, dI) classes (zTyO cI cZ cF cO) ([(oc10 sl mc9 (.ref ea) (nI n)), (oq ea cO n SA)] ++ va_pl L f) sz (zXL e0 mi (va_A ([(oc10 sl mc9 (.ref ea) (nI n)), (oq ea cO n SA)] ++ va_pl L f) sz)))) (zQe (fun v9 t => ∃ (q9 : Nat), v9 = (some (.ref q9)) ∧ va_P (dC, dI) classes ([(oc10 sl mc9 (.ref q9) (nI n)), (oq ea cO n SA), (oq q9 cO (n + n / 2) (va_cpy SA (fun _ => none) 0 0 n))] ++ va_pl L f) t.heap ∧ va_D (va_A ([(oc10 sl mc9 (.ref ea) (nI n)), (oq ea cO n SA)] ++ va_pl L f) sz) ([(oc10 sl mc9 (.ref q9) (nI n)), (oq ea cO n SA), (oq q9 cO (n + n / 2) (va_cpy SA (fun _ => none) 0 0 n))] ++ va_pl L f)) (va_A ([(oc10 sl mc9 (.ref ea) (nI n)), (oq ea cO n SA)] ++ va_pl L f) sz)) 1 (n + n / 2) (va_A ([(oc10 sl mc9 (.ref ea) (nI n)), (oq ea cO n SA)] ++ va_pl L f) sz) := by
  refine Met.ofW (cc := cJx4a65c_grow_d5877) (maxL := 1) (ret := (some (.array (.object "java/lang/Object")))) rfl rfl ?_
  intro p e s m args below meth c s₁ B hml hv
  obtain ⟨rfl, hsz, hP, hK, hD0, hXL⟩ := hv
  have hx := B.exec
  have hb := B.bytes
  have hr := B.returns
  have hts0 := atoms_spec (ws := .code yJx4a65c_grow_d5877 cJx4a65c_grow_d5877 1 (some (.array (.object "java/lang/Object"))) :: ws0) B.pre
  have hts : ∀ w9 ∈ ws0, w9.before ([.ref sl] : List Value).toArray s = true := fun w9 h => hts0 w9 (List.mem_cons_of_mem _ h)
  have hown : s.vm.findClass "java/util/ArrayList" = some m.cls := findClass_of_methodNamed B.named
  have hlocks := B.notSynchronized
  subst hsz
  have hD := hD0.self (sz := s.heap.size)
  clear hD0
  generalize hAe : va_A ([(oc10 sl mc9 (.ref ea) (nI n)), (oq ea cO n SA)] ++ va_pl L f) s.heap.size = A at hD hXL ⊢
  have hA : ∀ q : Nat, s.heap.size ≤ q → A q := fun q h => by rw [← hAe]; exact Or.inr h
  clear hAe
  have hS : va_S A s.heap s.heap [] := va_S.rf
  have hXN := hXL.1
  have hK3 := hK.sub [0, 1, 2] rfl
  have hP : va_P (dC, dI) classes ([(oc10 sl mc9 (.ref ea) (nI n)), (oq ea cO n SA)] ++ va_pl L f) s.heap := hP
  obtain ⟨Q9, hQ9⟩ : ∃ Q9 : State → Prop, Q9 = MQ below (zQe (fun v9 t => ∃ (q9 : Nat), v9 = (some (.ref q9)) ∧ va_P (dC, dI) classes ([(oc10 sl mc9 (.ref q9) (nI n)), (oq ea cO n SA), (oq q9 cO (n + n / 2) (va_cpy SA (fun _ => none) 0 0 n))] ++ va_pl L f) t.heap ∧ va_D A ([(oc10 sl mc9 (.ref q9) (nI n)), (oq ea cO n SA), (oq q9 cO (n + n / 2) (va_cpy SA (fun _ => none) 0 0 n))] ++ va_pl L f)) A) ([.ref sl] : List Value).toArray s 1 (n + n / 2) A := ⟨_, rfl⟩
  rw [← hQ9]
  have hl := lv_entry ([.ref sl]) (n := 1) (Nat.le_of_ble_eq_true rfl)
  rw [lg_entry_eq]
  generalize (lg_sl ([.ref sl]) ++ List.replicate (1 - (lg_sl ([.ref sl])).length) Slot.unset).toArray = ls at hl ⊢
  have hl : lv_has ls 1 [(0, .ref sl)] := hl
  refine lv_aload_n hx hb dJx4a65c_grow_d5877_0 rfl (lv_at hl 0 rfl) ?_
  refine lv_aload_n hx hb dJx4a65c_grow_d5877_1 rfl (lv_at hl 0 rfl) ?_
  refine va_get (D := (dC, dI)) (ci := 10) (v := .int (nI n)) (C := RJx4a65c) (T := TJx4a65c) (N := 3) hx hb hts inJx4a65c hown hK hP 0 rfl rfl 2 (Nat.le_of_ble_eq_true rfl) (hts _ mw_297) (fun _ h9 => h9) rfl dJx4a65c_grow_d5877_2 ?_
  refine lv_iconst (v := 1) hx hb dJx4a65c_grow_d5877_5 rfl ?_
  refine lv_iadd hx hb dJx4a65c_grow_d5877_6 ?_
  refine zz_i (v := nI (n + 1)) (nI_add n 1) ?_
  obtain ⟨hPc, hDc, hFc⟩ := zo_part (cx := [_, _]) hP hD hS hA [0, 1] rfl rfl
  refine zcalle (va_runV (As := [.int (nI (n + 1))]) (rest := []) ⟨hx, hb, hml, hown, hts⟩ (k_AL_growi_g l dC dI cI cZ cF s.heap.size cO e0 mi sl ea n mc9 (nI n) SA L f (by first | with_reducible assumption | omega) (by first | with_reducible assumption | omega) (by first | with_reducible assumption | assumption)) (csV_82 hts rfl rfl ⟨Nat.le_of_ble_eq_true rfl, Nat.le_of_ble_eq_true rfl⟩) (zPVL (q0 := 0) (ci := 10) hPc hDc hK hXL hS hFc rfl rfl) rfl rfl hl.1 rfl (lv_room (Nat.le_of_ble_eq_true rfl)) dJx4a65c_grow_d5877_7 ⟨show (0 + 1) ≤ 1 by omega, show (0 + (n + n / 2)) ≤ n + n / 2 by omega⟩) hS hFc hFc (fun v9 t H locs ht hB hk1 hS => ?_)
  obtain ⟨q9, rfl, hP1, hD1⟩ := hB
  refine W.eq (g2 := F0 m 10 ls [.ref q9]) rfl ?_
  rw [ht] at hP1
  obtain ⟨hP, hD⟩ := znP (W2 := [(oc10 sl mc9 (.ref q9) (nI n)), (oq ea cO n SA), (oq q9 cO (n + n / 2) (va_cpy SA (fun _ => none) 0 0 n))]) hP hD hk1 hFc hP1 hD1 [0, 1] [] [false, false, false] [0, 1, 2] (by decide +kernel) rfl rfl rfl rfl rfl
  clear hk1 hPc hDc hFc hP1 hD1 ht
  obtain ⟨hP9, hD9⟩ := zu_part (cx := [_, _, _]) hP hD [true, true, true] rfl rfl
  refine W.widen (k := 1) (n := n + n / 2) (by omega) (by omega) ?_
  rw [hQ9]
  exact W.aret hx hb hr (Or.inr ⟨_, rfl⟩) (Or.inr ⟨_, rfl⟩) (fun t ht hW => ⟨⟨_, rfl, q9, rfl, by rw [ht]; exact hP9, hD9⟩, hS.F ht⟩) hS.2.2 dJx4a65c_grow_d5877_10
set_option maxHeartbeats 4000000 in
set_option maxRecDepth 100000 in
theorem k_AL_add3_0 (l : Launch) (dC : Nat → ClassId) (dI : Nat → Nat → Nat) (cI cZ cF : ClassId) (sz : Nat) (cO : ClassId) (e0 : Nat) (mi : Nat) (sl : Nat) (mc9 : Int32) (sp : Nat) (g1 : Int32) (g2 : Int32) (g3 : Int32) (md9 : Value) (ch9 : Value) : zML l yJx4a65c_add_72be8 cJx4a65c_add_72be8 4 none ({ frames := 3, cells := 1, slots := 10, locals := 57 } : Room) [.ref sl, .ref sp, .ref e0, .int 0] (dC, dI) (zTyO cI cZ cF cO) e0 mi [(oc10 sl mc9 (.ref e0) 0), (oc11 sp g1 g2 g3 md9 ch9)] sz none (fun A t => ∃ (q9 : Nat), zPD (dC, dI) classes A [(oc10 sl mc9 (.ref q9) (nI 1)), (oc11 sp g1 g2 g3 md9 ch9), (oq q9 cO 10 (va_up (fun _ => none) 0 (some sp)))] t.heap) 1 10 := by
  refine zInL (own := "java/util/ArrayList") (loc := [(0, .ref sl), (1, .ref sp), (2, .ref e0), (3, .int 0)]) rfl rfl rfl rfl (fun p e s m below meth c hx hb hr hts hown hlocks hml hnm9 A hA hS hP hD hK hXL hXN hK3 Q9 hQ9 ls hl => ?_)
  refine lv_iload_n hx hb dJx4a65c_add_72be8_0 rfl (lv_at hl 3 rfl) ?_
  refine lv_aload_n hx hb dJx4a65c_add_72be8_1 rfl (lv_at hl 2 rfl) ?_
  refine z_alen0 hx hb hXL.2.2.2.2 hS dJx4a65c_add_72be8_2 ?_
  refine lv_icmp_ne (tgt := 11) hx hb dJx4a65c_add_72be8_3 rfl (fun c_1 => ?_) (fun c_1 => ?_)
  · exact absurd (by decide) c_1
  · refine lv_aload_n hx hb dJx4a65c_add_72be8_6 rfl (lv_at hl 0 rfl) ?_
    obtain ⟨hPc, hDc, hFc⟩ := zo_sub (wc := [_]) hP hD hS hA [0] rfl rfl
    refine zcalle (va_runV (As := []) (rest := []) ⟨hx, hb, hml, hown, hts⟩ (k_AL_grow_0 l dC dI cI cZ cF s.heap.size cO e0 mi sl mc9 ) (csV_83 hts rfl rfl ⟨Nat.le_of_ble_eq_true rfl, Nat.le_of_ble_eq_true rfl⟩) (zPVL (q0 := 0) (ci := 10) hPc hDc hK hXL hS hFc rfl rfl) rfl rfl hl.1 rfl (lv_room (Nat.le_of_ble_eq_true rfl)) dJx4a65c_add_72be8_7 ⟨show (0 + 1) ≤ 1 by omega, show (0 + 10) ≤ 10 by omega⟩) hS hFc hFc (fun v9 t H locs ht hB hk1 hS => ?_)
    obtain ⟨q9, rfl, hP1, hD1⟩ := hB
    refine W.eq (g2 := F0 m 10 ls [.ref q9]) rfl ?_
    rw [ht] at hP1
    obtain ⟨hP, hD⟩ := zn (W2 := [_, (oc10 sl mc9 (.ref q9) 0), (oq q9 cO 10 (fun _ => none))]) hP hD hk1 hFc hP1 hD1 [0] [false, true] [true, false, false] [1, 2] (by decide +kernel) rfl rfl rfl rfl rfl
    clear hk1 hPc hDc hFc hP1 hD1 ht
    refine lv_astore_n (lv' := [(2, .ref q9), (0, .ref sl), (1, .ref sp), (3, .int 0)]) hx hb dJx4a65c_add_72be8_10 rfl hl (Nat.le_of_ble_eq_true rfl) rfl (fun ls hl => ?_)
    refine lv_aload_n hx hb dJx4a65c_add_72be8_11 rfl (lv_at hl 0 rfl) ?_
    refine lv_iload_n hx hb dJx4a65c_add_72be8_12 rfl (lv_at hl 3 rfl) ?_
    refine lv_aload_n hx hb dJx4a65c_add_72be8_13 rfl (lv_at hl 2 rfl) ?_
    refine z_aastO hx hb hK hP hD hS 2 3 0 11 rfl rfl hXN.2.1 rfl rfl (e := 0) rfl (Nat.le_of_ble_eq_true rfl) (Nat.le_of_ble_eq_true rfl) dJx4a65c_add_72be8_14 (fun H locs hP hD hS => ?_)
    obtain ⟨hP, hD⟩ := zre (W2 := [_, _, (oq q9 cO 10 (va_up (fun _ => none) 0 (some sp)))]) hP hD rfl
    refine lv_aload_n hx hb dJx4a65c_add_72be8_15 rfl (lv_at hl 1 rfl) ?_
    refine lv_iload_n hx hb dJx4a65c_add_72be8_16 rfl (lv_at hl 3 rfl) ?_
    refine lv_iconst (v := 1) hx hb dJx4a65c_add_72be8_17 rfl ?_
    refine lv_iadd hx hb dJx4a65c_add_72be8_18 ?_
    refine zz_i (v := 1) (by decide) ?_
    refine zz_i (v := nI 1) (by decide) ?_
    refine va_put (D := (dC, dI)) (ci := 10) (v := .int (nI 1)) (ty := .int) (C := RJx4a65c) (T := TJx4a65c) (N := 3) hx hb hts inJx4a65c tyJx4a65c tyJx4a65c_ok nmJx4a65c hown hK hP hD hS 1 rfl rfl 2 (by decide) (hts _ mw_297) (fun _ h9 => h9) rfl (by decide +kernel) rfl rfl (Nat.le_of_ble_eq_true rfl) dJx4a65c_add_72be8_19 (fun H locs hP hD hS => ?_)
    obtain ⟨hP, hD⟩ := zre (W2 := [_, (oc10 sl mc9 (.ref q9) (nI 1)), _]) hP hD rfl
    obtain ⟨hP9, hD9⟩ := zq_sub (wc := [_, _, _]) hP hD [1, 0, 2] rfl rfl
    refine W.widen (k := 1) (n := 10) (by omega) (by omega) ?_
    rw [hQ9]
    exact W.vret hx hb hr (fun t ht hW => ⟨⟨rfl, q9, by rw [ht]; exact hP9, hD9⟩, hS.F ht⟩) hS.2.2 dJx4a65c_add_72be8_22
set_option maxHeartbeats 4000000 in
set_option maxRecDepth 100000 in
theorem k_AL_add3_r (l : Launch) (dC : Nat → ClassId) (dI : Nat → Nat → Nat) (cI cZ cF : ClassId) (sz : Nat) (cO : ClassId) (e0 : Nat) (mi : Nat) (sl : Nat) (ea : Nat) (n9 : Nat) (mc9 : Int32) (cp9 : Nat) (SA : Nat → Option Nat) (sp : Nat) (g1 : Int32) (g2 : Int32) (g3 : Int32) (md9 : Value) (ch9 : Value) (hnc : n9 < cp9) (hcp : cp9 < 2147483648) : zML l yJx4a65c_add_72be8 cJx4a65c_add_72be8 4 none ({ frames := 0, cells := 0, slots := 0, locals := 0 } : Room) [.ref sl, .ref sp, .ref ea, .int (nI n9)] (dC, dI) (zTyO cI cZ cF cO) e0 mi [(oc10 sl mc9 (.ref ea) (nI n9)), (oc11 sp g1 g2 g3 md9 ch9), (oq ea cO cp9 SA)] sz none (fun A t => zPD (dC, dI) classes A [(oc10 sl mc9 (.ref ea) (nI (n9 + 1))), (oc11 sp g1 g2 g3 md9 ch9), (oq ea cO cp9 (va_up SA n9 (some sp)))] t.heap) 0 0 := by
  refine zInL (own := "java/util/ArrayList") (loc := [(0, .ref sl), (1, .ref sp), (2, .ref ea), (3, .int (nI n9))]) rfl rfl rfl rfl (fun p e s m below meth c hx hb hr hts hown hlocks hml hnm9 A hA hS hP hD hK hXL hXN hK3 Q9 hQ9 ls hl => ?_)
  refine lv_iload_n hx hb dJx4a65c_add_72be8_0 rfl (lv_at hl 3 rfl) ?_
  refine lv_aload_n hx hb dJx4a65c_add_72be8_1 rfl (lv_at hl 2 rfl) ?_
  refine va_alen (v := nI cp9) hx hb hK hP 2 3 rfl rfl rfl dJx4a65c_add_72be8_2 ?_
  have b9_2 : zlt (n9) := show n9 < 2147483648 by omega
  have b9_3 : zlt (cp9) := show cp9 < 2147483648 by omega
  refine lv_icmp_ne (tgt := 11) hx hb dJx4a65c_add_72be8_3 rfl (fun c_1 => ?_) (fun c_1 => ?_)
  · have c_1 : ¬ ((n9 : Nat) : Int) = ((cp9 : Nat) : Int) := zc_ne (nI_toInt b9_2) (nI_toInt b9_3) c_1
    refine lv_aload_n hx hb dJx4a65c_add_72be8_11 rfl (lv_at hl 2 rfl) ?_
    refine lv_iload_n hx hb dJx4a65c_add_72be8_12 rfl (lv_at hl 3 rfl) ?_
    refine lv_aload_n hx hb dJx4a65c_add_72be8_13 rfl (lv_at hl 1 rfl) ?_
    have b9_4 : n9 < cp9 := by omega
    refine z_aastO hx hb hK hP hD hS 2 3 1 11 rfl rfl hXN.2.1 rfl rfl (e := n9) rfl b9_4 b9_3 dJx4a65c_add_72be8_14 (fun H locs hP hD hS => ?_)
    obtain ⟨hP, hD⟩ := zre (W2 := [_, _, (oq ea cO cp9 (va_up SA n9 (some sp)))]) hP hD rfl
    refine lv_aload_n hx hb dJx4a65c_add_72be8_15 rfl (lv_at hl 0 rfl) ?_
    refine lv_iload_n hx hb dJx4a65c_add_72be8_16 rfl (lv_at hl 3 rfl) ?_
    refine lv_iconst (v := 1) hx hb dJx4a65c_add_72be8_17 rfl ?_
    refine lv_iadd hx hb dJx4a65c_add_72be8_18 ?_
    refine zz_i (v := nI (n9 + 1)) (nI_add n9 1) ?_
    refine va_put (D := (dC, dI)) (ci := 10) (v := .int (nI (n9 + 1))) (ty := .int) (C := RJx4a65c) (T := TJx4a65c) (N := 3) hx hb hts inJx4a65c tyJx4a65c tyJx4a65c_ok nmJx4a65c hown hK hP hD hS 0 rfl rfl 2 (by decide) (hts _ mw_297) (fun _ h9 => h9) rfl (by decide +kernel) rfl rfl (Nat.le_of_ble_eq_true rfl) dJx4a65c_add_72be8_19 (fun H locs hP hD hS => ?_)
    obtain ⟨hP, hD⟩ := zre (W2 := [(oc10 sl mc9 (.ref ea) (nI (n9 + 1))), _, _]) hP hD rfl
    obtain ⟨hP9, hD9⟩ := zu_sub (wc := [_, _, _]) hP hD [true, true, true] rfl rfl
    rw [hQ9]
    exact W.vret hx hb hr (fun t ht hW => ⟨⟨rfl, by rw [ht]; exact hP9, hD9⟩, hS.F ht⟩) hS.2.2 dJx4a65c_add_72be8_22
  · have c_1 : ((n9 : Nat) : Int) = ((cp9 : Nat) : Int) := zc_eq (nI_toInt b9_2) (nI_toInt b9_3) c_1
    exfalso; omega
set_option maxHeartbeats 4000000 in
set_option maxRecDepth 100000 in
theorem k_AL_add3_g (l : Launch) (dC : Nat → ClassId) (dI : Nat → Nat → Nat) (cI cZ cF : ClassId) (sz : Nat) (cO : ClassId) (e0 : Nat) (mi : Nat) (sl : Nat) (ea : Nat) (n : Nat) (mc9 : Int32) (SA : Nat → Option Nat) (sp : Nat) (g1 : Int32) (g2 : Int32) (g3 : Int32) (md9 : Value) (ch9 : Value) (L : List Nat) (f : Nat → va_E) (hn10 : 10 ≤ n) (hn : n ≤ 100000) (hel : ∀ i, i < n → ∃ y vs, SA i = some y ∧ y ∈ L ∧ f y = .inr (11, vs)) : zML l yJx4a65c_add_72be8 cJx4a65c_add_72be8 4 none ({ frames := 5, cells := 1, slots := n + n / 2, locals := 111 } : Room) [.ref sl, .ref sp, .ref ea, .int (nI n)] (dC, dI) (zTyO cI cZ cF cO) e0 mi ([(oc10 sl mc9 (.ref ea) (nI n)), (oc11 sp g1 g2 g3 md9 ch9), (oq ea cO n SA)] ++ va_pl L f) sz none (fun A t => ∃ (q9 : Nat), zPD (dC, dI) classes A ([(oc10 sl mc9 (.ref q9) (nI (n + 1))), (oc11 sp g1 g2 g3 md9 ch9), (oq ea cO n SA), (oq q9 cO (n + n / 2) (va_up (va_cpy SA (fun _ => none) 0 0 n) n (some sp)))] ++ va_pl L f) t.heap) 1 (n + n / 2) := by
  refine zInL (own := "java/util/ArrayList") (loc := [(0, .ref sl), (1, .ref sp), (2, .ref ea), (3, .int (nI n))]) rfl rfl rfl rfl (fun p e s m below meth c hx hb hr hts hown hlocks hml hnm9 A hA hS hP hD hK hXL hXN hK3 Q9 hQ9 ls hl => ?_)
  refine lv_iload_n hx hb dJx4a65c_add_72be8_0 rfl (lv_at hl 3 rfl) ?_
  refine lv_aload_n hx hb dJx4a65c_add_72be8_1 rfl (lv_at hl 2 rfl) ?_
  refine va_alen (v := nI n) hx hb hK hP 2 3 rfl rfl rfl dJx4a65c_add_72be8_2 ?_
  have b9_2 : zlt (n) := show n < 2147483648 by omega
  refine lv_icmp_ne (tgt := 11) hx hb dJx4a65c_add_72be8_3 rfl (fun c_1 => ?_) (fun c_1 => ?_)
  · have c_1 : ¬ ((n : Nat) : Int) = ((n : Nat) : Int) := zc_ne (nI_toInt b9_2) (nI_toInt b9_2) c_1
    exfalso; omega
  · have c_1 : ((n : Nat) : Int) = ((n : Nat) : Int) := zc_eq (nI_toInt b9_2) (nI_toInt b9_2) c_1
    refine lv_aload_n hx hb dJx4a65c_add_72be8_6 rfl (lv_at hl 0 rfl) ?_
    obtain ⟨hPc, hDc, hFc⟩ := zo_part (cx := [_, _]) hP hD hS hA [0, 2] rfl rfl
    refine zcalle (va_runV (As := []) (rest := []) ⟨hx, hb, hml, hown, hts⟩ (k_AL_grow_g l dC dI cI cZ cF s.heap.size cO e0 mi sl ea n mc9 SA L f (by first | with_reducible assumption | omega) (by first | with_reducible assumption | omega) (by first | with_reducible assumption | assumption)) (csV_83 hts rfl rfl ⟨Nat.le_of_ble_eq_true rfl, Nat.le_of_ble_eq_true rfl⟩) (zPVL (q0 := 0) (ci := 10) hPc hDc hK hXL hS hFc rfl rfl) rfl rfl hl.1 rfl (lv_room (Nat.le_of_ble_eq_true rfl)) dJx4a65c_add_72be8_7 ⟨show (0 + 1) ≤ 1 by omega, show (0 + (n + n / 2)) ≤ n + n / 2 by omega⟩) hS hFc hFc (fun v9 t H locs ht hB hk1 hS => ?_)
    obtain ⟨q9, rfl, hP1, hD1⟩ := hB
    refine W.eq (g2 := F0 m 10 ls [.ref q9]) rfl ?_
    rw [ht] at hP1
    obtain ⟨hP, hD⟩ := znP (W2 := [_, (oc10 sl mc9 (.ref q9) (nI n)), (oq ea cO n SA), (oq q9 cO (n + n / 2) (va_cpy SA (fun _ => none) 0 0 n))]) hP hD hk1 hFc hP1 hD1 [0, 2] [false, true] [true, false, false, false] [1, 2, 3] (by decide +kernel) rfl rfl rfl rfl rfl
    clear hk1 hPc hDc hFc hP1 hD1 ht
    refine lv_astore_n (lv' := [(2, .ref q9), (0, .ref sl), (1, .ref sp), (3, .int (nI n))]) hx hb dJx4a65c_add_72be8_10 rfl hl (Nat.le_of_ble_eq_true rfl) rfl (fun ls hl => ?_)
    refine lv_aload_n hx hb dJx4a65c_add_72be8_11 rfl (lv_at hl 0 rfl) ?_
    refine lv_iload_n hx hb dJx4a65c_add_72be8_12 rfl (lv_at hl 3 rfl) ?_
    refine lv_aload_n hx hb dJx4a65c_add_72be8_13 rfl (lv_at hl 2 rfl) ?_
    have b9_3 : n < (n + n / 2) := by omega
    have b9_4 : zlt ((n + n / 2)) := show (n + n / 2) < 2147483648 by omega
    refine z_aastO hx hb hK hP hD hS 3 3 0 11 rfl rfl hXN.2.1 rfl rfl (e := n) rfl b9_3 b9_4 dJx4a65c_add_72be8_14 (fun H locs hP hD hS => ?_)
    obtain ⟨hP, hD⟩ := zre (W2 := ([_, _, _, (oq q9 cO (n + n / 2) (va_up (va_cpy SA (fun _ => none) 0 0 n) n (some sp)))] ++ va_pl L f)) hP hD rfl
    refine lv_aload_n hx hb dJx4a65c_add_72be8_15 rfl (lv_at hl 1 rfl) ?_
    refine lv_iload_n hx hb dJx4a65c_add_72be8_16 rfl (lv_at hl 3 rfl) ?_
    refine lv_iconst (v := 1) hx hb dJx4a65c_add_72be8_17 rfl ?_
    refine lv_iadd hx hb dJx4a65c_add_72be8_18 ?_
    refine zz_i (v := nI (n + 1)) (nI_add n 1) ?_
    refine va_put (D := (dC, dI)) (ci := 10) (v := .int (nI (n + 1))) (ty := .int) (C := RJx4a65c) (T := TJx4a65c) (N := 3) hx hb hts inJx4a65c tyJx4a65c tyJx4a65c_ok nmJx4a65c hown hK hP hD hS 1 rfl rfl 2 (by decide) (hts _ mw_297) (fun _ h9 => h9) rfl (by decide +kernel) rfl rfl (Nat.le_of_ble_eq_true rfl) dJx4a65c_add_72be8_19 (fun H locs hP hD hS => ?_)
    obtain ⟨hP, hD⟩ := zre (W2 := ([_, (oc10 sl mc9 (.ref q9) (nI (n + 1))), _, _] ++ va_pl L f)) hP hD rfl
    obtain ⟨hP9, hD9⟩ := zq_part (cx := [_, _, _, _]) hP hD [1, 0, 2, 3] rfl rfl
    refine W.widen (k := 1) (n := n + n / 2) (by omega) (by omega) ?_
    rw [hQ9]
    exact W.vret hx hb hr (fun t ht hW => ⟨⟨rfl, q9, by rw [ht]; exact hP9, hD9⟩, hS.F ht⟩) hS.2.2 dJx4a65c_add_72be8_22
set_option maxHeartbeats 4000000 in
set_option maxRecDepth 100000 in
theorem k_AL_add_0 (l : Launch) (dC : Nat → ClassId) (dI : Nat → Nat → Nat) (cI cZ cF : ClassId) (sz : Nat) (cO : ClassId) (e0 : Nat) (mi : Nat) (sl : Nat) (mc9 : Int32) (sp : Nat) (g1 : Int32) (g2 : Int32) (g3 : Int32) (md9 : Value) (ch9 : Value) : zML l yJx4a65c_add_9ea2d cJx4a65c_add_9ea2d 2 (some .boolean) ({ frames := 4, cells := 1, slots := 10, locals := 80 } : Room) [.ref sl, .ref sp] (dC, dI) (zTyO cI cZ cF cO) e0 mi [(oc10 sl mc9 (.ref e0) 0), (oc11 sp g1 g2 g3 md9 ch9)] sz (some (.int 1)) (fun A t => ∃ (q9 : Nat), zPD (dC, dI) classes A [(oc10 sl (mc9 + 1) (.ref q9) (nI 1)), (oc11 sp g1 g2 g3 md9 ch9), (oq q9 cO 10 (va_up (fun _ => none) 0 (some sp)))] t.heap) 1 10 := by
  refine zInL (own := "java/util/ArrayList") (loc := [(0, .ref sl), (1, .ref sp)]) rfl rfl rfl rfl (fun p e s m below meth c hx hb hr hts hown hlocks hml hnm9 A hA hS hP hD hK hXL hXN hK3 Q9 hQ9 ls hl => ?_)
  refine lv_aload_n hx hb dJx4a65c_add_9ea2d_0 rfl (lv_at hl 0 rfl) ?_
  refine lv_dup hx hb dJx4a65c_add_9ea2d_1 rfl ?_
  refine va_get (D := (dC, dI)) (ci := 10) (v := .int mc9) (C := RJx4a65c) (T := TJx4a65c) (N := 3) hx hb hts inJx4a65c hown hK hP 0 rfl rfl 0 (Nat.le_of_ble_eq_true rfl) (hts _ mw_299) (fun x9 h9 => u_same (hts _ mw_same_modCount) x9 h9) rfl dJx4a65c_add_9ea2d_2 ?_
  refine lv_iconst (v := 1) hx hb dJx4a65c_add_9ea2d_5 rfl ?_
  refine lv_iadd hx hb dJx4a65c_add_9ea2d_6 ?_
  refine va_put (D := (dC, dI)) (ci := 10) (v := .int (mc9 + 1)) (ty := .int) (C := RJx4a65c) (T := TJx4a65c) (N := 3) hx hb hts inJx4a65c tyJx4a65c tyJx4a65c_ok nmJx4a65c hown hK hP hD hS 0 rfl rfl 0 (by decide) (hts _ mw_299) (fun x9 h9 => u_same (hts _ mw_same_modCount) x9 h9) rfl (by decide +kernel) rfl rfl (Nat.le_of_ble_eq_true rfl) dJx4a65c_add_9ea2d_7 (fun H locs hP hD hS => ?_)
  obtain ⟨hP, hD⟩ := zre (W2 := [(oc10 sl (mc9 + 1) (.ref e0) 0), _]) hP hD rfl
  refine lv_aload_n hx hb dJx4a65c_add_9ea2d_10 rfl (lv_at hl 0 rfl) ?_
  refine lv_aload_n hx hb dJx4a65c_add_9ea2d_11 rfl (lv_at hl 1 rfl) ?_
  refine lv_aload_n hx hb dJx4a65c_add_9ea2d_12 rfl (lv_at hl 0 rfl) ?_
  refine va_get (D := (dC, dI)) (ci := 10) (v := .ref e0) (C := RJx4a65c) (T := TJx4a65c) (N := 3) hx hb hts inJx4a65c hown hK hP 0 rfl rfl 1 (Nat.le_of_ble_eq_true rfl) (hts _ mw_296) (fun _ h9 => h9) rfl dJx4a65c_add_9ea2d_13 ?_
  refine lv_aload_n hx hb dJx4a65c_add_9ea2d_16 rfl (lv_at hl 0 rfl) ?_
  refine va_get (D := (dC, dI)) (ci := 10) (v := .int 0) (C := RJx4a65c) (T := TJx4a65c) (N := 3) hx hb hts inJx4a65c hown hK hP 0 rfl rfl 2 (Nat.le_of_ble_eq_true rfl) (hts _ mw_297) (fun _ h9 => h9) rfl dJx4a65c_add_9ea2d_17 ?_
  obtain ⟨hPc, hDc, hFc⟩ := zo_sub (wc := [_, _]) hP hD hS hA [0, 1] rfl rfl
  refine zcall (st1 := []) (va_runV (As := [.ref sp, .ref e0, .int 0]) (rest := []) ⟨hx, hb, hml, hown, hts⟩ (k_AL_add3_0 l dC dI cI cZ cF H.size cO e0 mi sl (mc9 + 1) sp g1 g2 g3 md9 ch9 ) (csV_84 hts rfl rfl ⟨Nat.le_of_ble_eq_true rfl, Nat.le_of_ble_eq_true rfl⟩) (zPVL (q0 := 0) (ci := 10) hPc hDc hK hXL hS hFc rfl rfl) rfl rfl hl.1 rfl (lv_room (Nat.le_of_ble_eq_true rfl)) dJx4a65c_add_9ea2d_20 ⟨show (0 + 1) ≤ 1 by omega, show (0 + 10) ≤ 10 by omega⟩) hS hFc hFc rfl (fun t H locs ht hB hk1 hS => ?_)
  obtain ⟨q9, hP1, hD1⟩ := hB
  rw [ht] at hP1
  obtain ⟨hP, hD⟩ := zn (W2 := [(oc10 sl (mc9 + 1) (.ref q9) (nI 1)), (oc11 sp g1 g2 g3 md9 ch9), (oq q9 cO 10 (va_up (fun _ => none) 0 (some sp)))]) hP hD hk1 hFc hP1 hD1 [0, 1] [] [false, false, false] [0, 1, 2] (by decide +kernel) rfl rfl rfl rfl rfl
  clear hk1 hPc hDc hFc hP1 hD1 ht
  refine lv_iconst (v := 1) hx hb dJx4a65c_add_9ea2d_23 rfl ?_
  obtain ⟨hP9, hD9⟩ := zu_sub (wc := [_, _, _]) hP hD [true, true, true] rfl rfl
  refine W.widen (k := 1) (n := 10) (by omega) (by omega) ?_
  rw [hQ9]
  exact W.zret (ty := .boolean) (v := 1) hx hb hr (rfl) (fun t ht hW => ⟨⟨rfl, q9, by rw [ht]; exact hP9, hD9⟩, hS.F ht⟩) hS.2.2 dJx4a65c_add_9ea2d_24
set_option maxHeartbeats 4000000 in
set_option maxRecDepth 100000 in
theorem k_AL_add_r (l : Launch) (dC : Nat → ClassId) (dI : Nat → Nat → Nat) (cI cZ cF : ClassId) (sz : Nat) (cO : ClassId) (e0 : Nat) (mi : Nat) (sl : Nat) (ea : Nat) (n9 : Nat) (mc9 : Int32) (cp9 : Nat) (SA : Nat → Option Nat) (sp : Nat) (g1 : Int32) (g2 : Int32) (g3 : Int32) (md9 : Value) (ch9 : Value) (hnc : n9 < cp9) (hcp : cp9 < 2147483648) : zML l yJx4a65c_add_9ea2d cJx4a65c_add_9ea2d 2 (some .boolean) ({ frames := 1, cells := 0, slots := 0, locals := 23 } : Room) [.ref sl, .ref sp] (dC, dI) (zTyO cI cZ cF cO) e0 mi [(oc10 sl mc9 (.ref ea) (nI n9)), (oc11 sp g1 g2 g3 md9 ch9), (oq ea cO cp9 SA)] sz (some (.int 1)) (fun A t => zPD (dC, dI) classes A [(oc10 sl (mc9 + 1) (.ref ea) (nI (n9 + 1))), (oc11 sp g1 g2 g3 md9 ch9), (oq ea cO cp9 (va_up SA n9 (some sp)))] t.heap) 0 0 := by
  refine zInL (own := "java/util/ArrayList") (loc := [(0, .ref sl), (1, .ref sp)]) rfl rfl rfl rfl (fun p e s m below meth c hx hb hr hts hown hlocks hml hnm9 A hA hS hP hD hK hXL hXN hK3 Q9 hQ9 ls hl => ?_)
  refine lv_aload_n hx hb dJx4a65c_add_9ea2d_0 rfl (lv_at hl 0 rfl) ?_
  refine lv_dup hx hb dJx4a65c_add_9ea2d_1 rfl ?_
  refine va_get (D := (dC, dI)) (ci := 10) (v := .int mc9) (C := RJx4a65c) (T := TJx4a65c) (N := 3) hx hb hts inJx4a65c hown hK hP 0 rfl rfl 0 (Nat.le_of_ble_eq_true rfl) (hts _ mw_299) (fun x9 h9 => u_same (hts _ mw_same_modCount) x9 h9) rfl dJx4a65c_add_9ea2d_2 ?_
  refine lv_iconst (v := 1) hx hb dJx4a65c_add_9ea2d_5 rfl ?_
  refine lv_iadd hx hb dJx4a65c_add_9ea2d_6 ?_
  refine va_put (D := (dC, dI)) (ci := 10) (v := .int (mc9 + 1)) (ty := .int) (C := RJx4a65c) (T := TJx4a65c) (N := 3) hx hb hts inJx4a65c tyJx4a65c tyJx4a65c_ok nmJx4a65c hown hK hP hD hS 0 rfl rfl 0 (by decide) (hts _ mw_299) (fun x9 h9 => u_same (hts _ mw_same_modCount) x9 h9) rfl (by decide +kernel) rfl rfl (Nat.le_of_ble_eq_true rfl) dJx4a65c_add_9ea2d_7 (fun H locs hP hD hS => ?_)
  obtain ⟨hP, hD⟩ := zre (W2 := [(oc10 sl (mc9 + 1) (.ref ea) (nI n9)), _, _]) hP hD rfl
  refine lv_aload_n hx hb dJx4a65c_add_9ea2d_10 rfl (lv_at hl 0 rfl) ?_
  refine lv_aload_n hx hb dJx4a65c_add_9ea2d_11 rfl (lv_at hl 1 rfl) ?_
  refine lv_aload_n hx hb dJx4a65c_add_9ea2d_12 rfl (lv_at hl 0 rfl) ?_
  refine va_get (D := (dC, dI)) (ci := 10) (v := .ref ea) (C := RJx4a65c) (T := TJx4a65c) (N := 3) hx hb hts inJx4a65c hown hK hP 0 rfl rfl 1 (Nat.le_of_ble_eq_true rfl) (hts _ mw_296) (fun _ h9 => h9) rfl dJx4a65c_add_9ea2d_13 ?_
  refine lv_aload_n hx hb dJx4a65c_add_9ea2d_16 rfl (lv_at hl 0 rfl) ?_
  refine va_get (D := (dC, dI)) (ci := 10) (v := .int (nI n9)) (C := RJx4a65c) (T := TJx4a65c) (N := 3) hx hb hts inJx4a65c hown hK hP 0 rfl rfl 2 (Nat.le_of_ble_eq_true rfl) (hts _ mw_297) (fun _ h9 => h9) rfl dJx4a65c_add_9ea2d_17 ?_
  obtain ⟨hPc, hDc, hFc⟩ := zo_sub (wc := [_, _, _]) hP hD hS hA [0, 1, 2] rfl rfl
  refine zcall (st1 := []) (va_runV (As := [.ref sp, .ref ea, .int (nI n9)]) (rest := []) ⟨hx, hb, hml, hown, hts⟩ (k_AL_add3_r l dC dI cI cZ cF H.size cO e0 mi sl ea n9 (mc9 + 1) cp9 SA sp g1 g2 g3 md9 ch9 (by first | with_reducible assumption | omega) (by first | with_reducible assumption | omega)) (csV_84 hts rfl rfl ⟨Nat.le_of_ble_eq_true rfl, Nat.le_of_ble_eq_true rfl⟩) (zPVL (q0 := 0) (ci := 10) hPc hDc hK hXL hS hFc rfl rfl) rfl rfl hl.1 rfl (lv_room (Nat.le_of_ble_eq_true rfl)) dJx4a65c_add_9ea2d_20 ⟨Nat.le_of_ble_eq_true rfl, Nat.le_of_ble_eq_true rfl⟩) hS hFc hFc rfl (fun t H locs ht hB hk1 hS => ?_)
  obtain ⟨hP1, hD1⟩ := hB
  rw [ht] at hP1
  obtain ⟨hP, hD⟩ := zn (W2 := [(oc10 sl (mc9 + 1) (.ref ea) (nI (n9 + 1))), _, (oq ea cO cp9 (va_up SA n9 (some sp)))]) hP hD hk1 hFc hP1 hD1 [0, 1, 2] [] [false, false, false] [0, 1, 2] (by decide +kernel) rfl rfl rfl rfl rfl
  clear hk1 hPc hDc hFc hP1 hD1 ht
  refine lv_iconst (v := 1) hx hb dJx4a65c_add_9ea2d_23 rfl ?_
  obtain ⟨hP9, hD9⟩ := zu_sub (wc := [_, _, _]) hP hD [true, true, true] rfl rfl
  rw [hQ9]
  exact W.zret (ty := .boolean) (v := 1) hx hb hr (rfl) (fun t ht hW => ⟨⟨rfl, by rw [ht]; exact hP9, hD9⟩, hS.F ht⟩) hS.2.2 dJx4a65c_add_9ea2d_24
set_option maxHeartbeats 4000000 in
set_option maxRecDepth 100000 in
theorem k_AL_add_g (l : Launch) (dC : Nat → ClassId) (dI : Nat → Nat → Nat) (cI cZ cF : ClassId) (sz : Nat) (cO : ClassId) (e0 : Nat) (mi : Nat) (sl : Nat) (ea : Nat) (n : Nat) (mc9 : Int32) (SA : Nat → Option Nat) (sp : Nat) (g1 : Int32) (g2 : Int32) (g3 : Int32) (md9 : Value) (ch9 : Value) (L : List Nat) (f : Nat → va_E) (hn10 : 10 ≤ n) (hn : n ≤ 100000) (hel : ∀ i, i < n → ∃ y vs, SA i = some y ∧ y ∈ L ∧ f y = .inr (11, vs)) : zML l yJx4a65c_add_9ea2d cJx4a65c_add_9ea2d 2 (some .boolean) ({ frames := 6, cells := 1, slots := n + n / 2, locals := 134 } : Room) [.ref sl, .ref sp] (dC, dI) (zTyO cI cZ cF cO) e0 mi ([(oc10 sl mc9 (.ref ea) (nI n)), (oc11 sp g1 g2 g3 md9 ch9), (oq ea cO n SA)] ++ va_pl L f) sz (some (.int 1)) (fun A t => ∃ (q9 : Nat), zPD (dC, dI) classes A ([(oc10 sl (mc9 + 1) (.ref q9) (nI (n + 1))), (oc11 sp g1 g2 g3 md9 ch9), (oq ea cO n SA), (oq q9 cO (n + n / 2) (va_up (va_cpy SA (fun _ => none) 0 0 n) n (some sp)))] ++ va_pl L f) t.heap) 1 (n + n / 2) := by
  refine zInL (own := "java/util/ArrayList") (loc := [(0, .ref sl), (1, .ref sp)]) rfl rfl rfl rfl (fun p e s m below meth c hx hb hr hts hown hlocks hml hnm9 A hA hS hP hD hK hXL hXN hK3 Q9 hQ9 ls hl => ?_)
  refine lv_aload_n hx hb dJx4a65c_add_9ea2d_0 rfl (lv_at hl 0 rfl) ?_
  refine lv_dup hx hb dJx4a65c_add_9ea2d_1 rfl ?_
  refine va_get (D := (dC, dI)) (ci := 10) (v := .int mc9) (C := RJx4a65c) (T := TJx4a65c) (N := 3) hx hb hts inJx4a65c hown hK hP 0 rfl rfl 0 (Nat.le_of_ble_eq_true rfl) (hts _ mw_299) (fun x9 h9 => u_same (hts _ mw_same_modCount) x9 h9) rfl dJx4a65c_add_9ea2d_2 ?_
  refine lv_iconst (v := 1) hx hb dJx4a65c_add_9ea2d_5 rfl ?_
  refine lv_iadd hx hb dJx4a65c_add_9ea2d_6 ?_
  refine va_put (D := (dC, dI)) (ci := 10) (v := .int (mc9 + 1)) (ty := .int) (C := RJx4a65c) (T := TJx4a65c) (N := 3) hx hb hts inJx4a65c tyJx4a65c tyJx4a65c_ok nmJx4a65c hown hK hP hD hS 0 rfl rfl 0 (by decide) (hts _ mw_299) (fun x9 h9 => u_same (hts _ mw_same_modCount) x9 h9) rfl (by decide +kernel) rfl rfl (Nat.le_of_ble_eq_true rfl) dJx4a65c_add_9ea2d_7 (fun H locs hP hD hS => ?_)
  obtain ⟨hP, hD⟩ := zre (W2 := ([(oc10 sl (mc9 + 1) (.ref ea) (nI n)), _, _] ++ va_pl L f)) hP hD rfl
  refine lv_aload_n hx hb dJx4a65c_add_9ea2d_10 rfl (lv_at hl 0 rfl) ?_
  refine lv_aload_n hx hb dJx4a65c_add_9ea2d_11 rfl (lv_at hl 1 rfl) ?_
  refine lv_aload_n hx hb dJx4a65c_add_9ea2d_12 rfl (lv_at hl 0 rfl) ?_
  refine va_get (D := (dC, dI)) (ci := 10) (v := .ref ea) (C := RJx4a65c) (T := TJx4a65c) (N := 3) hx hb hts inJx4a65c hown hK hP 0 rfl rfl 1 (Nat.le_of_ble_eq_true rfl) (hts _ mw_296) (fun _ h9 => h9) rfl dJx4a65c_add_9ea2d_13 ?_
  refine lv_aload_n hx hb dJx4a65c_add_9ea2d_16 rfl (lv_at hl 0 rfl) ?_
  refine va_get (D := (dC, dI)) (ci := 10) (v := .int (nI n)) (C := RJx4a65c) (T := TJx4a65c) (N := 3) hx hb hts inJx4a65c hown hK hP 0 rfl rfl 2 (Nat.le_of_ble_eq_true rfl) (hts _ mw_297) (fun _ h9 => h9) rfl dJx4a65c_add_9ea2d_17 ?_
  obtain ⟨hPc, hDc, hFc⟩ := zo_part (cx := [_, _, _]) hP hD hS hA [0, 1, 2] rfl rfl
  refine zcall (st1 := []) (va_runV (As := [.ref sp, .ref ea, .int (nI n)]) (rest := []) ⟨hx, hb, hml, hown, hts⟩ (k_AL_add3_g l dC dI cI cZ cF H.size cO e0 mi sl ea n (mc9 + 1) SA sp g1 g2 g3 md9 ch9 L f (by first | with_reducible assumption | omega) (by first | with_reducible assumption | omega) (by first | with_reducible assumption | assumption)) (csV_84 hts rfl rfl ⟨Nat.le_of_ble_eq_true rfl, Nat.le_of_ble_eq_true rfl⟩) (zPVL (q0 := 0) (ci := 10) hPc hDc hK hXL hS hFc rfl rfl) rfl rfl hl.1 rfl (lv_room (Nat.le_of_ble_eq_true rfl)) dJx4a65c_add_9ea2d_20 ⟨show (0 + 1) ≤ 1 by omega, show (0 + (n + n / 2)) ≤ n + n / 2 by omega⟩) hS hFc hFc rfl (fun t H locs ht hB hk1 hS => ?_)
  obtain ⟨q9, hP1, hD1⟩ := hB
  rw [ht] at hP1
  obtain ⟨hP, hD⟩ := znP (W2 := [(oc10 sl (mc9 + 1) (.ref q9) (nI (n + 1))), (oc11 sp g1 g2 g3 md9 ch9), (oq ea cO n SA), (oq q9 cO (n + n / 2) (va_up (va_cpy SA (fun _ => none) 0 0 n) n (some sp)))]) hP hD hk1 hFc hP1 hD1 [0, 1, 2] [] [false, false, false, false] [0, 1, 2, 3] (by decide +kernel) rfl rfl rfl rfl rfl
  clear hk1 hPc hDc hFc hP1 hD1 ht
  refine lv_iconst (v := 1) hx hb dJx4a65c_add_9ea2d_23 rfl ?_
  obtain ⟨hP9, hD9⟩ := zu_part (cx := [_, _, _, _]) hP hD [true, true, true, true] rfl rfl
  refine W.widen (k := 1) (n := n + n / 2) (by omega) (by omega) ?_
  rw [hQ9]
  exact W.zret (ty := .boolean) (v := 1) hx hb hr (rfl) (fun t ht hW => ⟨⟨rfl, q9, by rw [ht]; exact hP9, hD9⟩, hS.F ht⟩) hS.2.2 dJx4a65c_add_9ea2d_24
end
section
/-! cells of the pool and whose they are; what is kept when some are written -/
def ce (L : List Nat) (f : Nat → va_E) (own : Nat → Nat) (g a : Nat) (e : va_E) : Prop := a ∈ L ∧ f a = e ∧ own a = g
/-- cells of the kinds P are kept -/
def kpT (P : Nat → Prop) (L : List Nat) (f : Nat → va_E) (own : Nat → Nat) (L1 : List Nat) (f1 : Nat → va_E) (own1 : Nat → Nat) : Prop := ∀ g a e, P g → ce L f own g a e → ce L1 f1 own1 g a e
theorem kpT_rf {P : Nat → Prop} {L : List Nat} {f : Nat → va_E} {own : Nat → Nat} : kpT P L f own L f own := fun _ _ _ _ h => h
theorem kpT_tr {P : Nat → Prop} {L L1 L2 : List Nat} {f f1 f2 : Nat → va_E} {own own1 own2 : Nat → Nat} (h : kpT P L f own L1 f1 own1) (h2 : kpT P L1 f1 own1 L2 f2 own2) : kpT P L f own L2 f2 own2 := fun g a e hp hc => h2 g a e hp (h g a e hp hc)
theorem kpT_wk {P P1 : Nat → Prop} {L L1 : List Nat} {f f1 : Nat → va_E} {own own1 : Nat → Nat} (h : kpT P L f own L1 f1 own1) (hp : ∀ g, P1 g → P g) : kpT P1 L f own L1 f1 own1 := fun g a e h1 hc => h g a e (hp g h1) hc
/-- each cell of a list: new, of another kind, or as it was -/
def alK (L : List Nat) (f : Nat → va_E) (own : Nat → Nat) (P : Nat → Prop) : va_W → Prop
  | [] => True
  | c :: cs => (c.1 ∈ L → P (own c.1) → f c.1 = c.2) ∧ alK L f own P cs
theorem alK_m {L : List Nat} {f : Nat → va_E} {own : Nat → Nat} {P : Nat → Prop} : ∀ {cs : va_W}, alK L f own P cs → ∀ c ∈ cs, c.1 ∈ L → P (own c.1) → f c.1 = c.2
  | c :: cs, h, d, hd => by
    rcases List.mem_cons.mp hd with e | e
    · rw [e]; exact h.1
    · exact alK_m h.2 d e
theorem kp_in {P : Nat → Prop} {L : List Nat} {f : Nat → va_E} {own own1 : Nat → Nat} {cs cs1 : va_W} (hn : cs1.Pairwise (fun p q => p.1 ≠ q.1)) (h1 : ∀ a ∈ cs.map Prod.fst, a ∈ cs1.map Prod.fst) (h2 : alK L f own P cs1) (ho : ∀ a ∈ L, own1 a = own a) : kpT P L f own (cs1.map Prod.fst ++ outPl L cs) (plU f cs1) own1 := by
  intro g a e hp hc
  by_cases q : a ∈ cs1.map Prod.fst
  · obtain ⟨c, hc1, hc2⟩ := List.mem_map.mp q
    refine ⟨List.mem_append.mpr (Or.inl q), ?_, by rw [ho a hc.1]; exact hc.2.2⟩
    have h3 := plU_at (f := f) hn c hc1
    rw [hc2] at h3
    have h4 := alK_m h2 c hc1 (by rw [hc2]; exact hc.1) (by rw [hc2, hc.2.2]; exact hp)
    rw [h3, ← h4, hc2]; exact hc.2.1
  · exact ⟨List.mem_append.mpr (Or.inr (outPl_mem.mpr ⟨hc.1, fun h => q (h1 a h)⟩)), (plU_o q).trans hc.2.1, by rw [ho a hc.1]; exact hc.2.2⟩
theorem ce_in {L : List Nat} {f : Nat → va_E} {own1 : Nat → Nat} {cs cs1 : va_W} {g a : Nat} {e : va_E} (hn : cs1.Pairwise (fun p q => p.1 ≠ q.1)) (k : Nat) (hk : cs1[k]? = some (a, e)) (ho : own1 a = g) : ce (cs1.map Prod.fst ++ outPl L cs) (plU f cs1) own1 g a e := by
  have hm := List.mem_of_getElem? hk
  exact ⟨List.mem_append.mpr (Or.inl (List.mem_map.mpr ⟨_, hm, rfl⟩)), plU_at hn _ hm, ho⟩
/-- a new cell's owner -/
def ow (own : Nat → Nat) (a g : Nat) : Nat → Nat := fun b => if b = a then g else own b
theorem ow_at {own : Nat → Nat} {a g : Nat} : ow own a g a = g := if_pos rfl
theorem ow_o {own : Nat → Nat} {a g b : Nat} (h : b ≠ a) : ow own a g b = own b := if_neg h
theorem ce_ne {L : List Nat} {f : Nat → va_E} {own : Nat → Nat} {g a g2 a2 : Nat} {e e2 : va_E} (h : ce L f own g a e) (h2 : ce L f own g2 a2 e2) (hg : g ≠ g2) : a ≠ a2 := fun q => hg (by rw [← h.2.2, ← h2.2.2, q])
theorem ce_pl {L : List Nat} {f : Nat → va_E} {own : Nat → Nat} {g a : Nat} {e : va_E} (h : ce L f own g a e) : a ∈ L ∧ f a = e := ⟨h.1, h.2.1⟩
/-- a cell that is left in the pool -/
theorem ce_out {L : List Nat} {f : Nat → va_E} {own : Nat → Nat} {g a : Nat} {e : va_E} {cs : va_W} (h : ce L f own g a e) (hn : ∀ c ∈ cs, own c.1 ≠ g) : ce (outPl L cs) f own g a e :=
  ⟨outPl_mem.mpr ⟨h.1, fun q => by obtain ⟨c, h1, h2⟩ := List.mem_map.mp q; exact hn c h1 (by rw [h2]; exact h.2.2)⟩, h.2⟩
/-- a row -/
def rwG (cI : ClassId) (L : List Nat) (f : Nat → va_E) (own : Nat → Nat) (g r rx ry n cap : Nat) (X Y : Nat → Int32) (rg : Int32) : Prop :=
  ce L f own g r (.inr (6, [.ref rx, .ref ry, .int (nI n), .int rg])) ∧ ce L f own g rx (.inl (cI, cap, .inl X)) ∧ ce L f own g ry (.inl (cI, cap, .inl Y)) ∧ rx ≠ ry
theorem rwG_kp {P : Nat → Prop} {cI : ClassId} {L L1 : List Nat} {f f1 : Nat → va_E} {own own1 : Nat → Nat} {g r rx ry n cap : Nat} {X Y : Nat → Int32} {rg : Int32} (h : kpT P L f own L1 f1 own1) (hp : P g) (hr : rwG cI L f own g r rx ry n cap X Y rg) : rwG cI L1 f1 own1 g r rx ry n cap X Y rg :=
  ⟨h _ _ _ hp hr.1, h _ _ _ hp hr.2.1, h _ _ _ hp hr.2.2.1, hr.2.2.2⟩
/-- a look, and the row that it holds: a feature's corners are n, at C and D -/
def lkR (cI : ClassId) (L : List Nat) (f : Nat → va_E) (own : Nat → Nat) (gr : Nat) (rv : Value) (kd st tn : Int32) (we n : Nat) (C D : Nat → Int32) : Prop :=
  (¬ tn.toInt = 0 → rv = .null) ∧ (tn.toInt = 0 → ∃ (r rx ry cap : Nat) (X Y : Nat → Int32), rv = .ref r ∧ rwG cI L f own gr r rx ry n cap X Y (rgK kd.toInt) ∧ n ≤ cap ∧ cap ≤ 40 ∧ (st.toInt = 0 → cap = (if kd.toInt = 0 then 1 else 40) ∧ we = 0) ∧ (∀ k, k < n → X k = C k ∧ Y k = D k) ∧ ((1 ≤ kd.toInt ∧ kd.toInt ≤ 5) → we + n ≤ 40))
def lkG (cI : ClassId) (L : List Nat) (f : Nat → va_E) (own : Nat → Nat) (gl gr a cl : Nat) (kd st gb it tn : Int32) (n : Nat) (C D : Nat → Int32) : Prop :=
  ∃ (we : Nat) (rv : Value), ce L f own gl a (.inr (4, [.int kd, .int st, rv, .int gb, .int it, .int (nI we)])) ∧ we ≤ 40 ∧ ((1 ≤ kd.toInt ∧ kd.toInt ≤ 5) → cl = 40) ∧ lkR cI L f own gr rv kd st tn we n C D
theorem lkR_kp {P : Nat → Prop} {cI : ClassId} {L L1 : List Nat} {f f1 : Nat → va_E} {own own1 : Nat → Nat} {gr : Nat} {rv : Value} {kd st tn : Int32} {we n : Nat} {C D : Nat → Int32} (h : kpT P L f own L1 f1 own1) (hp : P gr) (hr : lkR cI L f own gr rv kd st tn we n C D) : lkR cI L1 f1 own1 gr rv kd st tn we n C D := by
  refine ⟨hr.1, fun h0 => ?_⟩
  obtain ⟨r, rx, ry, cap, X, Y, h1, h2, h3⟩ := hr.2 h0
  exact ⟨r, rx, ry, cap, X, Y, h1, rwG_kp h hp h2, h3⟩
theorem lkG_kp {P : Nat → Prop} {cI : ClassId} {L L1 : List Nat} {f f1 : Nat → va_E} {own own1 : Nat → Nat} {gl gr a cl : Nat} {kd st gb it tn : Int32} {n : Nat} {C D : Nat → Int32} (h : kpT P L f own L1 f1 own1) (hp : P gl) (hq : P gr) (hl : lkG cI L f own gl gr a cl kd st gb it tn n C D) : lkG cI L1 f1 own1 gl gr a cl kd st gb it tn n C D := by
  obtain ⟨we, rv, h1, h2, h3, h4⟩ := hl
  exact ⟨we, rv, h _ _ _ hp h1, h2, h3, lkR_kp h hq h4⟩
theorem lkR_cg {cI : ClassId} {L : List Nat} {f : Nat → va_E} {own : Nat → Nat} {gr : Nat} {rv : Value} {kd st tn : Int32} {we n : Nat} {C D C1 D1 : Nat → Int32} (hc : ∀ k, k < 40 → C1 k = C k ∧ D1 k = D k) (h : lkR cI L f own gr rv kd st tn we n C D) : lkR cI L f own gr rv kd st tn we n C1 D1 := by
  refine ⟨h.1, fun h0 => ?_⟩
  obtain ⟨r, rx, ry, cap, X, Y, h1, h2, h3, h4, h5, h6, h7⟩ := h.2 h0
  exact ⟨r, rx, ry, cap, X, Y, h1, h2, h3, h4, h5, fun k hk => by rw [(hc k (by omega)).1, (hc k (by omega)).2]; exact h6 k hk, h7⟩
theorem lkG_cg {cI : ClassId} {L : List Nat} {f : Nat → va_E} {own : Nat → Nat} {gl gr a cl : Nat} {kd st gb it tn : Int32} {n : Nat} {C D C1 D1 : Nat → Int32} (hc : ∀ k, k < 40 → C1 k = C k ∧ D1 k = D k) (h : lkG cI L f own gl gr a cl kd st gb it tn n C D) : lkG cI L f own gl gr a cl kd st gb it tn n C1 D1 := by
  obtain ⟨we, rv, h1, h2, h3, h4⟩ := h
  exact ⟨we, rv, h1, h2, h3, lkR_cg hc h4⟩
/-- a torn one's corners do not matter -/
theorem lkG_tn {cI : ClassId} {L : List Nat} {f : Nat → va_E} {own : Nat → Nat} {gl gr a cl : Nat} {kd st gb it tn : Int32} {n n1 : Nat} {C D C1 D1 : Nat → Int32} (h0 : ¬ tn.toInt = 0) (h : lkG cI L f own gl gr a cl kd st gb it tn n C D) : lkG cI L f own gl gr a cl kd st gb it tn n1 C1 D1 := by
  obtain ⟨we, rv, h1, h2, h3, h4⟩ := h
  exact ⟨we, rv, h1, h2, h3, h4.1, fun g => absurd g h0⟩
/-- a feature's own cells -/
def feG (cI : ClassId) (L : List Nat) (f : Nat → va_E) (own : Nat → Nat) (q fe nw cl : Nat) (fm : Value) (rk wd tw pa pb : Int32) : Prop :=
  ∃ (lo lx ly ln : Nat) (LX LY : Nat → Int32), ce L f own (8 * q) fe (.inr (1, [.int rk, .int wd, .int tw, .int pa, .int pb, .ref lo, .ref nw, fm])) ∧ rwG cI L f own (8 * q + 1) lo lx ly ln cl LX LY 0 ∧ ln ≤ cl ∧ 1 ≤ cl ∧ cl ≤ 40
theorem feG_kp {P : Nat → Prop} {cI : ClassId} {L L1 : List Nat} {f f1 : Nat → va_E} {own own1 : Nat → Nat} {q fe nw cl : Nat} {fm : Value} {rk wd tw pa pb : Int32} (h : kpT P L f own L1 f1 own1) (hp : P (8 * q)) (hq : P (8 * q + 1)) (hf : feG cI L f own q fe nw cl fm rk wd tw pa pb) : feG cI L1 f1 own1 q fe nw cl fm rk wd tw pa pb := by
  obtain ⟨lo, lx, ly, ln, LX, LY, h1, h2, h3⟩ := hf
  exact ⟨lo, lx, ly, ln, LX, LY, h _ _ _ hp h1, rwG_kp h hq h2, h3⟩
/-- the changes of a step: of the features qs, from lb to la -/
def chn (L : List Nat) (f : Nat → va_E) (own fe lb la : Nat → Nat) : Value → List Nat → Prop
  | v, [] => v = .null
  | v, q :: qs => ∃ (c : Nat) (nx : Value), v = .ref c ∧ ce L f own 8003 c (.inr (12, [.ref (fe q), .ref (lb q), .ref (la q), nx])) ∧ chn L f own fe lb la nx qs
theorem chn_kp {P : Nat → Prop} {L L1 : List Nat} {f f1 : Nat → va_E} {own own1 fe lb la : Nat → Nat} (h : kpT P L f own L1 f1 own1) (hp : P 8003) : ∀ {qs : List Nat} {v : Value}, chn L f own fe lb la v qs → chn L1 f1 own1 fe lb la v qs
  | [], _, hc => hc
  | q :: qs, v, hc => by
    obtain ⟨c, nx, h1, h2, h3⟩ := hc
    exact ⟨c, nx, h1, h _ _ _ hp h2, chn_kp h hp h3⟩
theorem chn_cg {L : List Nat} {f : Nat → va_E} {own fe lb la fe1 lb1 la1 : Nat → Nat} : ∀ {qs : List Nat} {v : Value}, (∀ q ∈ qs, fe1 q = fe q ∧ lb1 q = lb q ∧ la1 q = la q) → chn L f own fe lb la v qs → chn L f own fe1 lb1 la1 v qs
  | [], _, _, hc => hc
  | q :: qs, v, hq, hc => by
    obtain ⟨c, nx, h1, h2, h3⟩ := hc
    have e := hq q (List.mem_cons_self ..)
    exact ⟨c, nx, h1, by rw [e.1, e.2.1, e.2.2]; exact h2, chn_cg (fun p hp => hq p (List.mem_cons_of_mem _ hp)) h3⟩

/-- what is known of a pool into which cells were put: as they are now (old), and new ones -/
def pinD (L : List Nat) (f : Nat → va_E) (X old new cs1 : va_W) (L1 : List Nat) (f1 : Nat → va_E) : Prop :=
  (∀ c ∈ new, c.1 ∉ L) ∧ (∀ (own own1 : Nat → Nat) (P : Nat → Prop), (∀ a ∈ L, own1 a = own a) → alK L f own P old → kpT P L f own L1 f1 own1) ∧
      (∀ (own1 : Nat → Nat) (k : Nat) (a : Nat) (v : va_E) (g : Nat), cs1[k]? = some (a, v) → own1 a = g → ce L1 f1 own1 g a v) ∧ (∀ c ∈ cs1, ∀ d ∈ X, d.1 ≠ c.1) ∧ cs1.Pairwise (fun p q => p.1 ≠ q.1)
/-- cells that were taken out (cs), as they are now (old), and new ones (new), go back into the pool -/
theorem pl_pin {D : va_G} {cl : List vw_C} {A : Nat → Prop} {X cs old new cs1 : va_W} {L : List Nat} {f : Nat → va_E} {H : Heap} (e : cs1 = old ++ new) (hm : old.map Prod.fst = cs.map Prod.fst) (hP : va_P D cl ((X ++ cs1) ++ va_pl (outPl L cs) f) H) (hD : va_D A ((X ++ cs1) ++ va_pl (outPl L cs) f)) :
    ∃ (L1 : List Nat) (f1 : Nat → va_E), va_P D cl (X ++ va_pl L1 f1) H ∧ va_D A (X ++ va_pl L1 f1) ∧ pinD L f X old new cs1 L1 f1 := by
  have hw := List.pairwise_append.mp (vaD_mem.mp hD).1
  have hw2 := List.pairwise_append.mp hw.1
  have hw3 := hw2.2.1
  have hsub : ∀ a ∈ cs.map Prod.fst, a ∈ cs1.map Prod.fst := fun a ha => by rw [e, List.map_append, hm]; exact List.mem_append.mpr (Or.inl ha)
  have hfr : ∀ c ∈ new, c.1 ∉ L := fun c hc hL => by
    have hc1 : c ∈ cs1 := by rw [e]; exact List.mem_append.mpr (Or.inr hc)
    have hno : c.1 ∉ cs.map Prod.fst := fun h => by
      rw [← hm] at h
      obtain ⟨d, hd, ed⟩ := List.mem_map.mp h
      rw [e] at hw3
      exact (List.pairwise_append.mp hw3).2.2 d hd c hc ed
    exact hw.2.2 c (List.mem_append.mpr (Or.inr hc1)) (c.1, f c.1) (pl_mem.mpr ⟨outPl_mem.mpr ⟨hL, hno⟩, rfl⟩) rfl
  obtain ⟨p1, p2⟩ := pl_in hP hD
  refine ⟨_, _, p1, p2, hfr, fun own own1 P ho ha => kp_in hw3 hsub ?_ ho, fun own1 k a v g hk ho => ce_in hw3 k hk ho, fun c hc d hd => hw2.2.2 d hd c hc, hw3⟩
  rw [e]
  have go : ∀ (o n : va_W), alK L f own P o → (∀ c ∈ n, c.1 ∉ L) → alK L f own P (o ++ n) := by
    intro o
    induction o with
    | nil =>
      intro n _ hn
      induction n with
      | nil => trivial
      | cons c n ih => exact ⟨fun h => absurd h (hn c (List.mem_cons_self ..)), ih (fun d hd => hn d (List.mem_cons_of_mem _ hd))⟩
    | cons c o ih => intro n h hn; exact ⟨h.1, ih n h.2 hn⟩
  exact go old new ha hfr
theorem ow_L {L : List Nat} {own own1 : Nat → Nat} {n g : Nat} (h : ∀ a ∈ L, own1 a = own a) (hn : n ∉ L) : ∀ a ∈ L, ow own1 n g a = own a := fun a ha => by rw [ow_o (fun e => hn (by rw [← e]; exact ha))]; exact h a ha
theorem pwN {cs : va_W} (h : cs.Pairwise (fun p q => p.1 ≠ q.1)) {i j a b : Nat} {v w : va_E} (hi : cs[i]? = some (a, v)) (hj : cs[j]? = some (b, w)) (hij : i ≠ j) : a ≠ b := fun e => by
  obtain ⟨h1, h2⟩ := List.getElem?_eq_some_iff.mp hi
  obtain ⟨h3, h4⟩ := List.getElem?_eq_some_iff.mp hj
  have hw := List.pairwise_iff_getElem.mp h
  rcases Nat.lt_or_gt_of_ne hij with g | g
  · exact hw i j h1 h3 g (by rw [h2, h4]; exact e)
  · exact hw j i h3 h1 g (by rw [h2, h4]; exact e.symm)
end
section
theorem pl_pn {D : va_G} {cl : List vw_C} {A : Nat → Prop} {X W1 cs old new cs1 : va_W} {L T : List Nat} {f : Nat → va_E} {H : Heap} (hT : outPl L cs = T) (hP : va_P D cl (W1 ++ va_pl T f) H) (hD : va_D A (W1 ++ va_pl T f)) (hW : W1 = X ++ cs1) (e : cs1 = old ++ new) (hm : old.map Prod.fst = cs.map Prod.fst) :
    ∃ (L1 : List Nat) (f1 : Nat → va_E), va_P D cl (X ++ va_pl L1 f1) H ∧ va_D A (X ++ va_pl L1 f1) ∧ pinD L f X old new cs1 L1 f1 := by
  subst hT
  subst hW
  exact pl_pin e hm hP hD
end
section
/-! how the class's cells stand for a state and its history -/
def glM (md q : Nat) : Nat := if md = 0 then 8 * q + 2 else 8 * q + 4
def grM (md q : Nat) : Nat := if md = 1 then 8 * q + 5 else 8 * q + 3
/-! what went from a feature: its row of lost corners, and how many a look counts -/
def fvE (k : Nat) (e : va_E) : Option Value := match e with
  | .inr (_, l) => l[k]?
  | .inl _ => none
def fxE (e : va_E) : Option (Nat → Int32) := match e with
  | .inl (_, _, .inl X) => some X
  | _ => none
def loQ (cI : ClassId) (L : List Nat) (f : Nat → va_E) (own : Nat → Nat) (q fe ln : Nat) (LX LY : Nat → Int32) : Prop :=
  ∃ (a1 a2 a3 a4 a5 b1 b2 : Value) (lo lx ly cap : Nat), ce L f own (8 * q) fe (.inr (1, [a1, a2, a3, a4, a5, .ref lo, b1, b2])) ∧ rwG cI L f own (8 * q + 1) lo lx ly ln cap LX LY 0 ∧ ln ≤ 40
def weQ (L : List Nat) (f : Nat → va_E) (own : Nat → Nat) (g a w : Nat) : Prop := w ≤ 40 ∧ ∃ (a1 a2 a3 a4 a5 : Value), ce L f own g a (.inr (4, [a1, a2, a3, a4, a5, .int (nI w)]))
/-- the numbers of feature q in g: 5 how many went, from 6 on their x, from 50 on their y -/
def gE (LX LY : Nat → Int32) (w : Nat) (g : Nat → Nat → Int32) (q : Nat) : Prop := g 5 q = nI w ∧ ∀ i, i < w → LX i = g (i + 6) q ∧ LY i = g (i + 50) q
def loG (cI : ClassId) (L : List Nat) (f : Nat → va_E) (own : Nat → Nat) (fe nw md : Nat → Nat) (la : Nat → Nat → Nat) (bs dn T ft fN : Nat) (FT : Nat → Nat) (V : Nat → Nat → Nat → Int32) (g : Nat → Nat → Int32) : Prop :=
  ∀ q, q < fN → ∃ (ln wn : Nat) (LX LY : Nat → Int32) (w : Nat → Nat), loQ cI L f own q (fe q) ln LX LY ∧ (q < ft → wn ≤ ln ∧ weQ L f own (glM (md q) q) (nw q) wn ∧ gE LX LY wn g q) ∧
    (∀ t, bs ≤ t → t ≤ T → q < FT t → w t ≤ ln ∧ weQ L f own (8 * q + 2) (la t q) (w t) ∧ gE LX LY (w t) (V t) q ∧ ∀ u, t ≤ u → u ≤ T → w t ≤ w u) ∧ ∀ t, bs ≤ t → t ≤ dn → q < FT t → q < ft → w t ≤ wn
/-- only how it stands now -/
def loW (cI : ClassId) (L : List Nat) (f : Nat → va_E) (own : Nat → Nat) (fe nw : Nat → Nat) (ft : Nat) (g : Nat → Nat → Int32) : Prop :=
  ∀ q, q < ft → ∃ (ln wn : Nat) (LX LY : Nat → Int32), loQ cI L f own q (fe q) ln LX LY ∧ wn ≤ ln ∧ weQ L f own (8 * q + 2) (nw q) wn ∧ gE LX LY wn g q
/-- the features' rows of lost corners are as they were -/
def loK (cI : ClassId) (L : List Nat) (f : Nat → va_E) (own : Nat → Nat) (L1 : List Nat) (f1 : Nat → va_E) (own1 : Nat → Nat) (fN : Nat) (fe : Nat → Nat) : Prop :=
  ∀ q, q < fN → ∀ (ln : Nat) (LX LY : Nat → Int32), loQ cI L f own q (fe q) ln LX LY → loQ cI L1 f1 own1 q (fe q) ln LX LY
/-- the numbers of what went, with those of feature q anew -/
def gU (g : Nat → Nat → Int32) (q : Nat) (w : Nat) (LX LY : Nat → Int32) : Nat → Nat → Int32 := fun j p => if p = q then (if j = 5 then nI w else if j < 50 then LX (j - 6) else LY (j - 50)) else g j p
section
variable {P : Nat → Prop} {cI : ClassId} {L L1 : List Nat} {f f1 : Nat → va_E} {own own1 : Nat → Nat} {q a : Nat}
theorem loQ_kp {fe ln : Nat} {LX LY : Nat → Int32} (h : kpT P L f own L1 f1 own1) (h0 : P (8 * q)) (h1 : P (8 * q + 1)) (hl : loQ cI L f own q fe ln LX LY) : loQ cI L1 f1 own1 q fe ln LX LY := by
  obtain ⟨a1, a2, a3, a4, a5, b1, b2, lo, lx, ly, cap, g1, g2, g3⟩ := hl
  exact ⟨a1, a2, a3, a4, a5, b1, b2, lo, lx, ly, cap, h _ _ _ h0 g1, rwG_kp h h1 g2, g3⟩
theorem weQ_kp {g w : Nat} (h : kpT P L f own L1 f1 own1) (h0 : P g) (hl : weQ L f own g a w) : weQ L1 f1 own1 g a w := by
  obtain ⟨g0, a1, a2, a3, a4, a5, g1⟩ := hl
  exact ⟨g0, a1, a2, a3, a4, a5, h _ _ _ h0 g1⟩
theorem loQ_c {fe ln lo lx ly cap ln2 : Nat} {LX LY LX2 LY2 : Nat → Int32} {a1 a2 a3 a4 a5 b1 b2 : Value} {g1 g2 : Nat} (h : loQ cI L f own q fe ln LX LY) (h3 : ce L f own g1 fe (.inr (1, [a1, a2, a3, a4, a5, .ref lo, b1, b2]))) (h4 : rwG cI L f own g2 lo lx ly ln2 cap LX2 LY2 0) (h5 : ln2 ≤ 40) : ln2 = ln ∧ LX2 = LX ∧ LY2 = LY := by
  obtain ⟨c1, c2, c3, c4, c5, d1, d2, lo2, lx2, ly2, cap2, i3, ⟨i4, i5, i6, i7⟩, i8⟩ := h
  have e1 : some (Value.ref lo) = some (Value.ref lo2) := congrArg (fvE 5) (h3.2.1.symm.trans i3.2.1)
  have e2 : lo = lo2 := Value.ref.inj (Option.some.inj e1)
  subst e2
  have k1 := h4.1.2.1.symm.trans i4.2.1
  have e3 : some (Value.ref lx) = some (Value.ref lx2) := congrArg (fvE 0) k1
  have e4 : some (Value.ref ly) = some (Value.ref ly2) := congrArg (fvE 1) k1
  have e5 : some (Value.int (nI ln2)) = some (Value.int (nI ln)) := congrArg (fvE 2) k1
  have e6 := Value.ref.inj (Option.some.inj e3)
  have e7 := Value.ref.inj (Option.some.inj e4)
  have e8 := congrArg nN (Value.int.inj (Option.some.inj e5))
  rw [nN_n9 (by omega), nN_n9 (by omega)] at e8
  subst e6
  subst e7
  have e9 : some LX2 = some LX := congrArg fxE (h4.2.1.2.1.symm.trans i5.2.1)
  have e10 : some LY2 = some LY := congrArg fxE (h4.2.2.1.2.1.symm.trans i6.2.1)
  exact ⟨e8, Option.some.inj e9, Option.some.inj e10⟩
theorem loQ_u {fe ln ln2 : Nat} {LX LY LX2 LY2 : Nat → Int32} (h : loQ cI L f own q fe ln LX LY) (h2 : loQ cI L f own q fe ln2 LX2 LY2) : ln2 = ln ∧ LX2 = LX ∧ LY2 = LY := by
  obtain ⟨a1, a2, a3, a4, a5, b1, b2, lo, lx, ly, cap, g1, g2, g3⟩ := h2
  exact loQ_c h g1 g2 g3
theorem weQ_c {g g2 w w2 : Nat} {a1 a2 a3 a4 a5 : Value} (h : weQ L f own g a w) (h2 : ce L f own g2 a (.inr (4, [a1, a2, a3, a4, a5, .int (nI w2)]))) (h3 : w2 ≤ 40) : w2 = w := by
  obtain ⟨g0, c1, c2, c3, c4, c5, g1⟩ := h
  have e1 : some (Value.int (nI w2)) = some (Value.int (nI w)) := congrArg (fvE 5) (h2.2.1.symm.trans g1.2.1)
  have e2 := congrArg nN (Value.int.inj (Option.some.inj e1))
  rw [nN_n9 (by omega), nN_n9 (by omega)] at e2
  exact e2
theorem weQ_u {g g2 w w2 : Nat} (h : weQ L f own g a w) (h2 : weQ L f own g2 a w2) : w2 = w := by
  obtain ⟨g0, c1, c2, c3, c4, c5, g1⟩ := h2
  exact weQ_c h g1 g0
theorem gE_p {LX LY LX1 LY1 : Nat → Int32} {w : Nat} {g : Nat → Nat → Int32} (h : gE LX LY w g q) (hp : ∀ i, i < w → LX1 i = LX i ∧ LY1 i = LY i) : gE LX1 LY1 w g q :=
  ⟨h.1, fun i hi => ⟨(hp i hi).1.trans (h.2 i hi).1, (hp i hi).2.trans (h.2 i hi).2⟩⟩
theorem gE_g {LX LY : Nat → Int32} {w : Nat} {g g1 : Nat → Nat → Int32} (h : gE LX LY w g q) (hg : ∀ j, 5 ≤ j → g1 j q = g j q) : gE LX LY w g1 q :=
  ⟨(hg 5 (Nat.le_refl _)).trans h.1, fun i hi => ⟨(h.2 i hi).1.trans (hg (i + 6) (by omega)).symm, (h.2 i hi).2.trans (hg (i + 50) (by omega)).symm⟩⟩
theorem gE_U {LX LY : Nat → Int32} {w : Nat} {g : Nat → Nat → Int32} (hw : w ≤ 40) : gE LX LY w (gU g q w LX LY) q := by
  refine ⟨by unfold gU; rw [if_pos rfl, if_pos rfl], fun i hi => ⟨?_, ?_⟩⟩
  · unfold gU; rw [if_pos rfl, if_neg (by omega), if_pos (by omega), Nat.add_sub_cancel]
  · unfold gU; rw [if_pos rfl, if_neg (by omega), if_neg (by omega), Nat.add_sub_cancel]
theorem gU_o {LX LY : Nat → Int32} {w p : Nat} {g : Nat → Nat → Int32} (h : p ≠ q) : ∀ j, gU g q w LX LY j p = g j p := fun j => by unfold gU; rw [if_neg h]
/-- a look is written anew, but what it counts is as it was -/
theorem weQ_re {g g2 w w2 : Nat} {a1 a2 a3 a4 a5 b1 b2 b3 b4 b5 : Value} (h : weQ L f own g a w) (h2 : ce L f own g2 a (.inr (4, [a1, a2, a3, a4, a5, .int (nI w2)]))) (h3 : w2 ≤ 40) (h4 : ce L1 f1 own1 g a (.inr (4, [b1, b2, b3, b4, b5, .int (nI w2)]))) : weQ L1 f1 own1 g a w := by
  have e := weQ_c h h2 h3
  subst e
  exact ⟨h.1, b1, b2, b3, b4, b5, h4⟩
end
section
variable {cI : ClassId} {L L1 L2 : List Nat} {f f1 f2 : Nat → va_E} {own own1 own2 : Nat → Nat} {fN g : Nat} {fe : Nat → Nat}
theorem loK_rf : loK cI L f own L f own fN fe := fun _ _ _ _ _ h => h
theorem loK_tr (h : loK cI L f own L1 f1 own1 fN fe) (h2 : loK cI L1 f1 own1 L2 f2 own2 fN fe) : loK cI L f own L2 f2 own2 fN fe := fun q hq ln LX LY g => h2 q hq ln LX LY (h q hq ln LX LY g)
theorem loK_kp {P : Nat → Prop} (hk : kpT P L f own L1 f1 own1) (hp : ∀ q, q < fN → P (8 * q) ∧ P (8 * q + 1)) : loK cI L f own L1 f1 own1 fN fe := fun q hq _ _ _ h => loQ_kp hk (hp q hq).1 (hp q hq).2 h
/-- one feature's cell is written anew -/
theorem loK_s {lo : Nat} {a1 a2 a3 a4 a5 b1 b2 c1 c2 c3 c4 c5 d1 d2 : Value} (h : loK cI L f own L1 f1 own1 fN fe) (hk : kpT (fun t => t ≠ 8 * g) L1 f1 own1 L2 f2 own2) (ho : ce L1 f1 own1 (8 * g) (fe g) (.inr (1, [a1, a2, a3, a4, a5, .ref lo, b1, b2]))) (hc : ce L2 f2 own2 (8 * g) (fe g) (.inr (1, [c1, c2, c3, c4, c5, .ref lo, d1, d2]))) : loK cI L f own L2 f2 own2 fN fe := by
  intro q hq ln LX LY h0
  have h1 := h q hq ln LX LY h0
  by_cases e : q = g
  · subst e
    obtain ⟨i1, i2, i3, i4, i5, j1, j2, lo2, lx, ly, cap, g1, g2, g3⟩ := h1
    have e1 : some (Value.ref lo2) = some (Value.ref lo) := congrArg (fvE 5) (g1.2.1.symm.trans ho.2.1)
    have e2 : lo2 = lo := Value.ref.inj (Option.some.inj e1)
    subst e2
    exact ⟨c1, c2, c3, c4, c5, d1, d2, lo2, lx, ly, cap, hc, rwG_kp hk (by omega) g2, g3⟩
  · exact loQ_kp hk (by omega) (by omega) h1
end
/-- the numbers of what went, with nothing of feature q -/
def gZ (g : Nat → Nat → Int32) (q : Nat) : Nat → Nat → Int32 := fun j p => if p = q then 0 else g j p
theorem gZ_5 {g : Nat → Nat → Int32} {q : Nat} : gZ g q 5 q = 0 := if_pos rfl
theorem gZ_o {g : Nat → Nat → Int32} {q p : Nat} (h : p ≠ q) : ∀ j, gZ g q j p = g j p := fun _ => if_neg h
def FeA (cI : ClassId) (L : List Nat) (f : Nat → va_E) (own : Nat → Nat) (fN : Nat) (fe nw cl : Nat → Nat) (fm : Nat → Value) (rk wd tw pa pb : Nat → Int32) : Prop :=
  ∀ q, q < fN → feG cI L f own q (fe q) (nw q) (cl q) (fm q) (rk q) (wd q) (tw q) (pa q) (pb q)
def NwA (cI : ClassId) (L : List Nat) (f : Nat → va_E) (own : Nat → Nat) (ft : Nat) (nw cl md : Nat → Nat) (kd st gb it tn mn cx cy : Nat → Int32) : Prop :=
  ∀ q, q < ft → lkG cI L f own (glM (md q) q) (grM (md q) q) (nw q) (cl q) (kd q) (st q) (gb q) (it q) (tn q) (nN (mn q)) (cF40 cx q) (cF40 cy q)
def HiA (cI : ClassId) (L : List Nat) (f : Nat → va_E) (own : Nat → Nat) (bs T dn : Nat) (FT : Nat → Nat) (la : Nat → Nat → Nat) (cl : Nat → Nat) (V : Nat → Nat → Nat → Int32) (VX VY : Nat → Nat → Int32) (tn : Nat → Int32) : Prop :=
  ∀ t, bs ≤ t → t ≤ T → ∀ q, q < FT t → (¬ (V t 1 q).toInt = 0 → lkG cI L f own (8 * q + 2) (8 * q + 3) (la t q) (cl q) (V t 0 q) (V t 1 q) (V t 2 q) (V t 3 q) (tn q) (nN (V t 4 q)) (cF40 (VX t) q) (cF40 (VY t) q)) ∧
    (((V t 1 q).toInt = 0 ∨ (q < FT dn ∧ (V dn 1 q).toInt = 0)) → la t q = la dn q ∧ q < FT bs ∧ V t 0 q = V dn 0 q ∧ V t 1 q = V dn 1 q ∧ V t 2 q = V dn 2 q ∧ V t 3 q = V dn 3 q)
def StA (L : List Nat) (f : Nat → va_E) (own : Nat → Nat) (bs T fN : Nat) (FT fe : Nat → Nat) (la : Nat → Nat → Nat) (sp : Nat → Nat) (SA : Nat → Option Nat) (wh of9 we : Nat → Int32) : Prop :=
  ∀ t, 1 ≤ t → t ≤ T → SA (t - 1) = some (sp t) ∧ ∃ (mv ch : Value), ce L f own 8001 (sp t) (.inr (11, [.int (wh t), .int (of9 t), .int (we t), mv, ch])) ∧
    (bs < t → (∃ qs : List Nat, chn L f own fe (la (t - 1)) (la t) ch qs ∧ (∀ q ∈ qs, q < FT (t - 1)) ∧ ∀ q, q < fN → q ∉ qs → la (t - 1) q = la t q) ∧ ((FT t = FT (t - 1) ∧ mv = .null) ∨ (FT t = FT (t - 1) + 1 ∧ mv = .ref (fe (FT (t - 1))))))
def LsA (cO : ClassId) (L : List Nat) (f : Nat → va_E) (own : Nat → Nat) (e0 ea n9 : Nat) (SA : Nat → Option Nat) : Prop :=
  (ea = e0 ∧ n9 = 0) ∨ ∃ cap : Nat, ce L f own 8002 ea (.inl (cO, cap, .inr (.inr (.inr (.inr SA))))) ∧ n9 ≤ cap ∧ 10 ≤ cap ∧ cap ≤ 1000 ∧ ∀ i, i < n9 → ∃ (y : Nat) (vs : List Value), SA i = some y ∧ ce L f own 8001 y (.inr (11, vs))
def NmA (bs dn T ft fN : Nat) (FT : Nat → Nat) : Prop := bs ≤ dn ∧ dn ≤ T ∧ T ≤ 512 ∧ (∀ t, bs ≤ t → t ≤ T → FT t ≤ fN) ∧ ft ≤ fN ∧ fN ≤ 200
/-- the state at position dn is the state now -/
def HiD (dn ft : Nat) (V : Nat → Nat → Nat → Int32) (VX VY : Nat → Nat → Int32) (kd st gb it tn mn cx cy : Nat → Int32) : Prop :=
  ∀ q, q < ft → V dn 0 q = kd q ∧ V dn 1 q = st q ∧ V dn 2 q = gb q ∧ V dn 3 q = it q ∧ (¬ (st q).toInt = 0 → (tn q).toInt = 0 → nN (V dn 4 q) = nN (mn q) ∧ ∀ k, k < nN (mn q) → cF40 (VX dn) q k = cF40 cx q k ∧ cF40 (VY dn) q k = cF40 cy q k)
/-- all of it, with the names of the cells; n9: how many steps the list holds -/
def shG (cI cO : ClassId) (L : List Nat) (f : Nat → va_E) (e0 : Nat) (FA : Nat → Option Nat) (ea n9 : Nat) (own fe cl : Nat → Nat) (la : Nat → Nat → Nat) (nw md sp : Nat → Nat) (fm : Nat → Value) (SA : Nat → Option Nat)
    (bs dn T ft fN : Nat) (FT : Nat → Nat) (V : Nat → Nat → Nat → Int32) (VX VY : Nat → Nat → Int32) (tn rk wd tw pa pb wh of9 we kd st gb it mn cx cy : Nat → Int32) : Prop :=
  FeA cI L f own fN fe nw cl fm rk wd tw pa pb ∧ NwA cI L f own ft nw cl md kd st gb it tn mn cx cy ∧ HiA cI L f own bs T dn FT la cl V VX VY tn ∧ StA L f own bs T fN FT fe la sp SA wh of9 we ∧ LsA cO L f own e0 ea n9 SA ∧ NmA bs dn T ft fN FT ∧ ∀ q, q < ft → FA q = some (fe q)
/-- between two calls -/
def shB (cI cO : ClassId) (L : List Nat) (f : Nat → va_E) (e0 : Nat) (FA : Nat → Option Nat) (ea : Nat) (bs dn T ft : Nat) (FT : Nat → Nat) (V : Nat → Nat → Nat → Int32) (VX VY : Nat → Nat → Int32) (tn rk wd tw pa pb wh of9 we kd st gb it mn cx cy : Nat → Int32) : Prop :=
  ∃ (own fe cl : Nat → Nat) (la : Nat → Nat → Nat) (sp : Nat → Nat) (SA : Nat → Option Nat), shG cI cO L f e0 FA ea T own fe cl la (la dn) (fun _ => 0) sp (fun _ => .null) SA bs dn T ft (FT T) FT V VX VY tn rk wd tw pa pb wh of9 we kd st gb it mn cx cy ∧ HiD dn ft V VX VY kd st gb it tn mn cx cy ∧ ft = FT dn ∧ loG cI L f own fe (la dn) (fun _ => 0) la bs dn T ft (FT T) FT V (V dn)
/-- in a step: how it stood at dn is kept; md says which features have changed -/
def mdA (dn ft : Nat) (FT : Nat → Nat) (la : Nat → Nat → Nat) (nw md : Nat → Nat) (fm : Nat → Value) (V : Nat → Nat → Nat → Int32) (kd st gb it : Nat → Int32) : Prop :=
  ∀ q, q < ft → (md q = 0 → fm q = .null ∧ nw q = la dn q ∧ (q < FT dn → V dn 0 q = kd q ∧ V dn 1 q = st q ∧ V dn 2 q = gb q ∧ V dn 3 q = it q)) ∧ (¬ md q = 0 → fm q = .ref (la dn q) ∧ q < FT dn ∧ ¬ (V dn 1 q).toInt = 0 ∧ ¬ (st q).toInt = 0)
section
variable {P : Nat → Prop} {cI cO : ClassId} {L L1 : List Nat} {f f1 : Nat → va_E} {own own1 : Nat → Nat} {e0 ea n9 : Nat} {FA : Nat → Option Nat} {fe cl nw md sp : Nat → Nat} {la : Nat → Nat → Nat} {fm : Nat → Value} {SA : Nat → Option Nat} {bs dn T ft fN : Nat} {FT : Nat → Nat} {V : Nat → Nat → Nat → Int32} {VX VY : Nat → Nat → Int32} {tn rk wd tw pa pb wh of9 we kd st gb it mn cx cy : Nat → Int32}
theorem FeA_kp (h : kpT P L f own L1 f1 own1) (hp : ∀ q, q < fN → P (8 * q) ∧ P (8 * q + 1)) (hf : FeA cI L f own fN fe nw cl fm rk wd tw pa pb) : FeA cI L1 f1 own1 fN fe nw cl fm rk wd tw pa pb := fun q hq => feG_kp h (hp q hq).1 (hp q hq).2 (hf q hq)
theorem NwA_kp (h : kpT P L f own L1 f1 own1) (hp : ∀ q, q < ft → P (glM (md q) q) ∧ P (grM (md q) q)) (hf : NwA cI L f own ft nw cl md kd st gb it tn mn cx cy) : NwA cI L1 f1 own1 ft nw cl md kd st gb it tn mn cx cy := fun q hq => lkG_kp h (hp q hq).1 (hp q hq).2 (hf q hq)
theorem HiA_kp (h : kpT P L f own L1 f1 own1) (hp : ∀ t q, bs ≤ t → t ≤ T → q < FT t → P (8 * q + 2) ∧ P (8 * q + 3)) (hf : HiA cI L f own bs T dn FT la cl V VX VY tn) : HiA cI L1 f1 own1 bs T dn FT la cl V VX VY tn := fun t h1 h2 q hq =>
  ⟨fun h3 => lkG_kp h (hp t q h1 h2 hq).1 (hp t q h1 h2 hq).2 ((hf t h1 h2 q hq).1 h3), (hf t h1 h2 q hq).2⟩
theorem StA_kp (h : kpT P L f own L1 f1 own1) (hp : P 8003 ∧ P 8001) (hf : StA L f own bs T fN FT fe la sp SA wh of9 we) : StA L1 f1 own1 bs T fN FT fe la sp SA wh of9 we := fun t h1 h2 => by
  obtain ⟨g1, mv, ch, g2, g3⟩ := hf t h1 h2
  refine ⟨g1, mv, ch, h _ _ _ hp.2 g2, fun h3 => ?_⟩
  obtain ⟨⟨qs, g4, g5⟩, g6⟩ := g3 h3
  exact ⟨⟨qs, chn_kp h hp.1 g4, g5⟩, g6⟩
theorem LsA_kp (h : kpT P L f own L1 f1 own1) (hp : P 8001 ∧ P 8002) (hf : LsA cO L f own e0 ea n9 SA) : LsA cO L1 f1 own1 e0 ea n9 SA := by
  rcases hf with g | ⟨cap, g1, g2, g3, g4, g5⟩
  · exact Or.inl g
  · refine Or.inr ⟨cap, h _ _ _ hp.2 g1, g2, g3, g4, fun i hi => ?_⟩
    obtain ⟨y, vs, h1, h2⟩ := g5 i hi
    exact ⟨y, vs, h1, h _ _ _ hp.1 h2⟩
theorem StA_mono (h4 : StA L f own bs T fN FT fe la sp SA wh of9 we) : ∀ k t, bs ≤ t → t + k ≤ T → FT t ≤ FT (t + k) := by
  intro k
  induction k with
  | zero => intro t _ _; exact Nat.le_refl _
  | succ k ih =>
    intro t t1 t2
    have h5 := ih t t1 (by omega)
    obtain ⟨_, mv, ch, _, g⟩ := h4 (t + k + 1) (by omega) (by omega)
    have h6 := (g (by omega)).2
    rw [show t + k + 1 - 1 = t + k by omega] at h6
    rw [show t + (k + 1) = t + k + 1 by omega]
    omega
theorem StA_le (h4 : StA L f own bs T fN FT fe la sp SA wh of9 we) {t u : Nat} (h1 : bs ≤ t) (h2 : t ≤ u) (h3 : u ≤ T) : FT t ≤ FT u := by
  have := StA_mono h4 (u - t) t h1 (by omega)
  rw [show t + (u - t) = u by omega] at this; exact this
/-- the history behind a position may be forgotten -/
theorem StA_sub {T1 fN1 : Nat} (h : StA L f own bs T fN FT fe la sp SA wh of9 we) (h1 : T1 ≤ T) (h2 : fN1 ≤ fN) : StA L f own bs T1 fN1 FT fe la sp SA wh of9 we := by
  intro t t1 t2
  obtain ⟨g1, mv, ch, g2, g3⟩ := h t t1 (by omega)
  refine ⟨g1, mv, ch, g2, fun hb => ?_⟩
  obtain ⟨⟨qs, g4, g5, g6⟩, g7⟩ := g3 hb
  exact ⟨⟨qs, g4, g5, fun q hq hn => g6 q (by omega) hn⟩, g7⟩
/-- what others see of a feature -/
theorem sh_vw {cs : va_W} {q : Nat} (hF : FeA cI L f own fN fe nw cl fm rk wd tw pa pb) (hN : NwA cI L f own ft nw cl md kd st gb it tn mn cx cy) (hA : ∀ q, q < ft → FA q = some (fe q)) (hf : ft ≤ fN) (hq : q < ft) (hc : ∀ c ∈ cs, own c.1 / 8 ≠ q) : vwO cI (outPl L cs) f FA kd st tn mn cx cy q := by
  have hg : ∀ g, g / 8 = q → ∀ c ∈ cs, own c.1 ≠ g := fun g hg c h1 e => hc c h1 (by rw [e]; exact hg)
  have t1 : glM (md q) q / 8 = q := by unfold glM; split <;> omega
  have t2 : grM (md q) q / 8 = q := by unfold grM; split <;> omega
  obtain ⟨lo, lx, ly, ln, LX, LY, f1, f2, f3⟩ := hF q (by omega)
  have f1 := ce_out f1 (hg _ (by omega))
  obtain ⟨we, rv, n1, n2, n3, n4, n5⟩ := hN q hq
  have n1 := ce_out n1 (hg _ t1)
  have hfa := hA q hq
  refine ⟨⟨fe q, nw q, lo, rk q, wd q, tw q, pa q, pb q, gb q, it q, nI we, fm q, rv, hfa, ce_pl f1, ce_pl n1⟩, fun h0 => ?_, fun h0 => ?_⟩
  · have e := n4 h0
    subst e
    exact ⟨fe q, nw q, lo, rk q, wd q, tw q, pa q, pb q, gb q, it q, nI we, fm q, hfa, ce_pl f1, ce_pl n1⟩
  · obtain ⟨r, rx, ry, cap, X, Y, e, r1, r2, r3, r4, r5, r6⟩ := n5 h0
    subst e
    refine ⟨fe q, nw q, lo, rk q, wd q, tw q, pa q, pb q, gb q, it q, nI we, fm q, r, rx, ry, cap, X, Y, rgK (kd q).toInt, hfa, ce_pl f1, ce_pl n1, ⟨ce_pl (ce_out r1.1 (hg _ t2)), ce_pl (ce_out r1.2.1 (hg _ t2)), ce_pl (ce_out r1.2.2.1 (hg _ t2)), r1.2.2.2⟩, r2, r3, rgK_01 _, ?_, r5⟩
    unfold rgK; split <;> rfl
theorem outPl_nil : outPl L [] = L := by unfold outPl; simp
theorem shB_vw (h : shB cI cO L f e0 FA ea bs dn T ft FT V VX VY tn rk wd tw pa pb wh of9 we kd st gb it mn cx cy) : ∀ q, q < ft → vwO cI L f FA kd st tn mn cx cy q := by
  obtain ⟨own, fe, cl, la, sp, SA, ⟨h1, h2, h3, h4, h5, h6, h7⟩, h8, h9⟩ := h
  intro q hq
  have := sh_vw (cs := []) h1 h2 h7 h6.2.2.2.2.1 hq (fun c hc => by cases hc)
  rw [outPl_nil] at this
  exact this
end
end
section
/-! what a change makes of the relation -/
def upN {α : Type} (f : Nat → α) (k : Nat) (v : α) : Nat → α := fun j => if j = k then v else f j
theorem upN_at {α : Type} {f : Nat → α} {k : Nat} {v : α} : upN f k v k = v := if_pos rfl
theorem upN_o {α : Type} {f : Nat → α} {k j : Nat} {v : α} (h : j ≠ k) : upN f k v j = f j := if_neg h
/-- the kinds of cells that a change of feature q leaves alone -/
def notQ (q g : Nat) : Prop := g ≠ 8 * q ∧ g ≠ 8 * q + 1 ∧ g ≠ 8 * q + 4 ∧ g ≠ 8 * q + 5
/-- arrays that differ at q alone -/
def othS (q : Nat) (kd st gb it mn cx cy kd1 st1 gb1 it1 mn1 cx1 cy1 : Nat → Int32) : Prop :=
  ∀ p, p ≠ q → kd1 p = kd p ∧ st1 p = st p ∧ gb1 p = gb p ∧ it1 p = it p ∧ mn1 p = mn p ∧ ∀ k, k < 40 → cF40 cx1 p k = cF40 cx p k ∧ cF40 cy1 p k = cF40 cy p k
section
variable {P : Nat → Prop} {cI cO : ClassId} {L L1 : List Nat} {f f1 : Nat → va_E} {own own1 : Nat → Nat} {e0 ea n9 : Nat} {FA : Nat → Option Nat} {fe cl nw md sp : Nat → Nat} {la : Nat → Nat → Nat} {fm : Nat → Value} {SA : Nat → Option Nat} {bs dn T ft fN : Nat} {FT : Nat → Nat} {V : Nat → Nat → Nat → Int32} {VX VY : Nat → Nat → Int32} {tn rk wd tw pa pb wh of9 we kd st gb it mn cx cy kd1 st1 gb1 it1 mn1 cx1 cy1 : Nat → Int32}
/-- one feature has changed -/
theorem M_new {q nq m : Nat} (h : shG cI cO L f e0 FA ea n9 own fe cl la nw md sp fm SA bs dn dn ft ft FT V VX VY tn rk wd tw pa pb wh of9 we kd st gb it mn cx cy) (hM : mdA dn ft FT la nw md fm V kd st gb it) (hk : kpT (notQ q) L f own L1 f1 own1)
    (hfe : feG cI L1 f1 own1 q (fe q) nq (cl q) (.ref (la dn q)) (rk q) (wd q) (tw q) (pa q) (pb q)) (hlk : lkG cI L1 f1 own1 (glM m q) (grM m q) nq (cl q) (kd1 q) (st1 q) (gb1 q) (it1 q) (tn q) (nN (mn1 q)) (cF40 cx1 q) (cF40 cy1 q))
    (ho : othS q kd st gb it mn cx cy kd1 st1 gb1 it1 mn1 cx1 cy1) (hm : ¬ m = 0) (hq : q < ft) (hqd : q < FT dn) (hs : ¬ (V dn 1 q).toInt = 0) (hs1 : ¬ (st1 q).toInt = 0) :
    shG cI cO L1 f1 e0 FA ea n9 own1 fe cl la (upN nw q nq) (upN md q m) sp (upN fm q (.ref (la dn q))) SA bs dn dn ft ft FT V VX VY tn rk wd tw pa pb wh of9 we kd1 st1 gb1 it1 mn1 cx1 cy1 ∧ mdA dn ft FT la (upN nw q nq) (upN md q m) (upN fm q (.ref (la dn q))) V kd1 st1 gb1 it1 := by
  obtain ⟨h1, h2, h3, h4, h5, h6, h7⟩ := h
  have fN200 := h6.2.2.2.2.2
  refine ⟨⟨fun p hp => ?_, fun p hp => ?_, HiA_kp hk (fun t p t1 t2 hp => ⟨⟨by omega, by omega, by omega, by omega⟩, ⟨by omega, by omega, by omega, by omega⟩⟩) h3, StA_kp hk ⟨⟨by omega, by omega, by omega, by omega⟩, ⟨by omega, by omega, by omega, by omega⟩⟩ h4, LsA_kp hk ⟨⟨by omega, by omega, by omega, by omega⟩, ⟨by omega, by omega, by omega, by omega⟩⟩ h5, h6, h7⟩, fun p hp => ?_⟩
  · by_cases e : p = q
    · rw [e, upN_at, upN_at]; exact hfe
    · rw [upN_o e, upN_o e]; exact feG_kp hk ⟨by omega, by omega, by omega, by omega⟩ ⟨by omega, by omega, by omega, by omega⟩ (h1 p hp)
  · by_cases e : p = q
    · rw [e, upN_at, upN_at]; exact hlk
    · obtain ⟨a1, a2, a3, a4, a5, a6⟩ := ho p e
      rw [upN_o e, upN_o e, a1, a2, a3, a4, a5]
      refine lkG_cg a6 (lkG_kp hk ?_ ?_ (h2 p hp))
      · unfold glM; split <;> exact ⟨by omega, by omega, by omega, by omega⟩
      · unfold grM; split <;> exact ⟨by omega, by omega, by omega, by omega⟩
  · by_cases e : p = q
    · rw [e, upN_at, upN_at, upN_at]; exact ⟨fun g => absurd g hm, fun _ => ⟨rfl, hqd, hs, hs1⟩⟩
    · obtain ⟨a1, a2, a3, a4, a5, a6⟩ := ho p e
      rw [upN_o e, upN_o e, upN_o e, a1, a2, a3, a4]
      exact hM p hp
def vC (gh : Nat → Nat → Int32) (kd st gb it mn : Nat → Int32) (j q : Nat) : Int32 := match j with
  | 0 => kd q | 1 => st q | 2 => gb q | 3 => it q | 4 => mn q | i + 5 => gh (i + 5) q
/-- a step is booked -/
def rtG (g : Nat) : Nat := if g % 8 = 4 ∨ g % 8 = 5 then g - 2 else g
theorem ce_rt {g a : Nat} {e : va_E} (h : ce L f own g a e) : ce L f (fun b => rtG (own b)) (rtG g) a e := ⟨h.1, h.2.1, by show rtG (own a) = _; rw [h.2.2]⟩
theorem rwG_rt {g r rx ry n cap : Nat} {X Y : Nat → Int32} {rg : Int32} (h : rwG cI L f own g r rx ry n cap X Y rg) : rwG cI L f (fun b => rtG (own b)) (rtG g) r rx ry n cap X Y rg := ⟨ce_rt h.1, ce_rt h.2.1, ce_rt h.2.2.1, h.2.2.2⟩
theorem lkG_rt {gl gr a c : Nat} {kd st gb it tn : Int32} {n : Nat} {C D : Nat → Int32} (h : lkG cI L f own gl gr a c kd st gb it tn n C D) : lkG cI L f (fun b => rtG (own b)) (rtG gl) (rtG gr) a c kd st gb it tn n C D := by
  obtain ⟨we, rv, h1, h2, h3, h4⟩ := h
  refine ⟨we, rv, ce_rt h1, h2, h3, h4.1, fun h0 => ?_⟩
  obtain ⟨r, rx, ry, cap, X, Y, g1, g2, g3⟩ := h4.2 h0
  exact ⟨r, rx, ry, cap, X, Y, g1, rwG_rt g2, g3⟩
theorem feG_rt {q a nq c : Nat} {fv : Value} {rk wd tw pa pb : Int32} (h : feG cI L f own q a nq c fv rk wd tw pa pb) : feG cI L f (fun b => rtG (own b)) q a nq c fv rk wd tw pa pb := by
  obtain ⟨lo, lx, ly, ln, LX, LY, h1, h2, h3⟩ := h
  have e1 : rtG (8 * q) = 8 * q := by unfold rtG; rw [if_neg (by omega)]
  have e2 : rtG (8 * q + 1) = 8 * q + 1 := by unfold rtG; rw [if_neg (by omega)]
  refine ⟨lo, lx, ly, ln, LX, LY, ?_, ?_, h3⟩
  · have := ce_rt h1; rw [e1] at this; exact this
  · have := rwG_rt h2; rw [e2] at this; exact this
theorem rt_k : kpT (fun g => ¬ (g % 8 = 4 ∨ g % 8 = 5)) L f own L f (fun b => rtG (own b)) := fun g a e hp h => by
  have := ce_rt h
  unfold rtG at this
  rw [if_neg hp] at this
  exact this
end
/-! what went, and what a change makes of it -/
section
variable {P : Nat → Prop} {cI : ClassId} {L L1 : List Nat} {f f1 : Nat → va_E} {own own1 : Nat → Nat} {fe cl nw md : Nat → Nat} {la : Nat → Nat → Nat} {bs dn T ft fN : Nat} {FT : Nat → Nat} {V : Nat → Nat → Nat → Int32} {g g1 : Nat → Nat → Int32} {kd st gb it mn : Nat → Int32}
theorem loG_kp (hk : kpT P L f own L1 f1 own1) (hp : ∀ q, q < fN → P (8 * q) ∧ P (8 * q + 1) ∧ P (8 * q + 2) ∧ (q < ft → P (glM (md q) q))) (h : loG cI L f own fe nw md la bs dn T ft fN FT V g) : loG cI L1 f1 own1 fe nw md la bs dn T ft fN FT V g := by
  intro q hq
  obtain ⟨ln, wn, LX, LY, w, a1, a2, a3, a4⟩ := h q hq
  obtain ⟨p1, p2, p3, p4⟩ := hp q hq
  exact ⟨ln, wn, LX, LY, w, loQ_kp hk p1 p2 a1, fun h1 => ⟨(a2 h1).1, weQ_kp hk (p4 h1) (a2 h1).2.1, (a2 h1).2.2⟩, fun t t1 t2 t3 => ⟨(a3 t t1 t2 t3).1, weQ_kp hk p3 (a3 t t1 t2 t3).2.1, (a3 t t1 t2 t3).2.2⟩, a4⟩
/-- features' own cells are written anew, but not what went -/
theorem loG_K (hK : loK cI L f own L1 f1 own1 fN fe) (hk : kpT P L f own L1 f1 own1) (hp : ∀ q, q < fN → P (8 * q + 2) ∧ (q < ft → P (glM (md q) q))) (h : loG cI L f own fe nw md la bs dn T ft fN FT V g) : loG cI L1 f1 own1 fe nw md la bs dn T ft fN FT V g := by
  intro q hq
  obtain ⟨ln, wn, LX, LY, w, a1, a2, a3, a4⟩ := h q hq
  obtain ⟨p3, p4⟩ := hp q hq
  exact ⟨ln, wn, LX, LY, w, hK q hq _ _ _ a1, fun h1 => ⟨(a2 h1).1, weQ_kp hk (p4 h1) (a2 h1).2.1, (a2 h1).2.2⟩, fun t t1 t2 t3 => ⟨(a3 t t1 t2 t3).1, weQ_kp hk p3 (a3 t t1 t2 t3).2.1, (a3 t t1 t2 t3).2.2⟩, a4⟩
/-- a step begins -/
theorem lo_0 (h : loG cI L f own fe nw md la bs dn T ft fN FT V g) (h1 : ft ≤ fN) (h2 : dn ≤ T) : loG cI L f own fe nw md la bs dn dn ft ft FT V g := by
  intro q hq
  obtain ⟨ln, wn, LX, LY, w, a1, a2, a3, a4⟩ := h q (by omega)
  exact ⟨ln, wn, LX, LY, w, a1, a2, fun t t1 t2 t3 => ⟨(a3 t t1 (by omega) t3).1, (a3 t t1 (by omega) t3).2.1, (a3 t t1 (by omega) t3).2.2.1, fun u u1 u2 => (a3 t t1 (by omega) t3).2.2.2 u u1 (by omega)⟩, a4⟩
theorem lo_W (h : loG cI L f own fe nw (fun _ => 0) la bs dn T ft fN FT V g) (h1 : ft ≤ fN) : loW cI L f own fe nw ft g := by
  intro q hq
  obtain ⟨ln, wn, LX, LY, w, a1, a2, a3, a4⟩ := h q (by omega)
  exact ⟨ln, wn, LX, LY, a1, (a2 hq).1, (a2 hq).2.1, (a2 hq).2.2⟩
theorem gE_v {LX LY : Nat → Int32} {w q : Nat} (h : gE LX LY w g q) : gE LX LY w (vC g kd st gb it mn) q := ⟨h.1, fun i hi => h.2 i hi⟩
/-- nothing of the past is kept -/
theorem lo_S (h : loW cI L f own fe nw ft g) : loG cI L f own fe nw (fun _ => 0) (fun _ => nw) dn dn dn ft ft (fun _ => ft) (fun _ => vC g kd st gb it mn) (vC g kd st gb it mn) := by
  intro q hq
  obtain ⟨ln, wn, LX, LY, a1, a2, a3, a4⟩ := h q hq
  exact ⟨ln, wn, LX, LY, fun _ => wn, a1, fun _ => ⟨a2, a3, gE_v a4⟩, fun t _ _ _ => ⟨a2, a3, gE_v a4, fun _ _ _ => Nat.le_refl _⟩, fun _ _ _ _ _ => Nat.le_refl _⟩
theorem loW_kp {q : Nat} (hk : kpT P L f own L1 f1 own1) (hp : ∀ p, p < ft → P (8 * p) ∧ P (8 * p + 1) ∧ (p ≠ q → P (8 * p + 2))) (hq : ∀ w, weQ L f own (8 * q + 2) (nw q) w → weQ L1 f1 own1 (8 * q + 2) (nw q) w) (h : loW cI L f own fe nw ft g) : loW cI L1 f1 own1 fe nw ft g := by
  intro p hp1
  obtain ⟨ln, wn, LX, LY, a1, a2, a3, a4⟩ := h p hp1
  obtain ⟨p1, p2, p3⟩ := hp p hp1
  refine ⟨ln, wn, LX, LY, loQ_kp hk p1 p2 a1, a2, ?_, a4⟩
  by_cases e : p = q
  · subst e; exact hq wn a3
  · exact weQ_kp hk (p3 e) a3
/-- one more feature, from which nothing went -/
theorem loW_f {fq nq : Nat} {LX LY : Nat → Int32} (h : loW cI L f own fe nw ft g) (hk : kpT P L f own L1 f1 own1) (hp : ∀ p, p < ft → P (8 * p) ∧ P (8 * p + 1) ∧ P (8 * p + 2)) (h1 : loQ cI L1 f1 own1 ft fq 0 LX LY) (h2 : weQ L1 f1 own1 (8 * ft + 2) nq 0) (h3 : g1 5 ft = 0) (h4 : ∀ p, p ≠ ft → ∀ j, g1 j p = g j p) : loW cI L1 f1 own1 (upN fe ft fq) (upN nw ft nq) (ft + 1) g1 := by
  intro p hp1
  by_cases e : p = ft
  · subst e
    rw [upN_at, upN_at]
    exact ⟨0, 0, LX, LY, h1, Nat.le_refl _, h2, h3, fun i hi => absurd hi (Nat.not_lt_zero i)⟩
  · rw [upN_o e, upN_o e]
    obtain ⟨ln, wn, LX, LY, a1, a2, a3, a4⟩ := h p (by omega)
    obtain ⟨p1, p2, p3⟩ := hp p (by omega)
    exact ⟨ln, wn, LX, LY, loQ_kp hk p1 p2 a1, a2, weQ_kp hk p3 a3, gE_g a4 (fun j _ => h4 p e j)⟩
/-- one feature has changed in a step -/
theorem loN {q nq m ln ln1 we we1 : Nat} {LX LY LX1 LY1 : Nat → Int32} (h : loG cI L f own fe nw md la bs dn dn ft ft FT V g) (hk : kpT (notQ q) L f own L1 f1 own1) (ho : loQ cI L f own q (fe q) ln LX LY) (hw : weQ L f own (glM (md q) q) (nw q) we) (ho1 : loQ cI L1 f1 own1 q (fe q) ln1 LX1 LY1) (hw1 : weQ L1 f1 own1 (glM m q) nq we1) (hE : gE LX1 LY1 we1 g1 q) (hp : ∀ i, i < we → LX1 i = LX i ∧ LY1 i = LY i) (hwe : we ≤ we1 ∧ we1 ≤ ln1) (hg : ∀ p, p ≠ q → ∀ j, g1 j p = g j p) (hq : q < ft) : loG cI L1 f1 own1 fe (upN nw q nq) (upN md q m) la bs dn dn ft ft FT V g1 := by
  intro p hp1
  obtain ⟨ln', wn', LX', LY', w, a1, a2, a3, a4⟩ := h p hp1
  by_cases e : p = q
  · subst e
    obtain ⟨e1, e2, e3⟩ := loQ_u ho a1
    subst e1
    subst e2
    subst e3
    obtain ⟨b1, b2, b3⟩ := a2 hp1
    have e4 := weQ_u hw b2
    subst e4
    refine ⟨ln1, we1, LX1, LY1, w, ho1, fun _ => ⟨hwe.2, by rw [upN_at, upN_at]; exact hw1, hE⟩, fun t t1 t2 t3 => ?_, fun t t1 t2 t3 t4 => ?_⟩
    · have h9 := a4 t t1 t2 t3 hp1
      obtain ⟨c1, c2, c3, c4⟩ := a3 t t1 t2 t3
      exact ⟨by omega, weQ_kp hk ⟨by omega, by omega, by omega, by omega⟩ c2, gE_p c3 (fun i hi => hp i (by omega)), c4⟩
    · have h9 := a4 t t1 t2 t3 hp1
      omega
  · refine ⟨ln', wn', LX', LY', w, loQ_kp hk ⟨by omega, by omega, by omega, by omega⟩ ⟨by omega, by omega, by omega, by omega⟩ a1, fun h1 => ?_, fun t t1 t2 t3 => ?_, a4⟩
    · obtain ⟨b1, b2, b3⟩ := a2 h1
      rw [upN_o e, upN_o e]
      refine ⟨b1, weQ_kp hk ?_ b2, gE_g b3 (fun j _ => hg p e j)⟩
      unfold glM; split <;> exact ⟨by omega, by omega, by omega, by omega⟩
    · obtain ⟨c1, c2, c3, c4⟩ := a3 t t1 t2 t3
      exact ⟨c1, weQ_kp hk ⟨by omega, by omega, by omega, by omega⟩ c2, c3, c4⟩
/-- what a feature's cells say -/
theorem lo_at {q ln we cap lo lx ly : Nat} {LX LY : Nat → Int32} {a1 a2 a3 a4 a5 b1 b2 c1 c2 c3 c4 c5 : Value} {g0 g2 g3 : Nat} (h : loG cI L f own fe nw md la bs dn T ft fN FT V g) (hf : ft ≤ fN) (hq : q < ft) (h1 : ce L f own g0 (fe q) (.inr (1, [a1, a2, a3, a4, a5, .ref lo, b1, b2]))) (h2 : rwG cI L f own g2 lo lx ly ln cap LX LY 0) (h3 : ln ≤ 40) (h4 : ce L f own g3 (nw q) (.inr (4, [c1, c2, c3, c4, c5, .int (nI we)]))) (h5 : we ≤ 40) : gE LX LY we g q ∧ we ≤ ln := by
  obtain ⟨ln', wn', LX', LY', w, d1, d2, d3, d4⟩ := h q (by omega)
  obtain ⟨e1, e2, e3⟩ := loQ_c d1 h1 h2 h3
  obtain ⟨i1, i2, i3⟩ := d2 hq
  have e4 := weQ_c i2 h4 h5
  rw [e2, e3, e4, e1]
  exact ⟨i3, i1⟩
/-- a house is made -/
theorem lo_M {fq nq : Nat} {LX LY : Nat → Int32} (h : loG cI L f own fe nw md la bs dn dn ft ft FT V g) (hk : kpT (fun _ => True) L f own L1 f1 own1) (hF : ∀ t, bs ≤ t → t ≤ dn → FT t ≤ ft) (hmd : md ft = 0) (h1 : loQ cI L1 f1 own1 ft fq 0 LX LY) (h2 : weQ L1 f1 own1 (8 * ft + 2) nq 0) (h3 : g1 5 ft = 0) (h4 : ∀ p, p ≠ ft → ∀ j, g1 j p = g j p) : loG cI L1 f1 own1 (upN fe ft fq) (upN nw ft nq) md (fun t => upN (la t) ft nq) bs dn dn (ft + 1) (ft + 1) FT V g1 := by
  intro p hp1
  by_cases e : p = ft
  · subst e
    simp only [upN_at]
    refine ⟨0, 0, LX, LY, fun _ => 0, h1, fun _ => ⟨Nat.le_refl _, by rw [hmd]; exact h2, h3, fun i hi => absurd hi (Nat.not_lt_zero i)⟩, fun t t1 t2 t3 => ?_, fun _ _ _ _ _ => Nat.le_refl _⟩
    have := hF t t1 t2
    exact absurd t3 (by omega)
  · obtain ⟨ln, wn, LX, LY, w, a1, a2, a3, a4⟩ := h p (by omega)
    simp only [upN_o e]
    refine ⟨ln, wn, LX, LY, w, loQ_kp hk trivial trivial a1, fun _ => ?_, fun t t1 t2 t3 => ?_, fun t t1 t2 t3 t4 => a4 t t1 t2 t3 (by omega)⟩
    · obtain ⟨b1, b2, b3⟩ := a2 (by omega)
      exact ⟨b1, weQ_kp hk trivial b2, gE_g b3 (fun j _ => h4 p e j)⟩
    · obtain ⟨c1, c2, c3, c4⟩ := a3 t t1 t2 t3
      exact ⟨c1, weQ_kp hk trivial c2, c3, c4⟩
theorem loQ_rt {q fe9 ln : Nat} {LX LY : Nat → Int32} (h : loQ cI L f own q fe9 ln LX LY) : loQ cI L f (fun b => rtG (own b)) q fe9 ln LX LY := by
  obtain ⟨a1, a2, a3, a4, a5, b1, b2, lo, lx, ly, cap, g1, g2, g3⟩ := h
  have e1 : rtG (8 * q) = 8 * q := by unfold rtG; rw [if_neg (by omega)]
  have e2 : rtG (8 * q + 1) = 8 * q + 1 := by unfold rtG; rw [if_neg (by omega)]
  refine ⟨a1, a2, a3, a4, a5, b1, b2, lo, lx, ly, cap, ?_, ?_, g3⟩
  · have := ce_rt g1; rw [e1] at this; exact this
  · have := rwG_rt g2; rw [e2] at this; exact this
theorem weQ_rt {g9 a w : Nat} (h : weQ L f own g9 a w) : weQ L f (fun b => rtG (own b)) (rtG g9) a w := by
  obtain ⟨g0, c1, c2, c3, c4, c5, g1⟩ := h
  exact ⟨g0, c1, c2, c3, c4, c5, ce_rt g1⟩
/-- a step is booked -/
theorem lo_B (h : loG cI L f own fe nw md la bs dn dn ft ft FT V g) (hF : ∀ t, bs ≤ t → t ≤ dn → FT t ≤ ft) : loG cI L f (fun b => rtG (own b)) fe (upN la (dn + 1) nw (dn + 1)) (fun _ => 0) (upN la (dn + 1) nw) bs (dn + 1) (dn + 1) ft (upN FT (dn + 1) ft (dn + 1)) (upN FT (dn + 1) ft) (upN V (dn + 1) (vC g kd st gb it mn)) (upN V (dn + 1) (vC g kd st gb it mn) (dn + 1)) := by
  rw [upN_at, upN_at, upN_at]
  intro q hq
  obtain ⟨ln, wn, LX, LY, w, a1, a2, a3, a4⟩ := h q hq
  obtain ⟨b1, b2, b3⟩ := a2 hq
  have e1 : rtG (glM (md q) q) = 8 * q + 2 := by unfold rtG glM; split <;> split <;> omega
  have e2 : rtG (8 * q + 2) = 8 * q + 2 := by unfold rtG; rw [if_neg (by omega)]
  have b4 := weQ_rt b2
  rw [e1] at b4
  refine ⟨ln, wn, LX, LY, upN w (dn + 1) wn, loQ_rt a1, fun _ => ⟨b1, b4, gE_v b3⟩, fun t t1 t2 t3 => ?_, fun t t1 t2 t3 _ => ?_⟩
  · by_cases e : t = dn + 1
    · subst e
      simp only [upN_at]
      exact ⟨b1, b4, gE_v b3, fun u u1 u2 => by rw [show u = dn + 1 by omega, upN_at]; exact Nat.le_refl _⟩
    · simp only [upN_o e] at t3 ⊢
      obtain ⟨c1, c2, c3, c4⟩ := a3 t t1 (by omega) t3
      have c5 := weQ_rt c2
      rw [e2] at c5
      refine ⟨c1, c5, c3, fun u u1 u2 => ?_⟩
      by_cases e3 : u = dn + 1
      · rw [e3, upN_at]; exact a4 t t1 (by omega) t3 hq
      · rw [upN_o e3]; exact c4 u u1 (by omega)
  · by_cases e : t = dn + 1
    · rw [e, upN_at]; exact Nat.le_refl _
    · rw [upN_o e] at t3 ⊢; exact a4 t t1 (by omega) t3 hq
/-- position d is taken up -/
theorem lo_U {d ft1 : Nat} (h : loG cI L f own fe nw md la bs dn T ft fN FT V g) (hK : loK cI L f own L1 f1 own1 fN fe) (hk : kpT P L f own L1 f1 own1) (hp : ∀ q, q < fN → P (8 * q + 2)) (hd1 : bs ≤ d) (hd2 : d ≤ T) (e1 : ft1 = FT d) : loG cI L1 f1 own1 fe (la d) (fun _ => 0) la bs d T ft1 fN FT V (V d) := by
  intro q hq
  obtain ⟨ln, wn, LX, LY, w, a1, a2, a3, a4⟩ := h q hq
  refine ⟨ln, w d, LX, LY, w, hK q hq _ _ _ a1, fun h1 => ?_, fun t t1 t2 t3 => ?_, fun t t1 t2 t3 _ => ?_⟩
  · obtain ⟨c1, c2, c3, c4⟩ := a3 d hd1 hd2 (by omega)
    exact ⟨c1, weQ_kp hk (hp q hq) c2, c3⟩
  · obtain ⟨c1, c2, c3, c4⟩ := a3 t t1 t2 t3
    exact ⟨c1, weQ_kp hk (hp q hq) c2, c3, c4⟩
  · exact (a3 t t1 (by omega) t3).2.2.2 d t2 hd2
end
/-! what went from a feature between two states of the numbers -/
def gL (g g1 : Nat → Nat → Int32) (q n : Nat) (X Y : Nat → Int32) (m : Nat) (P Q : Nat → Int32) : Prop :=
  ∃ w w1 : Nat, g 5 q = nI w ∧ g1 5 q = nI w1 ∧ w1 ≤ 40 ∧ lsC w w1 (fun i => g (i + 6) q) (fun i => g (i + 50) q) (fun i => g1 (i + 6) q) (fun i => g1 (i + 50) q) n X Y m P Q
theorem lsC_a {a w n m : Nat} {A B LX LY A1 B1 LX1 LY1 X Y P Q : Nat → Int32} (ha : ∀ i, i < a → A i = A1 i ∧ B i = B1 i) (hl : ∀ i, i < w → LX i = LX1 i ∧ LY i = LY1 i) (h : lsC a w A B LX LY n X Y m P Q) : lsC a w A1 B1 LX1 LY1 n X Y m P Q := by
  obtain ⟨g1, g2, g3, g4, g5⟩ := h
  refine ⟨fun i hi => ⟨(hl i (by omega)).1.symm.trans ((g1 i hi).1.trans (ha i hi).1), (hl i (by omega)).2.symm.trans ((g1 i hi).2.trans (ha i hi).2)⟩, g2, fun x y => Iff.trans ⟨?_, ?_⟩ (g3 x y), g4, g5⟩
  · rintro ⟨i, h1, h2, e1, e2⟩; exact ⟨i, h1, h2, (hl i h2).1.trans e1, (hl i h2).2.trans e2⟩
  · rintro ⟨i, h1, h2, e1, e2⟩; exact ⟨i, h1, h2, (hl i h2).1.symm.trans e1, (hl i h2).2.symm.trans e2⟩
theorem gL_i {w w1 q n m : Nat} {A B LX LY X Y P Q : Nat → Int32} {g g1 : Nat → Nat → Int32} (h : lsC w w1 A B LX LY n X Y m P Q) (h1 : gE A B w g q) (h2 : gE LX LY w1 g1 q) (h3 : w1 ≤ 40) : gL g g1 q n X Y m P Q :=
  ⟨w, w1, h1.1, h2.1, h3, lsC_a h1.2 h2.2 h⟩
theorem gL_t {q n m r : Nat} {X Y P Q U S : Nat → Int32} {g g1 g2 : Nat → Nat → Int32} (h : gL g g1 q n X Y m P Q) (h2 : gL g1 g2 q m P Q r U S) : gL g g2 q n X Y r U S := by
  obtain ⟨w, w1, a1, a2, a3, a4⟩ := h
  obtain ⟨v, v1, b1, b2, b3, b4⟩ := h2
  have hv : v ≤ v1 := b4.2.1
  have e := congrArg nN (a2.symm.trans b1)
  rw [nN_n9 (by omega), nN_n9 (by omega)] at e
  subst e
  exact ⟨w, v1, a1, b2, b3, lsC_t a4 b4⟩
theorem gL_cg {q n m : Nat} {X Y P Q X1 Y1 P1 Q1 : Nat → Int32} {g g1 : Nat → Nat → Int32} (hx : ∀ j, j < n → X j = X1 j ∧ Y j = Y1 j) (hp : ∀ j, j < m → P j = P1 j ∧ Q j = Q1 j) (h : gL g g1 q n X Y m P Q) : gL g g1 q n X1 Y1 m P1 Q1 := by
  obtain ⟨w, w1, a1, a2, a3, a4⟩ := h
  exact ⟨w, w1, a1, a2, a3, lsC_cg hx hp a4⟩
theorem gL_o {q n m : Nat} {X Y P Q : Nat → Int32} {g g1 g2 : Nat → Nat → Int32} (hg : ∀ j, g2 j q = g1 j q) (h : gL g g1 q n X Y m P Q) : gL g g2 q n X Y m P Q := by
  obtain ⟨w, w1, a1, a2, a3, a4⟩ := h
  exact ⟨w, w1, a1, (hg 5).trans a2, a3, lsC_a (fun _ _ => ⟨rfl, rfl⟩) (fun i _ => ⟨(hg (i + 6)).symm, (hg (i + 50)).symm⟩) a4⟩
section
variable {P : Nat → Prop} {cI cO : ClassId} {L L1 : List Nat} {f f1 : Nat → va_E} {own own1 : Nat → Nat} {e0 ea n9 : Nat} {FA : Nat → Option Nat} {fe cl nw md sp : Nat → Nat} {la : Nat → Nat → Nat} {fm : Nat → Value} {SA : Nat → Option Nat} {bs dn T ft fN : Nat} {FT : Nat → Nat} {V : Nat → Nat → Nat → Int32} {VX VY : Nat → Nat → Int32} {tn rk wd tw pa pb wh of9 we kd st gb it mn cx cy kd1 st1 gb1 it1 mn1 cx1 cy1 : Nat → Int32}
variable {gh gh1 : Nat → Nat → Int32}
/-- nothing of the past is kept -/
theorem S_new (h1 : FeA cI L f own ft fe nw cl (fun _ => .null) rk wd tw pa pb) (h2 : NwA cI L f own ft nw cl (fun _ => 0) kd st gb it tn mn cx cy) (h4 : StA L f own dn dn ft FT fe la sp SA wh of9 we) (h5 : LsA cO L f own e0 ea dn SA) (h7 : ∀ q, q < ft → FA q = some (fe q)) (hft : ft ≤ 200) (hdn : dn ≤ 512) (hW : loW cI L f own fe nw ft gh) :
    shB cI cO L f e0 FA ea dn dn dn ft (fun _ => ft) (fun _ => vC gh kd st gb it mn) (fun _ => cx) (fun _ => cy) tn rk wd tw pa pb wh of9 we kd st gb it mn cx cy := by
  refine ⟨own, fe, cl, fun _ => nw, sp, SA, ⟨h1, h2, fun t t1 t2 q hq => ⟨fun g => h2 q hq, fun _ => ⟨rfl, hq, rfl, rfl, rfl, rfl⟩⟩, fun t t1 t2 => ?_, h5, ⟨Nat.le_refl _, Nat.le_refl _, hdn, fun _ _ _ => Nat.le_refl _, Nat.le_refl _, hft⟩, h7⟩, fun q hq => ⟨rfl, rfl, rfl, rfl, fun _ _ => ⟨rfl, fun k hk => ⟨rfl, rfl⟩⟩⟩, rfl, lo_S hW⟩
  obtain ⟨g1, mv, ch, g2, g3⟩ := h4 t t1 t2
  exact ⟨g1, mv, ch, g2, fun hb => by omega⟩
theorem B_new {sq : Nat} {chv mv : Value} {qs : List Nat} {SA1 : Nat → Option Nat} {wq oq aq : Int32} (h1 : FeA cI L f own ft fe nw cl (fun _ => .null) rk wd tw pa pb) (h2 : NwA cI L f own ft nw cl md kd st gb it tn mn cx cy) (h3 : HiA cI L f own bs dn dn FT la cl V VX VY tn) (h4 : StA L f own bs dn ft FT fe la sp SA wh of9 we) (h5 : LsA cO L f own e0 ea (dn + 1) SA1) (hbs : bs ≤ dn) (hdn : dn + 1 ≤ 512) (hft : ft ≤ 200) (hF : ∀ t, bs ≤ t → t ≤ dn → FT t ≤ ft) (h7 : ∀ q, q < ft → FA q = some (fe q))
    (hM : ∀ q, q < ft → (md q = 0 → nw q = la dn q ∧ (q < FT dn → V dn 0 q = kd q ∧ V dn 1 q = st q ∧ V dn 2 q = gb q ∧ V dn 3 q = it q)) ∧ (¬ md q = 0 → q < FT dn ∧ ¬ (V dn 1 q).toInt = 0 ∧ ¬ (st q).toInt = 0)) (hnew : ∀ q, FT dn ≤ q → q < ft → ¬ (st q).toInt = 0)
    (hSA : ∀ i, i < dn → SA1 i = SA i) (hsq : SA1 dn = some sq) (hstep : ce L f own 8001 sq (.inr (11, [.int wq, .int oq, .int aq, mv, chv]))) (hch : chn L f own fe (la dn) nw chv qs) (hq1 : ∀ q ∈ qs, q < FT dn) (hq2 : ∀ q, q < ft → ¬ md q = 0 → q ∈ qs)
    (hmv : (ft = FT dn ∧ mv = .null) ∨ (ft = FT dn + 1 ∧ mv = .ref (fe (FT dn)))) (hO : loG cI L f own fe nw md la bs dn dn ft ft FT V gh) :
    shB cI cO L f e0 FA ea bs (dn + 1) (dn + 1) ft (upN FT (dn + 1) ft) (upN V (dn + 1) (vC gh kd st gb it mn)) (upN VX (dn + 1) cx) (upN VY (dn + 1) cy) tn rk wd tw pa pb (upd wh (dn + 1) wq) (upd of9 (dn + 1) oq) (upd we (dn + 1) aq) kd st gb it mn cx cy := by
  have eF : upN FT (dn + 1) ft (dn + 1) = ft := upN_at
  have k8 : ∀ g, g = 8001 ∨ g = 8002 ∨ g = 8003 → ¬ (g % 8 = 4 ∨ g % 8 = 5) := fun g hg => by omega
  refine ⟨fun b => rtG (own b), fe, cl, upN la (dn + 1) nw, upN sp (dn + 1) sq, SA1, ⟨?_, ?_, ?_, ?_, LsA_kp rt_k ⟨k8 _ (by omega), k8 _ (by omega)⟩ h5, ⟨by omega, Nat.le_refl _, hdn, ?_, by rw [eF]; exact Nat.le_refl _, by rw [eF]; exact hft⟩, h7⟩, ?_, eF.symm, lo_B hO hF⟩
  · rw [eF, upN_at]; exact fun q hq => feG_rt (h1 q hq)
  · rw [upN_at]
    intro q hq
    have := lkG_rt (h2 q hq)
    have e1 : rtG (glM (md q) q) = glM 0 q := by unfold rtG glM; split <;> split <;> simp <;> omega
    have e2 : rtG (grM (md q) q) = grM 0 q := by unfold rtG grM; split <;> split <;> simp <;> omega
    rw [e1, e2] at this; exact this
  · intro t t1 t2 q hq
    by_cases e : t = dn + 1
    · subst e
      simp only [upN_at] at hq ⊢
      have hbs9 : bs ≠ dn + 1 := by omega
      simp only [upN_o hbs9]
      refine ⟨fun _ => ?_, fun h0 => ⟨trivial, ?_, trivial, trivial, trivial, trivial⟩⟩
      rotate_left
      · have h0 : (st q).toInt = 0 := by
          rcases h0 with h0 | h0
          · exact h0
          · exact h0.2
        have hm : md q = 0 := Classical.byContradiction fun hm => ((hM q hq).2 hm).2.2 h0
        have hd : q < FT dn := Classical.byContradiction fun hd => hnew q (by omega) hq h0
        exact ((h3 dn hbs (Nat.le_refl _) q hd).2 (Or.inl (by rw [(((hM q hq).1 hm).2 hd).2.1]; exact h0))).2.1
      have := lkG_rt (h2 q hq)
      have e1 : rtG (glM (md q) q) = 8 * q + 2 := by unfold rtG glM; split <;> split <;> omega
      have e2 : rtG (grM (md q) q) = 8 * q + 3 := by unfold rtG grM; split <;> split <;> omega
      rw [e1, e2] at this; exact this
    · have ht : t ≤ dn := by omega
      simp only [upN_at, upN_o e] at hq ⊢
      have g := h3 t t1 ht q hq
      refine ⟨fun h0 => lkG_kp rt_k (by omega) (by omega) (g.1 h0), fun h0 => ?_⟩
      have hqf : q < ft := Nat.lt_of_lt_of_le hq (hF t t1 ht)
      have hqd : q < FT dn ∧ ((V t 1 q).toInt = 0 ∨ (q < FT dn ∧ (V dn 1 q).toInt = 0)) ∧ md q = 0 := by
        rcases h0 with h0 | ⟨_, h0⟩
        · have g2 := g.2 (Or.inl h0)
          refine ⟨Nat.lt_of_lt_of_le g2.2.1 (StA_le h4 (Nat.le_refl _) hbs (Nat.le_refl _)), Or.inl h0, Classical.byContradiction fun hm => ((hM q hqf).2 hm).2.1 ?_⟩
          rw [← g2.2.2.2.1]; exact h0
        · have h0 : (st q).toInt = 0 := h0
          have hm : md q = 0 := Classical.byContradiction fun hm => ((hM q hqf).2 hm).2.2 h0
          have hd : q < FT dn := Classical.byContradiction fun hd => hnew q (by omega) hqf h0
          exact ⟨hd, Or.inr ⟨hd, by rw [(((hM q hqf).1 hm).2 hd).2.1]; exact h0⟩, hm⟩
      obtain ⟨hd, h0, hm⟩ := hqd
      have g2 := g.2 h0
      have g3 := (hM q hqf).1 hm
      have g4 := g3.2 hd
      have hbs9 : bs ≠ dn + 1 := by omega
      simp only [upN_o hbs9]
      exact ⟨by rw [g2.1, g3.1], g2.2.1, g2.2.2.1.trans g4.1, g2.2.2.2.1.trans g4.2.1, g2.2.2.2.2.1.trans g4.2.2.1, g2.2.2.2.2.2.trans g4.2.2.2⟩
  · rw [eF]
    intro t t1 t2
    by_cases e : t = dn + 1
    · subst e
      simp only [show dn + 1 - 1 = dn by omega, upN_at, upN_o (show dn ≠ dn + 1 by omega)]
      refine ⟨hsq, mv, chv, ?_, fun _ => ⟨⟨qs, chn_kp rt_k (k8 _ (by omega)) hch, hq1, fun q hq hn => ?_⟩, hmv⟩⟩
      · rw [show upd wh (dn + 1) wq (dn + 1) = wq from up_at _ _ _, show upd of9 (dn + 1) oq (dn + 1) = oq from up_at _ _ _, show upd we (dn + 1) aq (dn + 1) = aq from up_at _ _ _]
        exact rt_k _ _ _ (k8 _ (by omega)) hstep
      · have hm : md q = 0 := Classical.byContradiction fun hm => hn (hq2 q hq hm)
        exact (((hM q hq).1 hm).1).symm
    · have ht : t ≤ dn := by omega
      obtain ⟨g1, m1, c1, g2, g3⟩ := StA_kp rt_k ⟨k8 _ (by omega), k8 _ (by omega)⟩ h4 t t1 ht
      simp only [upN_o e, upN_o (show t - 1 ≠ dn + 1 by omega)]
      rw [show upd wh (dn + 1) wq t = wh t from if_neg e, show upd of9 (dn + 1) oq t = of9 t from if_neg e, show upd we (dn + 1) aq t = we t from if_neg e]
      exact ⟨by rw [hSA _ (by omega)]; exact g1, m1, c1, g2, g3⟩
  · intro t t1 t2
    rw [eF]
    by_cases e : t = dn + 1
    · rw [e, eF]; exact Nat.le_refl _
    · rw [upN_o e]; exact hF t t1 (by omega)
  · intro q hq
    exact ⟨by rw [upN_at]; rfl, by rw [upN_at]; rfl, by rw [upN_at]; rfl, by rw [upN_at]; rfl, fun _ _ => ⟨by rw [upN_at]; rfl, fun k hk => ⟨by rw [upN_at], by rw [upN_at]⟩⟩⟩
end
end
section
/-! a house is made; a position is taken up again -/
section
variable {P : Nat → Prop} {cI cO : ClassId} {L L1 : List Nat} {f f1 : Nat → va_E} {own own1 : Nat → Nat} {e0 ea n9 : Nat} {FA : Nat → Option Nat} {fe cl nw md sp : Nat → Nat} {la : Nat → Nat → Nat} {fm : Nat → Value} {SA : Nat → Option Nat} {bs dn T ft fN : Nat} {FT : Nat → Nat} {V : Nat → Nat → Nat → Int32} {VX VY : Nat → Nat → Int32} {tn rk wd tw pa pb wh of9 we kd st gb it mn cx cy kd1 st1 gb1 it1 mn1 cx1 cy1 tn1 rk1 wd1 tw1 pa1 pb1 : Nat → Int32}
variable {gh gh1 : Nat → Nat → Int32}
theorem M_made {fq nq c : Nat} (h : shG cI cO L f e0 FA ea n9 own fe cl la nw md sp fm SA bs dn dn ft ft FT V VX VY tn rk wd tw pa pb wh of9 we kd st gb it mn cx cy) (hM : mdA dn ft FT la nw md fm V kd st gb it) (hft : ft = FT dn) (h200 : ft < 200) (hk : kpT (fun _ => True) L f own L1 f1 own1)
    (hfe : feG cI L1 f1 own1 ft fq nq c .null (rk1 ft) (wd1 ft) (tw1 ft) (pa1 ft) (pb1 ft)) (hlk : lkG cI L1 f1 own1 (8 * ft + 2) (8 * ft + 3) nq c (kd1 ft) (st1 ft) (gb1 ft) (it1 ft) (tn1 ft) (nN (mn1 ft)) (cF40 cx1 ft) (cF40 cy1 ft))
    (ho : othS ft kd st gb it mn cx cy kd1 st1 gb1 it1 mn1 cx1 cy1) (hp : ∀ p, p ≠ ft → tn1 p = tn p ∧ rk1 p = rk p ∧ wd1 p = wd p ∧ tw1 p = tw p ∧ pa1 p = pa p ∧ pb1 p = pb p) (hmd : md ft = 0) :
    shG cI cO L1 f1 e0 (va_up FA ft (some fq)) ea n9 own1 (upN fe ft fq) (upN cl ft c) (fun t => upN (la t) ft nq) (upN nw ft nq) md sp (upN fm ft .null) SA bs dn dn (ft + 1) (ft + 1) FT V VX VY tn1 rk1 wd1 tw1 pa1 pb1 wh of9 we kd1 st1 gb1 it1 mn1 cx1 cy1 ∧ mdA dn (ft + 1) FT (fun t => upN (la t) ft nq) (upN nw ft nq) md (upN fm ft .null) V kd1 st1 gb1 it1 := by
  obtain ⟨h1, h2, h3, h4, h5, ⟨m1, m2, m3, m4, m5, m6⟩, h7⟩ := h
  have tr : ∀ g : Nat, (fun _ : Nat => True) g := fun _ => trivial
  refine ⟨⟨fun p hp1 => ?_, fun p hp1 => ?_, fun t t1 t2 p hp1 => ?_, fun t t1 t2 => ?_, LsA_kp hk ⟨trivial, trivial⟩ h5, ⟨m1, m2, m3, fun t t1 t2 => by have := m4 t t1 t2; omega, Nat.le_refl _, by omega⟩, fun p hp1 => ?_⟩, fun p hp1 => ?_⟩
  · by_cases e : p = ft
    · rw [e]; simp only [upN_at]; exact hfe
    · obtain ⟨a1, a2, a3, a4, a5, a6⟩ := hp p e
      simp only [upN_o e]; rw [a2, a3, a4, a5, a6]
      exact feG_kp hk trivial trivial (h1 p (by omega))
  · by_cases e : p = ft
    · rw [e, hmd]; simp only [upN_at]; exact hlk
    · obtain ⟨a1, a2, a3, a4, a5, a6⟩ := ho p e
      simp only [upN_o e]; rw [a1, a2, a3, a4, a5, (hp p e).1]
      exact lkG_cg a6 (lkG_kp hk trivial trivial (h2 p (by omega)))
  · have hp2 := m4 t t1 t2
    have e : p ≠ ft := by omega
    have g := h3 t t1 t2 p hp1
    simp only [upN_o e]
    rw [(hp p e).1]
    exact ⟨fun h0 => lkG_kp hk trivial trivial (g.1 h0), g.2⟩
  · obtain ⟨g1, mv, ch, g2, g3⟩ := StA_kp hk ⟨trivial, trivial⟩ h4 t t1 t2
    refine ⟨g1, mv, ch, g2, fun hb => ?_⟩
    obtain ⟨⟨qs, g4, g5, g6⟩, g7⟩ := g3 hb
    have hm := m4 (t - 1) (by omega) (by omega)
    have hm2 := m4 t (by omega) t2
    refine ⟨⟨qs, chn_cg (fun q hq => ?_) g4, g5, fun q hq hn => ?_⟩, ?_⟩
    · have e : q ≠ ft := by have := g5 q hq; omega
      simp only [upN_o e]; exact ⟨trivial, trivial, trivial⟩
    · by_cases e : q = ft
      · rw [e]; simp only [upN_at]
      · simp only [upN_o e]; exact g6 q (by omega) hn
    · rcases g7 with g7 | g7
      · exact Or.inl g7
      · refine Or.inr ⟨g7.1, ?_⟩
        rw [upN_o (by omega)]; exact g7.2
  · by_cases e : p = ft
    · rw [e, upN_at]; unfold va_up; rw [if_pos rfl]
    · rw [upN_o e]; unfold va_up; rw [if_neg e]; exact h7 p (by omega)
  · by_cases e : p = ft
    · rw [e]; simp only [upN_at]
      exact ⟨fun _ => ⟨trivial, trivial, fun g => by omega⟩, fun g => absurd hmd g⟩
    · obtain ⟨a1, a2, a3, a4, a5, a6⟩ := ho p e
      simp only [upN_o e]; rw [a1, a2, a3, a4]
      exact hM p (by omega)
/-- position d is taken up: features look as they did then -/
theorem U_pos {d ft1 : Nat} {FA1 : Nat → Option Nat} (h1 : FeA cI L1 f1 own1 (FT T) fe (la d) cl (fun _ => .null) rk wd tw pa pb) (hk : kpT (fun g => ¬ g % 8 = 0) L f own L1 f1 own1)
    (h : shG cI cO L f e0 FA ea T own fe cl la (la dn) (fun _ => 0) sp (fun _ => .null) SA bs dn T ft (FT T) FT V VX VY tn rk wd tw pa pb wh of9 we kd st gb it mn cx cy) (hD : HiD dn ft V VX VY kd st gb it tn mn cx cy) (hft : ft = FT dn) (hd1 : bs ≤ d) (hd2 : d ≤ T) (e1 : ft1 = FT d) (h7 : ∀ q, q < ft1 → FA1 q = some (fe q))
    (hc : ∀ q, q < ft1 → kd1 q = V d 0 q ∧ st1 q = V d 1 q ∧ gb1 q = V d 2 q ∧ it1 q = V d 3 q ∧ ((¬ (V d 1 q).toInt = 0 ∧ (tn q).toInt = 0) → nN (mn1 q) = nN (V d 4 q) ∧ ∀ k, k < nN (V d 4 q) → cF40 cx1 q k = cF40 (VX d) q k ∧ cF40 cy1 q k = cF40 (VY d) q k) ∧ ((V d 1 q).toInt = 0 → mn1 q = mn q ∧ ∀ k, k < 40 → cF40 cx1 q k = cF40 cx q k ∧ cF40 cy1 q k = cF40 cy q k)) (hO : loG cI L f own fe (la dn) (fun _ => 0) la bs dn T ft (FT T) FT V (V dn)) (hK : loK cI L f own L1 f1 own1 (FT T) fe) :
    shB cI cO L1 f1 e0 FA1 ea bs d T ft1 FT V VX VY tn rk wd tw pa pb wh of9 we kd1 st1 gb1 it1 mn1 cx1 cy1 := by
  obtain ⟨g1, g2, g3, g4, g5, ⟨m1, m2, m3, m4, m5, m6⟩, g7⟩ := h
  have p8 : ∀ g, g = 8001 ∨ g = 8002 ∨ g = 8003 → ¬ g % 8 = 0 := fun g hg => by omega
  have h3 := HiA_kp hk (fun t q _ _ _ => ⟨by omega, by omega⟩) g3
  refine ⟨own1, fe, cl, la, sp, SA, ⟨h1, fun q hq => ?_, fun t t1 t2 q hq => ⟨(h3 t t1 t2 q hq).1, fun h0 => ?_⟩, StA_kp hk ⟨p8 _ (by omega), p8 _ (by omega)⟩ g4, LsA_kp hk ⟨p8 _ (by omega), p8 _ (by omega)⟩ g5, ⟨hd1, hd2, m3, m4, by rw [e1]; exact m4 d hd1 hd2, m6⟩, h7⟩, fun q hq => ?_, e1, lo_U hO hK hk (fun q hq => by omega) hd1 hd2 e1⟩
  · obtain ⟨c1, c2, c3, c4, c5, c6⟩ := hc q hq
    have hqd : q < FT d := by rw [← e1]; exact hq
    rw [c1, c2, c3, c4]
    by_cases s0 : (V d 1 q).toInt = 0
    · have w := (h3 d hd1 hd2 q hqd).2 (Or.inl s0)
      have hq2 : q < ft := by rw [hft]; exact Nat.lt_of_lt_of_le w.2.1 (StA_le g4 (Nat.le_refl _) m1 m2)
      have dd := hD q hq2
      have w2 := lkG_kp hk (by unfold glM; split <;> omega) (by unfold grM; split <;> omega) (g2 q hq2)
      rw [(c6 s0).1, w.1, w.2.2.1, w.2.2.2.1, w.2.2.2.2.1, w.2.2.2.2.2, dd.1, dd.2.1, dd.2.2.1, dd.2.2.2.1]
      exact lkG_cg (c6 s0).2 w2
    · have w := (h3 d hd1 hd2 q hqd).1 s0
      by_cases t0 : (tn q).toInt = 0
      · obtain ⟨n1, n2⟩ := c5 ⟨s0, t0⟩
        rw [n1]
        obtain ⟨we9, rv, w1, w2, w3, w4⟩ := w
        refine ⟨we9, rv, w1, w2, w3, w4.1, fun z => ?_⟩
        obtain ⟨r, rx, ry, cap, X, Y, v1, v2, v3, v4, v5, v6, v7⟩ := w4.2 z
        exact ⟨r, rx, ry, cap, X, Y, v1, v2, v3, v4, v5, fun k hk2 => by rw [(n2 k hk2).1, (n2 k hk2).2]; exact v6 k hk2, v7⟩
      · exact lkG_tn t0 w
  · -- those that are open
    have h0' : (V t 1 q).toInt = 0 ∨ (q < FT dn ∧ (V dn 1 q).toInt = 0) := by
      rcases h0 with h0 | ⟨hqd, h0⟩
      · exact Or.inl h0
      · have w := (h3 d hd1 hd2 q hqd).2 (Or.inl h0)
        exact Or.inr ⟨Nat.lt_of_lt_of_le w.2.1 (StA_le g4 (Nat.le_refl _) m1 m2), by rw [← w.2.2.2.1]; exact h0⟩
    have a := (h3 t t1 t2 q hq).2 h0'
    have hd0 : (V dn 1 q).toInt = 0 := by
      rcases h0' with z | z
      · rw [← a.2.2.2.1]; exact z
      · exact z.2
    have hqd : q < FT d := Nat.lt_of_lt_of_le a.2.1 (StA_le g4 (Nat.le_refl _) hd1 hd2)
    have hqn : q < FT dn := Nat.lt_of_lt_of_le a.2.1 (StA_le g4 (Nat.le_refl _) m1 m2)
    have b := (h3 d hd1 hd2 q hqd).2 (Or.inr ⟨hqn, hd0⟩)
    exact ⟨a.1.trans b.1.symm, a.2.1, a.2.2.1.trans b.2.2.1.symm, a.2.2.2.1.trans b.2.2.2.1.symm, a.2.2.2.2.1.trans b.2.2.2.2.1.symm, a.2.2.2.2.2.trans b.2.2.2.2.2.symm⟩
  · obtain ⟨c1, c2, c3, c4, c5, c6⟩ := hc q hq
    exact ⟨c1.symm, c2.symm, c3.symm, c4.symm, fun s0 t0 => by rw [c2] at s0; obtain ⟨n1, n2⟩ := c5 ⟨s0, t0⟩; exact ⟨n1.symm, fun k hk2 => by rw [n1] at hk2; exact ⟨(n2 k hk2).1.symm, (n2 k hk2).2.symm⟩⟩⟩
end
end
section
/-! booking a step: the loop over the features, the list -/
theorem ii_pre {n : Nat} (h : n < 2147483648) : nI n - 1 = iI (((n : Nat) : Int) - 1) := iI_of (by
  have h1 := nI_toInt (n := n) (by omega)
  have h2 : (1 : Int32).toInt = 1 := by decide
  rw [fb_subI (by rw [h1, h2]; omega) (by rw [h1, h2]; omega), h1, h2])
theorem ii_dec {z : Int} (h : -2147483647 ≤ z ∧ z < 2147483648) : iI z + Int32.ofInt (-1) = iI (z - 1) := iI_of (by
  have h1 := iI_toInt (z := z) (by omega)
  have h2 : (Int32.ofInt (-1)).toInt = -1 := by decide
  rw [fb_addI (by rw [h1, h2]; omega) (by rw [h1, h2]; omega), h1, h2]; omega)
theorem ii_nat {z : Int} {n : Nat} (h : z = ((n : Nat) : Int)) (hn : n < 2147483648) : iI z = nI n := by
  rw [h]; exact (iI_of (nI_toInt (by omega))).symm
def fmB (i : Nat) (fm : Nat → Value) : Nat → Value := fun q => if q < i then .null else fm q
theorem fmB_0 (fm : Nat → Value) : fmB 0 fm = fm := funext fun q => if_neg (Nat.not_lt_zero q)
section
variable {P : Nat → Prop} {cI cO : ClassId} {L L1 : List Nat} {f f1 : Nat → va_E} {own own1 : Nat → Nat} {e0 ea n9 : Nat} {FA : Nat → Option Nat} {fe cl nw md sp : Nat → Nat} {la : Nat → Nat → Nat} {fm : Nat → Value} {SA : Nat → Option Nat} {bs dn T ft fN : Nat} {FT : Nat → Nat} {V : Nat → Nat → Nat → Int32} {VX VY : Nat → Nat → Int32} {tn rk wd tw pa pb wh of9 we kd st gb it mn cx cy : Nat → Int32}
variable {gh gh1 : Nat → Nat → Int32}
theorem fmB_e {i : Nat} (hF : FeA cI L f own i fe nw cl (fmB i fm) rk wd tw pa pb) : FeA cI L f own i fe nw cl (fun _ => .null) rk wd tw pa pb := fun q hq => by
  have := hF q hq
  unfold fmB at this
  rw [if_pos hq] at this
  exact this
/-- feature g in the loop -/
theorem bk_sp {g : Nat} (hF : FeA cI L f own ft fe nw cl (fmB g fm) rk wd tw pa pb) (hM : mdA dn ft FT la nw md fm V kd st gb it) (hg : g < ft) :
    (md g = 0 ∧ fm g = .null ∧ ∃ lo, ce L f own (8 * g) (fe g) (.inr (1, [.int (rk g), .int (wd g), .int (tw g), .int (pa g), .int (pb g), .ref lo, .ref (nw g), .null]))) ∨
    (¬ md g = 0 ∧ ∃ lo, ce L f own (8 * g) (fe g) (.inr (1, [.int (rk g), .int (wd g), .int (tw g), .int (pa g), .int (pb g), .ref lo, .ref (nw g), .ref (la dn g)]))) := by
  obtain ⟨lo, lx, ly, ln, LX, LY, h1, _⟩ := hF g hg
  unfold fmB at h1
  rw [if_neg (Nat.lt_irrefl g)] at h1
  by_cases m : md g = 0
  · rw [((hM g hg).1 m).1] at h1; exact Or.inl ⟨m, ((hM g hg).1 m).1, lo, h1⟩
  · rw [((hM g hg).2 m).1] at h1; exact Or.inr ⟨m, lo, h1⟩
theorem bk_F0 {g : Nat} (h0 : fm g = .null) (hF : FeA cI L f own ft fe nw cl (fmB g fm) rk wd tw pa pb) : FeA cI L f own ft fe nw cl (fmB (g + 1) fm) rk wd tw pa pb := fun q hq => by
  have := hF q hq
  unfold fmB at this ⊢
  by_cases e : q < g
  · rw [if_pos e] at this; rw [if_pos (by omega)]; exact this
  · rw [if_neg e] at this
    by_cases e2 : q = g
    · rw [if_pos (by omega)]; rw [e2, h0] at this; rw [e2]; exact this
    · rw [if_neg (by omega)]; exact this
theorem bk_F1 {g lo : Nat} {v : Value} (hF : FeA cI L f own ft fe nw cl (fmB g fm) rk wd tw pa pb) (hk : kpT (fun t => t ≠ 8 * g) L f own L1 f1 own1) (ho : ce L f own (8 * g) (fe g) (.inr (1, [.int (rk g), .int (wd g), .int (tw g), .int (pa g), .int (pb g), .ref lo, .ref (nw g), v]))) (hc : ce L1 f1 own1 (8 * g) (fe g) (.inr (1, [.int (rk g), .int (wd g), .int (tw g), .int (pa g), .int (pb g), .ref lo, .ref (nw g), .null]))) : FeA cI L1 f1 own1 ft fe nw cl (fmB (g + 1) fm) rk wd tw pa pb := fun q hq => by
  have h := hF q hq
  by_cases e2 : q = g
  · subst e2
    obtain ⟨lo2, lx, ly, ln, LX, LY, h1, h2, h3⟩ := h
    have e3 : lo2 = lo := by
      have := h1.2.1.symm.trans ho.2.1
      simp at this
      exact this.1
    subst e3
    refine ⟨lo2, lx, ly, ln, LX, LY, ?_, rwG_kp hk (by omega) h2, h3⟩
    unfold fmB; rw [if_pos (by omega)]; exact hc
  · have h := feG_kp hk (by omega) (by omega) h
    unfold fmB at h ⊢
    by_cases e : q < g
    · rw [if_pos e] at h; rw [if_pos (by omega)]; exact h
    · rw [if_neg e] at h; rw [if_neg (by omega)]; exact h
theorem chn_nc {fe lb la : Nat → Nat} {v : Value} {qs : List Nat} (h : chn L f own fe lb la v qs) : v = .null ∨ ∃ c, v = .ref c := by
  cases qs with
  | nil => exact Or.inl h
  | cons q qs => obtain ⟨c, nx, h1, _⟩ := h; exact Or.inr ⟨c, h1⟩
theorem bk_end {ea1 sq : Nat} {chv mv : Value} {qs : List Nat} {SA1 : Nat → Option Nat} {wq oq aq : Int32} (hG : shG cI cO L f e0 FA ea n9 own fe cl la nw md sp fm SA bs dn dn ft ft FT V VX VY tn rk wd tw pa pb wh of9 we kd st gb it mn cx cy) (hM : mdA dn ft FT la nw md fm V kd st gb it) (hk : kpT (fun g => ¬ g % 8 = 0 ∧ g ≠ 8002) L f own L1 f1 own1)
    (hF : FeA cI L1 f1 own1 ft fe nw cl (fun _ => .null) rk wd tw pa pb) (hL : LsA cO L1 f1 own1 e0 ea1 (dn + 1) SA1) (hdn : dn + 1 ≤ 512) (hnew : ∀ q, FT dn ≤ q → q < ft → ¬ (st q).toInt = 0) (hSA : ∀ i, i < dn → SA1 i = SA i) (hsq : SA1 dn = some sq) (hstep : ce L1 f1 own1 8001 sq (.inr (11, [.int wq, .int oq, .int aq, mv, chv]))) (hch : chn L1 f1 own1 fe (la dn) nw chv qs) (hq : (∀ q ∈ qs, q < ft ∧ ¬ md q = 0) ∧ ∀ q, q < ft → ¬ md q = 0 → q ∈ qs)
    (hmv : (ft = FT dn ∧ mv = .null) ∨ (ft = FT dn + 1 ∧ mv = .ref (fe (FT dn)))) (hO : loG cI L f own fe nw md la bs dn dn ft ft FT V gh) (hK : loK cI L f own L1 f1 own1 ft fe) :
    shB cI cO L1 f1 e0 FA ea1 bs (dn + 1) (dn + 1) ft (upN FT (dn + 1) ft) (upN V (dn + 1) (vC gh kd st gb it mn)) (upN VX (dn + 1) cx) (upN VY (dn + 1) cy) tn rk wd tw pa pb (upd wh (dn + 1) wq) (upd of9 (dn + 1) oq) (upd we (dn + 1) aq) kd st gb it mn cx cy := by
  obtain ⟨h1, h2, h3, h4, h5, ⟨m1, m2, m3, m4, m5, m6⟩, h7⟩ := hG
  refine B_new hF (NwA_kp hk (fun q hq => ⟨?_, ?_⟩) h2) (HiA_kp hk (fun t q t1 t2 hq => ?_) h3) (StA_kp hk ⟨by omega, by omega⟩ h4) hL m1 hdn m6 (fun t t1 t2 => m4 t t1 t2) h7 (fun q hq => ⟨fun g => ⟨((hM q hq).1 g).2.1, ((hM q hq).1 g).2.2⟩, fun g => ((hM q hq).2 g).2⟩) hnew hSA hsq hstep hch (fun q hq2 => ((hM q (hq.1 q hq2).1).2 (hq.1 q hq2).2).2.1) hq.2 hmv (loG_K hK hk (fun q hq => ⟨⟨by omega, by omega⟩, fun _ => ?_⟩) hO)
  · unfold glM; split <;> omega
  · unfold grM; split <;> omega
  · have := m4 t t1 t2; omega
  · unfold glM; split <;> exact ⟨by omega, by omega⟩
end
theorem bk_q0 {g : Nat} {md : Nat → Nat} {qs : List Nat} (h : (∀ q ∈ qs, q < g ∧ ¬ md q = 0) ∧ ∀ q, q < g → ¬ md q = 0 → q ∈ qs) (hm : md g = 0) : (∀ q ∈ qs, q < g + 1 ∧ ¬ md q = 0) ∧ ∀ q, q < g + 1 → ¬ md q = 0 → q ∈ qs :=
  ⟨fun q hq => ⟨by have := (h.1 q hq).1; omega, (h.1 q hq).2⟩, fun q hq hn => by
    by_cases e : q = g
    · rw [e] at hn; exact absurd hm hn
    · exact h.2 q (by omega) hn⟩
theorem bk_q1 {g : Nat} {md : Nat → Nat} {qs : List Nat} (h : (∀ q ∈ qs, q < g ∧ ¬ md q = 0) ∧ ∀ q, q < g → ¬ md q = 0 → q ∈ qs) (hm : ¬ md g = 0) : (∀ q ∈ g :: qs, q < g + 1 ∧ ¬ md q = 0) ∧ ∀ q, q < g + 1 → ¬ md q = 0 → q ∈ g :: qs :=
  ⟨fun q hq => by
    rcases List.mem_cons.mp hq with e | e
    · rw [e]; exact ⟨by omega, hm⟩
    · exact ⟨by have := (h.1 q e).1; omega, (h.1 q e).2⟩, fun q hq hn => by
    by_cases e : q = g
    · rw [e]; exact List.mem_cons_self ..
    · exact List.mem_cons_of_mem _ (h.2 q (by omega) hn)⟩
section
variable {cO : ClassId} {L L1 : List Nat} {f f1 : Nat → va_E} {own own1 : Nat → Nat} {e0 ea n sq cap : Nat} {SA SA1 : Nat → Option Nat}
theorem LsA_3 (h : LsA cO L f own e0 ea n SA) : (ea = e0 ∧ n = 0) ∨ (∃ cap : Nat, ce L f own 8002 ea (.inl (cO, cap, .inr (.inr (.inr (.inr SA))))) ∧ n < cap ∧ 10 ≤ cap ∧ cap ≤ 1000 ∧ ∀ i, i < n → ∃ (y : Nat) (vs : List Value), SA i = some y ∧ ce L f own 8001 y (.inr (11, vs))) ∨
    (ce L f own 8002 ea (.inl (cO, n, .inr (.inr (.inr (.inr SA))))) ∧ 10 ≤ n ∧ ∀ i, i < n → ∃ (y : Nat) (vs : List Value), SA i = some y ∧ ce L f own 8001 y (.inr (11, vs))) := by
  rcases h with h | ⟨cap, h1, h2, h3, h4, h5⟩
  · exact Or.inl h
  · by_cases e : n = cap
    · subst e; exact Or.inr (Or.inr ⟨h1, h3, h5⟩)
    · exact Or.inr (Or.inl ⟨cap, h1, by omega, h3, h4, h5⟩)
theorem LsA_add {vs : List Value} (hc : ce L1 f1 own1 8002 ea (.inl (cO, cap, .inr (.inr (.inr (.inr SA1)))))) (h1 : n + 1 ≤ cap) (h2 : 10 ≤ cap) (h3 : cap ≤ 1000) (hk : kpT (fun g => g ≠ 8002) L f own L1 f1 own1) (he : ∀ i, i < n → ∃ (y : Nat) (vs : List Value), SA i = some y ∧ ce L f own 8001 y (.inr (11, vs))) (hS : ∀ i, i < n → SA1 i = SA i) (hs : SA1 n = some sq) (hst : ce L1 f1 own1 8001 sq (.inr (11, vs))) : LsA cO L1 f1 own1 e0 ea (n + 1) SA1 :=
  Or.inr ⟨cap, hc, h1, h2, h3, fun i hi => by
    by_cases e : i = n
    · subst e; exact ⟨sq, vs, hs, hst⟩
    · obtain ⟨y, v, g1, g2⟩ := he i (by omega)
      exact ⟨y, v, by rw [hS i (by omega)]; exact g1, hk _ _ _ (by omega) g2⟩⟩
theorem up_oN {f : Nat → Option Nat} {k : Nat} {v : Option Nat} : ∀ i, i < k → va_up f k v i = f i := fun i hi => by unfold va_up; rw [if_neg (by omega)]
theorem up_atN {f : Nat → Option Nat} {k : Nat} {v : Option Nat} : va_up f k v k = v := by unfold va_up; rw [if_pos rfl]
theorem up_cpy {f g : Nat → Option Nat} {k : Nat} {v : Option Nat} : ∀ i, i < k → va_up (va_cpy f g 0 0 k) k v i = f i := fun i hi => by
  rw [up_oN i hi]; unfold va_cpy; rw [if_pos (by omega)]; congr 1; omega
end
end
section
set_option maxHeartbeats 4000000 in
set_option maxRecDepth 100000 in
theorem k_forgetUndone (l : Launch) (dC : Nat → ClassId) (dI : Nat → Nat → Nat) (cI cZ cF : ClassId) (sz : Nat) (cO : ClassId) (e0 : Nat) (mi : Nat) (x : Nat) (sh : Nat) (lw : Nat) (ro : Nat) (bq : Nat) (bp : Nat) (dq : Nat) (dp : Nat) (lv : Nat) (sl : Nat) (sd : Int32) (ul : Int32) (su : Int32) (sl : Nat) (ea : Nat) (nz : Nat) (mc9 : Int32) (dn : Nat) (SA : Nat → Option Nat) (L : List Nat) (f : Nat → va_E) (own : Nat → Nat) (hL : LsA cO L f own e0 ea nz SA) (hdn : dn ≤ nz) (hn5 : nz ≤ 512) : zML l yX10_forgetUndone cX10_forgetUndone 2 none ({ frames := 3, cells := 0, slots := 0, locals := 66 } : Room) [.ref x] (dC, dI) (zTyO cI cZ cF cO) e0 mi ([(oc8 x (.ref sh) (.ref lw) (.ref ro) (.ref bq) (.ref bp) (.ref dq) (.ref dp) (.ref lv) (.ref sl) (nI dn) sd ul su), (oc10 sl mc9 (.ref ea) (nI nz))] ++ va_pl L f) sz none (fun A t => ∃ (mc1 : Int32), ∃ (L1 : List Nat), ∃ (f1 : Nat → va_E), ∃ (SA1 : Nat → Option Nat), (LsA cO L1 f1 own e0 ea dn SA1) ∧ (∀ i, i < dn → SA1 i = SA i) ∧ (kpT (fun g => g ≠ 8002) L f own L1 f1 own) ∧ zPD (dC, dI) classes A ([(oc8 x (.ref sh) (.ref lw) (.ref ro) (.ref bq) (.ref bp) (.ref dq) (.ref dp) (.ref lv) (.ref sl) (nI dn) sd ul su), (oc10 sl mc1 (.ref ea) (nI dn))] ++ va_pl L1 f1) t.heap) 0 0 := by
  refine zInL (own := "ScaleShop") (loc := [(0, .ref x)]) rfl rfl rfl rfl (fun p e s m below meth c hx hb hr hts hown hlocks hml hnm9 A hA hS hP hD hK hXL hXN hK3 Q9 hQ9 ls hl => ?_)
  have hL9 := hL
  rcases hL with ⟨hEa, hn0⟩ | ⟨cap5, hce5, hnc5, hc10, hc1k, hent⟩
  · skip
    refine lv_aload_n hx hb dX10_forgetUndone_0 rfl (lv_at hl 0 rfl) ?_
    refine va_get (D := (dC, dI)) (ci := 8) (v := .ref sl) (C := RX10) (T := TX10) (N := 13) hx hb hts inX10 hown hK hP 0 rfl rfl 8 (Nat.le_of_ble_eq_true rfl) (hts _ mw_317) (fun _ h9 => h9) rfl dX10_forgetUndone_1 ?_
    obtain ⟨hPc, hDc, hFc, hI1⟩ := zi_sub (wc := [_]) hP hD hS hA [1] rfl rfl
    refine zcall (st1 := [.int (nI nz)]) (va_runV (As := []) (rest := []) ⟨hx, hb, hml, hown, hts⟩ (k_AL_size l dC dI cI cZ cF s.heap.size sl ea nz mc9 ) (csV_90 hts rfl rfl ⟨Nat.le_of_ble_eq_true rfl, Nat.le_of_ble_eq_true rfl⟩) (zPV2 (q0 := 0) (ci := 10) hPc hDc hK3 hXN rfl rfl) rfl rfl hl.1 rfl (lv_room (Nat.le_of_ble_eq_true rfl)) dX10_forgetUndone_4 ⟨Nat.le_of_ble_eq_true rfl, Nat.le_of_ble_eq_true rfl⟩) hS hFc hFc rfl (fun t H locs ht hB hk1 hS => ?_)
    obtain ⟨hP1, hD1⟩ := hB
    rw [ht] at hP1
    replace hP := z0 hP hD hk1 hP1 hI1
    clear hk1 hPc hDc hFc hP1 hD1 ht hI1
    refine lv_iconst (v := 1) hx hb dX10_forgetUndone_7 rfl ?_
    refine lv_isub hx hb dX10_forgetUndone_8 ?_
    refine zz_i (v := iI (((nz : Nat) : Int) - 1)) (ii_pre (by omega)) ?_
    refine lv_istore_n (lv' := [(1, .int (iI (((nz : Nat) : Int) - 1))), (0, .ref x)]) hx hb dX10_forgetUndone_9 rfl hl (Nat.le_of_ble_eq_true rfl) rfl (fun ls hl => ?_)
    refine lv_iload_n hx hb dX10_forgetUndone_10 rfl (lv_at hl 0 rfl) ?_
    refine lv_aload_n hx hb dX10_forgetUndone_11 rfl (lv_at hl 1 rfl) ?_
    refine va_get (D := (dC, dI)) (ci := 8) (v := .int (nI dn)) (C := RX10) (T := TX10) (N := 13) hx hb hts inX10 hown hK hP 0 rfl rfl 9 (Nat.le_of_ble_eq_true rfl) (hts _ mw_318) (fun _ h9 => h9) rfl dX10_forgetUndone_12 ?_
    have b9_2 : zlt (dn) := show dn < 2147483648 by omega
    refine lv_icmp_lt (tgt := 37) hx hb dX10_forgetUndone_15 rfl (fun c_1 => ?_) (fun c_1 => ?_)
    · have c_1 : (((nz : Nat) : Int) - 1) < ((dn : Nat) : Int) := zc_lt (iI_toInt (by omega)) (nI_toInt b9_2) c_1
      have hnd : nz = dn := (by omega)
      rw [hnd] at hL9
      obtain ⟨hP9, hD9⟩ := zu_part (cx := [(oc8 x (.ref sh) (.ref lw) (.ref ro) (.ref bq) (.ref bp) (.ref dq) (.ref dp) (.ref lv) (.ref sl) (nI dn) sd ul su), (oc10 sl mc9 (.ref ea) (nI nz))]) hP hD [true, true] rfl rfl
      have hE9 : (([(oc8 x (.ref sh) (.ref lw) (.ref ro) (.ref bq) (.ref bp) (.ref dq) (.ref dp) (.ref lv) (.ref sl) (nI dn) sd ul su), (oc10 sl mc9 (.ref ea) (nI nz))] ++ va_pl L f) : va_W) = ([(oc8 x (.ref sh) (.ref lw) (.ref ro) (.ref bq) (.ref bp) (.ref dq) (.ref dp) (.ref lv) (.ref sl) (nI dn) sd ul su), (oc10 sl mc9 (.ref ea) (nI dn))] ++ va_pl L f) := by rw [show nz = dn by omega]
      rw [hE9] at hP9 hD9
      rw [hQ9]
      exact W.vret hx hb hr (fun t ht hW => ⟨⟨rfl, mc9, L, f, SA, (hL9), (fun i hi => rfl), (kpT_rf), by rw [ht]; exact hP9, hD9⟩, hS.F ht⟩) hS.2.2 dX10_forgetUndone_37
    · have c_1 : ((dn : Nat) : Int) ≤ (((nz : Nat) : Int) - 1) := zc_nlt (iI_toInt (by omega)) (nI_toInt b9_2) c_1
      exfalso; omega
  · skip
    have hcap5 : 10 ≤ cap5 ∧ cap5 ≤ 1000 := ⟨hc10, hc1k⟩
    have hc9_1 : inPl L f [(oq ea cO cap5 SA)] := ⟨ce_pl hce5, trivial⟩
    have hD0_1 := hD
    obtain ⟨T_1, hT_1, hP, hD⟩ := pl_oT hP hD hc9_1 (List.pairwise_singleton _ _)
    obtain ⟨hP, hD⟩ := zre (W2 := ([_, _, _] ++ va_pl T_1 f)) hP hD rfl
    refine lv_aload_n hx hb dX10_forgetUndone_0 rfl (lv_at hl 0 rfl) ?_
    refine va_get (D := (dC, dI)) (ci := 8) (v := .ref sl) (C := RX10) (T := TX10) (N := 13) hx hb hts inX10 hown hK hP 0 rfl rfl 8 (Nat.le_of_ble_eq_true rfl) (hts _ mw_317) (fun _ h9 => h9) rfl dX10_forgetUndone_1 ?_
    obtain ⟨hPc, hDc, hFc, hI1⟩ := zi_sub (wc := [_]) hP hD hS hA [1] rfl rfl
    refine zcall (st1 := [.int (nI nz)]) (va_runV (As := []) (rest := []) ⟨hx, hb, hml, hown, hts⟩ (k_AL_size l dC dI cI cZ cF s.heap.size sl ea nz mc9 ) (csV_90 hts rfl rfl ⟨Nat.le_of_ble_eq_true rfl, Nat.le_of_ble_eq_true rfl⟩) (zPV2 (q0 := 0) (ci := 10) hPc hDc hK3 hXN rfl rfl) rfl rfl hl.1 rfl (lv_room (Nat.le_of_ble_eq_true rfl)) dX10_forgetUndone_4 ⟨Nat.le_of_ble_eq_true rfl, Nat.le_of_ble_eq_true rfl⟩) hS hFc hFc rfl (fun t H locs ht hB hk1 hS => ?_)
    obtain ⟨hP1, hD1⟩ := hB
    rw [ht] at hP1
    replace hP := z0 hP hD hk1 hP1 hI1
    clear hk1 hPc hDc hFc hP1 hD1 ht hI1
    refine lv_iconst (v := 1) hx hb dX10_forgetUndone_7 rfl ?_
    refine lv_isub hx hb dX10_forgetUndone_8 ?_
    refine zz_i (v := iI (((nz : Nat) : Int) - 1)) (ii_pre (by omega)) ?_
    refine lv_istore_n (lv' := [(1, .int (iI (((nz : Nat) : Int) - 1))), (0, .ref x)]) hx hb dX10_forgetUndone_9 rfl hl (Nat.le_of_ble_eq_true rfl) rfl (fun ls hl => ?_)
    have hl_10 : ∀ (n9 : Nat) (k5 : Nat) (mc5 : Int32) (SA5 : Nat → Option Nat) (H : Heap) (locs : List Loc) (ls : Array Slot), k5 < n9 → (dn ≤ k5 ∧ k5 ≤ nz) → (∀ i, i < k5 → SA5 i = SA i) → va_P (dC, dI) classes ([(oc8 x (.ref sh) (.ref lw) (.ref ro) (.ref bq) (.ref bp) (.ref dq) (.ref dp) (.ref lv) (.ref sl) (nI dn) sd ul su), (oc10 sl mc5 (.ref ea) (nI k5)), (oq ea cO cap5 SA5)] ++ va_pl T_1 f) H → va_D A ([(oc8 x (.ref sh) (.ref lw) (.ref ro) (.ref bq) (.ref bp) (.ref dq) (.ref dp) (.ref lv) (.ref sl) (nI dn) sd ul su), (oc10 sl mc5 (.ref ea) (nI k5)), (oq ea cO cap5 SA5)] ++ va_pl T_1 f) → va_S A s.heap H locs → lv_has ls 2 [(1, .int (iI (((k5 : Nat) : Int) - 1))), (0, .ref x)] → W p l e ({ frames := 3, cells := 0, slots := 0, locals := 66 } : Room) s m ([.ref x] : List Value).toArray below meth c H locs 0 0 Q9 (F0 m 10 ls []) := by
      intro n9
      induction n9 with
      | zero => intro k5 mc5 SA5 H locs ls hm; exact absurd hm (Nat.not_lt_zero _)
      | succ n9 ih_10 =>
        intro k5 mc5 SA5 H locs ls hm hk5 hsk hP hD hS hl
        refine lv_iload_n hx hb dX10_forgetUndone_10 rfl (lv_at hl 0 rfl) ?_
        refine lv_aload_n hx hb dX10_forgetUndone_11 rfl (lv_at hl 1 rfl) ?_
        refine va_get (D := (dC, dI)) (ci := 8) (v := .int (nI dn)) (C := RX10) (T := TX10) (N := 13) hx hb hts inX10 hown hK hP 0 rfl rfl 9 (Nat.le_of_ble_eq_true rfl) (hts _ mw_318) (fun _ h9 => h9) rfl dX10_forgetUndone_12 ?_
        have b9_4 : zlt (dn) := show dn < 2147483648 by omega
        refine lv_icmp_lt (tgt := 37) hx hb dX10_forgetUndone_15 rfl (fun c_3 => ?_) (fun c_3 => ?_)
        · have c_3 : (((k5 : Nat) : Int) - 1) < ((dn : Nat) : Int) := zc_lt (iI_toInt (by omega)) (nI_toInt b9_4) c_3
          obtain ⟨Lp1, fp1, hP, hD, hpin_1⟩ := pl_pn (X := [_, _]) (old := [_]) (new := []) (cs1 := [_]) (L := L) (cs := [(oq ea cO cap5 SA)]) hT_1 hP hD rfl rfl rfl
          obtain ⟨hfr_1, hkp_1, hce_1, hsx_1, hpw_1⟩ := id hpin_1
          have hkq := hkp_1 own own (fun g => g ≠ 8002) (fun _ _ => rfl) ⟨fun _ hp => absurd hce5.2.2 hp, trivial⟩
          have hLq : LsA cO Lp1 fp1 own e0 ea dn SA5 := Or.inr ⟨cap5, hce_1 own 0 _ _ _ rfl hce5.2.2, by omega, hcap5.1, hcap5.2, fun i hi => by obtain ⟨y, vs, g1, g2⟩ := hent i (by omega); exact ⟨y, vs, by rw [hsk i (by omega)]; exact g1, hkq _ _ _ (by omega) g2⟩⟩
          obtain ⟨hP9, hD9⟩ := zu_part (cx := [(oc8 x (.ref sh) (.ref lw) (.ref ro) (.ref bq) (.ref bp) (.ref dq) (.ref dp) (.ref lv) (.ref sl) (nI dn) sd ul su), (oc10 sl mc5 (.ref ea) (nI k5))]) hP hD [true, true] rfl rfl
          have hE9 : (([(oc8 x (.ref sh) (.ref lw) (.ref ro) (.ref bq) (.ref bp) (.ref dq) (.ref dp) (.ref lv) (.ref sl) (nI dn) sd ul su), (oc10 sl mc5 (.ref ea) (nI k5))] ++ va_pl Lp1 fp1) : va_W) = ([(oc8 x (.ref sh) (.ref lw) (.ref ro) (.ref bq) (.ref bp) (.ref dq) (.ref dp) (.ref lv) (.ref sl) (nI dn) sd ul su), (oc10 sl mc5 (.ref ea) (nI dn))] ++ va_pl Lp1 fp1) := by rw [show k5 = dn by omega]
          rw [hE9] at hP9 hD9
          rw [hQ9]
          exact W.vret hx hb hr (fun t ht hW => ⟨⟨rfl, mc5, Lp1, fp1, SA5, (hLq), (fun i hi => hsk i (by omega)), (hkq), by rw [ht]; exact hP9, hD9⟩, hS.F ht⟩) hS.2.2 dX10_forgetUndone_37
        · have c_3 : ((dn : Nat) : Int) ≤ (((k5 : Nat) : Int) - 1) := zc_nlt (iI_toInt (by omega)) (nI_toInt b9_4) c_3
          refine lv_iload_n hx hb dX10_forgetUndone_18 rfl (lv_at hl 0 rfl) ?_
          refine lv_if_lt (tgt := 37) hx hb dX10_forgetUndone_19 rfl (fun c_5 => ?_) (fun c_5 => ?_)
          · have c_5 : (((k5 : Nat) : Int) - 1) < 0 := zc_lt (iI_toInt (by omega)) rfl c_5
            exfalso; omega
          · have c_5 : 0 ≤ (((k5 : Nat) : Int) - 1) := zc_nlt (iI_toInt (by omega)) rfl c_5
            obtain ⟨j5, hj5⟩ : ∃ j, k5 = j + 1 := ⟨k5 - 1, by omega⟩
            subst hj5
            obtain ⟨y5, vs5, hy5, hcy5⟩ := hent j5 (by omega)
            refine lv_aload_n hx hb dX10_forgetUndone_22 rfl (lv_at hl 1 rfl) ?_
            refine va_get (D := (dC, dI)) (ci := 8) (v := .ref sl) (C := RX10) (T := TX10) (N := 13) hx hb hts inX10 hown hK hP 0 rfl rfl 8 (Nat.le_of_ble_eq_true rfl) (hts _ mw_317) (fun _ h9 => h9) rfl dX10_forgetUndone_23 ?_
            refine lv_iload_n hx hb dX10_forgetUndone_26 rfl (lv_at hl 0 rfl) ?_
            refine zz_i (v := nI j5) (ii_nat (by omega) (by omega)) ?_
            obtain ⟨hPc, hDc, hFc⟩ := zo_sub (wc := [_, _]) hP hD hS hA [1, 2] rfl rfl
            refine zcall (st1 := [.ref y5]) (va_runV (As := [.int (nI j5)]) (rest := []) ⟨hx, hb, hml, hown, hts⟩ (k_AL_remove l dC dI cI cZ cF H.size cO e0 mi sl ea mc5 j5 cap5 y5 SA5 (by rw [hsk j5 (by first | with_reducible assumption | omega)]; exact hy5) (by first | with_reducible assumption | omega) (by first | with_reducible assumption | omega)) (csV_91 hts rfl rfl ⟨Nat.le_of_ble_eq_true rfl, Nat.le_of_ble_eq_true rfl⟩) (zPVL (q0 := 0) (ci := 10) hPc hDc hK hXL hS hFc rfl rfl) rfl rfl hl.1 rfl (lv_room (Nat.le_of_ble_eq_true rfl)) dX10_forgetUndone_27 ⟨Nat.le_of_ble_eq_true rfl, Nat.le_of_ble_eq_true rfl⟩) hS hFc hFc rfl (fun t H locs ht hB hk1 hS => ?_)
            obtain ⟨hP1, hD1⟩ := hB
            rw [ht] at hP1
            obtain ⟨hP, hD⟩ := znQ (W2 := [_, (oc10 sl (mc5 + 1) (.ref ea) (nI j5)), (oq ea cO cap5 (va_up SA5 j5 none))]) hP hD hk1 hFc hP1 hD1 [1, 2] [true] [true, false, false] [1, 2] (by decide +kernel) rfl rfl rfl rfl rfl
            clear hk1 hPc hDc hFc hP1 hD1 ht
            refine lv_pop hx hb dX10_forgetUndone_30 rfl ?_
            refine lv_iinc (v := iI ((((j5 + 1) : Nat) : Int) - 1 - 1)) (lv' := [(1, .int (iI ((((j5 + 1) : Nat) : Int) - 1 - 1))), (0, .ref x)]) hx hb dX10_forgetUndone_31 hl (k := 0) rfl (ii_dec (by omega)) (Nat.le_of_ble_eq_true rfl) rfl (fun ls hl => ?_)
            refine lv_goto (tgt := 10) hx hb dX10_forgetUndone_34 rfl ?_
            have hl9 := lv_sub hl [0, 1] rfl
            have e9_1 : iI (((j5 : Nat) : Int) - 1) = (iI ((((j5 + 1) : Nat) : Int) - 1 - 1) : Int32) := by exact congrArg iI (by omega)
            have hl9 : lv_has ls 2 [(1, .int (iI (((j5 : Nat) : Int) - 1))), (0, .ref x)] := by rw [e9_1]; exact hl9
            exact ih_10 j5 (mc5 + 1) (va_up SA5 j5 none) H locs ls (by first | with_reducible assumption | omega) (by first | with_reducible assumption | omega) (by intro i hi; show (if i = j5 then none else SA5 i) = SA i; rw [if_neg (by first | with_reducible assumption | omega)]; exact hsk i (by first | with_reducible assumption | omega)) hP hD hS hl9
    have e9_1 : iI (((nz : Nat) : Int) - 1) = (iI (((nz : Nat) : Int) - 1) : Int32) := by rfl
    have hl9 : lv_has ls 2 [(1, .int (iI (((nz : Nat) : Int) - 1))), (0, .ref x)] := by rw [e9_1]; exact lv_sub hl [0, 1] rfl
    exact hl_10 _ nz mc9 SA H locs ls (Nat.lt_succ_self _) (by first | with_reducible assumption | omega) (by intro i hi; rfl) hP hD hS hl9
set_option maxHeartbeats 4000000 in
set_option maxRecDepth 100000 in
theorem k_seal (l : Launch) (dC : Nat → ClassId) (dI : Nat → Nat → Nat) (cI cZ cF : ClassId) (sz : Nat) (cO : ClassId) (e0 : Nat) (mi : Nat) (x : Nat) (sh : Nat) (lw : Nat) (ro : Nat) (bq : Nat) (bp : Nat) (dq : Nat) (dp : Nat) (lv : Nat) (sl : Nat) (sd : Int32) (ul : Int32) (su : Int32) (sl : Nat) (ea : Nat) (nz : Nat) (mc9 : Int32) (dn : Nat) (SA : Nat → Option Nat) (L : List Nat) (f : Nat → va_E) (own : Nat → Nat) (hL : LsA cO L f own e0 ea nz SA) (hdn : dn ≤ nz) (hn5 : nz ≤ 512) : zML l yX10_seal cX10_seal 1 (some .boolean) ({ frames := 4, cells := 0, slots := 0, locals := 87 } : Room) [.ref x] (dC, dI) (zTyO cI cZ cF cO) e0 mi ([(oc8 x (.ref sh) (.ref lw) (.ref ro) (.ref bq) (.ref bp) (.ref dq) (.ref dp) (.ref lv) (.ref sl) (nI dn) sd ul su), (oc10 sl mc9 (.ref ea) (nI nz))] ++ va_pl L f) sz (some (.int 1)) (fun A t => ∃ (mc1 : Int32), ∃ (L1 : List Nat), ∃ (f1 : Nat → va_E), ∃ (SA1 : Nat → Option Nat), (LsA cO L1 f1 own e0 ea dn SA1) ∧ (∀ i, i < dn → SA1 i = SA i) ∧ (kpT (fun g => g ≠ 8002) L f own L1 f1 own) ∧ zPD (dC, dI) classes A ([(oc8 x (.ref sh) (.ref lw) (.ref ro) (.ref bq) (.ref bp) (.ref dq) (.ref dp) (.ref lv) (.ref sl) (nI dn) (nI dn) ul 0), (oc10 sl mc1 (.ref ea) (nI dn))] ++ va_pl L1 f1) t.heap) 0 0 := by
  refine zInL (own := "ScaleShop") (loc := [(0, .ref x)]) rfl rfl rfl rfl (fun p e s m below meth c hx hb hr hts hown hlocks hml hnm9 A hA hS hP hD hK hXL hXN hK3 Q9 hQ9 ls hl => ?_)
  refine lv_aload_n hx hb dX10_seal_0 rfl (lv_at hl 0 rfl) ?_
  obtain ⟨hPc, hDc, hFc⟩ := zo_part (cx := [_, _]) hP hD hS hA [0, 1] rfl rfl
  refine zcall (st1 := []) (va_runV (As := []) (rest := []) ⟨hx, hb, hml, hown, hts⟩ (k_forgetUndone l dC dI cI cZ cF s.heap.size cO e0 mi x sh lw ro bq bp dq dp lv sl sd ul su sl ea nz mc9 dn SA L f own (by first | with_reducible assumption | assumption) (by first | with_reducible assumption | omega) (by first | with_reducible assumption | omega)) (csV_92 hts rfl rfl ⟨Nat.le_of_ble_eq_true rfl, Nat.le_of_ble_eq_true rfl⟩) (zPVL (q0 := 0) (ci := 8) hPc hDc hK hXL hS hFc rfl rfl) rfl rfl hl.1 rfl (lv_room (Nat.le_of_ble_eq_true rfl)) dX10_seal_1 ⟨Nat.le_of_ble_eq_true rfl, Nat.le_of_ble_eq_true rfl⟩) hS hFc hFc rfl (fun t H locs ht hB hk1 hS => ?_)
  obtain ⟨mc1, L1, f1, SA1, hL1, hS1, hkA, hP1, hD1⟩ := hB
  rw [ht] at hP1
  obtain ⟨hP, hD⟩ := znP (W2 := [_, (oc10 sl mc1 (.ref ea) (nI dn))]) hP hD hk1 hFc hP1 hD1 [0, 1] [] [false, false] [0, 1] (by decide +kernel) rfl rfl rfl rfl rfl
  clear hk1 hPc hDc hFc hP1 hD1 ht
  refine lv_aload_n hx hb dX10_seal_4 rfl (lv_at hl 0 rfl) ?_
  refine lv_aload_n hx hb dX10_seal_5 rfl (lv_at hl 0 rfl) ?_
  refine va_get (D := (dC, dI)) (ci := 8) (v := .int (nI dn)) (C := RX10) (T := TX10) (N := 13) hx hb hts inX10 hown hK hP 0 rfl rfl 9 (Nat.le_of_ble_eq_true rfl) (hts _ mw_318) (fun _ h9 => h9) rfl dX10_seal_6 ?_
  refine va_put (D := (dC, dI)) (ci := 8) (v := .int (nI dn)) (ty := .int) (C := RX10) (T := TX10) (N := 13) hx hb hts inX10 tyX10 tyX10_ok nmX10 hown hK hP hD hS 0 rfl rfl 10 (by decide) (hts _ mw_319) (fun _ h9 => h9) rfl (by decide +kernel) rfl rfl (Nat.le_of_ble_eq_true rfl) dX10_seal_9 (fun H locs hP hD hS => ?_)
  obtain ⟨hP, hD⟩ := zre (W2 := ([(oc8 x (.ref sh) (.ref lw) (.ref ro) (.ref bq) (.ref bp) (.ref dq) (.ref dp) (.ref lv) (.ref sl) (nI dn) (nI dn) ul su), _] ++ va_pl L1 f1)) hP hD rfl
  refine lv_aload_n hx hb dX10_seal_12 rfl (lv_at hl 0 rfl) ?_
  refine lv_iconst (v := 0) hx hb dX10_seal_13 rfl ?_
  refine va_put (D := (dC, dI)) (ci := 8) (v := .int 0) (ty := .int) (C := RX10) (T := TX10) (N := 13) hx hb hts inX10 tyX10 tyX10_ok nmX10 hown hK hP hD hS 0 rfl rfl 12 (by decide) (hts _ mw_321) (fun _ h9 => h9) rfl (by decide +kernel) rfl rfl (Nat.le_of_ble_eq_true rfl) dX10_seal_14 (fun H locs hP hD hS => ?_)
  obtain ⟨hP, hD⟩ := zre (W2 := ([(oc8 x (.ref sh) (.ref lw) (.ref ro) (.ref bq) (.ref bp) (.ref dq) (.ref dp) (.ref lv) (.ref sl) (nI dn) (nI dn) ul 0), _] ++ va_pl L1 f1)) hP hD rfl
  refine lv_iconst (v := 1) hx hb dX10_seal_17 rfl ?_
  obtain ⟨hP9, hD9⟩ := zu_part (cx := [_, _]) hP hD [true, true] rfl rfl
  rw [hQ9]
  exact W.zret (ty := .boolean) (v := 1) hx hb hr (rfl) (fun t ht hW => ⟨⟨rfl, mc1, L1, f1, SA1, (hL1), (hS1), (hkA), by rw [ht]; exact hP9, hD9⟩, hS.F ht⟩) hS.2.2 dX10_seal_18
end
section
set_option maxHeartbeats 4000000 in
set_option maxRecDepth 100000 in
theorem k_book_n (l : Launch) (dC : Nat → ClassId) (dI : Nat → Nat → Nat) (cI cZ cF : ClassId) (sz : Nat) (cO : ClassId) (e0 : Nat) (mi : Nat) (x : Nat) (sh : Nat) (lw : Nat) (ro : Nat) (bq : Nat) (bp : Nat) (dq : Nat) (dp : Nat) (lv : Nat) (sl : Nat) (sd : Int32) (ul : Int32) (su : Int32) (sl : Nat) (ea : Nat) (nz : Nat) (mc9 : Int32) (fa : Nat) (FA : Nat → Option Nat) (own : Nat → Nat) (fe : Nat → Nat) (cl : Nat → Nat) (la : Nat → Nat → Nat) (nw : Nat → Nat) (md : Nat → Nat) (sp : Nat → Nat) (fm : Nat → Value) (SA : Nat → Option Nat) (bs : Nat) (dn : Nat) (ft : Nat) (FT : Nat → Nat) (V : Nat → Nat → Nat → Int32) (VX : Nat → Nat → Int32) (VY : Nat → Nat → Int32) (gh : Nat → Nat → Int32) (tn : Nat → Int32) (rk : Nat → Int32) (wd : Nat → Int32) (tw : Nat → Int32) (pa : Nat → Int32) (pb : Nat → Int32) (wh : Nat → Int32) (of9 : Nat → Int32) (we : Nat → Int32) (kd : Nat → Int32) (st : Nat → Int32) (gb : Nat → Int32) (it : Nat → Int32) (mn : Nat → Int32) (cx : Nat → Int32) (cy : Nat → Int32) (w1 : Int32) (w2 : Int32) (w3 : Int32) (L : List Nat) (f : Nat → va_E) (hG : shG cI cO L f e0 FA ea nz own fe cl la nw md sp fm SA bs dn dn ft ft FT V VX VY tn rk wd tw pa pb wh of9 we kd st gb it mn cx cy) (hM : mdA dn ft FT la nw md fm V kd st gb it) (hO : loG cI L f own fe nw md la bs dn dn ft ft FT V gh) (hdn : dn ≤ nz) (hn5 : nz ≤ 512) (hd5 : dn + 1 ≤ 512) (hnew : ∀ q, FT dn ≤ q → q < ft → ¬ (st q).toInt = 0) (hmv : ft = FT dn) : zML l yX10_book cX10_book 8 (some .boolean) ({ frames := 7, cells := ft + 2, slots := 4 * ft + 805, locals := 155 } : Room) [.ref x, .int w1, .int w2, .int w3, .null] (dC, dI) (zTyO cI cZ cF cO) e0 mi ([(oc8 x (.ref sh) (.ref lw) (.ref ro) (.ref bq) (.ref bp) (.ref dq) (.ref dp) (.ref lv) (.ref sl) (nI dn) sd ul su), (oc10 sl mc9 (.ref ea) (nI nz)), (oc7 sh (.ref fa) (nI ft)), (oq fa cF 200 FA)] ++ va_pl L f) sz (some (.int 1)) (fun A t => ∃ (mc1 : Int32), ∃ (L1 : List Nat), ∃ (f1 : Nat → va_E), ∃ (ea1 : Nat), (shB cI cO L1 f1 e0 FA ea1 bs (dn + 1) (dn + 1) ft (upN FT (dn + 1) ft) (upN V (dn + 1) (vC gh kd st gb it mn)) (upN VX (dn + 1) cx) (upN VY (dn + 1) cy) tn rk wd tw pa pb (upd wh (dn + 1) w1) (upd of9 (dn + 1) w2) (upd we (dn + 1) w3) kd st gb it mn cx cy) ∧ zPD (dC, dI) classes A ([(oc8 x (.ref sh) (.ref lw) (.ref ro) (.ref bq) (.ref bp) (.ref dq) (.ref dp) (.ref lv) (.ref sl) (nI (dn + 1)) sd ul 0), (oc10 sl mc1 (.ref ea1) (nI (dn + 1))), (oc7 sh (.ref fa) (nI ft)), (oq fa cF 200 FA)] ++ va_pl L1 f1) t.heap) (ft + 2) (4 * ft + 805) := by
  refine zInL (own := "ScaleShop") (loc := [(0, .ref x), (1, .int w1), (2, .int w2), (3, .int w3), (4, .null)]) rfl rfl rfl rfl (fun p e s m below meth c hx hb hr hts hown hlocks hml hnm9 A hA hS hP hD hK hXL hXN hK3 Q9 hQ9 ls hl => ?_)
  have h200 : ft ≤ 200 := hG.2.2.2.2.2.1.2.2.2.2.2
  have hFA9 := hG.2.2.2.2.2.2
  refine lv_aload_n hx hb dX10_book_0 rfl (lv_at hl 0 rfl) ?_
  obtain ⟨hPc, hDc, hFc⟩ := zo_part (cx := [_, _]) hP hD hS hA [0, 1] rfl rfl
  refine zcall (st1 := []) (va_runV (As := []) (rest := []) ⟨hx, hb, hml, hown, hts⟩ (k_forgetUndone l dC dI cI cZ cF s.heap.size cO e0 mi x sh lw ro bq bp dq dp lv sl sd ul su sl ea nz mc9 dn SA L f own (hG.2.2.2.2.1) (by first | with_reducible assumption | omega) (by first | with_reducible assumption | omega)) (csV_92 hts rfl rfl ⟨Nat.le_of_ble_eq_true rfl, Nat.le_of_ble_eq_true rfl⟩) (zPVL (q0 := 0) (ci := 8) hPc hDc hK hXL hS hFc rfl rfl) rfl rfl hl.1 rfl (lv_room (Nat.le_of_ble_eq_true rfl)) dX10_book_1 ⟨Nat.zero_le _, Nat.zero_le _⟩) hS hFc hFc rfl (fun t H locs ht hB hk1 hS => ?_)
  obtain ⟨mc2, L2, f2, SA2, hL2, hS2, hk2, hP1, hD1⟩ := hB
  rw [ht] at hP1
  obtain ⟨hP, hD⟩ := znP (W2 := [_, (oc10 sl mc2 (.ref ea) (nI dn)), _, _]) hP hD hk1 hFc hP1 hD1 [0, 1] [false, false, true, true] [false, false, true, true] [0, 1] (by decide +kernel) rfl rfl rfl rfl rfl
  clear hk1 hPc hDc hFc hP1 hD1 ht
  refine va_new (ci := 11) (fs := [.int 0, .int 0, .int 0, .null, .null]) (C := RX9) (T := TX9) (N := 5) hx hb hts inX9 tyX9 tyX9_ok hown (hts _ mw_757) (hts _ mw_758) (hts _ mw_116) hK hP hD hS hA rfl dfX9 (show 1 ≤ ft + 2 by omega) (show 5 ≤ 4 * ft + 805 by omega) dX10_book_4 (fun sq H hP hD hS => ?_)
  have hP := va_P.swap hP
  have hD := va_D.swap hD
  obtain ⟨hP, hD⟩ := zre (W2 := ([_, _, _, _, (oc11 sq 0 0 0 .null .null)] ++ va_pl L2 f2)) hP hD rfl
  refine lv_dup hx hb dX10_book_7 rfl ?_
  refine lv_iload_n hx hb dX10_book_8 rfl (lv_at hl 1 rfl) ?_
  refine lv_iload_n hx hb dX10_book_9 rfl (lv_at hl 2 rfl) ?_
  refine lv_iload_n hx hb dX10_book_10 rfl (lv_at hl 3 rfl) ?_
  refine lv_aloadN hx hb dX10_book_11 (lv_at hl 4 rfl) ?_
  obtain ⟨hPc, hDc, hFc⟩ := zo_sub (wc := [_]) hP hD hS hA [4] rfl rfl
  refine zcall (st1 := [.ref sq]) (va_runI (As := [.int w1, .int w2, .int w3, .null]) (rest := [.ref sq]) ⟨hx, hb, hml, hown, hts⟩ (k_Step_init_n l dC dI cI cZ cF H.size sq w1 w2 w3 ) (cwI 4 hts (zz_gC mc_yX9_init) rfl rfl rfl (hts _ mw_116) (hts _ mw_759) (hts _ mw_760) rfl (by decide +kernel) ⟨Nat.le_of_ble_eq_true rfl, Nat.le_of_ble_eq_true rfl⟩) (zPS2 hPc hDc hK3 hXN) rfl rfl hl.1 rfl (lv_room (Nat.le_of_ble_eq_true rfl)) dX10_book_13 ⟨show 1 ≤ ft + 2 by omega, show 5 ≤ 4 * ft + 805 by omega⟩) hS hFc hFc rfl (fun t H locs ht hB hk1 hS => ?_)
  obtain ⟨hP1, hD1⟩ := hB
  rw [ht] at hP1
  obtain ⟨hP, hD⟩ := znQ (W2 := [_, _, _, _, (oc11 sq w1 w2 w3 .null .null)]) hP hD hk1 hFc hP1 hD1 [4] [true, true, true, true] [true, true, true, true, false] [4] (by decide +kernel) rfl rfl rfl rfl rfl
  clear hk1 hPc hDc hFc hP1 hD1 ht
  refine lv_astore (lv' := [(5, .ref sq), (0, .ref x), (1, .int w1), (2, .int w2), (3, .int w3), (4, .null)]) hx hb dX10_book_16 hl (Nat.le_of_ble_eq_true rfl) rfl (fun ls hl => ?_)
  refine lv_iconst (v := 0) hx hb dX10_book_18 rfl ?_
  refine lv_istore (lv' := [(6, .int 0), (5, .ref sq), (0, .ref x), (1, .int w1), (2, .int w2), (3, .int w3), (4, .null)]) hx hb dX10_book_19 hl (Nat.le_of_ble_eq_true rfl) rfl (fun ls hl => ?_)
  have hl_21 : ∀ (n9 : Nat) (g5 : Nat) (L5 : List Nat) (f5 : Nat → va_E) (own5 : Nat → Nat) (qs5 : List Nat) (ch5 : Value) (H : Heap) (locs : List Loc) (ls : Array Slot), ft - g5 < n9 → (g5 ≤ ft) → (FeA cI L5 f5 own5 ft fe nw cl (fmB g5 fm) rk wd tw pa pb) → (kpT (fun g => ¬ g % 8 = 0) L2 f2 own L5 f5 own5) → (loK cI L2 f2 own L5 f5 own5 ft fe) → (chn L5 f5 own5 fe (la dn) nw ch5 qs5) → ((∀ q ∈ qs5, q < g5 ∧ ¬ md q = 0) ∧ ∀ q, q < g5 → ¬ md q = 0 → q ∈ qs5) → va_P (dC, dI) classes ([(oc8 x (.ref sh) (.ref lw) (.ref ro) (.ref bq) (.ref bp) (.ref dq) (.ref dp) (.ref lv) (.ref sl) (nI dn) sd ul su), (oc10 sl mc2 (.ref ea) (nI dn)), (oc7 sh (.ref fa) (nI ft)), (oq fa cF 200 FA), (oc11 sq w1 w2 w3 .null ch5)] ++ va_pl L5 f5) H → va_D A ([(oc8 x (.ref sh) (.ref lw) (.ref ro) (.ref bq) (.ref bp) (.ref dq) (.ref dp) (.ref lv) (.ref sl) (nI dn) sd ul su), (oc10 sl mc2 (.ref ea) (nI dn)), (oc7 sh (.ref fa) (nI ft)), (oq fa cF 200 FA), (oc11 sq w1 w2 w3 .null ch5)] ++ va_pl L5 f5) → va_S A s.heap H locs → lv_has ls 8 [(6, .int (nI g5)), (5, .ref sq), (0, .ref x), (1, .int w1), (2, .int w2), (3, .int w3), (4, .null)] → W p l e ({ frames := 7, cells := ft + 2, slots := 4 * ft + 805, locals := 155 } : Room) s m ([.ref x, .int w1, .int w2, .int w3, .null] : List Value).toArray below meth c H locs (1 + g5) (5 + 4 * g5) Q9 (F0 m 21 ls []) := by
    intro n9
    induction n9 with
    | zero => intro g5 L5 f5 own5 qs5 ch5 H locs ls hm; exact absurd hm (Nat.not_lt_zero _)
    | succ n9 ih_21 =>
      intro g5 L5 f5 own5 qs5 ch5 H locs ls hm hg5 hF5 hk5 hE5 hc5 hq5 hP hD hS hl
      refine lv_iload hx hb dX10_book_21 (lv_at hl 0 rfl) ?_
      refine lv_aload_n hx hb dX10_book_23 rfl (lv_at hl 2 rfl) ?_
      refine va_get (D := (dC, dI)) (ci := 8) (v := .ref sh) (C := RX10) (T := TX10) (N := 13) hx hb hts inX10 hown hK hP 0 rfl rfl 0 (Nat.le_of_ble_eq_true rfl) (hts _ mw_309) (fun _ h9 => h9) rfl dX10_book_24 ?_
      refine va_get (D := (dC, dI)) (ci := 7) (v := .int (nI ft)) (C := RX8) (T := TX8) (N := 2) hx hb hts inX8 hown hK hP 2 rfl rfl 1 (Nat.le_of_ble_eq_true rfl) (hts _ mw_140) (fun _ h9 => h9) rfl dX10_book_27 ?_
      have b9_2 : zlt (g5) := show g5 < 2147483648 by omega
      have b9_3 : zlt (ft) := show ft < 2147483648 by omega
      refine lv_icmp_ge (tgt := 88) hx hb dX10_book_30 rfl (fun c_1 => ?_) (fun c_1 => ?_)
      · have c_1 : ((ft : Nat) : Int) ≤ ((g5 : Nat) : Int) := zc_le (nI_toInt b9_3) (nI_toInt b9_2) c_1
        rcases LsA_3 (LsA_kp hk5 ⟨by omega, by omega⟩ hL2) with ⟨hEa, hd0⟩ | ⟨cap5, hce5, hcl5, hc10, hc1k, hent⟩ | ⟨hce5, hc10, hent⟩
        · skip
          have hz0 : nI dn = 0 := (by rw [hd0]; rfl)
          rw [hEa, hz0] at hP hD
          obtain ⟨hP, hD⟩ := zre (W2 := ([_, _, _, _, _] ++ va_pl L5 f5)) hP hD rfl
          refine lv_aload_n hx hb dX10_book_88 rfl (lv_at hl 2 rfl) ?_
          refine va_get (D := (dC, dI)) (ci := 8) (v := .ref sl) (C := RX10) (T := TX10) (N := 13) hx hb hts inX10 hown hK hP 0 rfl rfl 8 (Nat.le_of_ble_eq_true rfl) (hts _ mw_317) (fun _ h9 => h9) rfl dX10_book_89 ?_
          refine lv_aload hx hb dX10_book_92 (lv_at hl 1 rfl) ?_
          obtain ⟨hPc, hDc, hFc⟩ := zo_sub (wc := [_, _]) hP hD hS hA [1, 4] rfl rfl
          refine zcall (st1 := [.int 1]) (va_runV (As := [.ref sq]) (rest := []) ⟨hx, hb, hml, hown, hts⟩ (k_AL_add_0 l dC dI cI cZ cF H.size cO e0 mi sl mc2 sq w1 w2 w3 (.null) ch5 ) (csV_93 hts rfl rfl ⟨Nat.le_of_ble_eq_true rfl, Nat.le_of_ble_eq_true rfl⟩) (zPVL (q0 := 0) (ci := 10) hPc hDc hK hXL hS hFc rfl rfl) rfl rfl hl.1 rfl (lv_room (Nat.le_of_ble_eq_true rfl)) dX10_book_94 ⟨show (1 + g5 + 1) ≤ ft + 2 by omega, show (5 + 4 * g5 + 10) ≤ 4 * ft + 805 by omega⟩) hS hFc hFc rfl (fun t H locs ht hB hk1 hS => ?_)
          obtain ⟨q9, hP1, hD1⟩ := hB
          rw [ht] at hP1
          obtain ⟨hP, hD⟩ := znQ (W2 := [_, _, _, (oc10 sl (mc2 + 1) (.ref q9) (nI 1)), (oc11 sq w1 w2 w3 .null ch5), (oq q9 cO 10 (va_up (fun _ => none) 0 (some sq)))]) hP hD hk1 hFc hP1 hD1 [1, 4] [true, false, true, true] [true, true, true, false, false, false] [3, 4, 5] (by decide +kernel) rfl rfl rfl rfl rfl
          clear hk1 hPc hDc hFc hP1 hD1 ht
          have hz1 : nI 1 = nI (dn + 1) := zn_eq (by omega)
          rw [hz1] at hP hD
          obtain ⟨hP, hD⟩ := zre (W2 := ([_, _, _, _, _, _] ++ va_pl L5 f5)) hP hD rfl
          refine lv_pop hx hb dX10_book_97 rfl ?_
          refine lv_aload_n hx hb dX10_book_98 rfl (lv_at hl 2 rfl) ?_
          refine lv_aload_n hx hb dX10_book_99 rfl (lv_at hl 2 rfl) ?_
          refine va_get (D := (dC, dI)) (ci := 8) (v := .ref sl) (C := RX10) (T := TX10) (N := 13) hx hb hts inX10 hown hK hP 0 rfl rfl 8 (Nat.le_of_ble_eq_true rfl) (hts _ mw_317) (fun _ h9 => h9) rfl dX10_book_100 ?_
          obtain ⟨hPc, hDc, hFc, hI1⟩ := zi_sub (wc := [_]) hP hD hS hA [3] rfl rfl
          refine zcall (st1 := [.int (nI (dn + 1)), .ref x]) (va_runV (As := []) (rest := [.ref x]) ⟨hx, hb, hml, hown, hts⟩ (k_AL_size l dC dI cI cZ cF H.size sl q9 (dn + 1) (mc2 + 1) ) (csV_90 hts rfl rfl ⟨Nat.le_of_ble_eq_true rfl, Nat.le_of_ble_eq_true rfl⟩) (zPV2 (q0 := 0) (ci := 10) hPc hDc hK3 hXN rfl rfl) rfl rfl hl.1 rfl (lv_room (Nat.le_of_ble_eq_true rfl)) dX10_book_103 ⟨show (1 + g5 + 1) ≤ ft + 2 by omega, show (5 + 4 * g5 + 10) ≤ 4 * ft + 805 by omega⟩) hS hFc hFc rfl (fun t H locs ht hB hk1 hS => ?_)
          obtain ⟨hP1, hD1⟩ := hB
          rw [ht] at hP1
          replace hP := z0 hP hD hk1 hP1 hI1
          clear hk1 hPc hDc hFc hP1 hD1 ht hI1
          refine va_put (D := (dC, dI)) (ci := 8) (v := .int (nI (dn + 1))) (ty := .int) (C := RX10) (T := TX10) (N := 13) hx hb hts inX10 tyX10 tyX10_ok nmX10 hown hK hP hD hS 0 rfl rfl 9 (by decide) (hts _ mw_318) (fun _ h9 => h9) rfl (by decide +kernel) rfl rfl (Nat.le_of_ble_eq_true rfl) dX10_book_106 (fun H locs hP hD hS => ?_)
          obtain ⟨hP, hD⟩ := zre (W2 := ([(oc8 x (.ref sh) (.ref lw) (.ref ro) (.ref bq) (.ref bp) (.ref dq) (.ref dp) (.ref lv) (.ref sl) (nI (dn + 1)) sd ul su), _, _, _, _, _] ++ va_pl L5 f5)) hP hD rfl
          refine lv_aload_n hx hb dX10_book_109 rfl (lv_at hl 2 rfl) ?_
          refine lv_iconst (v := 0) hx hb dX10_book_110 rfl ?_
          refine va_put (D := (dC, dI)) (ci := 8) (v := .int 0) (ty := .int) (C := RX10) (T := TX10) (N := 13) hx hb hts inX10 tyX10 tyX10_ok nmX10 hown hK hP hD hS 0 rfl rfl 12 (by decide) (hts _ mw_321) (fun _ h9 => h9) rfl (by decide +kernel) rfl rfl (Nat.le_of_ble_eq_true rfl) dX10_book_111 (fun H locs hP hD hS => ?_)
          obtain ⟨hP, hD⟩ := zre (W2 := ([(oc8 x (.ref sh) (.ref lw) (.ref ro) (.ref bq) (.ref bp) (.ref dq) (.ref dp) (.ref lv) (.ref sl) (nI (dn + 1)) sd ul 0), _, _, _, _, _] ++ va_pl L5 f5)) hP hD rfl
          obtain ⟨Lp1, fp1, hP, hD, hpin_1⟩ := pl_pn (X := [_, _, _, _]) (old := []) (new := [_, _]) (cs1 := [_, _]) (L := L5) (cs := []) outPl_nil hP hD rfl rfl rfl
          obtain ⟨hfr_1, hkp_1, hce_1, hsx_1, hpw_1⟩ := id hpin_1
          have hgf : g5 = ft := (by omega)
          rw [hgf] at hF5 hq5
          have hs6 := hfr_1 _ (List.mem_cons_self ..)
          have hq6 := hfr_1 _ (List.mem_cons_of_mem _ (List.mem_cons_self ..))
          have hne6 : sq ≠ q9 := pwN hpw_1 (i := 0) (j := 1) rfl rfl (by decide)
          have how6 : ∀ a ∈ L5, (ow (ow own5 sq 8001) q9 8002) a = own5 a := ow_L (ow_L (fun _ _ => rfl) hs6) hq6
          have hk6 := hkp_1 own5 (ow (ow own5 sq 8001) q9 8002) (fun g => g ≠ 8002) how6 trivial
          have hst6 : ce Lp1 fp1 (ow (ow own5 sq 8001) q9 8002) 8001 sq (.inr (11, [.int w1, .int w2, .int w3, .null, ch5])) := hce_1 (ow (ow own5 sq 8001) q9 8002) 0 _ _ 8001 rfl ((ow_o hne6).trans ow_at)
          have hL6 : LsA cO Lp1 fp1 (ow (ow own5 sq 8001) q9 8002) e0 q9 (dn + 1) (va_up (fun _ => none) 0 (some sq)) := LsA_add (SA := SA2) (hce_1 (ow (ow own5 sq 8001) q9 8002) 1 _ _ 8002 rfl ow_at) (by omega) (by omega) (by omega) hk6 (fun i hi => by omega) (fun i hi => by omega) (by rw [hd0]; exact up_atN) hst6
          have hsa6 : ∀ i, i < dn → va_up (fun _ => none) 0 (some sq) i = SA i := fun i hi => by omega
          have hsb6 : va_up (fun _ => none) 0 (some sq) dn = some sq := (by rw [hd0]; exact up_atN)
          have hB6 := bk_end hG hM (fun g a e hp h => hk6 g a e hp.2 (hk5 g a e hp.1 (hk2 g a e hp.2 h))) (FeA_kp hk6 (fun q hq => ⟨by omega, by omega⟩) (fmB_e hF5)) hL6 (by omega) hnew hsa6 hsb6 hst6 (chn_kp hk6 (by omega) hc5) hq5 (Or.inl ⟨hmv, rfl⟩) hO (loK_tr (loK_kp hk2 (fun q hq => ⟨by omega, by omega⟩)) (loK_tr hE5 (loK_kp hk6 (fun q hq => ⟨by omega, by omega⟩))))
          refine lv_iconst (v := 1) hx hb dX10_book_114 rfl ?_
          obtain ⟨hP9, hD9⟩ := zq_part (cx := [_, _, _, _]) hP hD [0, 3, 1, 2] rfl rfl
          refine W.widen (k := ft + 2) (n := 4 * ft + 805) (by omega) (by omega) ?_
          rw [hQ9]
          exact W.zret (ty := .boolean) (v := 1) hx hb hr (rfl) (fun t ht hW => ⟨⟨rfl, (mc2 + 1), Lp1, fp1, q9, (hB6), by rw [ht]; exact hP9, hD9⟩, hS.F ht⟩) hS.2.2 dX10_book_115
        · skip
          have hc9_1 : inPl L5 f5 [(oq ea cO cap5 SA2)] := ⟨ce_pl hce5, trivial⟩
          have hD0_1 := hD
          obtain ⟨T_1, hT_1, hP, hD⟩ := pl_oT hP hD hc9_1 (List.pairwise_singleton _ _)
          obtain ⟨hP, hD⟩ := zre (W2 := ([_, _, _, _, _, _] ++ va_pl T_1 f5)) hP hD rfl
          refine lv_aload_n hx hb dX10_book_88 rfl (lv_at hl 2 rfl) ?_
          refine va_get (D := (dC, dI)) (ci := 8) (v := .ref sl) (C := RX10) (T := TX10) (N := 13) hx hb hts inX10 hown hK hP 0 rfl rfl 8 (Nat.le_of_ble_eq_true rfl) (hts _ mw_317) (fun _ h9 => h9) rfl dX10_book_89 ?_
          refine lv_aload hx hb dX10_book_92 (lv_at hl 1 rfl) ?_
          obtain ⟨hPc, hDc, hFc⟩ := zo_sub (wc := [_, _, _]) hP hD hS hA [1, 4, 5] rfl rfl
          refine zcall (st1 := [.int 1]) (va_runV (As := [.ref sq]) (rest := []) ⟨hx, hb, hml, hown, hts⟩ (k_AL_add_r l dC dI cI cZ cF H.size cO e0 mi sl ea dn mc2 cap5 SA2 sq w1 w2 w3 (.null) ch5 (by first | with_reducible assumption | omega) (by first | with_reducible assumption | omega)) (csV_93 hts rfl rfl ⟨Nat.le_of_ble_eq_true rfl, Nat.le_of_ble_eq_true rfl⟩) (zPVL (q0 := 0) (ci := 10) hPc hDc hK hXL hS hFc rfl rfl) rfl rfl hl.1 rfl (lv_room (Nat.le_of_ble_eq_true rfl)) dX10_book_94 ⟨show 1 + g5 ≤ ft + 2 by omega, show 5 + 4 * g5 ≤ 4 * ft + 805 by omega⟩) hS hFc hFc rfl (fun t H locs ht hB hk1 hS => ?_)
          obtain ⟨hP1, hD1⟩ := hB
          rw [ht] at hP1
          obtain ⟨hP, hD⟩ := znQ (W2 := [_, (oc10 sl (mc2 + 1) (.ref ea) (nI (dn + 1))), _, _, _, (oq ea cO cap5 (va_up SA2 dn (some sq)))]) hP hD hk1 hFc hP1 hD1 [1, 4, 5] [true, false, true, true] [true, false, true, true, false, false] [1, 4, 5] (by decide +kernel) rfl rfl rfl rfl rfl
          clear hk1 hPc hDc hFc hP1 hD1 ht
          refine lv_pop hx hb dX10_book_97 rfl ?_
          refine lv_aload_n hx hb dX10_book_98 rfl (lv_at hl 2 rfl) ?_
          refine lv_aload_n hx hb dX10_book_99 rfl (lv_at hl 2 rfl) ?_
          refine va_get (D := (dC, dI)) (ci := 8) (v := .ref sl) (C := RX10) (T := TX10) (N := 13) hx hb hts inX10 hown hK hP 0 rfl rfl 8 (Nat.le_of_ble_eq_true rfl) (hts _ mw_317) (fun _ h9 => h9) rfl dX10_book_100 ?_
          obtain ⟨hPc, hDc, hFc, hI1⟩ := zi_sub (wc := [_]) hP hD hS hA [1] rfl rfl
          refine zcall (st1 := [.int (nI (dn + 1)), .ref x]) (va_runV (As := []) (rest := [.ref x]) ⟨hx, hb, hml, hown, hts⟩ (k_AL_size l dC dI cI cZ cF H.size sl ea (dn + 1) (mc2 + 1) ) (csV_90 hts rfl rfl ⟨Nat.le_of_ble_eq_true rfl, Nat.le_of_ble_eq_true rfl⟩) (zPV2 (q0 := 0) (ci := 10) hPc hDc hK3 hXN rfl rfl) rfl rfl hl.1 rfl (lv_room (Nat.le_of_ble_eq_true rfl)) dX10_book_103 ⟨show 1 + g5 ≤ ft + 2 by omega, show 5 + 4 * g5 ≤ 4 * ft + 805 by omega⟩) hS hFc hFc rfl (fun t H locs ht hB hk1 hS => ?_)
          obtain ⟨hP1, hD1⟩ := hB
          rw [ht] at hP1
          replace hP := z0 hP hD hk1 hP1 hI1
          clear hk1 hPc hDc hFc hP1 hD1 ht hI1
          refine va_put (D := (dC, dI)) (ci := 8) (v := .int (nI (dn + 1))) (ty := .int) (C := RX10) (T := TX10) (N := 13) hx hb hts inX10 tyX10 tyX10_ok nmX10 hown hK hP hD hS 0 rfl rfl 9 (by decide) (hts _ mw_318) (fun _ h9 => h9) rfl (by decide +kernel) rfl rfl (Nat.le_of_ble_eq_true rfl) dX10_book_106 (fun H locs hP hD hS => ?_)
          obtain ⟨hP, hD⟩ := zre (W2 := ([(oc8 x (.ref sh) (.ref lw) (.ref ro) (.ref bq) (.ref bp) (.ref dq) (.ref dp) (.ref lv) (.ref sl) (nI (dn + 1)) sd ul su), _, _, _, _, _] ++ va_pl T_1 f5)) hP hD rfl
          refine lv_aload_n hx hb dX10_book_109 rfl (lv_at hl 2 rfl) ?_
          refine lv_iconst (v := 0) hx hb dX10_book_110 rfl ?_
          refine va_put (D := (dC, dI)) (ci := 8) (v := .int 0) (ty := .int) (C := RX10) (T := TX10) (N := 13) hx hb hts inX10 tyX10 tyX10_ok nmX10 hown hK hP hD hS 0 rfl rfl 12 (by decide) (hts _ mw_321) (fun _ h9 => h9) rfl (by decide +kernel) rfl rfl (Nat.le_of_ble_eq_true rfl) dX10_book_111 (fun H locs hP hD hS => ?_)
          obtain ⟨hP, hD⟩ := zre (W2 := ([(oc8 x (.ref sh) (.ref lw) (.ref ro) (.ref bq) (.ref bp) (.ref dq) (.ref dp) (.ref lv) (.ref sl) (nI (dn + 1)) sd ul 0), _, _, _, _, _] ++ va_pl T_1 f5)) hP hD rfl
          obtain ⟨hP, hD⟩ := zq_part (cx := [_, _, _, _, _, _]) hP hD [0, 1, 2, 3, 5, 4] rfl rfl
          obtain ⟨Lp1, fp1, hP, hD, hpin_1⟩ := pl_pn (X := [_, _, _, _]) (old := [_]) (new := [_]) (cs1 := [_, _]) (L := L5) (cs := [(oq ea cO cap5 SA2)]) hT_1 hP hD rfl rfl rfl
          obtain ⟨hfr_1, hkp_1, hce_1, hsx_1, hpw_1⟩ := id hpin_1
          have hgf : g5 = ft := (by omega)
          rw [hgf] at hF5 hq5
          have hs6 := hfr_1 _ (List.mem_cons_self ..)
          have how6 : ∀ a ∈ L5, (ow own5 sq 8001) a = own5 a := ow_L (fun _ _ => rfl) hs6
          have hk6 := hkp_1 own5 (ow own5 sq 8001) (fun g => g ≠ 8002) how6 ⟨fun _ hp => absurd hce5.2.2 hp, trivial⟩
          have hst6 : ce Lp1 fp1 (ow own5 sq 8001) 8001 sq (.inr (11, [.int w1, .int w2, .int w3, .null, ch5])) := hce_1 (ow own5 sq 8001) 1 _ _ 8001 rfl ow_at
          have hL6 : LsA cO Lp1 fp1 (ow own5 sq 8001) e0 ea (dn + 1) (va_up SA2 dn (some sq)) := LsA_add (hce_1 (ow own5 sq 8001) 0 _ _ 8002 rfl ((ow_o (fun e => hs6 (by rw [← e]; exact hce5.1))).trans hce5.2.2)) (by omega) hc10 hc1k hk6 hent up_oN up_atN hst6
          have hsa6 : ∀ i, i < dn → va_up SA2 dn (some sq) i = SA i := fun i hi => (up_oN i hi).trans (hS2 i hi)
          have hsb6 : va_up SA2 dn (some sq) dn = some sq := up_atN
          have hB6 := bk_end hG hM (fun g a e hp h => hk6 g a e hp.2 (hk5 g a e hp.1 (hk2 g a e hp.2 h))) (FeA_kp hk6 (fun q hq => ⟨by omega, by omega⟩) (fmB_e hF5)) hL6 (by omega) hnew hsa6 hsb6 hst6 (chn_kp hk6 (by omega) hc5) hq5 (Or.inl ⟨hmv, rfl⟩) hO (loK_tr (loK_kp hk2 (fun q hq => ⟨by omega, by omega⟩)) (loK_tr hE5 (loK_kp hk6 (fun q hq => ⟨by omega, by omega⟩))))
          refine lv_iconst (v := 1) hx hb dX10_book_114 rfl ?_
          obtain ⟨hP9, hD9⟩ := zu_part (cx := [_, _, _, _]) hP hD [true, true, true, true] rfl rfl
          refine W.widen (k := ft + 2) (n := 4 * ft + 805) (by omega) (by omega) ?_
          rw [hQ9]
          exact W.zret (ty := .boolean) (v := 1) hx hb hr (rfl) (fun t ht hW => ⟨⟨rfl, (mc2 + 1), Lp1, fp1, ea, (hB6), by rw [ht]; exact hP9, hD9⟩, hS.F ht⟩) hS.2.2 dX10_book_115
        · skip
          have hc9_1 : inPl L5 f5 [(oq ea cO dn SA2)] := ⟨ce_pl hce5, trivial⟩
          have hD0_1 := hD
          obtain ⟨T_1, hT_1, hP, hD⟩ := pl_oT hP hD hc9_1 (List.pairwise_singleton _ _)
          obtain ⟨hP, hD⟩ := zre (W2 := ([_, _, _, _, _, _] ++ va_pl T_1 f5)) hP hD rfl
          refine lv_aload_n hx hb dX10_book_88 rfl (lv_at hl 2 rfl) ?_
          refine va_get (D := (dC, dI)) (ci := 8) (v := .ref sl) (C := RX10) (T := TX10) (N := 13) hx hb hts inX10 hown hK hP 0 rfl rfl 8 (Nat.le_of_ble_eq_true rfl) (hts _ mw_317) (fun _ h9 => h9) rfl dX10_book_89 ?_
          refine lv_aload hx hb dX10_book_92 (lv_at hl 1 rfl) ?_
          obtain ⟨hPc, hDc, hFc⟩ := zo_part (cx := [_, _, _]) hP hD hS hA [1, 4, 5] rfl rfl
          refine zcall (st1 := [.int 1]) (va_runV (As := [.ref sq]) (rest := []) ⟨hx, hb, hml, hown, hts⟩ (k_AL_add_g l dC dI cI cZ cF H.size cO e0 mi sl ea dn mc2 SA2 sq w1 w2 w3 (.null) ch5 T_1 f5 (by first | with_reducible assumption | omega) (by first | with_reducible assumption | omega) (fun i hi => by obtain ⟨y, vs, g1, g2⟩ := hent i hi; exact ⟨y, vs, g1, by rw [← hT_1]; exact (ce_out g2 (fun c hc => by rw [List.mem_singleton.mp hc]; show own5 ea ≠ 8001; rw [hce5.2.2]; decide)).1, g2.2.1⟩)) (csV_93 hts rfl rfl ⟨Nat.le_of_ble_eq_true rfl, Nat.le_of_ble_eq_true rfl⟩) (zPVL (q0 := 0) (ci := 10) hPc hDc hK hXL hS hFc rfl rfl) rfl rfl hl.1 rfl (lv_room (Nat.le_of_ble_eq_true rfl)) dX10_book_94 ⟨show (1 + g5 + 1) ≤ ft + 2 by omega, show (5 + 4 * g5 + (dn + dn / 2)) ≤ 4 * ft + 805 by omega⟩) hS hFc hFc rfl (fun t H locs ht hB hk1 hS => ?_)
          obtain ⟨q9, hP1, hD1⟩ := hB
          rw [ht] at hP1
          obtain ⟨hP, hD⟩ := znP (W2 := [_, _, _, (oc10 sl (mc2 + 1) (.ref q9) (nI (dn + 1))), (oc11 sq w1 w2 w3 .null ch5), (oq ea cO dn SA2), (oq q9 cO (dn + dn / 2) (va_up (va_cpy SA2 (fun _ => none) 0 0 dn) dn (some sq)))]) hP hD hk1 hFc hP1 hD1 [1, 4, 5] [true, false, true, true] [true, true, true, false, false, false, false] [3, 4, 5, 6] (by decide +kernel) rfl rfl rfl rfl rfl
          clear hk1 hPc hDc hFc hP1 hD1 ht
          refine lv_pop hx hb dX10_book_97 rfl ?_
          refine lv_aload_n hx hb dX10_book_98 rfl (lv_at hl 2 rfl) ?_
          refine lv_aload_n hx hb dX10_book_99 rfl (lv_at hl 2 rfl) ?_
          refine va_get (D := (dC, dI)) (ci := 8) (v := .ref sl) (C := RX10) (T := TX10) (N := 13) hx hb hts inX10 hown hK hP 0 rfl rfl 8 (Nat.le_of_ble_eq_true rfl) (hts _ mw_317) (fun _ h9 => h9) rfl dX10_book_100 ?_
          obtain ⟨hPc, hDc, hFc, hI1⟩ := zi_sub (wc := [_]) hP hD hS hA [3] rfl rfl
          refine zcall (st1 := [.int (nI (dn + 1)), .ref x]) (va_runV (As := []) (rest := [.ref x]) ⟨hx, hb, hml, hown, hts⟩ (k_AL_size l dC dI cI cZ cF H.size sl q9 (dn + 1) (mc2 + 1) ) (csV_90 hts rfl rfl ⟨Nat.le_of_ble_eq_true rfl, Nat.le_of_ble_eq_true rfl⟩) (zPV2 (q0 := 0) (ci := 10) hPc hDc hK3 hXN rfl rfl) rfl rfl hl.1 rfl (lv_room (Nat.le_of_ble_eq_true rfl)) dX10_book_103 ⟨show (1 + g5 + 1) ≤ ft + 2 by omega, show (5 + 4 * g5 + (dn + dn / 2)) ≤ 4 * ft + 805 by omega⟩) hS hFc hFc rfl (fun t H locs ht hB hk1 hS => ?_)
          obtain ⟨hP1, hD1⟩ := hB
          rw [ht] at hP1
          replace hP := z0 hP hD hk1 hP1 hI1
          clear hk1 hPc hDc hFc hP1 hD1 ht hI1
          refine va_put (D := (dC, dI)) (ci := 8) (v := .int (nI (dn + 1))) (ty := .int) (C := RX10) (T := TX10) (N := 13) hx hb hts inX10 tyX10 tyX10_ok nmX10 hown hK hP hD hS 0 rfl rfl 9 (by decide) (hts _ mw_318) (fun _ h9 => h9) rfl (by decide +kernel) rfl rfl (Nat.le_of_ble_eq_true rfl) dX10_book_106 (fun H locs hP hD hS => ?_)
          obtain ⟨hP, hD⟩ := zre (W2 := ([(oc8 x (.ref sh) (.ref lw) (.ref ro) (.ref bq) (.ref bp) (.ref dq) (.ref dp) (.ref lv) (.ref sl) (nI (dn + 1)) sd ul su), _, _, _, _, _, _] ++ va_pl T_1 f5)) hP hD rfl
          refine lv_aload_n hx hb dX10_book_109 rfl (lv_at hl 2 rfl) ?_
          refine lv_iconst (v := 0) hx hb dX10_book_110 rfl ?_
          refine va_put (D := (dC, dI)) (ci := 8) (v := .int 0) (ty := .int) (C := RX10) (T := TX10) (N := 13) hx hb hts inX10 tyX10 tyX10_ok nmX10 hown hK hP hD hS 0 rfl rfl 12 (by decide) (hts _ mw_321) (fun _ h9 => h9) rfl (by decide +kernel) rfl rfl (Nat.le_of_ble_eq_true rfl) dX10_book_111 (fun H locs hP hD hS => ?_)
          obtain ⟨hP, hD⟩ := zre (W2 := ([(oc8 x (.ref sh) (.ref lw) (.ref ro) (.ref bq) (.ref bp) (.ref dq) (.ref dp) (.ref lv) (.ref sl) (nI (dn + 1)) sd ul 0), _, _, _, _, _, _] ++ va_pl T_1 f5)) hP hD rfl
          obtain ⟨hP, hD⟩ := zq_part (cx := [_, _, _, _, _, _, _]) hP hD [0, 1, 2, 3, 5, 4, 6] rfl rfl
          obtain ⟨Lp1, fp1, hP, hD, hpin_1⟩ := pl_pn (X := [_, _, _, _]) (old := [_]) (new := [_, _]) (cs1 := [_, _, _]) (L := L5) (cs := [(oq ea cO dn SA2)]) hT_1 hP hD rfl rfl rfl
          obtain ⟨hfr_1, hkp_1, hce_1, hsx_1, hpw_1⟩ := id hpin_1
          have hgf : g5 = ft := (by omega)
          rw [hgf] at hF5 hq5
          have hs6 := hfr_1 _ (List.mem_cons_self ..)
          have hq6 := hfr_1 _ (List.mem_cons_of_mem _ (List.mem_cons_self ..))
          have hne6 : sq ≠ q9 := pwN hpw_1 (i := 1) (j := 2) rfl rfl (by decide)
          have how6 : ∀ a ∈ L5, (ow (ow own5 sq 8001) q9 8002) a = own5 a := ow_L (ow_L (fun _ _ => rfl) hs6) hq6
          have hk6 := hkp_1 own5 (ow (ow own5 sq 8001) q9 8002) (fun g => g ≠ 8002) how6 ⟨fun _ hp => absurd hce5.2.2 hp, trivial⟩
          have hst6 : ce Lp1 fp1 (ow (ow own5 sq 8001) q9 8002) 8001 sq (.inr (11, [.int w1, .int w2, .int w3, .null, ch5])) := hce_1 (ow (ow own5 sq 8001) q9 8002) 1 _ _ 8001 rfl ((ow_o hne6).trans ow_at)
          have hL6 : LsA cO Lp1 fp1 (ow (ow own5 sq 8001) q9 8002) e0 q9 (dn + 1) (va_up (va_cpy SA2 (fun _ => none) 0 0 dn) dn (some sq)) := LsA_add (hce_1 (ow (ow own5 sq 8001) q9 8002) 2 _ _ 8002 rfl ow_at) (by omega) (by omega) (by omega) hk6 hent up_cpy up_atN hst6
          have hsa6 : ∀ i, i < dn → va_up (va_cpy SA2 (fun _ => none) 0 0 dn) dn (some sq) i = SA i := fun i hi => (up_cpy i hi).trans (hS2 i hi)
          have hsb6 : va_up (va_cpy SA2 (fun _ => none) 0 0 dn) dn (some sq) dn = some sq := up_atN
          have hB6 := bk_end hG hM (fun g a e hp h => hk6 g a e hp.2 (hk5 g a e hp.1 (hk2 g a e hp.2 h))) (FeA_kp hk6 (fun q hq => ⟨by omega, by omega⟩) (fmB_e hF5)) hL6 (by omega) hnew hsa6 hsb6 hst6 (chn_kp hk6 (by omega) hc5) hq5 (Or.inl ⟨hmv, rfl⟩) hO (loK_tr (loK_kp hk2 (fun q hq => ⟨by omega, by omega⟩)) (loK_tr hE5 (loK_kp hk6 (fun q hq => ⟨by omega, by omega⟩))))
          refine lv_iconst (v := 1) hx hb dX10_book_114 rfl ?_
          obtain ⟨hP9, hD9⟩ := zq_part (cx := [_, _, _, _]) hP hD [0, 3, 1, 2] rfl rfl
          refine W.widen (k := ft + 2) (n := 4 * ft + 805) (by omega) (by omega) ?_
          rw [hQ9]
          exact W.zret (ty := .boolean) (v := 1) hx hb hr (rfl) (fun t ht hW => ⟨⟨rfl, (mc2 + 1), Lp1, fp1, q9, (hB6), by rw [ht]; exact hP9, hD9⟩, hS.F ht⟩) hS.2.2 dX10_book_115
      · have c_1 : ((g5 : Nat) : Int) < ((ft : Nat) : Int) := zc_nle (nI_toInt b9_3) (nI_toInt b9_2) c_1
        refine lv_aload_n hx hb dX10_book_33 rfl (lv_at hl 2 rfl) ?_
        refine va_get (D := (dC, dI)) (ci := 8) (v := .ref sh) (C := RX10) (T := TX10) (N := 13) hx hb hts inX10 hown hK hP 0 rfl rfl 0 (Nat.le_of_ble_eq_true rfl) (hts _ mw_309) (fun _ h9 => h9) rfl dX10_book_34 ?_
        refine lv_iload hx hb dX10_book_37 (lv_at hl 0 rfl) ?_
        obtain ⟨hPc, hDc, hFc, hI1⟩ := zi_sub (wc := [_, _]) hP hD hS hA [2, 3] rfl rfl
        refine zcall (st1 := [.ref (fe g5)]) (va_runV (As := [.int (nI g5)]) (rest := []) ⟨hx, hb, hml, hown, hts⟩ (k_Sheet_find l dC dI cI cZ cF H.size sh fa ft FA g5 (fe g5) (by first | with_reducible assumption | omega) (by first | with_reducible assumption | omega) (hFA9 g5 (by first | with_reducible assumption | omega))) (csV_94 hts rfl rfl ⟨Nat.le_of_ble_eq_true rfl, Nat.le_of_ble_eq_true rfl⟩) (zPV2 (q0 := 0) (ci := 7) hPc hDc hK3 hXN rfl rfl) rfl rfl hl.1 rfl (lv_room (Nat.le_of_ble_eq_true rfl)) dX10_book_39 ⟨show 1 + g5 ≤ ft + 2 by omega, show 5 + 4 * g5 ≤ 4 * ft + 805 by omega⟩) hS hFc hFc rfl (fun t H locs ht hB hk1 hS => ?_)
        obtain ⟨hP1, hD1⟩ := hB
        rw [ht] at hP1
        replace hP := z0 hP hD hk1 hP1 hI1
        clear hk1 hPc hDc hFc hP1 hD1 ht hI1
        refine lv_astore (lv' := [(7, .ref (fe g5)), (6, .int (nI g5)), (5, .ref sq), (0, .ref x), (1, .int w1), (2, .int w2), (3, .int w3), (4, .null)]) hx hb dX10_book_42 hl (Nat.le_of_ble_eq_true rfl) rfl (fun ls hl => ?_)
        rcases bk_sp hF5 hM (show g5 < ft by omega) with ⟨hm5, hfm5, lo5, hcf5⟩ | ⟨hm5, lo5, hcf5⟩
        · skip
          have hc9_1 : inPl L5 f5 [(oc1 (fe g5) (rk g5) (wd g5) (tw g5) (pa g5) (pb g5) (.ref lo5) (.ref (nw g5)) .null)] := ⟨ce_pl hcf5, trivial⟩
          have hD0_1 := hD
          obtain ⟨T_1, hT_1, hP, hD⟩ := pl_oT hP hD hc9_1 (List.pairwise_singleton _ _)
          obtain ⟨hP, hD⟩ := zre (W2 := ([_, _, _, _, _, _] ++ va_pl T_1 f5)) hP hD rfl
          refine lv_aload hx hb dX10_book_44 (lv_at hl 0 rfl) ?_
          refine lv_ifnull hx hb dX10_book_46 ?_
          refine lv_aload hx hb dX10_book_49 (lv_at hl 0 rfl) ?_
          refine va_get (D := (dC, dI)) (ci := 1) (v := .null) (C := RX2) (T := TX2) (N := 8) hx hb hts inX2 hown hK hP 5 rfl rfl 7 (Nat.le_of_ble_eq_true rfl) (hts _ mw_437) (fun _ h9 => h9) rfl dX10_book_51 ?_
          refine lv_ifnullN (tgt := 82) hx hb dX10_book_54 rfl ?_
          obtain ⟨hP, hD⟩ := pl_bk (X := [_, _, _, _, _]) hT_1 hP rfl hc9_1 hD0_1 rfl
          refine lv_iinc (v := nI (g5 + 1)) (lv' := [(6, .int (nI (g5 + 1))), (7, .ref (fe g5)), (5, .ref sq), (0, .ref x), (1, .int w1), (2, .int w2), (3, .int w3), (4, .null)]) hx hb dX10_book_82 hl (k := 1) rfl (nI_add g5 1) (Nat.le_of_ble_eq_true rfl) rfl (fun ls hl => ?_)
          refine lv_goto (tgt := 21) hx hb dX10_book_85 rfl ?_
          refine W.widen (k := 1 + (g5 + 1)) (n := 5 + 4 * (g5 + 1)) (by omega) (by omega) ?_
          exact ih_21 (g5 + 1) L5 f5 own5 qs5 ch5 H locs ls (by first | with_reducible assumption | omega) (by first | with_reducible assumption | omega) (by first | exact hFn5 | exact bk_F0 hfm5 hF5) (by first | exact hkn5 | exact hk5) (by first | exact hEn5 | exact hE5) (by first | exact hcn5 | exact hc5) (by first | exact bk_q1 hq5 hm5 | exact bk_q0 hq5 hm5) hP hD hS (lv_sub hl [0, 2, 3, 4, 5, 6, 7] rfl)
        · skip
          have hc9_1 : inPl L5 f5 [(oc1 (fe g5) (rk g5) (wd g5) (tw g5) (pa g5) (pb g5) (.ref lo5) (.ref (nw g5)) (.ref (la dn g5)))] := ⟨ce_pl hcf5, trivial⟩
          have hD0_1 := hD
          obtain ⟨T_1, hT_1, hP, hD⟩ := pl_oT hP hD hc9_1 (List.pairwise_singleton _ _)
          obtain ⟨hP, hD⟩ := zre (W2 := ([_, _, _, _, _, _] ++ va_pl T_1 f5)) hP hD rfl
          refine lv_aload hx hb dX10_book_44 (lv_at hl 0 rfl) ?_
          refine lv_ifnull hx hb dX10_book_46 ?_
          refine lv_aload hx hb dX10_book_49 (lv_at hl 0 rfl) ?_
          refine va_get (D := (dC, dI)) (ci := 1) (v := .ref (la dn g5)) (C := RX2) (T := TX2) (N := 8) hx hb hts inX2 hown hK hP 5 rfl rfl 7 (Nat.le_of_ble_eq_true rfl) (hts _ mw_437) (fun _ h9 => h9) rfl dX10_book_51 ?_
          refine lv_ifnull hx hb dX10_book_54 ?_
          rcases chn_nc hc5 with hv5 | ⟨c5, hv5⟩
          · skip
            subst hv5
            refine lv_aload hx hb dX10_book_57 (lv_at hl 2 rfl) ?_
            refine va_new (ci := 12) (fs := [.null, .null, .null, .null]) (C := RX1) (T := TX1) (N := 4) hx hb hts inX1 tyX1 tyX1_ok hown (hts _ mw_784) (hts _ mw_785) (hts _ mw_117) hK hP hD hS hA rfl dfX1 (show (1 + g5 + 1) ≤ ft + 2 by omega) (show (5 + 4 * g5 + 4) ≤ 4 * ft + 805 by omega) dX10_book_59 (fun cq H hP hD hS => ?_)
            have hP := va_P.swap hP
            have hD := va_D.swap hD
            obtain ⟨hP, hD⟩ := zre (W2 := ([_, _, _, _, _, _, (oc12 cq .null .null .null .null)] ++ va_pl T_1 f5)) hP hD rfl
            refine lv_dup hx hb dX10_book_62 rfl ?_
            refine lv_aload hx hb dX10_book_63 (lv_at hl 0 rfl) ?_
            refine lv_aload hx hb dX10_book_65 (lv_at hl 2 rfl) ?_
            refine va_get (D := (dC, dI)) (ci := 11) (v := .null) (C := RX9) (T := TX9) (N := 5) hx hb hts inX9 hown hK hP 4 rfl rfl 4 (Nat.le_of_ble_eq_true rfl) (hts _ mw_772) (fun _ h9 => h9) rfl dX10_book_67 ?_
            obtain ⟨hPc, hDc, hFc⟩ := zo_sub (wc := [_, _]) hP hD hS hA [6, 5] rfl rfl
            refine zcall (st1 := [.ref cq, .ref sq]) (va_runI (As := [.ref (fe g5), .null]) (rest := [.ref cq, .ref sq]) ⟨hx, hb, hml, hown, hts⟩ (k_Change_init_n l dC dI cI cZ cF H.size cq (nw g5) (la dn g5) (fe g5) lo5 (rk g5) (wd g5) (tw g5) (pa g5) (pb g5) ) (cwI 2 hts (zz_gC mc_yX1_init) rfl rfl rfl (hts _ mw_117) (hts _ mw_786) (hts _ mw_787) rfl (by decide +kernel) ⟨Nat.le_of_ble_eq_true rfl, Nat.le_of_ble_eq_true rfl⟩) (zPS2 hPc hDc hK3 hXN) rfl rfl hl.1 rfl (lv_room (Nat.le_of_ble_eq_true rfl)) dX10_book_70 ⟨show (1 + g5 + 1) ≤ ft + 2 by omega, show (5 + 4 * g5 + 4) ≤ 4 * ft + 805 by omega⟩) hS hFc hFc rfl (fun t H locs ht hB hk1 hS => ?_)
            obtain ⟨hP1, hD1⟩ := hB
            rw [ht] at hP1
            obtain ⟨hP, hD⟩ := znQ (W2 := [_, _, _, _, _, _, (oc12 cq (.ref (fe g5)) (.ref (la dn g5)) (.ref (nw g5)) .null)]) hP hD hk1 hFc hP1 hD1 [6, 5] [true, true, true, true, true] [true, true, true, true, true, false, false] [6, 5] (by decide +kernel) rfl rfl rfl rfl rfl
            clear hk1 hPc hDc hFc hP1 hD1 ht
            refine va_put (D := (dC, dI)) (ci := 11) (v := .ref cq) (ty := .object "ScaleShop$Change") (C := RX9) (T := TX9) (N := 5) hx hb hts inX9 tyX9 tyX9_ok nmX9 hown hK hP hD hS 4 rfl rfl 4 (by decide) (hts _ mw_772) (fun _ h9 => h9) rfl (by decide +kernel) rfl rfl (Nat.le_of_ble_eq_true rfl) dX10_book_73 (fun H locs hP hD hS => ?_)
            obtain ⟨hP, hD⟩ := zre (W2 := ([_, _, _, _, (oc11 sq w1 w2 w3 .null (.ref cq)), _, _] ++ va_pl T_1 f5)) hP hD rfl
            refine lv_aload hx hb dX10_book_76 (lv_at hl 0 rfl) ?_
            refine lv_null hx hb dX10_book_78 ?_
            refine va_put (D := (dC, dI)) (ci := 1) (v := .null) (ty := .object "ScaleShop$Look") (C := RX2) (T := TX2) (N := 8) hx hb hts inX2 tyX2 tyX2_ok nmX2 hown hK hP hD hS 5 rfl rfl 7 (by decide) (hts _ mw_437) (fun _ h9 => h9) rfl (by decide +kernel) rfl rfl (Nat.le_of_ble_eq_true rfl) dX10_book_79 (fun H locs hP hD hS => ?_)
            obtain ⟨hP, hD⟩ := zre (W2 := ([_, _, _, _, _, (oc1 (fe g5) (rk g5) (wd g5) (tw g5) (pa g5) (pb g5) (.ref lo5) (.ref (nw g5)) .null), _] ++ va_pl T_1 f5)) hP hD rfl
            obtain ⟨Lp1, fp1, hP, hD, hpin_1⟩ := pl_pn (X := [_, _, _, _, _]) (old := [_]) (new := [_]) (cs1 := [_, _]) (L := L5) (cs := [(oc1 (fe g5) (rk g5) (wd g5) (tw g5) (pa g5) (pb g5) (.ref lo5) (.ref (nw g5)) (.ref (la dn g5)))]) hT_1 hP hD rfl rfl rfl
            obtain ⟨hfr_1, hkp_1, hce_1, hsx_1, hpw_1⟩ := id hpin_1
            have hcq5 := hfr_1 _ (List.mem_singleton.mpr rfl)
            have how5 := ow_L (own := own5) (g := 8003) (fun _ _ => rfl) hcq5
            have hks5 := hkp_1 own5 (ow own5 cq 8003) (fun g => ¬ g % 8 = 0) how5 ⟨fun _ hp => absurd (show own5 (fe g5) % 8 = 0 by rw [hcf5.2.2]; omega) hp, trivial⟩
            have hkn5 := kpT_tr hk5 hks5
            have hkf5 := hkp_1 own5 (ow own5 cq 8003) (fun g => g ≠ 8 * g5) how5 ⟨fun _ hp => absurd hcf5.2.2 hp, trivial⟩
            have hFn5 := bk_F1 hF5 hkf5 hcf5 (hce_1 (ow own5 cq 8003) 0 _ _ (8 * g5) rfl ((ow_o (fun e => hcq5 (by rw [← e]; exact hcf5.1))).trans hcf5.2.2))
            have hEn5 := loK_s hE5 hkf5 hcf5 (hce_1 (ow own5 cq 8003) 0 _ _ (8 * g5) rfl ((ow_o (fun e => hcq5 (by rw [← e]; exact hcf5.1))).trans hcf5.2.2))
            have hcn5 : chn Lp1 fp1 (ow own5 cq 8003) fe (la dn) nw (.ref cq) (g5 :: qs5) := ⟨cq, _, rfl, hce_1 (ow own5 cq 8003) 1 _ _ 8003 rfl ow_at, chn_kp hks5 (by omega) hc5⟩
            refine lv_iinc (v := nI (g5 + 1)) (lv' := [(6, .int (nI (g5 + 1))), (7, .ref (fe g5)), (5, .ref sq), (0, .ref x), (1, .int w1), (2, .int w2), (3, .int w3), (4, .null)]) hx hb dX10_book_82 hl (k := 1) rfl (nI_add g5 1) (Nat.le_of_ble_eq_true rfl) rfl (fun ls hl => ?_)
            refine lv_goto (tgt := 21) hx hb dX10_book_85 rfl ?_
            refine W.widen (k := 1 + (g5 + 1)) (n := 5 + 4 * (g5 + 1)) (by omega) (by omega) ?_
            exact ih_21 (g5 + 1) Lp1 fp1 (ow own5 cq 8003) (g5 :: qs5) (.ref cq) H locs ls (by first | with_reducible assumption | omega) (by first | with_reducible assumption | omega) (by first | exact hFn5 | exact bk_F0 hfm5 hF5) (by first | exact hkn5 | exact hk5) (by first | exact hEn5 | exact hE5) (by first | exact hcn5 | exact hc5) (by first | exact bk_q1 hq5 hm5 | exact bk_q0 hq5 hm5) hP hD hS (lv_sub hl [0, 2, 3, 4, 5, 6, 7] rfl)
          · skip
            subst hv5
            refine lv_aload hx hb dX10_book_57 (lv_at hl 2 rfl) ?_
            refine va_new (ci := 12) (fs := [.null, .null, .null, .null]) (C := RX1) (T := TX1) (N := 4) hx hb hts inX1 tyX1 tyX1_ok hown (hts _ mw_784) (hts _ mw_785) (hts _ mw_117) hK hP hD hS hA rfl dfX1 (show (1 + g5 + 1) ≤ ft + 2 by omega) (show (5 + 4 * g5 + 4) ≤ 4 * ft + 805 by omega) dX10_book_59 (fun cq H hP hD hS => ?_)
            have hP := va_P.swap hP
            have hD := va_D.swap hD
            obtain ⟨hP, hD⟩ := zre (W2 := ([_, _, _, _, _, _, (oc12 cq .null .null .null .null)] ++ va_pl T_1 f5)) hP hD rfl
            refine lv_dup hx hb dX10_book_62 rfl ?_
            refine lv_aload hx hb dX10_book_63 (lv_at hl 0 rfl) ?_
            refine lv_aload hx hb dX10_book_65 (lv_at hl 2 rfl) ?_
            refine va_get (D := (dC, dI)) (ci := 11) (v := .ref c5) (C := RX9) (T := TX9) (N := 5) hx hb hts inX9 hown hK hP 4 rfl rfl 4 (Nat.le_of_ble_eq_true rfl) (hts _ mw_772) (fun _ h9 => h9) rfl dX10_book_67 ?_
            obtain ⟨hPc, hDc, hFc⟩ := zo_sub (wc := [_, _]) hP hD hS hA [6, 5] rfl rfl
            refine zcall (st1 := [.ref cq, .ref sq]) (va_runI (As := [.ref (fe g5), .ref c5]) (rest := [.ref cq, .ref sq]) ⟨hx, hb, hml, hown, hts⟩ (k_Change_init l dC dI cI cZ cF H.size cq c5 (nw g5) (la dn g5) (fe g5) lo5 (rk g5) (wd g5) (tw g5) (pa g5) (pb g5) ) (cwI 2 hts (zz_gC mc_yX1_init) rfl rfl rfl (hts _ mw_117) (hts _ mw_786) (hts _ mw_787) rfl (by decide +kernel) ⟨Nat.le_of_ble_eq_true rfl, Nat.le_of_ble_eq_true rfl⟩) (zPS2 hPc hDc hK3 hXN) rfl rfl hl.1 rfl (lv_room (Nat.le_of_ble_eq_true rfl)) dX10_book_70 ⟨show (1 + g5 + 1) ≤ ft + 2 by omega, show (5 + 4 * g5 + 4) ≤ 4 * ft + 805 by omega⟩) hS hFc hFc rfl (fun t H locs ht hB hk1 hS => ?_)
            obtain ⟨hP1, hD1⟩ := hB
            rw [ht] at hP1
            obtain ⟨hP, hD⟩ := znQ (W2 := [_, _, _, _, _, _, (oc12 cq (.ref (fe g5)) (.ref (la dn g5)) (.ref (nw g5)) (.ref c5))]) hP hD hk1 hFc hP1 hD1 [6, 5] [true, true, true, true, true] [true, true, true, true, true, false, false] [6, 5] (by decide +kernel) rfl rfl rfl rfl rfl
            clear hk1 hPc hDc hFc hP1 hD1 ht
            refine va_put (D := (dC, dI)) (ci := 11) (v := .ref cq) (ty := .object "ScaleShop$Change") (C := RX9) (T := TX9) (N := 5) hx hb hts inX9 tyX9 tyX9_ok nmX9 hown hK hP hD hS 4 rfl rfl 4 (by decide) (hts _ mw_772) (fun _ h9 => h9) rfl (by decide +kernel) rfl rfl (Nat.le_of_ble_eq_true rfl) dX10_book_73 (fun H locs hP hD hS => ?_)
            obtain ⟨hP, hD⟩ := zre (W2 := ([_, _, _, _, (oc11 sq w1 w2 w3 .null (.ref cq)), _, _] ++ va_pl T_1 f5)) hP hD rfl
            refine lv_aload hx hb dX10_book_76 (lv_at hl 0 rfl) ?_
            refine lv_null hx hb dX10_book_78 ?_
            refine va_put (D := (dC, dI)) (ci := 1) (v := .null) (ty := .object "ScaleShop$Look") (C := RX2) (T := TX2) (N := 8) hx hb hts inX2 tyX2 tyX2_ok nmX2 hown hK hP hD hS 5 rfl rfl 7 (by decide) (hts _ mw_437) (fun _ h9 => h9) rfl (by decide +kernel) rfl rfl (Nat.le_of_ble_eq_true rfl) dX10_book_79 (fun H locs hP hD hS => ?_)
            obtain ⟨hP, hD⟩ := zre (W2 := ([_, _, _, _, _, (oc1 (fe g5) (rk g5) (wd g5) (tw g5) (pa g5) (pb g5) (.ref lo5) (.ref (nw g5)) .null), _] ++ va_pl T_1 f5)) hP hD rfl
            obtain ⟨Lp1, fp1, hP, hD, hpin_1⟩ := pl_pn (X := [_, _, _, _, _]) (old := [_]) (new := [_]) (cs1 := [_, _]) (L := L5) (cs := [(oc1 (fe g5) (rk g5) (wd g5) (tw g5) (pa g5) (pb g5) (.ref lo5) (.ref (nw g5)) (.ref (la dn g5)))]) hT_1 hP hD rfl rfl rfl
            obtain ⟨hfr_1, hkp_1, hce_1, hsx_1, hpw_1⟩ := id hpin_1
            have hcq5 := hfr_1 _ (List.mem_singleton.mpr rfl)
            have how5 := ow_L (own := own5) (g := 8003) (fun _ _ => rfl) hcq5
            have hks5 := hkp_1 own5 (ow own5 cq 8003) (fun g => ¬ g % 8 = 0) how5 ⟨fun _ hp => absurd (show own5 (fe g5) % 8 = 0 by rw [hcf5.2.2]; omega) hp, trivial⟩
            have hkn5 := kpT_tr hk5 hks5
            have hkf5 := hkp_1 own5 (ow own5 cq 8003) (fun g => g ≠ 8 * g5) how5 ⟨fun _ hp => absurd hcf5.2.2 hp, trivial⟩
            have hFn5 := bk_F1 hF5 hkf5 hcf5 (hce_1 (ow own5 cq 8003) 0 _ _ (8 * g5) rfl ((ow_o (fun e => hcq5 (by rw [← e]; exact hcf5.1))).trans hcf5.2.2))
            have hEn5 := loK_s hE5 hkf5 hcf5 (hce_1 (ow own5 cq 8003) 0 _ _ (8 * g5) rfl ((ow_o (fun e => hcq5 (by rw [← e]; exact hcf5.1))).trans hcf5.2.2))
            have hcn5 : chn Lp1 fp1 (ow own5 cq 8003) fe (la dn) nw (.ref cq) (g5 :: qs5) := ⟨cq, _, rfl, hce_1 (ow own5 cq 8003) 1 _ _ 8003 rfl ow_at, chn_kp hks5 (by omega) hc5⟩
            refine lv_iinc (v := nI (g5 + 1)) (lv' := [(6, .int (nI (g5 + 1))), (7, .ref (fe g5)), (5, .ref sq), (0, .ref x), (1, .int w1), (2, .int w2), (3, .int w3), (4, .null)]) hx hb dX10_book_82 hl (k := 1) rfl (nI_add g5 1) (Nat.le_of_ble_eq_true rfl) rfl (fun ls hl => ?_)
            refine lv_goto (tgt := 21) hx hb dX10_book_85 rfl ?_
            refine W.widen (k := 1 + (g5 + 1)) (n := 5 + 4 * (g5 + 1)) (by omega) (by omega) ?_
            exact ih_21 (g5 + 1) Lp1 fp1 (ow own5 cq 8003) (g5 :: qs5) (.ref cq) H locs ls (by first | with_reducible assumption | omega) (by first | with_reducible assumption | omega) (by first | exact hFn5 | exact bk_F0 hfm5 hF5) (by first | exact hkn5 | exact hk5) (by first | exact hEn5 | exact hE5) (by first | exact hcn5 | exact hc5) (by first | exact bk_q1 hq5 hm5 | exact bk_q0 hq5 hm5) hP hD hS (lv_sub hl [0, 2, 3, 4, 5, 6, 7] rfl)
  refine W.widen (k := 1 + 0) (n := 5 + 4 * 0) (by omega) (by omega) ?_
  exact hl_21 _ 0 L2 f2 own ([]) (.null) H locs ls (Nat.lt_succ_self _) (by first | with_reducible assumption | omega) (by rw [fmB_0]; exact FeA_kp hk2 (fun q hq => ⟨by omega, by omega⟩) hG.1) (kpT_rf) (loK_rf) (rfl) (⟨fun q h => (by cases h), fun q h => (by first | with_reducible assumption | omega)⟩) hP hD hS (lv_sub hl [0, 1, 2, 3, 4, 5, 6] rfl)
set_option maxHeartbeats 4000000 in
set_option maxRecDepth 100000 in
theorem k_book_m (l : Launch) (dC : Nat → ClassId) (dI : Nat → Nat → Nat) (cI cZ cF : ClassId) (sz : Nat) (cO : ClassId) (e0 : Nat) (mi : Nat) (x : Nat) (sh : Nat) (lw : Nat) (ro : Nat) (bq : Nat) (bp : Nat) (dq : Nat) (dp : Nat) (lv : Nat) (sl : Nat) (sd : Int32) (ul : Int32) (su : Int32) (sl : Nat) (ea : Nat) (nz : Nat) (mc9 : Int32) (fa : Nat) (FA : Nat → Option Nat) (own : Nat → Nat) (fe : Nat → Nat) (cl : Nat → Nat) (la : Nat → Nat → Nat) (nw : Nat → Nat) (md : Nat → Nat) (sp : Nat → Nat) (fm : Nat → Value) (SA : Nat → Option Nat) (bs : Nat) (dn : Nat) (ft : Nat) (FT : Nat → Nat) (V : Nat → Nat → Nat → Int32) (VX : Nat → Nat → Int32) (VY : Nat → Nat → Int32) (gh : Nat → Nat → Int32) (tn : Nat → Int32) (rk : Nat → Int32) (wd : Nat → Int32) (tw : Nat → Int32) (pa : Nat → Int32) (pb : Nat → Int32) (wh : Nat → Int32) (of9 : Nat → Int32) (we : Nat → Int32) (kd : Nat → Int32) (st : Nat → Int32) (gb : Nat → Int32) (it : Nat → Int32) (mn : Nat → Int32) (cx : Nat → Int32) (cy : Nat → Int32) (w1 : Int32) (w2 : Int32) (w3 : Int32) (mq : Nat) (L : List Nat) (f : Nat → va_E) (hG : shG cI cO L f e0 FA ea nz own fe cl la nw md sp fm SA bs dn dn ft ft FT V VX VY tn rk wd tw pa pb wh of9 we kd st gb it mn cx cy) (hM : mdA dn ft FT la nw md fm V kd st gb it) (hO : loG cI L f own fe nw md la bs dn dn ft ft FT V gh) (hdn : dn ≤ nz) (hn5 : nz ≤ 512) (hd5 : dn + 1 ≤ 512) (hnew : ∀ q, FT dn ≤ q → q < ft → ¬ (st q).toInt = 0) (hmv : ft = FT dn + 1 ∧ mq = fe (FT dn)) : zML l yX10_book cX10_book 8 (some .boolean) ({ frames := 7, cells := ft + 2, slots := 4 * ft + 805, locals := 155 } : Room) [.ref x, .int w1, .int w2, .int w3, .ref mq] (dC, dI) (zTyO cI cZ cF cO) e0 mi ([(oc8 x (.ref sh) (.ref lw) (.ref ro) (.ref bq) (.ref bp) (.ref dq) (.ref dp) (.ref lv) (.ref sl) (nI dn) sd ul su), (oc10 sl mc9 (.ref ea) (nI nz)), (oc7 sh (.ref fa) (nI ft)), (oq fa cF 200 FA)] ++ va_pl L f) sz (some (.int 1)) (fun A t => ∃ (mc1 : Int32), ∃ (L1 : List Nat), ∃ (f1 : Nat → va_E), ∃ (ea1 : Nat), (shB cI cO L1 f1 e0 FA ea1 bs (dn + 1) (dn + 1) ft (upN FT (dn + 1) ft) (upN V (dn + 1) (vC gh kd st gb it mn)) (upN VX (dn + 1) cx) (upN VY (dn + 1) cy) tn rk wd tw pa pb (upd wh (dn + 1) w1) (upd of9 (dn + 1) w2) (upd we (dn + 1) w3) kd st gb it mn cx cy) ∧ zPD (dC, dI) classes A ([(oc8 x (.ref sh) (.ref lw) (.ref ro) (.ref bq) (.ref bp) (.ref dq) (.ref dp) (.ref lv) (.ref sl) (nI (dn + 1)) sd ul 0), (oc10 sl mc1 (.ref ea1) (nI (dn + 1))), (oc7 sh (.ref fa) (nI ft)), (oq fa cF 200 FA)] ++ va_pl L1 f1) t.heap) (ft + 2) (4 * ft + 805) := by
  refine zInL (own := "ScaleShop") (loc := [(0, .ref x), (1, .int w1), (2, .int w2), (3, .int w3), (4, .ref mq)]) rfl rfl rfl rfl (fun p e s m below meth c hx hb hr hts hown hlocks hml hnm9 A hA hS hP hD hK hXL hXN hK3 Q9 hQ9 ls hl => ?_)
  have h200 : ft ≤ 200 := hG.2.2.2.2.2.1.2.2.2.2.2
  have hFA9 := hG.2.2.2.2.2.2
  refine lv_aload_n hx hb dX10_book_0 rfl (lv_at hl 0 rfl) ?_
  obtain ⟨hPc, hDc, hFc⟩ := zo_part (cx := [_, _]) hP hD hS hA [0, 1] rfl rfl
  refine zcall (st1 := []) (va_runV (As := []) (rest := []) ⟨hx, hb, hml, hown, hts⟩ (k_forgetUndone l dC dI cI cZ cF s.heap.size cO e0 mi x sh lw ro bq bp dq dp lv sl sd ul su sl ea nz mc9 dn SA L f own (hG.2.2.2.2.1) (by first | with_reducible assumption | omega) (by first | with_reducible assumption | omega)) (csV_92 hts rfl rfl ⟨Nat.le_of_ble_eq_true rfl, Nat.le_of_ble_eq_true rfl⟩) (zPVL (q0 := 0) (ci := 8) hPc hDc hK hXL hS hFc rfl rfl) rfl rfl hl.1 rfl (lv_room (Nat.le_of_ble_eq_true rfl)) dX10_book_1 ⟨Nat.zero_le _, Nat.zero_le _⟩) hS hFc hFc rfl (fun t H locs ht hB hk1 hS => ?_)
  obtain ⟨mc2, L2, f2, SA2, hL2, hS2, hk2, hP1, hD1⟩ := hB
  rw [ht] at hP1
  obtain ⟨hP, hD⟩ := znP (W2 := [_, (oc10 sl mc2 (.ref ea) (nI dn)), _, _]) hP hD hk1 hFc hP1 hD1 [0, 1] [false, false, true, true] [false, false, true, true] [0, 1] (by decide +kernel) rfl rfl rfl rfl rfl
  clear hk1 hPc hDc hFc hP1 hD1 ht
  refine va_new (ci := 11) (fs := [.int 0, .int 0, .int 0, .null, .null]) (C := RX9) (T := TX9) (N := 5) hx hb hts inX9 tyX9 tyX9_ok hown (hts _ mw_757) (hts _ mw_758) (hts _ mw_116) hK hP hD hS hA rfl dfX9 (show 1 ≤ ft + 2 by omega) (show 5 ≤ 4 * ft + 805 by omega) dX10_book_4 (fun sq H hP hD hS => ?_)
  have hP := va_P.swap hP
  have hD := va_D.swap hD
  obtain ⟨hP, hD⟩ := zre (W2 := ([_, _, _, _, (oc11 sq 0 0 0 .null .null)] ++ va_pl L2 f2)) hP hD rfl
  refine lv_dup hx hb dX10_book_7 rfl ?_
  refine lv_iload_n hx hb dX10_book_8 rfl (lv_at hl 1 rfl) ?_
  refine lv_iload_n hx hb dX10_book_9 rfl (lv_at hl 2 rfl) ?_
  refine lv_iload_n hx hb dX10_book_10 rfl (lv_at hl 3 rfl) ?_
  refine lv_aload hx hb dX10_book_11 (lv_at hl 4 rfl) ?_
  obtain ⟨hPc, hDc, hFc⟩ := zo_sub (wc := [_]) hP hD hS hA [4] rfl rfl
  refine zcall (st1 := [.ref sq]) (va_runI (As := [.int w1, .int w2, .int w3, .ref mq]) (rest := [.ref sq]) ⟨hx, hb, hml, hown, hts⟩ (k_Step_init l dC dI cI cZ cF H.size sq w1 w2 w3 mq ) (cwI 4 hts (zz_gC mc_yX9_init) rfl rfl rfl (hts _ mw_116) (hts _ mw_759) (hts _ mw_760) rfl (by decide +kernel) ⟨Nat.le_of_ble_eq_true rfl, Nat.le_of_ble_eq_true rfl⟩) (zPS2 hPc hDc hK3 hXN) rfl rfl hl.1 rfl (lv_room (Nat.le_of_ble_eq_true rfl)) dX10_book_13 ⟨show 1 ≤ ft + 2 by omega, show 5 ≤ 4 * ft + 805 by omega⟩) hS hFc hFc rfl (fun t H locs ht hB hk1 hS => ?_)
  obtain ⟨hP1, hD1⟩ := hB
  rw [ht] at hP1
  obtain ⟨hP, hD⟩ := znQ (W2 := [_, _, _, _, (oc11 sq w1 w2 w3 (.ref mq) .null)]) hP hD hk1 hFc hP1 hD1 [4] [true, true, true, true] [true, true, true, true, false] [4] (by decide +kernel) rfl rfl rfl rfl rfl
  clear hk1 hPc hDc hFc hP1 hD1 ht
  refine lv_astore (lv' := [(5, .ref sq), (0, .ref x), (1, .int w1), (2, .int w2), (3, .int w3), (4, .ref mq)]) hx hb dX10_book_16 hl (Nat.le_of_ble_eq_true rfl) rfl (fun ls hl => ?_)
  refine lv_iconst (v := 0) hx hb dX10_book_18 rfl ?_
  refine lv_istore (lv' := [(6, .int 0), (5, .ref sq), (0, .ref x), (1, .int w1), (2, .int w2), (3, .int w3), (4, .ref mq)]) hx hb dX10_book_19 hl (Nat.le_of_ble_eq_true rfl) rfl (fun ls hl => ?_)
  have hl_21 : ∀ (n9 : Nat) (g5 : Nat) (L5 : List Nat) (f5 : Nat → va_E) (own5 : Nat → Nat) (qs5 : List Nat) (ch5 : Value) (H : Heap) (locs : List Loc) (ls : Array Slot), ft - g5 < n9 → (g5 ≤ ft) → (FeA cI L5 f5 own5 ft fe nw cl (fmB g5 fm) rk wd tw pa pb) → (kpT (fun g => ¬ g % 8 = 0) L2 f2 own L5 f5 own5) → (loK cI L2 f2 own L5 f5 own5 ft fe) → (chn L5 f5 own5 fe (la dn) nw ch5 qs5) → ((∀ q ∈ qs5, q < g5 ∧ ¬ md q = 0) ∧ ∀ q, q < g5 → ¬ md q = 0 → q ∈ qs5) → va_P (dC, dI) classes ([(oc8 x (.ref sh) (.ref lw) (.ref ro) (.ref bq) (.ref bp) (.ref dq) (.ref dp) (.ref lv) (.ref sl) (nI dn) sd ul su), (oc10 sl mc2 (.ref ea) (nI dn)), (oc7 sh (.ref fa) (nI ft)), (oq fa cF 200 FA), (oc11 sq w1 w2 w3 (.ref mq) ch5)] ++ va_pl L5 f5) H → va_D A ([(oc8 x (.ref sh) (.ref lw) (.ref ro) (.ref bq) (.ref bp) (.ref dq) (.ref dp) (.ref lv) (.ref sl) (nI dn) sd ul su), (oc10 sl mc2 (.ref ea) (nI dn)), (oc7 sh (.ref fa) (nI ft)), (oq fa cF 200 FA), (oc11 sq w1 w2 w3 (.ref mq) ch5)] ++ va_pl L5 f5) → va_S A s.heap H locs → lv_has ls 8 [(6, .int (nI g5)), (5, .ref sq), (0, .ref x), (1, .int w1), (2, .int w2), (3, .int w3), (4, .ref mq)] → W p l e ({ frames := 7, cells := ft + 2, slots := 4 * ft + 805, locals := 155 } : Room) s m ([.ref x, .int w1, .int w2, .int w3, .ref mq] : List Value).toArray below meth c H locs (1 + g5) (5 + 4 * g5) Q9 (F0 m 21 ls []) := by
    intro n9
    induction n9 with
    | zero => intro g5 L5 f5 own5 qs5 ch5 H locs ls hm; exact absurd hm (Nat.not_lt_zero _)
    | succ n9 ih_21 =>
      intro g5 L5 f5 own5 qs5 ch5 H locs ls hm hg5 hF5 hk5 hE5 hc5 hq5 hP hD hS hl
      refine lv_iload hx hb dX10_book_21 (lv_at hl 0 rfl) ?_
      refine lv_aload_n hx hb dX10_book_23 rfl (lv_at hl 2 rfl) ?_
      refine va_get (D := (dC, dI)) (ci := 8) (v := .ref sh) (C := RX10) (T := TX10) (N := 13) hx hb hts inX10 hown hK hP 0 rfl rfl 0 (Nat.le_of_ble_eq_true rfl) (hts _ mw_309) (fun _ h9 => h9) rfl dX10_book_24 ?_
      refine va_get (D := (dC, dI)) (ci := 7) (v := .int (nI ft)) (C := RX8) (T := TX8) (N := 2) hx hb hts inX8 hown hK hP 2 rfl rfl 1 (Nat.le_of_ble_eq_true rfl) (hts _ mw_140) (fun _ h9 => h9) rfl dX10_book_27 ?_
      have b9_2 : zlt (g5) := show g5 < 2147483648 by omega
      have b9_3 : zlt (ft) := show ft < 2147483648 by omega
      refine lv_icmp_ge (tgt := 88) hx hb dX10_book_30 rfl (fun c_1 => ?_) (fun c_1 => ?_)
      · have c_1 : ((ft : Nat) : Int) ≤ ((g5 : Nat) : Int) := zc_le (nI_toInt b9_3) (nI_toInt b9_2) c_1
        rcases LsA_3 (LsA_kp hk5 ⟨by omega, by omega⟩ hL2) with ⟨hEa, hd0⟩ | ⟨cap5, hce5, hcl5, hc10, hc1k, hent⟩ | ⟨hce5, hc10, hent⟩
        · skip
          have hz0 : nI dn = 0 := (by rw [hd0]; rfl)
          rw [hEa, hz0] at hP hD
          obtain ⟨hP, hD⟩ := zre (W2 := ([_, _, _, _, _] ++ va_pl L5 f5)) hP hD rfl
          refine lv_aload_n hx hb dX10_book_88 rfl (lv_at hl 2 rfl) ?_
          refine va_get (D := (dC, dI)) (ci := 8) (v := .ref sl) (C := RX10) (T := TX10) (N := 13) hx hb hts inX10 hown hK hP 0 rfl rfl 8 (Nat.le_of_ble_eq_true rfl) (hts _ mw_317) (fun _ h9 => h9) rfl dX10_book_89 ?_
          refine lv_aload hx hb dX10_book_92 (lv_at hl 1 rfl) ?_
          obtain ⟨hPc, hDc, hFc⟩ := zo_sub (wc := [_, _]) hP hD hS hA [1, 4] rfl rfl
          refine zcall (st1 := [.int 1]) (va_runV (As := [.ref sq]) (rest := []) ⟨hx, hb, hml, hown, hts⟩ (k_AL_add_0 l dC dI cI cZ cF H.size cO e0 mi sl mc2 sq w1 w2 w3 (.ref mq) ch5 ) (csV_93 hts rfl rfl ⟨Nat.le_of_ble_eq_true rfl, Nat.le_of_ble_eq_true rfl⟩) (zPVL (q0 := 0) (ci := 10) hPc hDc hK hXL hS hFc rfl rfl) rfl rfl hl.1 rfl (lv_room (Nat.le_of_ble_eq_true rfl)) dX10_book_94 ⟨show (1 + g5 + 1) ≤ ft + 2 by omega, show (5 + 4 * g5 + 10) ≤ 4 * ft + 805 by omega⟩) hS hFc hFc rfl (fun t H locs ht hB hk1 hS => ?_)
          obtain ⟨q9, hP1, hD1⟩ := hB
          rw [ht] at hP1
          obtain ⟨hP, hD⟩ := znQ (W2 := [_, _, _, (oc10 sl (mc2 + 1) (.ref q9) (nI 1)), (oc11 sq w1 w2 w3 (.ref mq) ch5), (oq q9 cO 10 (va_up (fun _ => none) 0 (some sq)))]) hP hD hk1 hFc hP1 hD1 [1, 4] [true, false, true, true] [true, true, true, false, false, false] [3, 4, 5] (by decide +kernel) rfl rfl rfl rfl rfl
          clear hk1 hPc hDc hFc hP1 hD1 ht
          have hz1 : nI 1 = nI (dn + 1) := zn_eq (by omega)
          rw [hz1] at hP hD
          obtain ⟨hP, hD⟩ := zre (W2 := ([_, _, _, _, _, _] ++ va_pl L5 f5)) hP hD rfl
          refine lv_pop hx hb dX10_book_97 rfl ?_
          refine lv_aload_n hx hb dX10_book_98 rfl (lv_at hl 2 rfl) ?_
          refine lv_aload_n hx hb dX10_book_99 rfl (lv_at hl 2 rfl) ?_
          refine va_get (D := (dC, dI)) (ci := 8) (v := .ref sl) (C := RX10) (T := TX10) (N := 13) hx hb hts inX10 hown hK hP 0 rfl rfl 8 (Nat.le_of_ble_eq_true rfl) (hts _ mw_317) (fun _ h9 => h9) rfl dX10_book_100 ?_
          obtain ⟨hPc, hDc, hFc, hI1⟩ := zi_sub (wc := [_]) hP hD hS hA [3] rfl rfl
          refine zcall (st1 := [.int (nI (dn + 1)), .ref x]) (va_runV (As := []) (rest := [.ref x]) ⟨hx, hb, hml, hown, hts⟩ (k_AL_size l dC dI cI cZ cF H.size sl q9 (dn + 1) (mc2 + 1) ) (csV_90 hts rfl rfl ⟨Nat.le_of_ble_eq_true rfl, Nat.le_of_ble_eq_true rfl⟩) (zPV2 (q0 := 0) (ci := 10) hPc hDc hK3 hXN rfl rfl) rfl rfl hl.1 rfl (lv_room (Nat.le_of_ble_eq_true rfl)) dX10_book_103 ⟨show (1 + g5 + 1) ≤ ft + 2 by omega, show (5 + 4 * g5 + 10) ≤ 4 * ft + 805 by omega⟩) hS hFc hFc rfl (fun t H locs ht hB hk1 hS => ?_)
          obtain ⟨hP1, hD1⟩ := hB
          rw [ht] at hP1
          replace hP := z0 hP hD hk1 hP1 hI1
          clear hk1 hPc hDc hFc hP1 hD1 ht hI1
          refine va_put (D := (dC, dI)) (ci := 8) (v := .int (nI (dn + 1))) (ty := .int) (C := RX10) (T := TX10) (N := 13) hx hb hts inX10 tyX10 tyX10_ok nmX10 hown hK hP hD hS 0 rfl rfl 9 (by decide) (hts _ mw_318) (fun _ h9 => h9) rfl (by decide +kernel) rfl rfl (Nat.le_of_ble_eq_true rfl) dX10_book_106 (fun H locs hP hD hS => ?_)
          obtain ⟨hP, hD⟩ := zre (W2 := ([(oc8 x (.ref sh) (.ref lw) (.ref ro) (.ref bq) (.ref bp) (.ref dq) (.ref dp) (.ref lv) (.ref sl) (nI (dn + 1)) sd ul su), _, _, _, _, _] ++ va_pl L5 f5)) hP hD rfl
          refine lv_aload_n hx hb dX10_book_109 rfl (lv_at hl 2 rfl) ?_
          refine lv_iconst (v := 0) hx hb dX10_book_110 rfl ?_
          refine va_put (D := (dC, dI)) (ci := 8) (v := .int 0) (ty := .int) (C := RX10) (T := TX10) (N := 13) hx hb hts inX10 tyX10 tyX10_ok nmX10 hown hK hP hD hS 0 rfl rfl 12 (by decide) (hts _ mw_321) (fun _ h9 => h9) rfl (by decide +kernel) rfl rfl (Nat.le_of_ble_eq_true rfl) dX10_book_111 (fun H locs hP hD hS => ?_)
          obtain ⟨hP, hD⟩ := zre (W2 := ([(oc8 x (.ref sh) (.ref lw) (.ref ro) (.ref bq) (.ref bp) (.ref dq) (.ref dp) (.ref lv) (.ref sl) (nI (dn + 1)) sd ul 0), _, _, _, _, _] ++ va_pl L5 f5)) hP hD rfl
          obtain ⟨Lp1, fp1, hP, hD, hpin_1⟩ := pl_pn (X := [_, _, _, _]) (old := []) (new := [_, _]) (cs1 := [_, _]) (L := L5) (cs := []) outPl_nil hP hD rfl rfl rfl
          obtain ⟨hfr_1, hkp_1, hce_1, hsx_1, hpw_1⟩ := id hpin_1
          have hgf : g5 = ft := (by omega)
          rw [hgf] at hF5 hq5
          have hs6 := hfr_1 _ (List.mem_cons_self ..)
          have hq6 := hfr_1 _ (List.mem_cons_of_mem _ (List.mem_cons_self ..))
          have hne6 : sq ≠ q9 := pwN hpw_1 (i := 0) (j := 1) rfl rfl (by decide)
          have how6 : ∀ a ∈ L5, (ow (ow own5 sq 8001) q9 8002) a = own5 a := ow_L (ow_L (fun _ _ => rfl) hs6) hq6
          have hk6 := hkp_1 own5 (ow (ow own5 sq 8001) q9 8002) (fun g => g ≠ 8002) how6 trivial
          have hst6 : ce Lp1 fp1 (ow (ow own5 sq 8001) q9 8002) 8001 sq (.inr (11, [.int w1, .int w2, .int w3, .ref mq, ch5])) := hce_1 (ow (ow own5 sq 8001) q9 8002) 0 _ _ 8001 rfl ((ow_o hne6).trans ow_at)
          have hL6 : LsA cO Lp1 fp1 (ow (ow own5 sq 8001) q9 8002) e0 q9 (dn + 1) (va_up (fun _ => none) 0 (some sq)) := LsA_add (SA := SA2) (hce_1 (ow (ow own5 sq 8001) q9 8002) 1 _ _ 8002 rfl ow_at) (by omega) (by omega) (by omega) hk6 (fun i hi => by omega) (fun i hi => by omega) (by rw [hd0]; exact up_atN) hst6
          have hsa6 : ∀ i, i < dn → va_up (fun _ => none) 0 (some sq) i = SA i := fun i hi => by omega
          have hsb6 : va_up (fun _ => none) 0 (some sq) dn = some sq := (by rw [hd0]; exact up_atN)
          have hB6 := bk_end hG hM (fun g a e hp h => hk6 g a e hp.2 (hk5 g a e hp.1 (hk2 g a e hp.2 h))) (FeA_kp hk6 (fun q hq => ⟨by omega, by omega⟩) (fmB_e hF5)) hL6 (by omega) hnew hsa6 hsb6 hst6 (chn_kp hk6 (by omega) hc5) hq5 (Or.inr ⟨hmv.1, by rw [hmv.2]⟩) hO (loK_tr (loK_kp hk2 (fun q hq => ⟨by omega, by omega⟩)) (loK_tr hE5 (loK_kp hk6 (fun q hq => ⟨by omega, by omega⟩))))
          refine lv_iconst (v := 1) hx hb dX10_book_114 rfl ?_
          obtain ⟨hP9, hD9⟩ := zq_part (cx := [_, _, _, _]) hP hD [0, 3, 1, 2] rfl rfl
          refine W.widen (k := ft + 2) (n := 4 * ft + 805) (by omega) (by omega) ?_
          rw [hQ9]
          exact W.zret (ty := .boolean) (v := 1) hx hb hr (rfl) (fun t ht hW => ⟨⟨rfl, (mc2 + 1), Lp1, fp1, q9, (hB6), by rw [ht]; exact hP9, hD9⟩, hS.F ht⟩) hS.2.2 dX10_book_115
        · skip
          have hc9_1 : inPl L5 f5 [(oq ea cO cap5 SA2)] := ⟨ce_pl hce5, trivial⟩
          have hD0_1 := hD
          obtain ⟨T_1, hT_1, hP, hD⟩ := pl_oT hP hD hc9_1 (List.pairwise_singleton _ _)
          obtain ⟨hP, hD⟩ := zre (W2 := ([_, _, _, _, _, _] ++ va_pl T_1 f5)) hP hD rfl
          refine lv_aload_n hx hb dX10_book_88 rfl (lv_at hl 2 rfl) ?_
          refine va_get (D := (dC, dI)) (ci := 8) (v := .ref sl) (C := RX10) (T := TX10) (N := 13) hx hb hts inX10 hown hK hP 0 rfl rfl 8 (Nat.le_of_ble_eq_true rfl) (hts _ mw_317) (fun _ h9 => h9) rfl dX10_book_89 ?_
          refine lv_aload hx hb dX10_book_92 (lv_at hl 1 rfl) ?_
          obtain ⟨hPc, hDc, hFc⟩ := zo_sub (wc := [_, _, _]) hP hD hS hA [1, 4, 5] rfl rfl
          refine zcall (st1 := [.int 1]) (va_runV (As := [.ref sq]) (rest := []) ⟨hx, hb, hml, hown, hts⟩ (k_AL_add_r l dC dI cI cZ cF H.size cO e0 mi sl ea dn mc2 cap5 SA2 sq w1 w2 w3 (.ref mq) ch5 (by first | with_reducible assumption | omega) (by first | with_reducible assumption | omega)) (csV_93 hts rfl rfl ⟨Nat.le_of_ble_eq_true rfl, Nat.le_of_ble_eq_true rfl⟩) (zPVL (q0 := 0) (ci := 10) hPc hDc hK hXL hS hFc rfl rfl) rfl rfl hl.1 rfl (lv_room (Nat.le_of_ble_eq_true rfl)) dX10_book_94 ⟨show 1 + g5 ≤ ft + 2 by omega, show 5 + 4 * g5 ≤ 4 * ft + 805 by omega⟩) hS hFc hFc rfl (fun t H locs ht hB hk1 hS => ?_)
          obtain ⟨hP1, hD1⟩ := hB
          rw [ht] at hP1
          obtain ⟨hP, hD⟩ := znQ (W2 := [_, (oc10 sl (mc2 + 1) (.ref ea) (nI (dn + 1))), _, _, _, (oq ea cO cap5 (va_up SA2 dn (some sq)))]) hP hD hk1 hFc hP1 hD1 [1, 4, 5] [true, false, true, true] [true, false, true, true, false, false] [1, 4, 5] (by decide +kernel) rfl rfl rfl rfl rfl
          clear hk1 hPc hDc hFc hP1 hD1 ht
          refine lv_pop hx hb dX10_book_97 rfl ?_
          refine lv_aload_n hx hb dX10_book_98 rfl (lv_at hl 2 rfl) ?_
          refine lv_aload_n hx hb dX10_book_99 rfl (lv_at hl 2 rfl) ?_
          refine va_get (D := (dC, dI)) (ci := 8) (v := .ref sl) (C := RX10) (T := TX10) (N := 13) hx hb hts inX10 hown hK hP 0 rfl rfl 8 (Nat.le_of_ble_eq_true rfl) (hts _ mw_317) (fun _ h9 => h9) rfl dX10_book_100 ?_
          obtain ⟨hPc, hDc, hFc, hI1⟩ := zi_sub (wc := [_]) hP hD hS hA [1] rfl rfl
          refine zcall (st1 := [.int (nI (dn + 1)), .ref x]) (va_runV (As := []) (rest := [.ref x]) ⟨hx, hb, hml, hown, hts⟩ (k_AL_size l dC dI cI cZ cF H.size sl ea (dn + 1) (mc2 + 1) ) (csV_90 hts rfl rfl ⟨Nat.le_of_ble_eq_true rfl, Nat.le_of_ble_eq_true rfl⟩) (zPV2 (q0 := 0) (ci := 10) hPc hDc hK3 hXN rfl rfl) rfl rfl hl.1 rfl (lv_room (Nat.le_of_ble_eq_true rfl)) dX10_book_103 ⟨show 1 + g5 ≤ ft + 2 by omega, show 5 + 4 * g5 ≤ 4 * ft + 805 by omega⟩) hS hFc hFc rfl (fun t H locs ht hB hk1 hS => ?_)
          obtain ⟨hP1, hD1⟩ := hB
          rw [ht] at hP1
          replace hP := z0 hP hD hk1 hP1 hI1
          clear hk1 hPc hDc hFc hP1 hD1 ht hI1
          refine va_put (D := (dC, dI)) (ci := 8) (v := .int (nI (dn + 1))) (ty := .int) (C := RX10) (T := TX10) (N := 13) hx hb hts inX10 tyX10 tyX10_ok nmX10 hown hK hP hD hS 0 rfl rfl 9 (by decide) (hts _ mw_318) (fun _ h9 => h9) rfl (by decide +kernel) rfl rfl (Nat.le_of_ble_eq_true rfl) dX10_book_106 (fun H locs hP hD hS => ?_)
          obtain ⟨hP, hD⟩ := zre (W2 := ([(oc8 x (.ref sh) (.ref lw) (.ref ro) (.ref bq) (.ref bp) (.ref dq) (.ref dp) (.ref lv) (.ref sl) (nI (dn + 1)) sd ul su), _, _, _, _, _] ++ va_pl T_1 f5)) hP hD rfl
          refine lv_aload_n hx hb dX10_book_109 rfl (lv_at hl 2 rfl) ?_
          refine lv_iconst (v := 0) hx hb dX10_book_110 rfl ?_
          refine va_put (D := (dC, dI)) (ci := 8) (v := .int 0) (ty := .int) (C := RX10) (T := TX10) (N := 13) hx hb hts inX10 tyX10 tyX10_ok nmX10 hown hK hP hD hS 0 rfl rfl 12 (by decide) (hts _ mw_321) (fun _ h9 => h9) rfl (by decide +kernel) rfl rfl (Nat.le_of_ble_eq_true rfl) dX10_book_111 (fun H locs hP hD hS => ?_)
          obtain ⟨hP, hD⟩ := zre (W2 := ([(oc8 x (.ref sh) (.ref lw) (.ref ro) (.ref bq) (.ref bp) (.ref dq) (.ref dp) (.ref lv) (.ref sl) (nI (dn + 1)) sd ul 0), _, _, _, _, _] ++ va_pl T_1 f5)) hP hD rfl
          obtain ⟨hP, hD⟩ := zq_part (cx := [_, _, _, _, _, _]) hP hD [0, 1, 2, 3, 5, 4] rfl rfl
          obtain ⟨Lp1, fp1, hP, hD, hpin_1⟩ := pl_pn (X := [_, _, _, _]) (old := [_]) (new := [_]) (cs1 := [_, _]) (L := L5) (cs := [(oq ea cO cap5 SA2)]) hT_1 hP hD rfl rfl rfl
          obtain ⟨hfr_1, hkp_1, hce_1, hsx_1, hpw_1⟩ := id hpin_1
          have hgf : g5 = ft := (by omega)
          rw [hgf] at hF5 hq5
          have hs6 := hfr_1 _ (List.mem_cons_self ..)
          have how6 : ∀ a ∈ L5, (ow own5 sq 8001) a = own5 a := ow_L (fun _ _ => rfl) hs6
          have hk6 := hkp_1 own5 (ow own5 sq 8001) (fun g => g ≠ 8002) how6 ⟨fun _ hp => absurd hce5.2.2 hp, trivial⟩
          have hst6 : ce Lp1 fp1 (ow own5 sq 8001) 8001 sq (.inr (11, [.int w1, .int w2, .int w3, .ref mq, ch5])) := hce_1 (ow own5 sq 8001) 1 _ _ 8001 rfl ow_at
          have hL6 : LsA cO Lp1 fp1 (ow own5 sq 8001) e0 ea (dn + 1) (va_up SA2 dn (some sq)) := LsA_add (hce_1 (ow own5 sq 8001) 0 _ _ 8002 rfl ((ow_o (fun e => hs6 (by rw [← e]; exact hce5.1))).trans hce5.2.2)) (by omega) hc10 hc1k hk6 hent up_oN up_atN hst6
          have hsa6 : ∀ i, i < dn → va_up SA2 dn (some sq) i = SA i := fun i hi => (up_oN i hi).trans (hS2 i hi)
          have hsb6 : va_up SA2 dn (some sq) dn = some sq := up_atN
          have hB6 := bk_end hG hM (fun g a e hp h => hk6 g a e hp.2 (hk5 g a e hp.1 (hk2 g a e hp.2 h))) (FeA_kp hk6 (fun q hq => ⟨by omega, by omega⟩) (fmB_e hF5)) hL6 (by omega) hnew hsa6 hsb6 hst6 (chn_kp hk6 (by omega) hc5) hq5 (Or.inr ⟨hmv.1, by rw [hmv.2]⟩) hO (loK_tr (loK_kp hk2 (fun q hq => ⟨by omega, by omega⟩)) (loK_tr hE5 (loK_kp hk6 (fun q hq => ⟨by omega, by omega⟩))))
          refine lv_iconst (v := 1) hx hb dX10_book_114 rfl ?_
          obtain ⟨hP9, hD9⟩ := zu_part (cx := [_, _, _, _]) hP hD [true, true, true, true] rfl rfl
          refine W.widen (k := ft + 2) (n := 4 * ft + 805) (by omega) (by omega) ?_
          rw [hQ9]
          exact W.zret (ty := .boolean) (v := 1) hx hb hr (rfl) (fun t ht hW => ⟨⟨rfl, (mc2 + 1), Lp1, fp1, ea, (hB6), by rw [ht]; exact hP9, hD9⟩, hS.F ht⟩) hS.2.2 dX10_book_115
        · skip
          have hc9_1 : inPl L5 f5 [(oq ea cO dn SA2)] := ⟨ce_pl hce5, trivial⟩
          have hD0_1 := hD
          obtain ⟨T_1, hT_1, hP, hD⟩ := pl_oT hP hD hc9_1 (List.pairwise_singleton _ _)
          obtain ⟨hP, hD⟩ := zre (W2 := ([_, _, _, _, _, _] ++ va_pl T_1 f5)) hP hD rfl
          refine lv_aload_n hx hb dX10_book_88 rfl (lv_at hl 2 rfl) ?_
          refine va_get (D := (dC, dI)) (ci := 8) (v := .ref sl) (C := RX10) (T := TX10) (N := 13) hx hb hts inX10 hown hK hP 0 rfl rfl 8 (Nat.le_of_ble_eq_true rfl) (hts _ mw_317) (fun _ h9 => h9) rfl dX10_book_89 ?_
          refine lv_aload hx hb dX10_book_92 (lv_at hl 1 rfl) ?_
          obtain ⟨hPc, hDc, hFc⟩ := zo_part (cx := [_, _, _]) hP hD hS hA [1, 4, 5] rfl rfl
          refine zcall (st1 := [.int 1]) (va_runV (As := [.ref sq]) (rest := []) ⟨hx, hb, hml, hown, hts⟩ (k_AL_add_g l dC dI cI cZ cF H.size cO e0 mi sl ea dn mc2 SA2 sq w1 w2 w3 (.ref mq) ch5 T_1 f5 (by first | with_reducible assumption | omega) (by first | with_reducible assumption | omega) (fun i hi => by obtain ⟨y, vs, g1, g2⟩ := hent i hi; exact ⟨y, vs, g1, by rw [← hT_1]; exact (ce_out g2 (fun c hc => by rw [List.mem_singleton.mp hc]; show own5 ea ≠ 8001; rw [hce5.2.2]; decide)).1, g2.2.1⟩)) (csV_93 hts rfl rfl ⟨Nat.le_of_ble_eq_true rfl, Nat.le_of_ble_eq_true rfl⟩) (zPVL (q0 := 0) (ci := 10) hPc hDc hK hXL hS hFc rfl rfl) rfl rfl hl.1 rfl (lv_room (Nat.le_of_ble_eq_true rfl)) dX10_book_94 ⟨show (1 + g5 + 1) ≤ ft + 2 by omega, show (5 + 4 * g5 + (dn + dn / 2)) ≤ 4 * ft + 805 by omega⟩) hS hFc hFc rfl (fun t H locs ht hB hk1 hS => ?_)
          obtain ⟨q9, hP1, hD1⟩ := hB
          rw [ht] at hP1
          obtain ⟨hP, hD⟩ := znP (W2 := [_, _, _, (oc10 sl (mc2 + 1) (.ref q9) (nI (dn + 1))), (oc11 sq w1 w2 w3 (.ref mq) ch5), (oq ea cO dn SA2), (oq q9 cO (dn + dn / 2) (va_up (va_cpy SA2 (fun _ => none) 0 0 dn) dn (some sq)))]) hP hD hk1 hFc hP1 hD1 [1, 4, 5] [true, false, true, true] [true, true, true, false, false, false, false] [3, 4, 5, 6] (by decide +kernel) rfl rfl rfl rfl rfl
          clear hk1 hPc hDc hFc hP1 hD1 ht
          refine lv_pop hx hb dX10_book_97 rfl ?_
          refine lv_aload_n hx hb dX10_book_98 rfl (lv_at hl 2 rfl) ?_
          refine lv_aload_n hx hb dX10_book_99 rfl (lv_at hl 2 rfl) ?_
          refine va_get (D := (dC, dI)) (ci := 8) (v := .ref sl) (C := RX10) (T := TX10) (N := 13) hx hb hts inX10 hown hK hP 0 rfl rfl 8 (Nat.le_of_ble_eq_true rfl) (hts _ mw_317) (fun _ h9 => h9) rfl dX10_book_100 ?_
          obtain ⟨hPc, hDc, hFc, hI1⟩ := zi_sub (wc := [_]) hP hD hS hA [3] rfl rfl
          refine zcall (st1 := [.int (nI (dn + 1)), .ref x]) (va_runV (As := []) (rest := [.ref x]) ⟨hx, hb, hml, hown, hts⟩ (k_AL_size l dC dI cI cZ cF H.size sl q9 (dn + 1) (mc2 + 1) ) (csV_90 hts rfl rfl ⟨Nat.le_of_ble_eq_true rfl, Nat.le_of_ble_eq_true rfl⟩) (zPV2 (q0 := 0) (ci := 10) hPc hDc hK3 hXN rfl rfl) rfl rfl hl.1 rfl (lv_room (Nat.le_of_ble_eq_true rfl)) dX10_book_103 ⟨show (1 + g5 + 1) ≤ ft + 2 by omega, show (5 + 4 * g5 + (dn + dn / 2)) ≤ 4 * ft + 805 by omega⟩) hS hFc hFc rfl (fun t H locs ht hB hk1 hS => ?_)
          obtain ⟨hP1, hD1⟩ := hB
          rw [ht] at hP1
          replace hP := z0 hP hD hk1 hP1 hI1
          clear hk1 hPc hDc hFc hP1 hD1 ht hI1
          refine va_put (D := (dC, dI)) (ci := 8) (v := .int (nI (dn + 1))) (ty := .int) (C := RX10) (T := TX10) (N := 13) hx hb hts inX10 tyX10 tyX10_ok nmX10 hown hK hP hD hS 0 rfl rfl 9 (by decide) (hts _ mw_318) (fun _ h9 => h9) rfl (by decide +kernel) rfl rfl (Nat.le_of_ble_eq_true rfl) dX10_book_106 (fun H locs hP hD hS => ?_)
          obtain ⟨hP, hD⟩ := zre (W2 := ([(oc8 x (.ref sh) (.ref lw) (.ref ro) (.ref bq) (.ref bp) (.ref dq) (.ref dp) (.ref lv) (.ref sl) (nI (dn + 1)) sd ul su), _, _, _, _, _, _] ++ va_pl T_1 f5)) hP hD rfl
          refine lv_aload_n hx hb dX10_book_109 rfl (lv_at hl 2 rfl) ?_
          refine lv_iconst (v := 0) hx hb dX10_book_110 rfl ?_
          refine va_put (D := (dC, dI)) (ci := 8) (v := .int 0) (ty := .int) (C := RX10) (T := TX10) (N := 13) hx hb hts inX10 tyX10 tyX10_ok nmX10 hown hK hP hD hS 0 rfl rfl 12 (by decide) (hts _ mw_321) (fun _ h9 => h9) rfl (by decide +kernel) rfl rfl (Nat.le_of_ble_eq_true rfl) dX10_book_111 (fun H locs hP hD hS => ?_)
          obtain ⟨hP, hD⟩ := zre (W2 := ([(oc8 x (.ref sh) (.ref lw) (.ref ro) (.ref bq) (.ref bp) (.ref dq) (.ref dp) (.ref lv) (.ref sl) (nI (dn + 1)) sd ul 0), _, _, _, _, _, _] ++ va_pl T_1 f5)) hP hD rfl
          obtain ⟨hP, hD⟩ := zq_part (cx := [_, _, _, _, _, _, _]) hP hD [0, 1, 2, 3, 5, 4, 6] rfl rfl
          obtain ⟨Lp1, fp1, hP, hD, hpin_1⟩ := pl_pn (X := [_, _, _, _]) (old := [_]) (new := [_, _]) (cs1 := [_, _, _]) (L := L5) (cs := [(oq ea cO dn SA2)]) hT_1 hP hD rfl rfl rfl
          obtain ⟨hfr_1, hkp_1, hce_1, hsx_1, hpw_1⟩ := id hpin_1
          have hgf : g5 = ft := (by omega)
          rw [hgf] at hF5 hq5
          have hs6 := hfr_1 _ (List.mem_cons_self ..)
          have hq6 := hfr_1 _ (List.mem_cons_of_mem _ (List.mem_cons_self ..))
          have hne6 : sq ≠ q9 := pwN hpw_1 (i := 1) (j := 2) rfl rfl (by decide)
          have how6 : ∀ a ∈ L5, (ow (ow own5 sq 8001) q9 8002) a = own5 a := ow_L (ow_L (fun _ _ => rfl) hs6) hq6
          have hk6 := hkp_1 own5 (ow (ow own5 sq 8001) q9 8002) (fun g => g ≠ 8002) how6 ⟨fun _ hp => absurd hce5.2.2 hp, trivial⟩
          have hst6 : ce Lp1 fp1 (ow (ow own5 sq 8001) q9 8002) 8001 sq (.inr (11, [.int w1, .int w2, .int w3, .ref mq, ch5])) := hce_1 (ow (ow own5 sq 8001) q9 8002) 1 _ _ 8001 rfl ((ow_o hne6).trans ow_at)
          have hL6 : LsA cO Lp1 fp1 (ow (ow own5 sq 8001) q9 8002) e0 q9 (dn + 1) (va_up (va_cpy SA2 (fun _ => none) 0 0 dn) dn (some sq)) := LsA_add (hce_1 (ow (ow own5 sq 8001) q9 8002) 2 _ _ 8002 rfl ow_at) (by omega) (by omega) (by omega) hk6 hent up_cpy up_atN hst6
          have hsa6 : ∀ i, i < dn → va_up (va_cpy SA2 (fun _ => none) 0 0 dn) dn (some sq) i = SA i := fun i hi => (up_cpy i hi).trans (hS2 i hi)
          have hsb6 : va_up (va_cpy SA2 (fun _ => none) 0 0 dn) dn (some sq) dn = some sq := up_atN
          have hB6 := bk_end hG hM (fun g a e hp h => hk6 g a e hp.2 (hk5 g a e hp.1 (hk2 g a e hp.2 h))) (FeA_kp hk6 (fun q hq => ⟨by omega, by omega⟩) (fmB_e hF5)) hL6 (by omega) hnew hsa6 hsb6 hst6 (chn_kp hk6 (by omega) hc5) hq5 (Or.inr ⟨hmv.1, by rw [hmv.2]⟩) hO (loK_tr (loK_kp hk2 (fun q hq => ⟨by omega, by omega⟩)) (loK_tr hE5 (loK_kp hk6 (fun q hq => ⟨by omega, by omega⟩))))
          refine lv_iconst (v := 1) hx hb dX10_book_114 rfl ?_
          obtain ⟨hP9, hD9⟩ := zq_part (cx := [_, _, _, _]) hP hD [0, 3, 1, 2] rfl rfl
          refine W.widen (k := ft + 2) (n := 4 * ft + 805) (by omega) (by omega) ?_
          rw [hQ9]
          exact W.zret (ty := .boolean) (v := 1) hx hb hr (rfl) (fun t ht hW => ⟨⟨rfl, (mc2 + 1), Lp1, fp1, q9, (hB6), by rw [ht]; exact hP9, hD9⟩, hS.F ht⟩) hS.2.2 dX10_book_115
      · have c_1 : ((g5 : Nat) : Int) < ((ft : Nat) : Int) := zc_nle (nI_toInt b9_3) (nI_toInt b9_2) c_1
        refine lv_aload_n hx hb dX10_book_33 rfl (lv_at hl 2 rfl) ?_
        refine va_get (D := (dC, dI)) (ci := 8) (v := .ref sh) (C := RX10) (T := TX10) (N := 13) hx hb hts inX10 hown hK hP 0 rfl rfl 0 (Nat.le_of_ble_eq_true rfl) (hts _ mw_309) (fun _ h9 => h9) rfl dX10_book_34 ?_
        refine lv_iload hx hb dX10_book_37 (lv_at hl 0 rfl) ?_
        obtain ⟨hPc, hDc, hFc, hI1⟩ := zi_sub (wc := [_, _]) hP hD hS hA [2, 3] rfl rfl
        refine zcall (st1 := [.ref (fe g5)]) (va_runV (As := [.int (nI g5)]) (rest := []) ⟨hx, hb, hml, hown, hts⟩ (k_Sheet_find l dC dI cI cZ cF H.size sh fa ft FA g5 (fe g5) (by first | with_reducible assumption | omega) (by first | with_reducible assumption | omega) (hFA9 g5 (by first | with_reducible assumption | omega))) (csV_94 hts rfl rfl ⟨Nat.le_of_ble_eq_true rfl, Nat.le_of_ble_eq_true rfl⟩) (zPV2 (q0 := 0) (ci := 7) hPc hDc hK3 hXN rfl rfl) rfl rfl hl.1 rfl (lv_room (Nat.le_of_ble_eq_true rfl)) dX10_book_39 ⟨show 1 + g5 ≤ ft + 2 by omega, show 5 + 4 * g5 ≤ 4 * ft + 805 by omega⟩) hS hFc hFc rfl (fun t H locs ht hB hk1 hS => ?_)
        obtain ⟨hP1, hD1⟩ := hB
        rw [ht] at hP1
        replace hP := z0 hP hD hk1 hP1 hI1
        clear hk1 hPc hDc hFc hP1 hD1 ht hI1
        refine lv_astore (lv' := [(7, .ref (fe g5)), (6, .int (nI g5)), (5, .ref sq), (0, .ref x), (1, .int w1), (2, .int w2), (3, .int w3), (4, .ref mq)]) hx hb dX10_book_42 hl (Nat.le_of_ble_eq_true rfl) rfl (fun ls hl => ?_)
        rcases bk_sp hF5 hM (show g5 < ft by omega) with ⟨hm5, hfm5, lo5, hcf5⟩ | ⟨hm5, lo5, hcf5⟩
        · skip
          have hc9_1 : inPl L5 f5 [(oc1 (fe g5) (rk g5) (wd g5) (tw g5) (pa g5) (pb g5) (.ref lo5) (.ref (nw g5)) .null)] := ⟨ce_pl hcf5, trivial⟩
          have hD0_1 := hD
          obtain ⟨T_1, hT_1, hP, hD⟩ := pl_oT hP hD hc9_1 (List.pairwise_singleton _ _)
          obtain ⟨hP, hD⟩ := zre (W2 := ([_, _, _, _, _, _] ++ va_pl T_1 f5)) hP hD rfl
          refine lv_aload hx hb dX10_book_44 (lv_at hl 0 rfl) ?_
          refine lv_ifnull hx hb dX10_book_46 ?_
          refine lv_aload hx hb dX10_book_49 (lv_at hl 0 rfl) ?_
          refine va_get (D := (dC, dI)) (ci := 1) (v := .null) (C := RX2) (T := TX2) (N := 8) hx hb hts inX2 hown hK hP 5 rfl rfl 7 (Nat.le_of_ble_eq_true rfl) (hts _ mw_437) (fun _ h9 => h9) rfl dX10_book_51 ?_
          refine lv_ifnullN (tgt := 82) hx hb dX10_book_54 rfl ?_
          obtain ⟨hP, hD⟩ := pl_bk (X := [_, _, _, _, _]) hT_1 hP rfl hc9_1 hD0_1 rfl
          refine lv_iinc (v := nI (g5 + 1)) (lv' := [(6, .int (nI (g5 + 1))), (7, .ref (fe g5)), (5, .ref sq), (0, .ref x), (1, .int w1), (2, .int w2), (3, .int w3), (4, .ref mq)]) hx hb dX10_book_82 hl (k := 1) rfl (nI_add g5 1) (Nat.le_of_ble_eq_true rfl) rfl (fun ls hl => ?_)
          refine lv_goto (tgt := 21) hx hb dX10_book_85 rfl ?_
          refine W.widen (k := 1 + (g5 + 1)) (n := 5 + 4 * (g5 + 1)) (by omega) (by omega) ?_
          exact ih_21 (g5 + 1) L5 f5 own5 qs5 ch5 H locs ls (by first | with_reducible assumption | omega) (by first | with_reducible assumption | omega) (by first | exact hFn5 | exact bk_F0 hfm5 hF5) (by first | exact hkn5 | exact hk5) (by first | exact hEn5 | exact hE5) (by first | exact hcn5 | exact hc5) (by first | exact bk_q1 hq5 hm5 | exact bk_q0 hq5 hm5) hP hD hS (lv_sub hl [0, 2, 3, 4, 5, 6, 7] rfl)
        · skip
          have hc9_1 : inPl L5 f5 [(oc1 (fe g5) (rk g5) (wd g5) (tw g5) (pa g5) (pb g5) (.ref lo5) (.ref (nw g5)) (.ref (la dn g5)))] := ⟨ce_pl hcf5, trivial⟩
          have hD0_1 := hD
          obtain ⟨T_1, hT_1, hP, hD⟩ := pl_oT hP hD hc9_1 (List.pairwise_singleton _ _)
          obtain ⟨hP, hD⟩ := zre (W2 := ([_, _, _, _, _, _] ++ va_pl T_1 f5)) hP hD rfl
          refine lv_aload hx hb dX10_book_44 (lv_at hl 0 rfl) ?_
          refine lv_ifnull hx hb dX10_book_46 ?_
          refine lv_aload hx hb dX10_book_49 (lv_at hl 0 rfl) ?_
          refine va_get (D := (dC, dI)) (ci := 1) (v := .ref (la dn g5)) (C := RX2) (T := TX2) (N := 8) hx hb hts inX2 hown hK hP 5 rfl rfl 7 (Nat.le_of_ble_eq_true rfl) (hts _ mw_437) (fun _ h9 => h9) rfl dX10_book_51 ?_
          refine lv_ifnull hx hb dX10_book_54 ?_
          rcases chn_nc hc5 with hv5 | ⟨c5, hv5⟩
          · skip
            subst hv5
            refine lv_aload hx hb dX10_book_57 (lv_at hl 2 rfl) ?_
            refine va_new (ci := 12) (fs := [.null, .null, .null, .null]) (C := RX1) (T := TX1) (N := 4) hx hb hts inX1 tyX1 tyX1_ok hown (hts _ mw_784) (hts _ mw_785) (hts _ mw_117) hK hP hD hS hA rfl dfX1 (show (1 + g5 + 1) ≤ ft + 2 by omega) (show (5 + 4 * g5 + 4) ≤ 4 * ft + 805 by omega) dX10_book_59 (fun cq H hP hD hS => ?_)
            have hP := va_P.swap hP
            have hD := va_D.swap hD
            obtain ⟨hP, hD⟩ := zre (W2 := ([_, _, _, _, _, _, (oc12 cq .null .null .null .null)] ++ va_pl T_1 f5)) hP hD rfl
            refine lv_dup hx hb dX10_book_62 rfl ?_
            refine lv_aload hx hb dX10_book_63 (lv_at hl 0 rfl) ?_
            refine lv_aload hx hb dX10_book_65 (lv_at hl 2 rfl) ?_
            refine va_get (D := (dC, dI)) (ci := 11) (v := .null) (C := RX9) (T := TX9) (N := 5) hx hb hts inX9 hown hK hP 4 rfl rfl 4 (Nat.le_of_ble_eq_true rfl) (hts _ mw_772) (fun _ h9 => h9) rfl dX10_book_67 ?_
            obtain ⟨hPc, hDc, hFc⟩ := zo_sub (wc := [_, _]) hP hD hS hA [6, 5] rfl rfl
            refine zcall (st1 := [.ref cq, .ref sq]) (va_runI (As := [.ref (fe g5), .null]) (rest := [.ref cq, .ref sq]) ⟨hx, hb, hml, hown, hts⟩ (k_Change_init_n l dC dI cI cZ cF H.size cq (nw g5) (la dn g5) (fe g5) lo5 (rk g5) (wd g5) (tw g5) (pa g5) (pb g5) ) (cwI 2 hts (zz_gC mc_yX1_init) rfl rfl rfl (hts _ mw_117) (hts _ mw_786) (hts _ mw_787) rfl (by decide +kernel) ⟨Nat.le_of_ble_eq_true rfl, Nat.le_of_ble_eq_true rfl⟩) (zPS2 hPc hDc hK3 hXN) rfl rfl hl.1 rfl (lv_room (Nat.le_of_ble_eq_true rfl)) dX10_book_70 ⟨show (1 + g5 + 1) ≤ ft + 2 by omega, show (5 + 4 * g5 + 4) ≤ 4 * ft + 805 by omega⟩) hS hFc hFc rfl (fun t H locs ht hB hk1 hS => ?_)
            obtain ⟨hP1, hD1⟩ := hB
            rw [ht] at hP1
            obtain ⟨hP, hD⟩ := znQ (W2 := [_, _, _, _, _, _, (oc12 cq (.ref (fe g5)) (.ref (la dn g5)) (.ref (nw g5)) .null)]) hP hD hk1 hFc hP1 hD1 [6, 5] [true, true, true, true, true] [true, true, true, true, true, false, false] [6, 5] (by decide +kernel) rfl rfl rfl rfl rfl
            clear hk1 hPc hDc hFc hP1 hD1 ht
            refine va_put (D := (dC, dI)) (ci := 11) (v := .ref cq) (ty := .object "ScaleShop$Change") (C := RX9) (T := TX9) (N := 5) hx hb hts inX9 tyX9 tyX9_ok nmX9 hown hK hP hD hS 4 rfl rfl 4 (by decide) (hts _ mw_772) (fun _ h9 => h9) rfl (by decide +kernel) rfl rfl (Nat.le_of_ble_eq_true rfl) dX10_book_73 (fun H locs hP hD hS => ?_)
            obtain ⟨hP, hD⟩ := zre (W2 := ([_, _, _, _, (oc11 sq w1 w2 w3 (.ref mq) (.ref cq)), _, _] ++ va_pl T_1 f5)) hP hD rfl
            refine lv_aload hx hb dX10_book_76 (lv_at hl 0 rfl) ?_
            refine lv_null hx hb dX10_book_78 ?_
            refine va_put (D := (dC, dI)) (ci := 1) (v := .null) (ty := .object "ScaleShop$Look") (C := RX2) (T := TX2) (N := 8) hx hb hts inX2 tyX2 tyX2_ok nmX2 hown hK hP hD hS 5 rfl rfl 7 (by decide) (hts _ mw_437) (fun _ h9 => h9) rfl (by decide +kernel) rfl rfl (Nat.le_of_ble_eq_true rfl) dX10_book_79 (fun H locs hP hD hS => ?_)
            obtain ⟨hP, hD⟩ := zre (W2 := ([_, _, _, _, _, (oc1 (fe g5) (rk g5) (wd g5) (tw g5) (pa g5) (pb g5) (.ref lo5) (.ref (nw g5)) .null), _] ++ va_pl T_1 f5)) hP hD rfl
            obtain ⟨Lp1, fp1, hP, hD, hpin_1⟩ := pl_pn (X := [_, _, _, _, _]) (old := [_]) (new := [_]) (cs1 := [_, _]) (L := L5) (cs := [(oc1 (fe g5) (rk g5) (wd g5) (tw g5) (pa g5) (pb g5) (.ref lo5) (.ref (nw g5)) (.ref (la dn g5)))]) hT_1 hP hD rfl rfl rfl
            obtain ⟨hfr_1, hkp_1, hce_1, hsx_1, hpw_1⟩ := id hpin_1
            have hcq5 := hfr_1 _ (List.mem_singleton.mpr rfl)
            have how5 := ow_L (own := own5) (g := 8003) (fun _ _ => rfl) hcq5
            have hks5 := hkp_1 own5 (ow own5 cq 8003) (fun g => ¬ g % 8 = 0) how5 ⟨fun _ hp => absurd (show own5 (fe g5) % 8 = 0 by rw [hcf5.2.2]; omega) hp, trivial⟩
            have hkn5 := kpT_tr hk5 hks5
            have hkf5 := hkp_1 own5 (ow own5 cq 8003) (fun g => g ≠ 8 * g5) how5 ⟨fun _ hp => absurd hcf5.2.2 hp, trivial⟩
            have hFn5 := bk_F1 hF5 hkf5 hcf5 (hce_1 (ow own5 cq 8003) 0 _ _ (8 * g5) rfl ((ow_o (fun e => hcq5 (by rw [← e]; exact hcf5.1))).trans hcf5.2.2))
            have hEn5 := loK_s hE5 hkf5 hcf5 (hce_1 (ow own5 cq 8003) 0 _ _ (8 * g5) rfl ((ow_o (fun e => hcq5 (by rw [← e]; exact hcf5.1))).trans hcf5.2.2))
            have hcn5 : chn Lp1 fp1 (ow own5 cq 8003) fe (la dn) nw (.ref cq) (g5 :: qs5) := ⟨cq, _, rfl, hce_1 (ow own5 cq 8003) 1 _ _ 8003 rfl ow_at, chn_kp hks5 (by omega) hc5⟩
            refine lv_iinc (v := nI (g5 + 1)) (lv' := [(6, .int (nI (g5 + 1))), (7, .ref (fe g5)), (5, .ref sq), (0, .ref x), (1, .int w1), (2, .int w2), (3, .int w3), (4, .ref mq)]) hx hb dX10_book_82 hl (k := 1) rfl (nI_add g5 1) (Nat.le_of_ble_eq_true rfl) rfl (fun ls hl => ?_)
            refine lv_goto (tgt := 21) hx hb dX10_book_85 rfl ?_
            refine W.widen (k := 1 + (g5 + 1)) (n := 5 + 4 * (g5 + 1)) (by omega) (by omega) ?_
            exact ih_21 (g5 + 1) Lp1 fp1 (ow own5 cq 8003) (g5 :: qs5) (.ref cq) H locs ls (by first | with_reducible assumption | omega) (by first | with_reducible assumption | omega) (by first | exact hFn5 | exact bk_F0 hfm5 hF5) (by first | exact hkn5 | exact hk5) (by first | exact hEn5 | exact hE5) (by first | exact hcn5 | exact hc5) (by first | exact bk_q1 hq5 hm5 | exact bk_q0 hq5 hm5) hP hD hS (lv_sub hl [0, 2, 3, 4, 5, 6, 7] rfl)
          · skip
            subst hv5
            refine lv_aload hx hb dX10_book_57 (lv_at hl 2 rfl) ?_
            refine va_new (ci := 12) (fs := [.null, .null, .null, .null]) (C := RX1) (T := TX1) (N := 4) hx hb hts inX1 tyX1 tyX1_ok hown (hts _ mw_784) (hts _ mw_785) (hts _ mw_117) hK hP hD hS hA rfl dfX1 (show (1 + g5 + 1) ≤ ft + 2 by omega) (show (5 + 4 * g5 + 4) ≤ 4 * ft + 805 by omega) dX10_book_59 (fun cq H hP hD hS => ?_)
            have hP := va_P.swap hP
            have hD := va_D.swap hD
            obtain ⟨hP, hD⟩ := zre (W2 := ([_, _, _, _, _, _, (oc12 cq .null .null .null .null)] ++ va_pl T_1 f5)) hP hD rfl
            refine lv_dup hx hb dX10_book_62 rfl ?_
            refine lv_aload hx hb dX10_book_63 (lv_at hl 0 rfl) ?_
            refine lv_aload hx hb dX10_book_65 (lv_at hl 2 rfl) ?_
            refine va_get (D := (dC, dI)) (ci := 11) (v := .ref c5) (C := RX9) (T := TX9) (N := 5) hx hb hts inX9 hown hK hP 4 rfl rfl 4 (Nat.le_of_ble_eq_true rfl) (hts _ mw_772) (fun _ h9 => h9) rfl dX10_book_67 ?_
            obtain ⟨hPc, hDc, hFc⟩ := zo_sub (wc := [_, _]) hP hD hS hA [6, 5] rfl rfl
            refine zcall (st1 := [.ref cq, .ref sq]) (va_runI (As := [.ref (fe g5), .ref c5]) (rest := [.ref cq, .ref sq]) ⟨hx, hb, hml, hown, hts⟩ (k_Change_init l dC dI cI cZ cF H.size cq c5 (nw g5) (la dn g5) (fe g5) lo5 (rk g5) (wd g5) (tw g5) (pa g5) (pb g5) ) (cwI 2 hts (zz_gC mc_yX1_init) rfl rfl rfl (hts _ mw_117) (hts _ mw_786) (hts _ mw_787) rfl (by decide +kernel) ⟨Nat.le_of_ble_eq_true rfl, Nat.le_of_ble_eq_true rfl⟩) (zPS2 hPc hDc hK3 hXN) rfl rfl hl.1 rfl (lv_room (Nat.le_of_ble_eq_true rfl)) dX10_book_70 ⟨show (1 + g5 + 1) ≤ ft + 2 by omega, show (5 + 4 * g5 + 4) ≤ 4 * ft + 805 by omega⟩) hS hFc hFc rfl (fun t H locs ht hB hk1 hS => ?_)
            obtain ⟨hP1, hD1⟩ := hB
            rw [ht] at hP1
            obtain ⟨hP, hD⟩ := znQ (W2 := [_, _, _, _, _, _, (oc12 cq (.ref (fe g5)) (.ref (la dn g5)) (.ref (nw g5)) (.ref c5))]) hP hD hk1 hFc hP1 hD1 [6, 5] [true, true, true, true, true] [true, true, true, true, true, false, false] [6, 5] (by decide +kernel) rfl rfl rfl rfl rfl
            clear hk1 hPc hDc hFc hP1 hD1 ht
            refine va_put (D := (dC, dI)) (ci := 11) (v := .ref cq) (ty := .object "ScaleShop$Change") (C := RX9) (T := TX9) (N := 5) hx hb hts inX9 tyX9 tyX9_ok nmX9 hown hK hP hD hS 4 rfl rfl 4 (by decide) (hts _ mw_772) (fun _ h9 => h9) rfl (by decide +kernel) rfl rfl (Nat.le_of_ble_eq_true rfl) dX10_book_73 (fun H locs hP hD hS => ?_)
            obtain ⟨hP, hD⟩ := zre (W2 := ([_, _, _, _, (oc11 sq w1 w2 w3 (.ref mq) (.ref cq)), _, _] ++ va_pl T_1 f5)) hP hD rfl
            refine lv_aload hx hb dX10_book_76 (lv_at hl 0 rfl) ?_
            refine lv_null hx hb dX10_book_78 ?_
            refine va_put (D := (dC, dI)) (ci := 1) (v := .null) (ty := .object "ScaleShop$Look") (C := RX2) (T := TX2) (N := 8) hx hb hts inX2 tyX2 tyX2_ok nmX2 hown hK hP hD hS 5 rfl rfl 7 (by decide) (hts _ mw_437) (fun _ h9 => h9) rfl (by decide +kernel) rfl rfl (Nat.le_of_ble_eq_true rfl) dX10_book_79 (fun H locs hP hD hS => ?_)
            obtain ⟨hP, hD⟩ := zre (W2 := ([_, _, _, _, _, (oc1 (fe g5) (rk g5) (wd g5) (tw g5) (pa g5) (pb g5) (.ref lo5) (.ref (nw g5)) .null), _] ++ va_pl T_1 f5)) hP hD rfl
            obtain ⟨Lp1, fp1, hP, hD, hpin_1⟩ := pl_pn (X := [_, _, _, _, _]) (old := [_]) (new := [_]) (cs1 := [_, _]) (L := L5) (cs := [(oc1 (fe g5) (rk g5) (wd g5) (tw g5) (pa g5) (pb g5) (.ref lo5) (.ref (nw g5)) (.ref (la dn g5)))]) hT_1 hP hD rfl rfl rfl
            obtain ⟨hfr_1, hkp_1, hce_1, hsx_1, hpw_1⟩ := id hpin_1
            have hcq5 := hfr_1 _ (List.mem_singleton.mpr rfl)
            have how5 := ow_L (own := own5) (g := 8003) (fun _ _ => rfl) hcq5
            have hks5 := hkp_1 own5 (ow own5 cq 8003) (fun g => ¬ g % 8 = 0) how5 ⟨fun _ hp => absurd (show own5 (fe g5) % 8 = 0 by rw [hcf5.2.2]; omega) hp, trivial⟩
            have hkn5 := kpT_tr hk5 hks5
            have hkf5 := hkp_1 own5 (ow own5 cq 8003) (fun g => g ≠ 8 * g5) how5 ⟨fun _ hp => absurd hcf5.2.2 hp, trivial⟩
            have hFn5 := bk_F1 hF5 hkf5 hcf5 (hce_1 (ow own5 cq 8003) 0 _ _ (8 * g5) rfl ((ow_o (fun e => hcq5 (by rw [← e]; exact hcf5.1))).trans hcf5.2.2))
            have hEn5 := loK_s hE5 hkf5 hcf5 (hce_1 (ow own5 cq 8003) 0 _ _ (8 * g5) rfl ((ow_o (fun e => hcq5 (by rw [← e]; exact hcf5.1))).trans hcf5.2.2))
            have hcn5 : chn Lp1 fp1 (ow own5 cq 8003) fe (la dn) nw (.ref cq) (g5 :: qs5) := ⟨cq, _, rfl, hce_1 (ow own5 cq 8003) 1 _ _ 8003 rfl ow_at, chn_kp hks5 (by omega) hc5⟩
            refine lv_iinc (v := nI (g5 + 1)) (lv' := [(6, .int (nI (g5 + 1))), (7, .ref (fe g5)), (5, .ref sq), (0, .ref x), (1, .int w1), (2, .int w2), (3, .int w3), (4, .ref mq)]) hx hb dX10_book_82 hl (k := 1) rfl (nI_add g5 1) (Nat.le_of_ble_eq_true rfl) rfl (fun ls hl => ?_)
            refine lv_goto (tgt := 21) hx hb dX10_book_85 rfl ?_
            refine W.widen (k := 1 + (g5 + 1)) (n := 5 + 4 * (g5 + 1)) (by omega) (by omega) ?_
            exact ih_21 (g5 + 1) Lp1 fp1 (ow own5 cq 8003) (g5 :: qs5) (.ref cq) H locs ls (by first | with_reducible assumption | omega) (by first | with_reducible assumption | omega) (by first | exact hFn5 | exact bk_F0 hfm5 hF5) (by first | exact hkn5 | exact hk5) (by first | exact hEn5 | exact hE5) (by first | exact hcn5 | exact hc5) (by first | exact bk_q1 hq5 hm5 | exact bk_q0 hq5 hm5) hP hD hS (lv_sub hl [0, 2, 3, 4, 5, 6, 7] rfl)
  refine W.widen (k := 1 + 0) (n := 5 + 4 * 0) (by omega) (by omega) ?_
  exact hl_21 _ 0 L2 f2 own ([]) (.null) H locs ls (Nat.lt_succ_self _) (by first | with_reducible assumption | omega) (by rw [fmB_0]; exact FeA_kp hk2 (fun q hq => ⟨by omega, by omega⟩) hG.1) (kpT_rf) (loK_rf) (rfl) (⟨fun q h => (by cases h), fun q h => (by first | with_reducible assumption | omega)⟩) hP hD hS (lv_sub hl [0, 1, 2, 3, 4, 5, 6] rfl)
end
