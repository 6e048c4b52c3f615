section
/-! two edges that have a point in common: the reference's way and the class's way -/
def mtM (a1 a2 b1 b2 c1 c2 d1 d2 : Int) : Prop :=
  (((0 < cr a1 a2 b1 b2 c1 c2 ∧ cr a1 a2 b1 b2 d1 d2 < 0) ∨ (cr a1 a2 b1 b2 c1 c2 < 0 ∧ 0 < cr a1 a2 b1 b2 d1 d2)) ∧ ((0 < cr c1 c2 d1 d2 a1 a2 ∧ cr c1 c2 d1 d2 b1 b2 < 0) ∨ (cr c1 c2 d1 d2 a1 a2 < 0 ∧ 0 < cr c1 c2 d1 d2 b1 b2))) ∨
  onS a1 a2 b1 b2 c1 c2 ∨ onS a1 a2 b1 b2 d1 d2 ∨ onS c1 c2 d1 d2 a1 a2 ∨ onS c1 c2 d1 d2 b1 b2
theorem nonpos_of_between {a b x : Int} (h1 : min a b ≤ x) (h2 : x ≤ max a b) : (a - x) * (b - x) ≤ 0 := by
  rcases Int.le_total a b with h | h
  · have := Int.mul_nonneg (show 0 ≤ x - a by omega) (show 0 ≤ b - x by omega)
    grind
  · have := Int.mul_nonneg (show 0 ≤ a - x by omega) (show 0 ≤ x - b by omega)
    grind
theorem between_of_nonpos {a b x : Int} (h : (a - x) * (b - x) ≤ 0) : min a b ≤ x ∧ x ≤ max a b := by
  constructor
  · by_cases q : x < a ∧ x < b
    · have := Int.mul_pos (show 0 < a - x by omega) (show 0 < b - x by omega)
      omega
    · omega
  · by_cases q : a < x ∧ b < x
    · have := Int.mul_pos (show 0 < x - a by omega) (show 0 < x - b by omega)
      grind
    · omega
theorem sqn (x : Int) : 0 ≤ x * x := by
  rcases Int.le_total 0 x with h | h
  · exact Int.mul_nonneg h h
  · exact Int.mul_nonneg_of_nonpos_of_nonpos h h
/-- u and v on one line through 0 and against one another: no w has both on one side -/
theorem not_same {u1 u2 v1 v2 w1 w2 : Int} (hc : u1 * v2 = u2 * v1) (h1 : u1 * v1 ≤ 0) (h2 : u2 * v2 ≤ 0) : (w1 * u2 - w2 * u1) * (w1 * v2 - w2 * v1) ≤ 0 := by
  by_cases hp : u1 * v1 = 0
  · have hr : (u1 * v2) * (u1 * v2) = 0 := by
      have : (u1 * v2) * (u1 * v2) = (u1 * v1) * (u2 * v2) := by grind
      rw [this, hp]; simp
    have hr2 : u1 * v2 = 0 := by
      rcases Int.mul_eq_zero.mp hr with h | h <;> exact h
    have hs : 0 ≤ w1 * w1 := sqn w1
    have e : (w1 * u2 - w2 * u1) * (w1 * v2 - w2 * v1) = (w1 * w1) * (u2 * v2) - w1 * w2 * (u1 * v2 + u2 * v1) + (w2 * w2) * (u1 * v1) := by grind
    have e2 : (w1 * w1) * (u2 * v2) ≤ 0 := Int.mul_nonpos_of_nonneg_of_nonpos hs h2
    rw [e, hp, ← hc, hr2]; simp; exact e2
  · have hp : u1 * v1 < 0 := by omega
    have hs : 0 ≤ (w2 * (u1 * v1) - w1 * (u1 * v2)) * (w2 * (u1 * v1) - w1 * (u1 * v2)) := sqn _
    have e : (w2 * (u1 * v1) - w1 * (u1 * v2)) * (w2 * (u1 * v1) - w1 * (u1 * v2)) = (u1 * v1) * ((w1 * u2 - w2 * u1) * (w1 * v2 - w2 * v1)) := by grind
    rw [e] at hs
    exact Int.not_lt.mp fun q => by
      have := Int.mul_neg_of_neg_of_pos hp q
      omega
theorem mt_on {a1 a2 b1 b2 c1 c2 d1 d2 : Int} (h : onS a1 a2 b1 b2 c1 c2) : mtC a1 a2 b1 b2 c1 c2 d1 d2 := by
  obtain ⟨h0, h1, h2, h3, h4⟩ := h
  have k := not_same (u1 := a1 - c1) (u2 := a2 - c2) (v1 := b1 - c1) (v2 := b2 - c2) (w1 := d1 - c1) (w2 := d2 - c2) (by unfold cr at h0; grind) (nonpos_of_between h1 h2) (nonpos_of_between h3 h4)
  have ea : cr c1 c2 d1 d2 a1 a2 = (d1 - c1) * (a2 - c2) - (d2 - c2) * (a1 - c1) := rfl
  have eb : cr c1 c2 d1 d2 b1 b2 = (d1 - c1) * (b2 - c2) - (d2 - c2) * (b1 - c1) := rfl
  rw [← ea, ← eb] at k
  refine ⟨by omega, by omega, by omega, ?_⟩
  rintro (⟨p, q⟩ | ⟨p, q⟩)
  · have := Int.mul_pos p q; omega
  · have := Int.mul_pos_of_neg_of_neg p q; omega
theorem mtC_swap {a1 a2 b1 b2 c1 c2 d1 d2 : Int} (h : mtC a1 a2 b1 b2 c1 c2 d1 d2) : mtC a1 a2 b1 b2 d1 d2 c1 c2 := by
  unfold mtC at *
  have e1 : cr d1 d2 c1 c2 a1 a2 = - cr c1 c2 d1 d2 a1 a2 := by unfold cr; grind
  have e2 : cr d1 d2 c1 c2 b1 b2 = - cr c1 c2 d1 d2 b1 b2 := by unfold cr; grind
  rw [e1, e2]
  omega
theorem mtC_sym {a1 a2 b1 b2 c1 c2 d1 d2 : Int} (h : mtC a1 a2 b1 b2 c1 c2 d1 d2) : mtC c1 c2 d1 d2 a1 a2 b1 b2 := by
  unfold mtC at *
  omega
/-- two edges that cross: their boxes are not apart (one axis) -/
theorem cross_box {a1 a2 b1 b2 c1 c2 d1 d2 : Int} (h1 : 0 < cr a1 a2 b1 b2 c1 c2) (h2 : cr a1 a2 b1 b2 d1 d2 < 0) (h3 : cr c1 c2 d1 d2 a1 a2 < 0) (h4 : 0 < cr c1 c2 d1 d2 b1 b2) : ¬ (a1 < c1 ∧ b1 < c1 ∧ a1 < d1 ∧ b1 < d1) ∧ ¬ (c1 < a1 ∧ c1 < b1 ∧ d1 < a1 ∧ d1 < b1) := by
  have id1 : c1 * (- cr a1 a2 b1 b2 d1 d2) + d1 * cr a1 a2 b1 b2 c1 c2 = a1 * cr c1 c2 d1 d2 b1 b2 + b1 * (- cr c1 c2 d1 d2 a1 a2) := by unfold cr; grind
  have id2 : cr a1 a2 b1 b2 c1 c2 - cr a1 a2 b1 b2 d1 d2 = cr c1 c2 d1 d2 b1 b2 - cr c1 c2 d1 d2 a1 a2 := by unfold cr; grind
  generalize cr a1 a2 b1 b2 c1 c2 = al at *
  generalize cr a1 a2 b1 b2 d1 d2 = be at *
  generalize cr c1 c2 d1 d2 a1 a2 = ga at *
  generalize cr c1 c2 d1 d2 b1 b2 = de at *
  constructor
  · rintro ⟨q1, q2, q3, q4⟩
    have p1 := Int.mul_pos (show 0 < c1 - max a1 b1 by omega) (show 0 < -be by omega)
    have p2 := Int.mul_pos (show 0 < d1 - max a1 b1 by omega) h1
    have p3 := Int.mul_nonneg (show 0 ≤ max a1 b1 - a1 by omega) (show 0 ≤ de by omega)
    have p4 := Int.mul_nonneg (show 0 ≤ max a1 b1 - b1 by omega) (show 0 ≤ -ga by omega)
    generalize max a1 b1 = M at *
    have e : M * (al - be) = M * (de - ga) := by rw [id2]
    grind
  · rintro ⟨q1, q2, q3, q4⟩
    have p1 := Int.mul_pos (show 0 < min a1 b1 - c1 by omega) (show 0 < -be by omega)
    have p2 := Int.mul_pos (show 0 < min a1 b1 - d1 by omega) h1
    have p3 := Int.mul_nonneg (show 0 ≤ a1 - min a1 b1 by omega) (show 0 ≤ de by omega)
    have p4 := Int.mul_nonneg (show 0 ≤ b1 - min a1 b1 by omega) (show 0 ≤ -ga by omega)
    generalize min a1 b1 = M at *
    have e : M * (al - be) = M * (de - ga) := by rw [id2]
    grind
theorem cr_flip (a1 a2 b1 b2 x y : Int) : cr a2 a1 b2 b1 y x = - cr a1 a2 b1 b2 x y := by unfold cr; grind
theorem cr_rev (a1 a2 b1 b2 x y : Int) : cr b1 b2 a1 a2 x y = - cr a1 a2 b1 b2 x y := by unfold cr; grind
theorem cross_dif (a1 a2 b1 b2 c1 c2 d1 d2 : Int) : cr a1 a2 b1 b2 c1 c2 - cr a1 a2 b1 b2 d1 d2 = cr c1 c2 d1 d2 b1 b2 - cr c1 c2 d1 d2 a1 a2 := by unfold cr; grind
theorem mt_of_M {a1 a2 b1 b2 c1 c2 d1 d2 : Int} (h : mtM a1 a2 b1 b2 c1 c2 d1 d2) : mtC a1 a2 b1 b2 c1 c2 d1 d2 := by
  rcases h with ⟨h1, h2⟩ | h | h | h | h
  · have hd := cross_dif a1 a2 b1 b2 c1 c2 d1 d2
    unfold mtC
    rcases h1 with ⟨p1, p2⟩ | ⟨p1, p2⟩
    · have q : cr c1 c2 d1 d2 a1 a2 < 0 ∧ 0 < cr c1 c2 d1 d2 b1 b2 := by omega
      have k1 := cross_box p1 p2 q.1 q.2
      have k2 := cross_box (a1 := b2) (a2 := b1) (b1 := a2) (b2 := a1) (c1 := c2) (c2 := c1) (d1 := d2) (d2 := d1) (by rw [cr_flip, cr_rev]; omega) (by rw [cr_flip, cr_rev]; omega) (by rw [cr_flip]; omega) (by rw [cr_flip]; omega)
      omega
    · have q : 0 < cr c1 c2 d1 d2 a1 a2 ∧ cr c1 c2 d1 d2 b1 b2 < 0 := by omega
      have k1 := cross_box (a1 := b1) (a2 := b2) (b1 := a1) (b2 := a2) (c1 := c1) (c2 := c2) (d1 := d1) (d2 := d2) (by rw [cr_rev]; omega) (by rw [cr_rev]; omega) q.2 q.1
      have k2 := cross_box (a1 := a2) (a2 := a1) (b1 := b2) (b2 := b1) (c1 := c2) (c2 := c1) (d1 := d2) (d2 := d1) (by rw [cr_flip]; omega) (by rw [cr_flip]; omega) (by rw [cr_flip]; omega) (by rw [cr_flip]; omega)
      omega
  · exact mt_on h
  · exact mtC_swap (mt_on h)
  · exact mtC_sym (mt_on h)
  · exact mtC_sym (mtC_swap (mt_on h))
theorem id_s1 (a1 a2 b1 b2 c1 c2 d1 d2 : Int) : cr c1 c2 d1 d2 a1 a2 * (b1 - c1) - cr c1 c2 d1 d2 b1 b2 * (a1 - c1) = -((d1 - c1) * cr a1 a2 b1 b2 c1 c2) := by unfold cr; grind
theorem id_s2 (a1 a2 b1 b2 c1 c2 d1 d2 : Int) : cr c1 c2 d1 d2 a1 a2 * (b2 - c2) - cr c1 c2 d1 d2 b1 b2 * (a2 - c2) = -((d2 - c2) * cr a1 a2 b1 b2 c1 c2) := by unfold cr; grind
/-- c on the line of a and b, d not on it, a and b not on one side of the line of c and d: c lies between -/
theorem on_of_side {a1 a2 b1 b2 c1 c2 d1 d2 : Int} (h0 : cr a1 a2 b1 b2 c1 c2 = 0) (hd : cr a1 a2 b1 b2 d1 d2 ≠ 0) (hs : ¬ ((0 < cr c1 c2 d1 d2 a1 a2 ∧ 0 < cr c1 c2 d1 d2 b1 b2) ∨ (cr c1 c2 d1 d2 a1 a2 < 0 ∧ cr c1 c2 d1 d2 b1 b2 < 0))) : onS a1 a2 b1 b2 c1 c2 := by
  -- with al = cr c d a, be = cr c d b: al (b - c) = be (a - c)
  have hdif := cross_dif a1 a2 b1 b2 c1 c2 d1 d2
  have i1 : cr c1 c2 d1 d2 a1 a2 * (b1 - c1) = cr c1 c2 d1 d2 b1 b2 * (a1 - c1) := by
    have : cr c1 c2 d1 d2 a1 a2 * (b1 - c1) - cr c1 c2 d1 d2 b1 b2 * (a1 - c1) = -((d1 - c1) * cr a1 a2 b1 b2 c1 c2) := id_s1 ..
    rw [h0] at this; simp at this; omega
  have i2 : cr c1 c2 d1 d2 a1 a2 * (b2 - c2) = cr c1 c2 d1 d2 b1 b2 * (a2 - c2) := by
    have : cr c1 c2 d1 d2 a1 a2 * (b2 - c2) - cr c1 c2 d1 d2 b1 b2 * (a2 - c2) = -((d2 - c2) * cr a1 a2 b1 b2 c1 c2) := id_s2 ..
    rw [h0] at this; simp at this; omega
  generalize cr c1 c2 d1 d2 a1 a2 = al at *
  generalize cr c1 c2 d1 d2 b1 b2 = be at *
  have hne : be - al ≠ 0 := by omega
  have key : ∀ u v : Int, al * v = be * u → u * v ≤ 0 := by
    intro u v e
    have f1 : (al * al) * (u * v) = (al * be) * (u * u) := by grind
    have f2 : (be * be) * (u * v) = (al * be) * (v * v) := by grind
    have g : al * be ≤ 0 := by
      rcases Int.lt_trichotomy al 0 with p | p | p
      · have : 0 ≤ be := by omega
        exact Int.mul_nonpos_of_nonpos_of_nonneg (by omega) this
      · rw [p]; simp
      · have : be ≤ 0 := by omega
        exact Int.mul_nonpos_of_nonneg_of_nonpos (by omega) this
    have g1 : (al * be) * (u * u) ≤ 0 := Int.mul_nonpos_of_nonpos_of_nonneg g (sqn u)
    have g2 : (al * be) * (v * v) ≤ 0 := Int.mul_nonpos_of_nonpos_of_nonneg g (sqn v)
    refine Int.not_lt.mp fun q => ?_
    by_cases pa : al = 0
    · have pb : be ≠ 0 := by omega
      have := Int.mul_pos (show 0 < be * be from by rcases Int.lt_or_gt_of_ne pb with x | x; exact Int.mul_pos_of_neg_of_neg x x; exact Int.mul_pos x x) q
      omega
    · have := Int.mul_pos (show 0 < al * al from by rcases Int.lt_or_gt_of_ne pa with x | x; exact Int.mul_pos_of_neg_of_neg x x; exact Int.mul_pos x x) q
      omega
  have k1 := between_of_nonpos (key (a1 - c1) (b1 - c1) i1)
  have k2 := between_of_nonpos (key (a2 - c2) (b2 - c2) i2)
  exact ⟨h0, k1.1, k1.2, k2.1, k2.2⟩
theorem on_x {a1 a2 b1 b2 x y : Int} (h0 : cr a1 a2 b1 b2 x y = 0) (hne : a1 ≠ b1) (h1 : min a1 b1 ≤ x) (h2 : x ≤ max a1 b1) : onS a1 a2 b1 b2 x y := by
  have n1 := nonpos_of_between h1 h2
  have u1 : (a2 - y) * (b1 - a1) = (b2 - a2) * (a1 - x) := by unfold cr at h0; grind
  have u2 : (b2 - y) * (b1 - a1) = (b2 - a2) * (b1 - x) := by unfold cr at h0; grind
  have e : ((b1 - a1) * (b1 - a1)) * ((a2 - y) * (b2 - y)) = ((b2 - a2) * (b2 - a2)) * ((a1 - x) * (b1 - x)) := by grind
  have g : ((b2 - a2) * (b2 - a2)) * ((a1 - x) * (b1 - x)) ≤ 0 := Int.mul_nonpos_of_nonneg_of_nonpos (sqn _) n1
  have k : (a2 - y) * (b2 - y) ≤ 0 := Int.not_lt.mp fun q => by
    have hv : b1 - a1 ≠ 0 := by omega
    have := Int.mul_pos (show 0 < (b1 - a1) * (b1 - a1) from by rcases Int.lt_or_gt_of_ne hv with x | x; exact Int.mul_pos_of_neg_of_neg x x; exact Int.mul_pos x x) q
    omega
  have := between_of_nonpos k
  exact ⟨h0, h1, h2, this.1, this.2⟩
theorem on_flip {a1 a2 b1 b2 x y : Int} (h : onS a1 a2 b1 b2 x y) : onS a2 a1 b2 b1 y x := ⟨by rw [cr_flip, h.1]; rfl, h.2.2.2.1, h.2.2.2.2, h.2.1, h.2.2.1⟩
theorem coll_x {a1 a2 b1 b2 c1 c2 d1 d2 : Int} (h0 : cr a1 a2 b1 b2 c1 c2 = 0) (h1 : cr a1 a2 b1 b2 d1 d2 = 0) (hne : a1 ≠ b1) (ov : ¬ ((a1 < c1 ∧ b1 < c1 ∧ a1 < d1 ∧ b1 < d1) ∨ (c1 < a1 ∧ c1 < b1 ∧ d1 < a1 ∧ d1 < b1))) : onS a1 a2 b1 b2 c1 c2 ∨ onS a1 a2 b1 b2 d1 d2 ∨ onS c1 c2 d1 d2 a1 a2 := by
  by_cases qc : min a1 b1 ≤ c1 ∧ c1 ≤ max a1 b1
  · exact Or.inl (on_x h0 hne qc.1 qc.2)
  · by_cases qd : min a1 b1 ≤ d1 ∧ d1 ≤ max a1 b1
    · exact Or.inr (Or.inl (on_x h1 hne qd.1 qd.2))
    · have hcd : cr c1 c2 d1 d2 a1 a2 = 0 := by
        have e : (b1 - a1) * cr c1 c2 d1 d2 a1 a2 = 0 := by unfold cr at *; grind
        rcases Int.mul_eq_zero.mp e with h | h
        · omega
        · exact h
      exact Or.inr (Or.inr (on_x hcd (by omega) (by omega) (by omega)))
theorem mtM_of_C {a1 a2 b1 b2 c1 c2 d1 d2 : Int} (h : mtC a1 a2 b1 b2 c1 c2 d1 d2) : mtM a1 a2 b1 b2 c1 c2 d1 d2 := by
  obtain ⟨hx, hy, hs, ht⟩ := h
  have hd := cross_dif a1 a2 b1 b2 c1 c2 d1 d2
  unfold mtM
  by_cases al : cr a1 a2 b1 b2 c1 c2 = 0
  · by_cases be : cr a1 a2 b1 b2 d1 d2 = 0
    · by_cases e1 : a1 = b1
      · by_cases e2 : a2 = b2
        · have e : cr c1 c2 d1 d2 b1 b2 = cr c1 c2 d1 d2 a1 a2 := by rw [e1, e2]
          exact Or.inr (Or.inr (Or.inr (Or.inl ⟨by omega, by omega, by omega, by omega, by omega⟩)))
        · have k := coll_x (a1 := a2) (a2 := a1) (b1 := b2) (b2 := b1) (c1 := c2) (c2 := c1) (d1 := d2) (d2 := d1) (by rw [cr_flip, al]; rfl) (by rw [cr_flip, be]; rfl) e2 hy
          rcases k with k | k | k
          · exact Or.inr (Or.inl (on_flip k))
          · exact Or.inr (Or.inr (Or.inl (on_flip k)))
          · exact Or.inr (Or.inr (Or.inr (Or.inl (on_flip k))))
      · have k := coll_x al be e1 hx
        rcases k with k | k | k
        · exact Or.inr (Or.inl k)
        · exact Or.inr (Or.inr (Or.inl k))
        · exact Or.inr (Or.inr (Or.inr (Or.inl k)))
    · exact Or.inr (Or.inl (on_of_side al be ht))
  · by_cases be : cr a1 a2 b1 b2 d1 d2 = 0
    · exact Or.inr (Or.inr (Or.inl (on_of_side be al (by rw [cr_rev c1 c2 d1 d2, cr_rev c1 c2 d1 d2]; omega))))
    · by_cases ga : cr c1 c2 d1 d2 a1 a2 = 0
      · exact Or.inr (Or.inr (Or.inr (Or.inl (on_of_side ga (by omega) hs))))
      · by_cases de : cr c1 c2 d1 d2 b1 b2 = 0
        · exact Or.inr (Or.inr (Or.inr (Or.inr (on_of_side de ga (by rw [cr_rev a1 a2 b1 b2, cr_rev a1 a2 b1 b2]; omega)))))
        · exact Or.inl ⟨by omega, by omega⟩
theorem mtM_iff {a1 a2 b1 b2 c1 c2 d1 d2 : Int} : mtM a1 a2 b1 b2 c1 c2 d1 d2 ↔ mtC a1 a2 b1 b2 c1 c2 d1 d2 := ⟨mt_of_M, mtM_of_C⟩
end
