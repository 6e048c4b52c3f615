/-! the house that a JOIN makes is a house -/
theorem cr_b1 (a b c d : Int) : cr a c b c b d = (b - a) * (d - c) := by unfold cr; grind
theorem cr_b2 (a b c d : Int) : cr b c b d a d = (b - a) * (d - c) := by unfold cr; grind
theorem cr_b3 (a b c d : Int) : cr b d a d a c = (b - a) * (d - c) := by unfold cr; grind
theorem cr_b4 (a b c d : Int) : cr a d a c b c = (b - a) * (d - c) := by unfold cr; grind
theorem dt_b1 (a b c d : Int) : dt a d a c b c = 0 := by unfold dt; grind
theorem dt_b2 (a b c d : Int) : dt a c b c b d = 0 := by unfold dt; grind
theorem dt_b3 (a b c d : Int) : dt b c b d a d = 0 := by unfold dt; grind
theorem dt_b4 (a b c d : Int) : dt b d a d a c = 0 := by unfold dt; grind
theorem bx_sm {P Q : Nat → Int32} {a b c d : Int32} (hp : P 0 = a ∧ P 1 = b ∧ P 2 = b ∧ P 3 = a) (hq : Q 0 = c ∧ Q 1 = c ∧ Q 2 = d ∧ Q 3 = d) (h1 : a.toInt < b.toInt) (h2 : c.toInt < d.toInt) : mSm 6 4 P Q := by
  have e : eO 6 4 = 4 := rfl
  have n0 : nxt 4 0 = 1 := rfl
  have n1 : nxt 4 1 = 2 := rfl
  have n2 : nxt 4 2 = 3 := rfl
  have n3 : nxt 4 3 = 0 := rfl
  have v0 : prv 4 0 = 3 := rfl
  have v1 : prv 4 1 = 0 := rfl
  have v2 : prv 4 2 = 1 := rfl
  have v3 : prv 4 3 = 2 := rfl
  obtain ⟨p0, p1, p2, p3⟩ := hp
  obtain ⟨q0, q1, q2, q3⟩ := hq
  have m : 0 < (b.toInt - a.toInt) * (d.toInt - c.toInt) := Int.mul_pos (by omega) (by omega)
  refine ⟨fun g => absurd g (by decide), fun _ => ⟨by decide, fun i hi => ?_, fun i k hik hk => ?_, Or.inr fun k hk => ?_⟩⟩
  · rw [e] at hi
    rcases (show i = 0 ∨ i = 1 ∨ i = 2 ∨ i = 3 by omega) with rfl | rfl | rfl | rfl
    · rw [n0, p0, p1]; omega
    · rw [n1, q1, q2]; omega
    · rw [n2, p2, p3]; omega
    · rw [n3, q3, q0]; omega
  · rw [e] at hk
    unfold mCn mFl fld
    rcases (show (i = 0 ∧ k = 1) ∨ (i = 1 ∧ k = 2) ∨ (i = 2 ∧ k = 3) ∨ (i = 0 ∧ k = 3) ∨ (i = 0 ∧ k = 2) ∨ (i = 1 ∧ k = 3) by omega) with ⟨rfl, rfl⟩ | ⟨rfl, rfl⟩ | ⟨rfl, rfl⟩ | ⟨rfl, rfl⟩ | ⟨rfl, rfl⟩ | ⟨rfl, rfl⟩
    · refine ⟨fun _ h => ?_, fun h => absurd rfl h, fun h => absurd rfl h⟩
      have h := h.1
      rw [n0, n1, p0, q0, p1, q1, p2, q2, cr_b1] at h; omega
    · refine ⟨fun _ h => ?_, fun h => absurd rfl h, fun h => absurd rfl h⟩
      have h := h.1
      rw [n1, n2, p1, q1, p2, q2, p3, q3, cr_b2] at h; omega
    · refine ⟨fun _ h => ?_, fun h => absurd rfl h, fun h => absurd rfl h⟩
      have h := h.1
      rw [n2, n3, p2, q2, p3, q3, p0, q0, cr_b3] at h; omega
    · refine ⟨fun g => absurd g (by decide), fun _ _ h => ?_, fun _ g => absurd ⟨by decide, rfl, by rw [e]⟩ g⟩
      have h := h.1
      rw [n3, n0, p3, q3, p0, q0, p1, q1, cr_b4] at h; omega
    · refine ⟨fun g => absurd g (by decide), fun _ g => absurd g.2.2 (by rw [e]; decide), fun _ _ h => ?_⟩
      unfold eMt mtC at h
      have h := h.2.1
      rw [n0, n2, q0, q1, q2, q3] at h; omega
    · refine ⟨fun g => absurd g (by decide), fun _ g => absurd g.2.1 (by decide), fun _ _ h => ?_⟩
      unfold eMt mtC at h
      have h := h.1
      rw [n1, n3, p1, p2, p3, p0] at h; omega
  · unfold eRt
    rcases (show k = 0 ∨ k = 1 ∨ k = 2 ∨ k = 3 by omega) with rfl | rfl | rfl | rfl
    · rw [v0, n0, p3, q3, p0, q0, p1, q1]; exact dt_b1 _ _ _ _
    · rw [v1, n1, p0, q0, p1, q1, p2, q2]; exact dt_b2 _ _ _ _
    · rw [v2, n2, p1, q1, p2, q2, p3, q3]; exact dt_b3 _ _ _ _
    · rw [v3, n3, p2, q2, p3, q3, p0, q0]; exact dt_b4 _ _ _ _
theorem ne_two {X : Nat → Int32} {n i j : Nat} (hi : i < n) (hj : j < n) (h : ¬ (X i).toInt = (X j).toInt) : ∃ i j, i < n ∧ j < n ∧ (X i).toInt < (X j).toInt := by
  rcases Int.lt_or_le (X i).toInt (X j).toInt with g | g
  · exact ⟨i, j, hi, hj, g⟩
  · exact ⟨j, i, hj, hi, by omega⟩
/-- a house is as wide as it is high: both ways more than nothing -/
theorem ho_nd {n : Nat} {X Y : Nat → Int32} (h : mSm 6 n X Y) : (∃ i j, i < n ∧ j < n ∧ (X i).toInt < (X j).toInt) ∧ ∃ i j, i < n ∧ j < n ∧ (Y i).toInt < (Y j).toInt := by
  obtain ⟨h1, h2, h3, h4⟩ := h.2 (by decide)
  have hn : 3 ≤ n := h1
  have e : eO 6 n = n := rfl
  have n0 : nxt n 0 = 1 := by unfold nxt; rw [if_pos (by omega)]
  have v0 : prv n 0 = n - 1 := rfl
  have nl : nxt n (n - 1) = 0 := by unfold nxt; rw [if_neg (by omega)]
  have a := h2 0 (by rw [e]; omega)
  have b := h2 (n - 1) (by rw [e]; omega)
  have r := (h4.resolve_left (fun g => g rfl)) 0 (by omega)
  unfold eRt dt at r
  rw [n0] at a
  rw [nl] at b
  rw [n0, v0] at r
  have z : ∀ u v : Int, ¬ u = 0 → ¬ v = 0 → ¬ u * v = 0 := fun u v hu hv g => (Int.mul_eq_zero.mp g).elim hu hv
  constructor
  · by_cases c1 : (X (n - 1)).toInt = (X 0).toInt
    · by_cases c2 : (X 1).toInt = (X 0).toInt
      · exfalso
        have d1 : ¬ ((Y (n - 1)).toInt - (Y 0).toInt) = 0 := by omega
        have d2 : ¬ ((Y 1).toInt - (Y 0).toInt) = 0 := by omega
        have d3 := z _ _ d1 d2
        rw [c1, c2, Int.sub_self, Int.zero_mul, Int.zero_add] at r
        exact d3 r
      · exact ne_two (i := 1) (j := 0) (by omega) (by omega) c2
    · exact ne_two (i := n - 1) (j := 0) (by omega) (by omega) c1
  · by_cases c1 : (Y (n - 1)).toInt = (Y 0).toInt
    · by_cases c2 : (Y 1).toInt = (Y 0).toInt
      · exfalso
        have d1 : ¬ ((X (n - 1)).toInt - (X 0).toInt) = 0 := by omega
        have d2 : ¬ ((X 1).toInt - (X 0).toInt) = 0 := by omega
        have d3 := z _ _ d1 d2
        rw [c1, c2, Int.sub_self, Int.zero_mul, Int.add_zero] at r
        exact d3 r
      · exact ne_two (i := 1) (j := 0) (by omega) (by omega) c2
    · exact ne_two (i := n - 1) (j := 0) (by omega) (by omega) c1
theorem jlo_lt {cx cy : Nat → Int32} {f n g m : Nat} (hf : pls n (cF40 cx f) (cF40 cy f)) (hg : pls m (cF40 cx g) (cF40 cy g)) (hs : mSm 6 n (cF40 cx f) (cF40 cy f)) : (jlo cx f n g m).toInt < (jhi cx f n g m).toInt ∧ (jlo cy f n g m).toInt < (jhi cy f n g m).toInt := by
  obtain ⟨⟨i, j, hi, hj, hl⟩, k, l, hk, hl2, hm⟩ := ho_nd hs
  have hp := mSm_pos hs
  have h0 := hf 0 (by omega)
  unfold pl at h0
  have a := mnP h0.1 hf n (Nat.le_refl _)
  have b := mnP h0.2 hf n (Nat.le_refl _)
  have c1 := (mnP a.1 hg m (Nat.le_refl _)).1
  have c2 := (mnP a.2.2.1 hg m (Nat.le_refl _)).2.2.1
  have c3 := (mnP b.2.1 hg m (Nat.le_refl _)).2.1
  have c4 := (mnP b.2.2.2 hg m (Nat.le_refl _)).2.2.2
  have u : ∀ (X U : Nat → Int32) (z : Int) (i j : Nat), i < n → j < n → (X i).toInt < (X j).toInt → mnI (mnI z X n) U m < mxI (mxI z X n) U m := fun X U z i j hi hj h => by
    have e1 := (mn_mx (z := mnI z X n) (X := U) m).1
    have e2 := (mn_mx (z := mxI z X n) (X := U) m).2
    have e3 := mnI_le (z := z) (X := X) hi
    have e4 := le_mxI (z := z) (X := X) hj
    omega
  unfold jlo jhi
  rw [iI_toInt (by omega), iI_toInt (by omega), iI_toInt (by omega), iI_toInt (by omega)]
  exact ⟨u _ _ _ i j hi hj hl, u _ _ _ k l hk hl2 hm⟩
