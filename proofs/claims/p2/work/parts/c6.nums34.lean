/-! CLASHES -/
theorem im_eq {P : Int → Int → Prop} {u d v e : Int} (h1 : IM P u d) (h2 : IM P v e) (hd : 1 ≤ d) (he : 1 ≤ e) : u * e = v * d := by
  rcases h1 with h1 | h1
  · omega
  · rcases h2 with h2 | h2
    · omega
    · have a := h1.2.2 v e h2.2.1
      have b := h2.2.2 u d h1.2.1
      omega
theorem im_gt {P : Int → Int → Prop} {u d v e c : Int} (h1 : IM P u d) (h2 : IM P v e) (hd : 1 ≤ d) (he : 1 ≤ e) (h : 4 * u < c * d) : 4 * v < c * e := by
  have q := im_eq h1 h2 hd he
  have a : 4 * u * e < c * d * e := Int.mul_lt_mul_of_pos_right h (by omega)
  have b : 4 * v * d < c * e * d := by
    rw [show 4 * v * d = 4 * (v * d) from Int.mul_assoc 4 v d, ← q, ← Int.mul_assoc, show c * e * d = c * d * e from by rw [Int.mul_assoc, Int.mul_comm e d, ← Int.mul_assoc]]; exact a
  exact Int.lt_of_mul_lt_mul_right b (by omega)
theorem rd_gt {c : Int} {u d : Nat} (hd : 1 ≤ d) : 4 * ((u / Nat.gcd u d : Nat) : Int) < c * ((d / Nat.gcd u d : Nat) : Int) ↔ 4 * ((u : Nat) : Int) < c * ((d : Nat) : Int) := by
  have hg : 0 < Nat.gcd u d := Nat.gcd_pos_of_pos_right u (by omega)
  have hg2 : (0 : Int) < ((Nat.gcd u d : Nat) : Int) := by omega
  have e1 : ((u : Nat) : Int) = ((u / Nat.gcd u d : Nat) : Int) * ((Nat.gcd u d : Nat) : Int) := by rw [← Int.natCast_mul, Nat.div_mul_cancel (Nat.gcd_dvd_left u d)]
  have e2 : ((d : Nat) : Int) = ((d / Nat.gcd u d : Nat) : Int) * ((Nat.gcd u d : Nat) : Int) := by rw [← Int.natCast_mul, Nat.div_mul_cancel (Nat.gcd_dvd_right u d)]
  generalize ((u / Nat.gcd u d : Nat) : Int) = a at *
  generalize ((d / Nat.gcd u d : Nat) : Int) = b at *
  generalize ((Nat.gcd u d : Nat) : Int) = z at *
  rw [e1, e2, ← Int.mul_assoc, ← Int.mul_assoc]
  exact ⟨fun h => Int.mul_lt_mul_of_pos_right h hg2, fun h => Int.lt_of_mul_lt_mul_right h (by omega)⟩
def clP (ft : Nat) (st tn kd mn cx cy wd : Nat → Int32) (gp : Int32) (f g : Nat) : Prop :=
  lvF ft st tn f ∧ lvF ft st tn g ∧ ¬ mtF (kd f).toInt (nN (mn f)) (cF40 cx f) (cF40 cy f) (kd g).toInt (nN (mn g)) (cF40 cx g) (cF40 cy g) ∧
  ∀ u d : Nat, 1 ≤ d → IM (dcP (nN (mn f)) (cF40 cx f) (cF40 cy f) (nN (mn g)) (cF40 cx g) (cF40 cy g) (eO (kd g).toInt (nN (mn g))) (eO (kd f).toInt (nN (mn f))) 0) ((u : Nat) : Int) ((d : Nat) : Int) → 4 * ((u : Nat) : Int) < ((wd f).toInt + (wd g).toInt + 2 * gp.toInt) * ((wd f).toInt + (wd g).toInt + 2 * gp.toInt) * ((d : Nat) : Int)
theorem clL {a b g : Int32} (h1 : 0 ≤ a.toInt ∧ a.toInt ≤ 100) (h2 : 0 ≤ b.toInt ∧ b.toInt ≤ 100) (h3 : 0 ≤ g.toInt ∧ g.toInt ≤ 200) : (a + b).toInt64 + 2 * g.toInt64 = jI (a.toInt + b.toInt + 2 * g.toInt) := by
  have e1 : (a + b).toInt64 = jI (a.toInt + b.toInt) := jI_of (by rw [i64]; exact fb_addI (by omega) (by omega))
  have e2 : g.toInt64 = jI g.toInt := jI_of (i64 _)
  rw [e1, e2, show (2 : Int64) = jI 2 from rfl, jI_mul (by omega) (by omega) (by omega), jI_add (by omega) (by omega)]
theorem clB {c : Int} {D : Nat} (hc : 0 ≤ c ∧ c ≤ 600) (hD : D ≤ 2000000) : (0 ≤ c * c ∧ c * c ≤ 360000) ∧ 0 ≤ c * c * ((D : Nat) : Int) ∧ c * c * ((D : Nat) : Int) ≤ 720000000000 := by
  have a := sqZ (u := c)
  have b : c * c ≤ 600 * 600 := Int.mul_le_mul hc.2 hc.2 hc.1 (by omega)
  have d := Int.mul_nonneg a (show 0 ≤ ((D : Nat) : Int) by omega)
  have e : c * c * ((D : Nat) : Int) ≤ 360000 * ((D : Nat) : Int) := Int.mul_le_mul_of_nonneg_right (by omega) (by omega)
  exact ⟨⟨a, by omega⟩, d, by omega⟩
/-- how many pairs clash ahead of a number's -/
noncomputable def clT (P : Nat → Nat → Prop) (ft : Nat) : Nat → Nat
  | 0 => 0
  | a + 1 => clT P ft a + cntP (fun b => a < b ∧ P a b) ft
theorem clT_b (P : Nat → Nat → Prop) {ft : Nat} : ∀ a, clT P ft a ≤ ft * a
  | 0 => Nat.le_refl _
  | a + 1 => by
    have h1 := clT_b P (ft := ft) a
    have h2 := cntP_b (fun b => a < b ∧ P a b) ft
    show clT P ft a + cntP (fun b => a < b ∧ P a b) ft ≤ ft * (a + 1)
    rw [Nat.mul_succ]; omega
theorem cl_0 (P : Nat → Nat → Prop) (a : Nat) : ∀ b, b ≤ a + 1 → cntP (fun b => a < b ∧ P a b) b = 0
  | 0, _ => rfl
  | b + 1, h => by rw [cntP_n (by intro g; omega)]; exact cl_0 P a b (by omega)
theorem clT_200 (P : Nat → Nat → Prop) {ft a : Nat} (h : ft ≤ 200) (ha : a ≤ ft) : clT P ft a ≤ 40000 := by
  have h1 := clT_b P (ft := ft) a
  have h2 := Nat.mul_le_mul h (show a ≤ 200 by omega)
  omega
/-- the place of a pair among all that clash -/
def clI (P : Nat → Nat → Prop) (ft a b i : Nat) : Prop := a < b ∧ b < ft ∧ P a b ∧ clT P ft a + cntP (fun b => a < b ∧ P a b) b = i
theorem cntP_mono (P : Nat → Prop) {a b : Nat} (h : a ≤ b) : cntP P a ≤ cntP P b := by
  induction b with
  | zero => rw [show a = 0 by omega]; exact Nat.le_refl _
  | succ b ih =>
    rcases Nat.lt_or_ge b a with q | q
    · rw [show a = b + 1 by omega]; exact Nat.le_refl _
    · have := ih q; show cntP P a ≤ cntP P b + _; omega
theorem clT_mono (P : Nat → Nat → Prop) (ft : Nat) {a b : Nat} (h : a ≤ b) : clT P ft a ≤ clT P ft b := by
  induction b with
  | zero => rw [show a = 0 by omega]; exact Nat.le_refl _
  | succ b ih =>
    rcases Nat.lt_or_ge b a with q | q
    · rw [show a = b + 1 by omega]; exact Nat.le_refl _
    · have := ih q; show clT P ft a ≤ clT P ft b + _; omega
theorem clI_lt {P : Nat → Nat → Prop} {ft a b i j : Nat} (h : clI P ft a b i) {a2 b2 : Nat} (h2 : clI P ft a2 b2 j) (hl : a < a2 ∨ (a = a2 ∧ b < b2)) : i < j := by
  obtain ⟨p1, p2, p3, p4⟩ := h
  obtain ⟨q1, q2, q3, q4⟩ := h2
  have y : cntP (fun b => a < b ∧ P a b) (b + 1) = cntP (fun b => a < b ∧ P a b) b + 1 := cntP_y (P := fun b => a < b ∧ P a b) ⟨p1, p3⟩
  rcases hl with hl | ⟨rfl, hl⟩
  · have m1 := cntP_mono (fun b => a < b ∧ P a b) (show b + 1 ≤ ft by omega)
    have m2 := clT_mono P ft (show a + 1 ≤ a2 by omega)
    have m3 : clT P ft (a + 1) = clT P ft a + cntP (fun b => a < b ∧ P a b) ft := rfl
    omega
  · have m1 := cntP_mono (fun b => a < b ∧ P a b) (show b + 1 ≤ b2 by omega)
    omega
theorem clI_u {P : Nat → Nat → Prop} {ft a b i a2 b2 : Nat} (h : clI P ft a b i) (h2 : clI P ft a2 b2 i) : a = a2 ∧ b = b2 := by
  rcases Nat.lt_trichotomy a a2 with q | q | q
  · have := clI_lt h h2 (Or.inl q); omega
  · rcases Nat.lt_trichotomy b b2 with r | r | r
    · have := clI_lt h h2 (Or.inr ⟨q, r⟩); omega
    · exact ⟨q, r⟩
    · have := clI_lt h2 h (Or.inr ⟨q.symm, r⟩); omega
  · have := clI_lt h2 h (Or.inl q); omega
