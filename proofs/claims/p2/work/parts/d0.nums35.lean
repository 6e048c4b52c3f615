/-! the class's fractions -/
theorem iI_ml {y z : Int} (h1 : -2147483648 ≤ y ∧ y < 2147483648) (h2 : -2147483648 ≤ z ∧ z < 2147483648) (h3 : -2147483648 ≤ y * z ∧ y * z < 2147483648) : iI y * iI z = iI (y * z) := by
  refine iI_of ?_
  rw [Int32.toInt_mul, iI_toInt h1, iI_toInt h2]
  exact Int.bmod_eq_of_le (by omega) (by omega)
theorem im2 {u v w z : Int} (h1 : -2000 ≤ u ∧ u ≤ 2000) (h2 : -2000 ≤ v ∧ v ≤ 2000) (h3 : -2000 ≤ w ∧ w ≤ 2000) (h4 : -2000 ≤ z ∧ z ≤ 2000) : iI u * iI v + iI w * iI z = iI (u * v + w * z) := by
  have a := mulC h1 h2; have b := mulC h3 h4
  rw [iI_ml (by omega) (by omega) (by omega), iI_ml (by omega) (by omega) (by omega), iI_add (by omega) (by omega)]
theorem in_len {a1 a2 b1 b2 : Int32} (h1 : pl a1) (h2 : pl a2) (h3 : pl b1) (h4 : pl b2) : (b1 - a1) * (b1 - a1) + (b2 - a2) * (b2 - a2) = iI (nrL a1.toInt a2.toInt b1.toInt b2.toInt) := by
  have p := sB h3 h1; have q := sB h4 h2
  rw [sub_pl h3 h1, sub_pl h4 h2, im2 (by omega) (by omega) (by omega) (by omega)]; rfl
theorem in_dot {a1 a2 b1 b2 x y : Int32} (h1 : pl a1) (h2 : pl a2) (h3 : pl b1) (h4 : pl b2) (h5 : pl x) (h6 : pl y) : (b1 - a1) * (x - a1) + (b2 - a2) * (y - a2) = iI (nrT a1.toInt a2.toInt b1.toInt b2.toInt x.toInt y.toInt) := by
  have p := sB h3 h1; have q := sB h4 h2; have r := sB h5 h1; have t := sB h6 h2
  rw [sub_pl h3 h1, sub_pl h4 h2, sub_pl h5 h1, sub_pl h6 h2, im2 (by omega) (by omega) (by omega) (by omega)]; rfl
theorem in_u0 {a1 a2 b1 b2 x y : Int32} (h1 : pl a1) (h2 : pl a2) (h5 : pl x) (h6 : pl y) (h : nrT a1.toInt a2.toInt b1.toInt b2.toInt x.toInt y.toInt ≤ 0) : ((x - a1) * (x - a1) + (y - a2) * (y - a2)).toInt64 = jI (nrU a1.toInt a2.toInt b1.toInt b2.toInt x.toInt y.toInt) := by
  have r := sB h5 h1; have t := sB h6 h2
  have a := sqN (u := x.toInt - a1.toInt) (by omega); have b := sqN (u := y.toInt - a2.toInt) (by omega)
  rw [sub_pl h5 h1, sub_pl h6 h2, im2 (by omega) (by omega) (by omega) (by omega), iI_64 (by omega)]; unfold nrU; rw [if_pos h]
theorem in_u1 {a1 a2 b1 b2 x y : Int32} (h1 : pl a1) (h2 : pl a2) (h3 : pl b1) (h4 : pl b2) (h5 : pl x) (h6 : pl y) (h : ¬ nrT a1.toInt a2.toInt b1.toInt b2.toInt x.toInt y.toInt ≤ 0) (hh : nrL a1.toInt a2.toInt b1.toInt b2.toInt ≤ nrT a1.toInt a2.toInt b1.toInt b2.toInt x.toInt y.toInt) : (((x - a1) - (b1 - a1)) * ((x - a1) - (b1 - a1)) + ((y - a2) - (b2 - a2)) * ((y - a2) - (b2 - a2))).toInt64 = jI (nrU a1.toInt a2.toInt b1.toInt b2.toInt x.toInt y.toInt) := by
  have p := sB h3 h1; have q := sB h4 h2; have r := sB h5 h1; have t := sB h6 h2
  have a := sqN (u := x.toInt - a1.toInt - (b1.toInt - a1.toInt)) (by omega); have b := sqN (u := y.toInt - a2.toInt - (b2.toInt - a2.toInt)) (by omega)
  rw [sub_pl h3 h1, sub_pl h4 h2, sub_pl h5 h1, sub_pl h6 h2, iI_sub (by omega) (by omega), iI_sub (by omega) (by omega), im2 (by omega) (by omega) (by omega) (by omega), iI_64 (by omega)]; unfold nrU; rw [if_neg h, if_pos hh]
theorem in_u2 {a1 a2 b1 b2 x y : Int32} (h1 : pl a1) (h2 : pl a2) (h3 : pl b1) (h4 : pl b2) (h5 : pl x) (h6 : pl y) (h : ¬ nrT a1.toInt a2.toInt b1.toInt b2.toInt x.toInt y.toInt ≤ 0) (hh : ¬ nrL a1.toInt a2.toInt b1.toInt b2.toInt ≤ nrT a1.toInt a2.toInt b1.toInt b2.toInt x.toInt y.toInt) : (iI (cr a1.toInt a2.toInt b1.toInt b2.toInt x.toInt y.toInt)).toInt64 * (iI (cr a1.toInt a2.toInt b1.toInt b2.toInt x.toInt y.toInt)).toInt64 = jI (nrU a1.toInt a2.toInt b1.toInt b2.toInt x.toInt y.toInt) := by
  have c := crBp h1 h2 h3 h4 h5 h6
  have d := sqM c
  rw [iI_64 (by omega), jI_mul (by omega) (by omega) (by omega)]; unfold nrU; rw [if_neg h, if_neg hh]
/-- the distances of a place from the first parts of a row -/
def ofP (P : Int → Int → Prop) (n : Nat) (X Y : Nat → Int32) (x y : Int) (i : Nat) (A B : Int) : Prop := P A B ∨ ∃ k, k < i ∧ A = nrU (X k).toInt (Y k).toInt (X (nxt n k)).toInt (Y (nxt n k)).toInt x y ∧ B = nrD (X k).toInt (Y k).toInt (X (nxt n k)).toInt (Y (nxt n k)).toInt x y
theorem ofP_0 {P : Int → Int → Prop} {n : Nat} {X Y : Nat → Int32} {x y u d : Int} (h : IM P u d) : IM (ofP P n X Y x y 0) u d := IM_cg (fun A B => ⟨Or.inl, fun g => g.elim id (fun ⟨k, hk, _⟩ => absurd hk (Nat.not_lt_zero _))⟩) h
theorem ofP_b {P : Int → Int → Prop} {n : Nat} {X Y : Nat → Int32} {x y : Int32} {i : Nat} (hP : ∀ A B, P A B → 1 ≤ B) (hp : pls n X Y) (hx : pl x) (hy : pl y) (hi : i ≤ n) : ∀ A B, ofP P n X Y x.toInt y.toInt i A B → 1 ≤ B := by
  intro A B h
  rcases h with h | ⟨k, hk, rfl, rfl⟩
  · exact hP A B h
  · have hk2 := nxt_lt (n := n) (i := k) (by omega)
    exact (nrU_b (hp k (by omega)).1 (hp k (by omega)).2 (hp _ hk2).1 (hp _ hk2).2 hx hy).2.1
theorem ofP_s {P : Int → Int → Prop} {n : Nat} {X Y : Nat → Int32} {x y : Int32} {i : Nat} {u d zu zd : Int} (hP : ∀ A B, P A B → 1 ≤ B) (hp : pls n X Y) (hx : pl x) (hy : pl y) (hi : i < n) (h : IM (ofP P n X Y x.toInt y.toInt i) u d)
    (hn : ndP u d (nrU (X i).toInt (Y i).toInt (X (nxt n i)).toInt (Y (nxt n i)).toInt x.toInt y.toInt) (nrD (X i).toInt (Y i).toInt (X (nxt n i)).toInt (Y (nxt n i)).toInt x.toInt y.toInt) zu zd) : IM (ofP P n X Y x.toInt y.toInt (i + 1)) zu zd := by
  have hk2 := nxt_lt (n := n) (i := i) (by omega)
  refine IM_cg (fun A B => ⟨fun g => ?_, fun g => ?_⟩) (IM_s h (ofP_b hP hp hx hy (by omega)) (nrU_b (hp i hi).1 (hp i hi).2 (hp _ hk2).1 (hp _ hk2).2 hx hy).2.1 hn)
  · rcases g with (g | ⟨k, hk, g⟩) | g
    · exact Or.inl g
    · exact Or.inr ⟨k, by omega, g⟩
    · exact Or.inr ⟨i, by omega, g⟩
  · rcases g with g | ⟨k, hk, g⟩
    · exact Or.inl (Or.inl g)
    · rcases Nat.lt_or_ge k i with q | q
      · exact Or.inl (Or.inr ⟨k, q, g⟩)
      · rw [show k = i by omega] at g; exact Or.inr g
/-- the distances of a row's first corners from all parts of another -/
def ffP (P : Int → Int → Prop) (n : Nat) (X Y : Nat → Int32) (e : Nat) (U V : Nat → Int32) (i : Nat) (A B : Int) : Prop := P A B ∨ ∃ j, j < i ∧ ∃ k, k < e ∧ A = nrU (X k).toInt (Y k).toInt (X (nxt n k)).toInt (Y (nxt n k)).toInt (U j).toInt (V j).toInt ∧ B = nrD (X k).toInt (Y k).toInt (X (nxt n k)).toInt (Y (nxt n k)).toInt (U j).toInt (V j).toInt
theorem ffP_0 {P : Int → Int → Prop} {n e : Nat} {X Y U V : Nat → Int32} {u d : Int} (h : IM P u d) : IM (ffP P n X Y e U V 0) u d := IM_cg (fun A B => ⟨Or.inl, fun g => g.elim id (fun ⟨k, hk, _⟩ => absurd hk (Nat.not_lt_zero _))⟩) h
theorem ffP_b {P : Int → Int → Prop} {n e m : Nat} {X Y U V : Nat → Int32} {i : Nat} (hP : ∀ A B, P A B → 1 ≤ B) (hp : pls n X Y) (hq : pls m U V) (he : e ≤ n) (hi : i ≤ m) : ∀ A B, ffP P n X Y e U V i A B → 1 ≤ B := by
  intro A B h
  rcases h with h | ⟨j, hj, k, hk, rfl, rfl⟩
  · exact hP A B h
  · have hk2 := nxt_lt (n := n) (i := k) (by omega)
    exact (nrU_b (hp k (by omega)).1 (hp k (by omega)).2 (hp _ hk2).1 (hp _ hk2).2 (hq j (by omega)).1 (hq j (by omega)).2).2.1
theorem ffP_s {P : Int → Int → Prop} {n e : Nat} {X Y U V : Nat → Int32} {i : Nat} {u d : Int} (h : IM (ofP (ffP P n X Y e U V i) n X Y (U i).toInt (V i).toInt e) u d) : IM (ffP P n X Y e U V (i + 1)) u d := by
  refine IM_cg (fun A B => ⟨fun g => ?_, fun g => ?_⟩) h
  · rcases g with (g | ⟨j, hj, g⟩) | ⟨k, hk, g⟩
    · exact Or.inl g
    · exact Or.inr ⟨j, by omega, g⟩
    · exact Or.inr ⟨i, by omega, k, hk, g⟩
  · rcases g with g | ⟨j, hj, k, hk, g⟩
    · exact Or.inl (Or.inl g)
    · rcases Nat.lt_or_ge j i with q | q
      · exact Or.inl (Or.inr ⟨j, q, k, hk, g⟩)
      · rw [show j = i by omega] at g; exact Or.inr ⟨k, hk, g⟩
/-- the candidates of two rows that do not meet -/
def btP (n : Nat) (X Y : Nat → Int32) (e1 : Nat) (m : Nat) (U V : Nat → Int32) (e2 : Nat) : Int → Int → Prop := ffP (ffP (fun _ _ => False) m U V e2 X Y n) n X Y e1 U V m
theorem IM_no : IM (fun _ _ => False) 0 0 := Or.inl ⟨rfl, rfl, fun _ _ h => h⟩
theorem IM_pos {P : Int → Int → Prop} {u d : Int} (h : IM P u d) {A B : Int} (hP : P A B) : 1 ≤ d := by
  rcases h with ⟨_, _, h⟩ | h
  · exact absurd hP (h A B)
  · exact h.1
theorem fgB {g : Int32} {D : Int} (hg : 0 ≤ g.toInt ∧ g.toInt ≤ 1000) (hD : 0 ≤ D ∧ D ≤ 2000000) : (0 ≤ g.toInt * g.toInt ∧ g.toInt * g.toInt ≤ 1000000) ∧ 0 ≤ g.toInt * g.toInt * D ∧ g.toInt * g.toInt * D ≤ 2000000000000 := by
  have h := gpB9 (g := g) (D := D.toNat) hg (by omega)
  rw [show ((D.toNat : Nat) : Int) = D by omega] at h; exact h
theorem fgL {g : Int32} {D : Int} (hg : 0 ≤ g.toInt ∧ g.toInt ≤ 1000) (hD : 0 ≤ D ∧ D ≤ 2000000) : g.toInt64 * g.toInt64 * jI D = jI (g.toInt * g.toInt * D) := by
  have h := gpL (g := g) (D := D.toNat) hg (by omega)
  rw [show ((D.toNat : Nat) : Int) = D by omega] at h; exact h
theorem eu_s {a b j C : Nat} (hb : b < a) (h0 : 0 < b) (h : a * b * 2 ^ j ≤ C) : b * (a % b) * 2 ^ (j + 1) ≤ C := by
  have h2 : 2 * (a % b) ≤ a := by
    have h3 := Nat.mod_lt a h0
    have h4 : b + a % b ≤ a := by
      have e := Nat.div_add_mod a b
      have : 1 ≤ a / b := (Nat.one_le_div_iff h0).mpr (by omega)
      have := Nat.mul_le_mul_left b this
      omega
    omega
  have h5 : b * (a % b) * 2 ^ (j + 1) = b * (2 * (a % b)) * 2 ^ j := by
    rw [Nat.pow_succ, Nat.mul_comm (2 ^ j) 2, ← Nat.mul_assoc, Nat.mul_assoc b, Nat.mul_comm (a % b) 2]
  rw [h5]
  refine Nat.le_trans (Nat.mul_le_mul_right _ ?_) h
  rw [Nat.mul_comm a b]; exact Nat.mul_le_mul_left b h2
/-- Euclid's way: how far it can go -/
def euI (a b i : Nat) : Prop := i = 0 ∨ (b < a ∧ a * b * 2 ^ (i - 1) ≤ 4000000000000)
theorem euI_s {a b i : Nat} (h0 : 0 < b) (hb : b ≤ 2000000) (h : euI a b i) : euI b (a % b) (i + 1) := by
  refine Or.inr ⟨Nat.mod_lt a h0, ?_⟩
  rcases h with h | ⟨h1, h2⟩
  · subst h
    have := Nat.mod_lt a h0
    have := Nat.mul_le_mul hb (show a % b ≤ 2000000 by omega)
    simpa using this
  · rcases Nat.eq_zero_or_pos i with e | e
    · subst e
      have := Nat.mod_lt a h0
      have := Nat.mul_le_mul hb (show a % b ≤ 2000000 by omega)
      simpa using this
    · have := eu_s h1 h0 h2
      rw [show i - 1 + 1 = i by omega] at this; exact this
theorem euI_e {a b : Nat} (h : euI a b 200) : b = 0 := by
  rcases h with h | ⟨h1, h2⟩
  · omega
  · rcases Nat.eq_zero_or_pos b with e | e
    · exact e
    · have h3 : 1 * 2 ^ 199 ≤ a * b * 2 ^ 199 := Nat.mul_le_mul_right _ (Nat.mul_pos (by omega) e)
      have h4 : (2 : Nat) ^ 199 ≤ 4000000000000 := by simpa using Nat.le_trans h3 h2
      exact absurd h4 (by decide)
