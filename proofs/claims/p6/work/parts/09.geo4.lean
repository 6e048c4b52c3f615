section
/-! the reference's numbers are longs -/
theorem i64 (x : Int32) : (x.toInt64).toInt = x.toInt := Int32.toInt_toInt64 x
theorem crL {a1 a2 b1 b2 x y : Int32} (h1 : pl a1) (h2 : pl a2) (h3 : pl b1) (h4 : pl b2) (h5 : pl x) (h6 : pl y) : (b1.toInt64 - a1.toInt64) * (y.toInt64 - a2.toInt64) - (b2.toInt64 - a2.toInt64) * (x.toInt64 - a1.toInt64) = jI (cr a1.toInt a2.toInt b1.toInt b2.toInt x.toInt y.toInt) := by
  unfold pl at h1 h2 h3 h4 h5 h6
  have s1 := i64 a1; have s2 := i64 a2; have s3 := i64 b1; have s4 := i64 b2; have s5 := i64 x; have s6 := i64 y
  have e1 : (b1.toInt64 - a1.toInt64).toInt = b1.toInt - a1.toInt := by rw [fb_subL (by omega) (by omega), s3, s1]
  have e2 : (y.toInt64 - a2.toInt64).toInt = y.toInt - a2.toInt := by rw [fb_subL (by omega) (by omega), s6, s2]
  have e3 : (b2.toInt64 - a2.toInt64).toInt = b2.toInt - a2.toInt := by rw [fb_subL (by omega) (by omega), s4, s2]
  have e4 : (x.toInt64 - a1.toInt64).toInt = x.toInt - a1.toInt := by rw [fb_subL (by omega) (by omega), s5, s1]
  have p := mulB (u := b1.toInt - a1.toInt) (v := y.toInt - a2.toInt) (by omega) (by omega) (by omega) (by omega)
  have q := mulB (u := b2.toInt - a2.toInt) (v := x.toInt - a1.toInt) (by omega) (by omega) (by omega) (by omega)
  have f1 : ((b1.toInt64 - a1.toInt64) * (y.toInt64 - a2.toInt64)).toInt = (b1.toInt - a1.toInt) * (y.toInt - a2.toInt) := by rw [fb_mulL (by rw [e1, e2]; omega) (by rw [e1, e2]; omega), e1, e2]
  have f2 : ((b2.toInt64 - a2.toInt64) * (x.toInt64 - a1.toInt64)).toInt = (b2.toInt - a2.toInt) * (x.toInt - a1.toInt) := by rw [fb_mulL (by rw [e3, e4]; omega) (by rw [e3, e4]; omega), e3, e4]
  refine jI_of ?_
  rw [fb_subL (by rw [f1, f2]; omega) (by rw [f1, f2]; omega), f1, f2]
  rfl
def sg (z : Int) : Int := if 0 < z then 1 else if z < 0 then -1 else 0
theorem sgB (z : Int) : -1 ≤ sg z ∧ sg z ≤ 1 := by unfold sg; split <;> (try split) <;> omega
theorem sg_mul (y z : Int) : iI (sg y) * iI (sg z) = iI (sg y * sg z) := by
  have a := sgB y; have b := sgB z
  have hm : -1 ≤ sg y * sg z ∧ sg y * sg z ≤ 1 := by
    rcases (show sg y = -1 ∨ sg y = 0 ∨ sg y = 1 by omega) with h | h | h <;> rw [h] <;> omega
  refine iI_of ?_
  rw [fb_mulI (by rw [iI_toInt (by omega), iI_toInt (by omega)]; omega) (by rw [iI_toInt (by omega), iI_toInt (by omega)]; omega), iI_toInt (by omega), iI_toInt (by omega)]
theorem sgmB (y z : Int) : -1 ≤ sg y * sg z ∧ sg y * sg z ≤ 1 := by
  have a := sgB y; have b := sgB z
  rcases (show sg y = -1 ∨ sg y = 0 ∨ sg y = 1 by omega) with h | h | h <;> rw [h] <;> omega
theorem sg_neg {y z : Int} : sg y * sg z < 0 ↔ (0 < y ∧ z < 0) ∨ (y < 0 ∧ 0 < z) := by
  unfold sg
  split <;> (try split) <;> (try split) <;> (try split) <;> omega
def eO (k : Int) (n : Nat) : Nat := if k = 0 then 1 else if 5 ≤ k then n else n - 1
/-- the corners of feature f in the reference's rows -/
abbrev cF40 (c : Nat → Int32) (f : Nat) : Nat → Int32 := fun k => c (40 * f + k)
theorem zabs {x : Int32} {z : Int} (hx : x.toInt = z) (h : -2147483648 < z ∧ z < 2147483648) : (if 0 ≤ x then x else 0 - x) = nI (Int.natAbs z) := by
  by_cases q : (0 : Int32) ≤ x
  · rw [if_pos q]
    have := zc_le (x := 0) (y := x) (a := 0) (by decide) hx q
    refine Int32.toInt_inj.mp ?_
    rw [hx, nI_toInt (by omega)]; omega
  · rw [if_neg q]
    have := zc_nle (x := 0) (y := x) (a := 0) (by decide) hx q
    have e0 : (0 : Int32).toInt = 0 := by decide
    refine Int32.toInt_inj.mp ?_
    rw [nI_toInt (by omega), fb_subI (by rw [e0, hx]; omega) (by rw [e0, hx]; omega), e0, hx]; omega
theorem mlB {x y u v : Int32} (h1 : pl x) (h2 : pl y) (h3 : pl u) (h4 : pl v) : -1000000 ≤ (x.toInt - y.toInt) * (u.toInt - v.toInt) ∧ (x.toInt - y.toInt) * (u.toInt - v.toInt) ≤ 1000000 := by
  unfold pl at h1 h2 h3 h4; exact mulB (by omega) (by omega) (by omega) (by omega)
theorem mlI {x y u v : Int32} (h1 : pl x) (h2 : pl y) (h3 : pl u) (h4 : pl v) : (x - y) * (u - v) = iI ((x.toInt - y.toInt) * (u.toInt - v.toInt)) := by
  have b := mlB h1 h2 h3 h4
  unfold pl at h1 h2 h3 h4
  have e1 : (x - y).toInt = x.toInt - y.toInt := fb_subI (by omega) (by omega)
  have e2 : (u - v).toInt = u.toInt - v.toInt := fb_subI (by omega) (by omega)
  refine iI_of ?_
  rw [fb_mulI (by rw [e1, e2]; omega) (by rw [e1, e2]; omega), e1, e2]
theorem iI_add {y z : Int} (h1 : -1000000000 ≤ y ∧ y ≤ 1000000000) (h2 : -1000000000 ≤ z ∧ z ≤ 1000000000) : iI y + iI z = iI (y + z) := by
  refine iI_of ?_
  rw [fb_addI (by rw [iI_toInt (by omega), iI_toInt (by omega)]; omega) (by rw [iI_toInt (by omega), iI_toInt (by omega)]; omega), iI_toInt (by omega), iI_toInt (by omega)]
def dt (a1 a2 b1 b2 c1 c2 : Int) : Int := (a1 - b1) * (c1 - b1) + (a2 - b2) * (c2 - b2)
theorem dtI {a1 a2 b1 b2 c1 c2 : Int32} (h1 : pl a1) (h2 : pl a2) (h3 : pl b1) (h4 : pl b2) (h5 : pl c1) (h6 : pl c2) : (a1 - b1) * (c1 - b1) + (a2 - b2) * (c2 - b2) = iI (dt a1.toInt a2.toInt b1.toInt b2.toInt c1.toInt c2.toInt) := by
  have p := mlB h1 h3 h5 h3; have q := mlB h2 h4 h6 h4
  rw [mlI h1 h3 h5 h3, mlI h2 h4 h6 h4, iI_add (by omega) (by omega)]; rfl
theorem dtB {a1 a2 b1 b2 c1 c2 : Int32} (h1 : pl a1) (h2 : pl a2) (h3 : pl b1) (h4 : pl b2) (h5 : pl c1) (h6 : pl c2) : -2000000 ≤ dt a1.toInt a2.toInt b1.toInt b2.toInt c1.toInt c2.toInt ∧ dt a1.toInt a2.toInt b1.toInt b2.toInt c1.toInt c2.toInt ≤ 2000000 := by
  have p := mlB h1 h3 h5 h3; have q := mlB h2 h4 h6 h4
  unfold dt; omega
/-- two edges a b, b c lie one on the other -/
def fld (a1 a2 b1 b2 c1 c2 : Int) : Prop := cr a1 a2 b1 b2 c1 c2 = 0 ∧ 0 < dt a1 a2 b1 b2 c1 c2
theorem cr_ml (a1 a2 b1 b2 c1 c2 : Int) : (a1 - b1) * (c2 - b2) - (a2 - b2) * (c1 - b1) = - cr a1 a2 b1 b2 c1 c2 := by unfold cr; grind
def eFd (n : Nat) (X Y : Nat → Int32) (k : Nat) : Prop := fld (X (prv n k)).toInt (Y (prv n k)).toInt (X k).toInt (Y k).toInt (X (nxt n k)).toInt (Y (nxt n k)).toInt
def eRt (n : Nat) (X Y : Nat → Int32) (k : Nat) : Prop := dt (X (prv n k)).toInt (Y (prv n k)).toInt (X k).toInt (Y k).toInt (X (nxt n k)).toInt (Y (nxt n k)).toInt = 0
/-- an edge has length, and with those from a number on only what it may have in common -/
def eFr (n : Nat) (X Y : Nat → Int32) (rg : Int32) (i f : Nat) : Prop := ¬ ((X i).toInt = (X (nxt n i)).toInt ∧ (Y i).toInt = (Y (nxt n i)).toInt) ∧ ∀ j, f ≤ j → j < edg n rg → j ≠ i → (nxt n i = j → ¬ eFd n X Y j) ∧ (nxt n i ≠ j → nxt n j = i → ¬ eFd n X Y i) ∧ (nxt n i ≠ j → nxt n j ≠ i → ¬ eMt n X Y i n X Y j)
def ar2 (n : Nat) (X Y : Nat → Int32) : Nat → Int
  | 0 => 0
  | i + 1 => ar2 n X Y i + ((X i).toInt * (Y (nxt n i)).toInt - (X (nxt n i)).toInt * (Y i).toInt)
def ln2 (X Y : Nat → Int32) : Nat → Nat
  | 0 => 0
  | i + 1 => ln2 X Y i + (((X (i + 1)).toInt - (X i).toInt).natAbs + ((Y (i + 1)).toInt - (Y i).toInt).natAbs)
theorem xyB {x y : Int32} (h1 : pl x) (h2 : pl y) : 0 ≤ x.toInt * y.toInt ∧ x.toInt * y.toInt ≤ 1000000 := by
  unfold pl at h1 h2
  exact ⟨Int.mul_nonneg (by omega) (by omega), (mulB (by omega) (by omega) (by omega) (by omega)).2⟩
theorem xyI {x y u v : Int32} (h1 : pl x) (h2 : pl y) (h3 : pl u) (h4 : pl v) : x * y - u * v = iI (x.toInt * y.toInt - u.toInt * v.toInt) := by
  have p := xyB h1 h2; have q := xyB h3 h4
  have e1 : (x * y).toInt = x.toInt * y.toInt := fb_mulI (by omega) (by omega)
  have e2 : (u * v).toInt = u.toInt * v.toInt := fb_mulI (by omega) (by omega)
  refine iI_of ?_
  rw [fb_subI (by rw [e1, e2]; omega) (by rw [e1, e2]; omega), e1, e2]
theorem ar2B {n : Nat} {X Y : Nat → Int32} (hp : pls n X Y) : ∀ i, i ≤ n → -(1000000 * (i : Int)) ≤ ar2 n X Y i ∧ ar2 n X Y i ≤ 1000000 * (i : Int)
  | 0, _ => by simp [ar2]
  | i + 1, h => by
    have ih := ar2B hp i (by omega)
    have hx := nxt_lt (n := n) (i := i) (by omega)
    have p := xyB (hp i (by omega)).1 (hp _ hx).2; have q := xyB (hp _ hx).1 (hp i (by omega)).2
    simp only [ar2]; omega
theorem ln2B {n : Nat} {X Y : Nat → Int32} (hp : pls n X Y) : ∀ i, i < n → ln2 X Y i ≤ 2000 * i
  | 0, _ => by simp [ln2]
  | i + 1, h => by
    have ih := ln2B hp i (by omega)
    have a := hp i (by omega); have b := hp (i + 1) h
    unfold pl at a b
    simp only [ln2]; omega
theorem nxt_prv {n k : Nat} (h : k < n) : nxt n (prv n k) = k := by unfold nxt prv; split <;> (try split) <;> omega
theorem prv_nxt {n k : Nat} (h : k < n) : prv n (nxt n k) = k := by unfold nxt prv; split <;> (try split) <;> omega
/-- a corner that is made smooth: an end stays -/
def smv (e a b c : Int32) : Int32 := if e = 0 then (a + 2 * b + c) / 4 else b
theorem smv_t {p : Prop} {a b c : Int32} (h : p) : b = smv (pI p) a b c := by unfold smv; rw [zp_t h, if_neg (by decide)]
theorem smv_f {p : Prop} {a b c : Int32} (h : ¬ p) : (a + 2 * b + c) / 4 = smv (pI p) a b c := by unfold smv; rw [zp_f h, if_pos rfl]
theorem sPl {S : Nat → Int32} (h0 : pl (S 0)) (h1 : pl (S 1)) (h2 : pl (S 2)) (h3 : pl (S 3)) (h4 : pl (S 4)) (h5 : pl (S 5)) (h6 : pl (S 6)) (h7 : pl (S 7)) : ∀ k, k < 8 → pl (S k) := by
  intro k hk
  rcases (show k = 0 ∨ k = 1 ∨ k = 2 ∨ k = 3 ∨ k = 4 ∨ k = 5 ∨ k = 6 ∨ k = 7 by omega) with rfl | rfl | rfl | rfl | rfl | rfl | rfl | rfl <;> assumption
theorem met_of {S : Nat → Int32} {n m : Nat} {X Y U V : Nat → Int32} {i j : Nat} (s0 : S 0 = X i) (s1 : S 1 = Y i) (s2 : S 2 = X (nxt n i)) (s3 : S 3 = Y (nxt n i)) (s4 : S 4 = U j) (s5 : S 5 = V j) (s6 : S 6 = U (nxt m j)) (s7 : S 7 = V (nxt m j)) : mtC (S 0).toInt (S 1).toInt (S 2).toInt (S 3).toInt (S 4).toInt (S 5).toInt (S 6).toInt (S 7).toInt ↔ eMt n X Y i m U V j := by
  unfold eMt; rw [s0, s1, s2, s3, s4, s5, s6, s7]
theorem on_of {S : Nat → Int32} {n : Nat} {X Y : Nat → Int32} {i : Nat} {x y : Int} (s0 : S 0 = X i) (s1 : S 1 = Y i) (s2 : S 2 = X (nxt n i)) (s3 : S 3 = Y (nxt n i)) : onS (S 0).toInt (S 1).toInt (S 2).toInt (S 3).toInt x y ↔ eOn n X Y i x y := by
  unfold eOn; rw [s0, s1, s2, s3]
theorem eO_le {k : Int} {n : Nat} (h : 1 ≤ n) : eO k n ≤ n := by unfold eO; split <;> (try split) <;> omega
/-- the least and the greatest of a start and some corners -/
def mnI (z : Int) (X : Nat → Int32) : Nat → Int
  | 0 => z
  | i + 1 => min (mnI z X i) (X i).toInt
def mxI (z : Int) (X : Nat → Int32) : Nat → Int
  | 0 => z
  | i + 1 => max (mxI z X i) (X i).toInt
def nr (z : Int) : Prop := -10000 ≤ z ∧ z ≤ 10000
theorem mnB {z : Int} {X : Nat → Int32} {n : Nat} (hz : nr z) (hX : ∀ k, k < n → nr (X k).toInt) : ∀ i, i ≤ n → nr (mnI z X i)
  | 0, _ => hz
  | i + 1, h => by
    have a := mnB hz hX i (by omega); have b := hX i (by omega)
    unfold nr at *; simp only [mnI]; omega
theorem mxB {z : Int} {X : Nat → Int32} {n : Nat} (hz : nr z) (hX : ∀ k, k < n → nr (X k).toInt) : ∀ i, i ≤ n → nr (mxI z X i)
  | 0, _ => hz
  | i + 1, h => by
    have a := mxB hz hX i (by omega); have b := hX i (by omega)
    unfold nr at *; simp only [mxI]; omega
theorem iI_sub {y z : Int} (h1 : -1000000000 ≤ y ∧ y ≤ 1000000000) (h2 : -1000000000 ≤ z ∧ z ≤ 1000000000) : iI y - iI z = iI (y - z) := by
  refine iI_of ?_
  rw [fb_subI (by rw [iI_toInt (by omega), iI_toInt (by omega)]; omega) (by rw [iI_toInt (by omega), iI_toInt (by omega)]; omega), iI_toInt (by omega), iI_toInt (by omega)]
theorem sqB {z : Int} (h : 0 ≤ z ∧ z ≤ 20000) : 0 ≤ z * z ∧ z * z ≤ 400000000 := by
  have a := Int.mul_nonneg h.1 h.1
  have b := Int.mul_le_mul h.2 h.2 h.1 (by omega)
  omega
theorem iI_sq {z : Int} (h : 0 ≤ z ∧ z ≤ 20000) : iI z * iI z = iI (z * z) := by
  have q := sqB h
  refine iI_of ?_
  rw [fb_mulI (by rw [iI_toInt (by omega)]; omega) (by rw [iI_toInt (by omega)]; omega), iI_toInt (by omega)]
/-- how far two spans are apart -/
def gp (l r l2 r2 : Int) : Int := max 0 (max (l2 - r) (l - r2))
theorem gpB {l r l2 r2 : Int} (h1 : nr l) (h2 : nr r) (h3 : nr l2) (h4 : nr r2) : 0 ≤ gp l r l2 r2 ∧ gp l r l2 r2 ≤ 20000 := by unfold nr at *; unfold gp; omega
theorem sq_pos {y z : Int} (h1 : 0 ≤ y ∧ y ≤ 20000) (h2 : 0 ≤ z ∧ z ≤ 20000) : 0 < y * y + z * z ↔ 0 < y ∨ 0 < z := by
  have a := sqB h1; have b := sqB h2
  constructor
  · intro h
    rcases Int.lt_or_le 0 y with p | p
    · exact Or.inl p
    · rcases Int.lt_or_le 0 z with q | q
      · exact Or.inr q
      · have e1 : y = 0 := by omega
        have e2 : z = 0 := by omega
        rw [e1, e2] at h; omega
  · rintro (h | h)
    · have := Int.mul_pos h h; omega
    · have := Int.mul_pos h h; omega
theorem mlL {x y u v : Int32} (h1 : pl x) (h2 : pl y) (h3 : pl u) (h4 : pl v) : (x - y).toInt64 * (u - v).toInt64 = jI ((x.toInt - y.toInt) * (u.toInt - v.toInt)) := by
  have b := mlB h1 h2 h3 h4
  unfold pl at h1 h2 h3 h4
  have e1 : ((x - y).toInt64).toInt = x.toInt - y.toInt := by rw [i64, fb_subI (by omega) (by omega)]
  have e2 : ((u - v).toInt64).toInt = u.toInt - v.toInt := by rw [i64, fb_subI (by omega) (by omega)]
  refine jI_of ?_
  rw [fb_mulL (by rw [e1, e2]; omega) (by rw [e1, e2]; omega), e1, e2]
theorem jI_add {y z : Int} (h1 : -1000000000000000 ≤ y ∧ y ≤ 1000000000000000) (h2 : -1000000000000000 ≤ z ∧ z ≤ 1000000000000000) : jI y + jI z = jI (y + z) := by
  refine jI_of ?_
  rw [fb_addL (by rw [jI_toInt (by omega), jI_toInt (by omega)]; omega) (by rw [jI_toInt (by omega), jI_toInt (by omega)]; omega), jI_toInt (by omega), jI_toInt (by omega)]
theorem dt_neg (a1 a2 b1 b2 c1 c2 : Int) : (b1 - a1) * (c1 - b1) + (b2 - a2) * (c2 - b2) = - dt a1 a2 b1 b2 c1 c2 := by unfold dt; grind
def mnc (k : Int) : Nat := if 5 ≤ k then 3 else 2
theorem mnc_s (k : Int) : (5 ≤ k → mnc k = 3) ∧ (¬ 5 ≤ k → mnc k = 2) := ⟨fun h => if_pos h, fun h => if_neg h⟩
/-- edge i and edge j from i on lie one on the other, as the reference asks -/
def mFl (n : Nat) (X Y : Nat → Int32) (i k : Nat) : Prop := fld (X i).toInt (Y i).toInt (X (nxt n i)).toInt (Y (nxt n i)).toInt (X (nxt n k)).toInt (Y (nxt n k)).toInt
def mCn (kd : Int) (n : Nat) (X Y : Nat → Int32) (i k : Nat) : Prop := (k = i + 1 → ¬ mFl n X Y i k) ∧ (k ≠ i + 1 → (5 ≤ kd ∧ i = 0 ∧ k = eO kd n - 1) → ¬ mFl n X Y k i) ∧ (k ≠ i + 1 → ¬ (5 ≤ kd ∧ i = 0 ∧ k = eO kd n - 1) → ¬ eMt n X Y i n X Y k)
def mSm (kd : Int) (n : Nat) (X Y : Nat → Int32) : Prop := (kd = 0 → n = 1) ∧ (¬ kd = 0 → mnc kd ≤ n ∧ (∀ i, i < eO kd n → ¬ ((X i).toInt = (X (nxt n i)).toInt ∧ (Y i).toInt = (Y (nxt n i)).toInt)) ∧ (∀ i k, i < k → k < eO kd n → mCn kd n X Y i k) ∧ (¬ kd = 6 ∨ ∀ k, k < n → eRt n X Y k))
end
