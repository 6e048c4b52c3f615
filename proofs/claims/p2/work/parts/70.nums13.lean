/-! SQUARE -/
theorem mnI_s (z : Int) (X : Nat → Int32) (i : Nat) : mnI z X (i + 1) = min (mnI z X i) (X i).toInt := rfl
theorem mxI_s (z : Int) (X : Nat → Int32) (i : Nat) : mxI z X (i + 1) = max (mxI z X i) (X i).toInt := rfl
theorem mnP {z : Int} {X Y : Nat → Int32} {n : Nat} (hz : 0 ≤ z ∧ z ≤ 1000) (h : pls n X Y) : ∀ i, i ≤ n → (0 ≤ mnI z X i ∧ mnI z X i ≤ 1000) ∧ (0 ≤ mnI z Y i ∧ mnI z Y i ≤ 1000) ∧ (0 ≤ mxI z X i ∧ mxI z X i ≤ 1000) ∧ (0 ≤ mxI z Y i ∧ mxI z Y i ≤ 1000) := by
  intro i
  induction i with
  | zero => intro _; exact ⟨hz, hz, hz, hz⟩
  | succ i ih =>
    intro hi
    have h1 := ih (by omega)
    have h2 := h i (by omega)
    unfold pl at h2
    rw [mnI_s, mnI_s, mxI_s, mxI_s]; omega
theorem fgX_cg {f n : Nat} {X Y c : Nat → Int32} (h : ∀ k, k < n → X k = Y k) : fgX f n X c = fgX f n Y c := by
  funext j; unfold fgX
  by_cases q : 40 * f ≤ j ∧ j < 40 * f + n
  · rw [if_pos q, if_pos q, h _ (by omega)]
  · rw [if_neg q, if_neg q]
theorem bxX_o {f j : Nat} {lx hx : Int32} {c : Nat → Int32} (h : j < 40 * f ∨ 40 * f + 4 ≤ j) : bxX f lx hx 4 c j = c j := by unfold bxX; rw [if_neg (by omega)]
theorem bxY_o {f j : Nat} {lx hx : Int32} {c : Nat → Int32} (h : j < 40 * f ∨ 40 * f + 4 ≤ j) : bxY f lx hx 4 c j = c j := by unfold bxY; rw [if_neg (by omega)]
/-- the least box of a row -/
abbrev bL (X : Nat → Int32) (n : Nat) : Int := mnI (X 0).toInt X n
abbrev bH (X : Nat → Int32) (n : Nat) : Int := mxI (X 0).toInt X n
/-- the box's double area, less the row's own -/
def dfB (n : Nat) (X Y : Nat → Int32) : Int := 2 * (bH X n - bL X n) * (bH Y n - bL Y n) - ((Int.natAbs (ar2 n X Y n) : Nat) : Int)
theorem dfB_eq (n : Nat) (X Y : Nat → Int32) : dfB n X Y = 2 * (mxI (X 0).toInt X n - mnI (X 0).toInt X n) * (mxI (Y 0).toInt Y n - mnI (Y 0).toInt Y n) - ((Int.natAbs (ar2 n X Y n) : Nat) : Int) := rfl
/-- a row becomes its box lawfully -/
def lwS (ft : Nat) (st tn kd mn cx cy : Nat → Int32) (f n : Nat) : Prop := lwA ft st tn (upd kd f 6) (upd mn f 4) (bxX f (iI (bL (cF40 cx f) n)) (iI (bH (cF40 cx f) n)) 4 cx) (bxY f (iI (bL (cF40 cy f) n)) (iI (bH (cF40 cy f) n)) 4 cy) f 4 (cF40 cx f 0) (cF40 cy f 0) (bMt kd mn cx cy f n) (bWi kd mn cx cy f) (bIn kd cx cy f n) sW0
theorem nn_le {st tn mn : Nat → Int32} {ft g : Nat} (hmn : ∀ v9, v9 < ft → (tn v9).toInt = 0 → ¬ (st v9).toInt = 0 → mn v9 = nI (nN (mn v9)) ∧ nN (mn v9) ≤ 40) (hg : g < ft) : nnF st tn mn g ≤ 40 := by
  unfold nnF
  by_cases q : (tn g).toInt = 0 ∧ ¬ (st g).toInt = 0
  · rw [if_pos q]; exact (hmn g hg q.1 q.2).2
  · rw [if_neg q]; omega
theorem sqK {f n g k : Nat} {X c c1 : Nat → Int32} (hX : ∀ j, j < n → X j = c (40 * f + j)) (h1 : ∀ j, (j < 40 * f ∨ 40 * f + 40 ≤ j) → c1 j = c j) (hk : k < 40) (hf : g = f → k < n) (hn : n ≤ 40) : fgX f n X c1 (40 * g + k) = c (40 * g + k) := by
  by_cases e : g = f
  · subst e; rw [fgX_at (hf rfl), hX k (hf rfl)]
  · rw [fgX_o (by omega), h1 _ (by omega)]
theorem nnF_at {st tn mn : Nat → Int32} {f n : Nat} (h1 : (st f).toInt = 1) (h2 : (tn f).toInt = 0) (h3 : mn f = nI n) (hn : n ≤ 40) : nnF st tn mn f = n := by
  unfold nnF; rw [if_pos ⟨h2, by omega⟩, h3, nN_nI (by omega)]
theorem i32B (x : Int32) : -2147483648 ≤ x.toInt ∧ x.toInt ≤ 2147483647 := ⟨by have := Int32.le_toInt x; omega, by have := Int32.toInt_lt x; omega⟩
theorem dfB_b {n : Nat} {X Y : Nat → Int32} (hp : pls n X Y) (h1 : 1 ≤ n) (h40 : n ≤ 40) : -1000000000000 ≤ dfB n X Y ∧ dfB n X Y ≤ 1000000000000 := by
  have a := mnP (z := (X 0).toInt) (hp 0 (by omega)).1 hp n (Nat.le_refl _)
  have b := mnP (z := (Y 0).toInt) (hp 0 (by omega)).2 hp n (Nat.le_refl _)
  have c := mulB (u := mxI (X 0).toInt X n - mnI (X 0).toInt X n) (v := mxI (Y 0).toInt Y n - mnI (Y 0).toInt Y n) (by omega) (by omega) (by omega) (by omega)
  have d := ar2B hp n (Nat.le_refl _)
  rw [dfB_eq, Int.mul_assoc]
  generalize (mxI (X 0).toInt X n - mnI (X 0).toInt X n) * (mxI (Y 0).toInt Y n - mnI (Y 0).toInt Y n) = m at *
  generalize ar2 n X Y n = r at *
  omega
theorem sqL {n : Nat} {X Y : Nat → Int32} (hp : pls n X Y) (h1 : 1 ≤ n) (h40 : n ≤ 40) : 2 * (iI (mxI (X 0).toInt X n) - iI (mnI (X 0).toInt X n)).toInt64 * (iI (mxI (Y 0).toInt Y n) - iI (mnI (Y 0).toInt Y n)).toInt64 - jI ((Int.natAbs (ar2 n X Y n) : Nat) : Int) = jI (dfB n X Y) := by
  have a := mnP (z := (X 0).toInt) (hp 0 (by omega)).1 hp n (Nat.le_refl _)
  have b := mnP (z := (Y 0).toInt) (hp 0 (by omega)).2 hp n (Nat.le_refl _)
  have c := mulB (u := mxI (X 0).toInt X n - mnI (X 0).toInt X n) (v := mxI (Y 0).toInt Y n - mnI (Y 0).toInt Y n) (by omega) (by omega) (by omega) (by omega)
  have d := ar2B hp n (Nat.le_refl _)
  rw [dfB_eq, iI_sub (by omega) (by omega), iI_sub (by omega) (by omega), iI_64 (by omega), iI_64 (by omega), jI_2, Int.mul_assoc]
  have hu : -1000 ≤ mxI (X 0).toInt X n - mnI (X 0).toInt X n ∧ mxI (X 0).toInt X n - mnI (X 0).toInt X n ≤ 1000 := by omega
  have hv : -1000 ≤ mxI (Y 0).toInt Y n - mnI (Y 0).toInt Y n ∧ mxI (Y 0).toInt Y n - mnI (Y 0).toInt Y n ≤ 1000 := by omega
  clear a b
  generalize mxI (X 0).toInt X n - mnI (X 0).toInt X n = u at *
  generalize mxI (Y 0).toInt Y n - mnI (Y 0).toInt Y n = v at *
  generalize ar2 n X Y n = r at *
  have e : jI 2 * jI u * jI v = jI (2 * (u * v)) := by
    refine jI_of ?_
    have h2 : (jI 2 * jI u).toInt = 2 * u := by rw [fb_mulL (by rw [jI_toInt (by omega), jI_toInt (by omega)]; omega) (by rw [jI_toInt (by omega), jI_toInt (by omega)]; omega), jI_toInt (by omega), jI_toInt (by omega)]
    have h3 : 2 * u * v = 2 * (u * v) := Int.mul_assoc _ _ _
    rw [fb_mulL (by rw [h2, jI_toInt (by omega), h3]; omega) (by rw [h2, jI_toInt (by omega), h3]; omega), h2, jI_toInt (by omega), h3]
  rw [e, jI_sub (by omega) (by omega)]
