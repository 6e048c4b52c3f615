/-! rows that move -/
theorem fgX_0 (f : Nat) (V c : Nat → Int32) : c = fgX f 0 V c := by funext j; unfold fgX; rw [if_neg (by omega)]
theorem fgX_u {f k : Nat} {V c c1 : Nat → Int32} {x : Int32} (h : c1 = fgX f k V c) (hx : x = V k) : upd c1 (40 * f + k) x = fgX f (k + 1) V c := by
  subst h hx; funext j; unfold upd fgX
  by_cases q : j = 40 * f + k
  · subst q; rw [if_pos rfl, if_pos (by omega), show 40 * f + k - 40 * f = k by omega]
  · rw [if_neg q]
    by_cases q2 : 40 * f ≤ j ∧ j < 40 * f + k
    · rw [if_pos q2, if_pos (show 40 * f ≤ j ∧ j < 40 * f + (k + 1) by omega)]
    · rw [if_neg q2, if_neg (show ¬ (40 * f ≤ j ∧ j < 40 * f + (k + 1)) by omega)]
theorem fgX_k {f k : Nat} {V c c1 : Nat → Int32} (h : c1 = fgX f k V c) (hx : c (40 * f + k) = V k) : c1 = fgX f (k + 1) V c := by
  subst h; funext j; unfold fgX
  by_cases q : j = 40 * f + k
  · subst q; rw [if_neg (by omega), if_pos (by omega), show 40 * f + k - 40 * f = k by omega]; exact hx
  · by_cases q2 : 40 * f ≤ j ∧ j < 40 * f + k
    · rw [if_pos q2, if_pos (show 40 * f ≤ j ∧ j < 40 * f + (k + 1) by omega)]
    · rw [if_neg q2, if_neg (show ¬ (40 * f ≤ j ∧ j < 40 * f + (k + 1)) by omega)]
theorem fgX_at {f n k : Nat} {V c : Nat → Int32} (h : k < n) : fgX f n V c (40 * f + k) = V k := by
  unfold fgX; rw [if_pos (by omega), show 40 * f + k - 40 * f = k by omega]
theorem fgX_o {f n j : Nat} {V c : Nat → Int32} (h : j < 40 * f ∨ 40 * f + n ≤ j) : fgX f n V c j = c j := by unfold fgX; rw [if_neg (by omega)]
theorem fgX_same {f n : Nat} {V c : Nat → Int32} (h : ∀ k, k < n → V k = c (40 * f + k)) : fgX f n V c = c := by
  funext j; unfold fgX
  by_cases q : 40 * f ≤ j ∧ j < 40 * f + n
  · rw [if_pos q, h _ (by omega), show 40 * f + (j - 40 * f) = j by omega]
  · rw [if_neg q]
theorem fgX_back {f n : Nat} {X V c : Nat → Int32} (h : ∀ k, k < n → X k = c (40 * f + k)) : fgX f n X (fgX f n V c) = c := by
  funext j; unfold fgX
  by_cases q : 40 * f ≤ j ∧ j < 40 * f + n
  · rw [if_pos q, h _ (by omega), show 40 * f + (j - 40 * f) = j by omega]
  · rw [if_neg q, if_neg q]
/-- something moves -/
def mvd (n : Nat) (VX VY X Y : Nat → Int32) : Prop := ∃ k, k < n ∧ ¬ (VX k = X k ∧ VY k = Y k)
theorem mv_iff {f n : Nat} {VX VY cx cy cx1 cy1 ox oy : Nat → Int32} (hcx : cx1 = fgX f n VX cx) (hcy : cy1 = fgX f n VY cy) (hox : ∀ j, j < n → ox j = cx (40 * f + j) ∧ oy j = cy (40 * f + j)) : (∃ k, k < n ∧ ¬ ((cx1 (40 * f + k)).toInt = (ox k).toInt ∧ (cy1 (40 * f + k)).toInt = (oy k).toInt)) ↔ mvd n VX VY (cF40 cx f) (cF40 cy f) := by
  subst hcx hcy
  constructor
  · rintro ⟨k, hk, h⟩
    refine ⟨k, hk, fun h2 => h ?_⟩
    rw [fgX_at hk, fgX_at hk, (hox k hk).1, (hox k hk).2, h2.1, h2.2]; exact ⟨rfl, rfl⟩
  · rintro ⟨k, hk, h⟩
    refine ⟨k, hk, fun h2 => h ?_⟩
    rw [fgX_at hk, fgX_at hk, (hox k hk).1, (hox k hk).2] at h2
    exact ⟨Int32.toInt_inj.mp h2.1, Int32.toInt_inj.mp h2.2⟩
theorem swp_c {on e : Nat} {X Y U V P Q : Nat → Int32} {x y : Int} (he : e < on) (h : ∀ j, j < on → X j = U j ∧ Y j = V j) : swp on X Y P Q x y e = swp on U V P Q x y e := by
  have h2 := h _ (nxt_lt (n := on) (i := e) (by omega)); have h3 := h e he
  unfold swp spr stay; rw [h2.1, h2.2, h3.1, h3.2]
theorem sWm_c {kf : Int} {on f : Nat} {X Y U V cx cy : Nat → Int32} (h1 : 1 ≤ on) (h : ∀ j, j < on → X j = U j ∧ Y j = V j) : sWm kf on X Y cx cy f = sWm kf on U V cx cy f := by
  funext q k
  have hle := eO_le (k := kf) h1
  exact propext ⟨fun ⟨e, he, h2⟩ => ⟨e, he, by rw [← swp_c (by omega) h]; exact h2⟩, fun ⟨e, he, h2⟩ => ⟨e, he, by rw [swp_c (by omega) h]; exact h2⟩⟩
/-- a move of all corners is lawful -/
def lwM (ft : Nat) (st tn kd mn cx cy : Nat → Int32) (f n : Nat) (VX VY : Nat → Int32) : Prop := lwA ft st tn kd mn (fgX f n VX cx) (fgX f n VY cy) f n (cF40 cx f 0) (cF40 cy f 0) (bMt kd mn cx cy f n) (bWi kd mn cx cy f) (bIn kd cx cy f n) (sWm (kd f).toInt n (cF40 cx f) (cF40 cy f) (fgX f n VX cx) (fgX f n VY cy) f)
theorem lwM_eq {ft : Nat} {st tn kd mn cx cy cx1 cy1 ox oy VX VY : Nat → Int32} {f n : Nat} (h1 : 1 ≤ n) (hcx : cx1 = fgX f n VX cx) (hcy : cy1 = fgX f n VY cy) (hox : ∀ j, j < n → ox j = cx (40 * f + j) ∧ oy j = cy (40 * f + j)) : lwA ft st tn kd mn cx1 cy1 f n (ox 0) (oy 0) (bMt kd mn cx cy f n) (bWi kd mn cx cy f) (bIn kd cx cy f n) (sWm (kd f).toInt n ox oy cx1 cy1 f) = lwM ft st tn kd mn cx cy f n VX VY := by
  subst hcx hcy
  unfold lwM
  rw [(hox 0 (by omega)).1, (hox 0 (by omega)).2, sWm_c (U := cF40 cx f) (V := cF40 cy f) h1 hox]
