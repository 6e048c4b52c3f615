/-! the corners of one feature go one by one -/
theorem rgK_01 (k : Int) : rgK k = 0 ∨ rgK k = 1 := by unfold rgK; split <;> simp
theorem th_r {ft : Nat} {st tn kd : Nat → Int32} {f : Nat} {mn cx cy : Nat → Int32} {n : Nat} (h : thI ft st tn kd f mn cx cy n) : ((¬ (rgK (kd f).toInt).toInt = 0 ∧ n ≤ 3) ∧ ∀ L, ¬ ∃ k, pBest ft st tn kd mn cx cy f n L k) ∨ (((rgK (kd f).toInt).toInt = 0 ∨ 4 ≤ n) ∧ (¬ 5 ≤ (kd f).toInt ∨ 4 ≤ n)) := by
  rw [rgK_0]
  by_cases e : 5 ≤ (kd f).toInt ∧ n ≤ 3
  · refine Or.inl ⟨by omega, fun L ⟨k, hk⟩ => ?_⟩
    have := hk.2.1.1.1; have := h.2.2.2.2.2.1 e.1; omega
  · exact Or.inr (by omega)
theorem nN_n9 {n : Nat} (h : n ≤ 1000) : nN (nI n) = n := by unfold nN; rw [nI_toInt (by omega)]; omega
theorem thI_s {ft : Nat} {st tn kd : Nat → Int32} {f L : Nat} {mn cx cy : Nat → Int32} {n k : Nat} (h : thI ft st tn kd f mn cx cy n) (hb : pBest ft st tn kd mn cx cy f n L k) : thI ft st tn kd f (upd mn f (nI (n - 1))) (shp f k (n - 1) cx) (shp f k (n - 1) cy) (n - 1) := by
  obtain ⟨hp, hs, hk, hkd, h2, h3, hl⟩ := h
  obtain ⟨b1, b2, b3, b4⟩ := hb
  have hg := b2.1.1
  have n40 := hp.2.1
  have hq : ∀ q, lvF ft st tn q → q ≠ f → wfM (upd mn f (nI (n - 1))) (shp f k (n - 1) cx) (shp f k (n - 1) cy) q := fun q hq hqf => by
    have w := hp.2.2.2.1 q hq
    unfold wfM at w ⊢
    rw [show upd mn f (nI (n - 1)) q = mn q from if_neg hqf]
    refine ⟨w.1, w.2.1, fun j hj => ?_⟩
    rw [shp_ot hqf n40.2 j (by have := w.2.1; omega), shp_ot hqf n40.2 j (by have := w.2.1; omega)]; exact w.2.2 j hj
  have hf : wfM (upd mn f (nI (n - 1))) (shp f k (n - 1) cx) (shp f k (n - 1) cy) f := by
    unfold wfM
    rw [up_at, nN_n9 (by omega)]
    exact ⟨rfl, by omega, b3.1⟩
  refine ⟨⟨up_at _ _ _, by omega, b3.1, fun q hq9 => ?_, fun g => by omega⟩, b3.2.1, fun q hq9 => ?_, hkd, by omega, fun g => by have := h3 g; omega, hl⟩
  · by_cases e : q = f
    · rw [e]; exact hf
    · exact hq q hq9 e
  · by_cases e : q = f
    · rw [e, up_at, nN_n9 (by omega)]; exact Or.inr ⟨by omega, by omega⟩
    · rw [show upd mn f (nI (n - 1)) q = mn q from if_neg e]; exact hk q hq9
/-- others stay as they are while corners of one feature go -/
def othE (f : Nat) (mn cx cy mn1 cx1 cy1 : Nat → Int32) : Prop := (∀ q, q ≠ f → mn1 q = mn q) ∧ ∀ q, q ≠ f → ∀ j, j < 40 → cF40 cx1 q j = cF40 cx q j ∧ cF40 cy1 q j = cF40 cy q j
theorem othE_0 (f : Nat) (mn cx cy : Nat → Int32) : othE f mn cx cy mn cx cy := ⟨fun _ _ => rfl, fun _ _ _ _ => ⟨rfl, rfl⟩⟩
theorem othE_s {f k n : Nat} {mn cx cy mn1 cx1 cy1 : Nat → Int32} {x : Int32} (h : othE f mn cx cy mn1 cx1 cy1) (hn : n ≤ 40) : othE f mn cx cy (upd mn1 f x) (shp f k (n - 1) cx1) (shp f k (n - 1) cy1) :=
  ⟨fun q hq => by rw [show upd mn1 f x q = mn1 q from if_neg hq]; exact h.1 q hq, fun q hq j hj => by rw [shp_ot hq hn j hj, shp_ot hq hn j hj]; exact h.2 q hq j hj⟩
theorem cut_row {f k n : Nat} {cx cy X Y X1 Y1 : Nat → Int32} (hX : ∀ j, j < n → X j = cF40 cx f j ∧ Y j = cF40 cy f j) (h1 : ∀ j, j < k → X1 j = X j ∧ Y1 j = Y j) (h2 : ∀ j, k ≤ j → j < n - 1 → X1 j = X (j + 1) ∧ Y1 j = Y (j + 1)) (hk : k < n) : ∀ j, j < n - 1 → X1 j = cF40 (shp f k (n - 1) cx) f j ∧ Y1 j = cF40 (shp f k (n - 1) cy) f j := by
  intro j hj
  have c := ct_cg hX h1 h2 hk j hj
  rw [shp_ct j hj, shp_ct j hj]; exact c
theorem pl_go {ft : Nat} {st tn kd : Nat → Int32} {f L m : Nat} {mn cx cy mn1 cx1 cy1 : Nat → Int32} {n n1 k : Nat} (h : plN ft st tn kd f L m mn cx cy n mn1 cx1 cy1 n1) (hk : pBest ft st tn kd mn cx cy f n L k) : ∃ r, m = r + 1 ∧ plN ft st tn kd f L r (upd mn f (nI (n - 1))) (shp f k (n - 1) cx) (shp f k (n - 1) cy) (n - 1) mn1 cx1 cy1 n1 := by
  rcases Nat.eq_zero_or_pos m with e | e
  · exact absurd ⟨k, hk⟩ (plN_z e h).2.2.2.2
  · obtain ⟨r, k2, e1, h1, h2⟩ := plN_p e h
    rw [pBest_u hk h1]; exact ⟨r, e1, h2⟩
theorem pl_no {ft : Nat} {st tn kd : Nat → Int32} {f L m : Nat} {mn cx cy mn1 cx1 cy1 : Nat → Int32} {n n1 : Nat} (h : plN ft st tn kd f L m mn cx cy n mn1 cx1 cy1 n1) (hk : ¬ ∃ k, pBest ft st tn kd mn cx cy f n L k) : m = 0 ∧ mn1 = mn ∧ cx1 = cx ∧ cy1 = cy ∧ n1 = n := by
  rcases Nat.eq_zero_or_pos m with e | e
  · have z := plN_z e h; exact ⟨e, z.1, z.2.1, z.2.2.1, z.2.2.2.1⟩
  · obtain ⟨r, k2, e1, h1, h2⟩ := plN_p e h
    exact absurd ⟨k2, h1⟩ hk
