/-! PLAINER to its end -/
theorem nN_nI {k : Nat} (h : k < 2147483648) : nN (nI k) = k := by unfold nN; rw [nI_toInt h]; omega
def plI (ft : Nat) (st tn kd : Nat → Int32) (f : Nat) (mn cx cy : Nat → Int32) (n : Nat) : Prop := mn f = nI n ∧ (1 ≤ n ∧ n ≤ 40) ∧ pls n (cF40 cx f) (cF40 cy f) ∧ (∀ q, lvF ft st tn q → wfM mn cx cy q) ∧ (5 ≤ (kd f).toInt → 3 ≤ n)
theorem plI_s {ft : Nat} {st tn kd : Nat → Int32} {f : Nat} {mn cx cy : Nat → Int32} {n L k : Nat} (h : plI ft st tn kd f mn cx cy n) (hb : pBest ft st tn kd mn cx cy f n L k) : plI ft st tn kd f (upd mn f (nI (n - 1))) (shp f k (n - 1) cx) (shp f k (n - 1) cy) (n - 1) := by
  obtain ⟨h1, h2, h3, h4, h5⟩ := h
  have hl := hb.2.2.1
  have hp := hl.1
  have hs := hl.2.1
  have hn := mSm_pos hs
  refine ⟨by unfold upd; rw [if_pos rfl], ⟨hn, by omega⟩, hp, fun q hq => ?_, fun h => ?_⟩
  · by_cases e : q = f
    · subst e
      unfold wfM
      rw [show upd mn q (nI (n - 1)) q = nI (n - 1) by unfold upd; rw [if_pos rfl], nN_nI (by omega)]
      exact ⟨rfl, ⟨hn, by omega⟩, hp⟩
    · exact wfM_o (h4 q hq) e (fun j hj => by simp only [upd, if_neg hj]) (fun j hj => ⟨shp_o (by omega) hj, shp_o (by omega) hj⟩)
  · have h6 := (hs.2 (by omega)).1
    unfold mnc at h6; rw [if_pos h] at h6; exact h6
/-- m corners go, one by one, and then none -/
def plN (ft : Nat) (st tn kd : Nat → Int32) (f L : Nat) : Nat → (Nat → Int32) → (Nat → Int32) → (Nat → Int32) → Nat → (Nat → Int32) → (Nat → Int32) → (Nat → Int32) → Nat → Prop
  | 0, mn, cx, cy, n, mn1, cx1, cy1, n1 => mn1 = mn ∧ cx1 = cx ∧ cy1 = cy ∧ n1 = n ∧ ¬ ∃ k, pBest ft st tn kd mn cx cy f n L k
  | m + 1, mn, cx, cy, n, mn1, cx1, cy1, n1 => ∃ k, pBest ft st tn kd mn cx cy f n L k ∧ plN ft st tn kd f L m (upd mn f (nI (n - 1))) (shp f k (n - 1) cx) (shp f k (n - 1) cy) (n - 1) mn1 cx1 cy1 n1
theorem plN_ex {ft : Nat} {st tn kd : Nat → Int32} {f L : Nat} : ∀ (n : Nat) (mn cx cy : Nat → Int32), plI ft st tn kd f mn cx cy n → ∃ m mn1 cx1 cy1 n1, plN ft st tn kd f L m mn cx cy n mn1 cx1 cy1 n1 := by
  intro n
  induction n with
  | zero => intro mn cx cy h; have := h.2.1; omega
  | succ n ih =>
    intro mn cx cy h
    by_cases q : ∃ k, pBest ft st tn kd mn cx cy f (n + 1) L k
    · obtain ⟨k, hk⟩ := q
      have h2 := plI_s h hk
      rw [show n + 1 - 1 = n by omega] at h2
      obtain ⟨m, mn1, cx1, cy1, n1, h3⟩ := ih _ _ _ h2
      exact ⟨m + 1, mn1, cx1, cy1, n1, k, hk, by rw [show n + 1 - 1 = n by omega]; exact h3⟩
    · exact ⟨0, mn, cx, cy, n + 1, rfl, rfl, rfl, rfl, q⟩
theorem plN_end {ft : Nat} {st tn kd : Nat → Int32} {f L : Nat} : ∀ (m n : Nat) (mn cx cy mn1 cx1 cy1 : Nat → Int32) (n1 : Nat), plI ft st tn kd f mn cx cy n → plN ft st tn kd f L m mn cx cy n mn1 cx1 cy1 n1 → plI ft st tn kd f mn1 cx1 cy1 n1 ∧ n1 + m = n ∧ (∀ q, q ≠ f → mn1 q = mn q) ∧ (∀ j, (j < 40 * f ∨ 40 * f + 40 ≤ j) → cx1 j = cx j ∧ cy1 j = cy j) ∧ ¬ ∃ k, pBest ft st tn kd mn1 cx1 cy1 f n1 L k := by
  intro m
  induction m with
  | zero =>
    intro n mn cx cy mn1 cx1 cy1 n1 h hN
    obtain ⟨rfl, rfl, rfl, rfl, h2⟩ := hN
    exact ⟨h, rfl, fun _ _ => rfl, fun _ _ => ⟨rfl, rfl⟩, h2⟩
  | succ m ih =>
    intro n mn cx cy mn1 cx1 cy1 n1 h hN
    obtain ⟨k, hk, h2⟩ := hN
    have hs := plI_s h hk
    have h3 := ih _ _ _ _ _ _ _ _ hs h2
    have hn := h.2.1
    have hn2 := hs.2.1
    refine ⟨h3.1, by have := h3.2.1; omega, fun q hq => ?_, fun j hj => ?_, h3.2.2.2.2⟩
    · rw [h3.2.2.1 q hq]; simp only [upd, if_neg hq]
    · have h4 := h3.2.2.2.1 j hj
      rw [h4.1, h4.2]; exact ⟨shp_o (by omega) hj, shp_o (by omega) hj⟩
def dlN : Nat → Nat → Nat → Nat
  | 0, cl, _ => cl
  | m + 1, cl, ln => dlN m (dl cl ln) (ln + 1)
theorem dl_le (cl ln : Nat) : cl ≤ dl cl ln := by unfold dl; split <;> omega
theorem dlN_le : ∀ (m cl ln : Nat), cl ≤ dlN m cl ln := by
  intro m
  induction m with
  | zero => intro cl ln; exact Nat.le_refl _
  | succ m ih => intro cl ln; exact Nat.le_trans (dl_le cl ln) (ih _ _)
theorem dl_fit {cl ln : Nat} (h : ln ≤ 64 * cl) (h1 : 1 ≤ cl) : ln + 1 ≤ 64 * dl cl ln := by unfold dl; split <;> omega
theorem dlN_b : ∀ (m cl ln : Nat), ln ≤ 64 * cl → 1 ≤ cl → dlN m cl ln ≤ cl ∨ 32 * dlN m cl ln < ln + m := by
  intro m
  induction m with
  | zero => intro cl ln _ _; exact Or.inl (Nat.le_refl _)
  | succ m ih =>
    intro cl ln h h1
    have h2 := ih (dl cl ln) (ln + 1)
    show dlN m (dl cl ln) (ln + 1) ≤ cl ∨ 32 * dlN m (dl cl ln) (ln + 1) < ln + (m + 1)
    unfold dl at h2 ⊢
    by_cases q : ln = 64 * cl
    · rw [if_pos q] at h2 ⊢
      have := h2 (by omega) (by omega); omega
    · rw [if_neg q] at h2 ⊢
      have := h2 (by omega) h1; omega
theorem dlN_add : ∀ (m k cl ln : Nat), dlN (m + k) cl ln = dlN k (dlN m cl ln) (ln + m) := by
  intro m
  induction m with
  | zero => intro k cl ln; rw [Nat.zero_add]; rfl
  | succ m ih =>
    intro k cl ln
    rw [show m + 1 + k = (m + k) + 1 by omega]
    show dlN (m + k) (dl cl ln) (ln + 1) = dlN k (dlN m (dl cl ln) (ln + 1)) (ln + (m + 1))
    rw [ih, show ln + 1 + m = ln + (m + 1) by omega]
theorem plN_z {ft : Nat} {st tn kd : Nat → Int32} {f L m : Nat} {mn cx cy mn1 cx1 cy1 : Nat → Int32} {n n1 : Nat} (h0 : m = 0) (h : plN ft st tn kd f L m mn cx cy n mn1 cx1 cy1 n1) : mn1 = mn ∧ cx1 = cx ∧ cy1 = cy ∧ n1 = n ∧ ¬ ∃ k, pBest ft st tn kd mn cx cy f n L k := by subst h0; exact h
theorem plN_p {ft : Nat} {st tn kd : Nat → Int32} {f L m : Nat} {mn cx cy mn1 cx1 cy1 : Nat → Int32} {n n1 : Nat} (h0 : 0 < m) (h : plN ft st tn kd f L m mn cx cy n mn1 cx1 cy1 n1) : ∃ r k, m = r + 1 ∧ pBest ft st tn kd mn cx cy f n L k ∧ plN ft st tn kd f L r (upd mn f (nI (n - 1))) (shp f k (n - 1) cx) (shp f k (n - 1) cy) (n - 1) mn1 cx1 cy1 n1 := by
  cases m with
  | zero => omega
  | succ r => obtain ⟨k, h1, h2⟩ := h; exact ⟨r, k, rfl, h1, h2⟩
