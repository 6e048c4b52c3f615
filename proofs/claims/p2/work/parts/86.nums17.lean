/-! RUN: one feature, a pass over all, passes till one takes nothing -/
def rn1 (ft : Nat) (st tn kd : Nat → Int32) (L g : Nat) (mn cx cy : Nat → Int32) (m : Nat) (mn1 cx1 cy1 : Nat → Int32) : Prop :=
  ((lvF ft st tn g ∧ ¬ (kd g).toInt = 0 ∧ ¬ (kd g).toInt = 6) → ∃ n1, plN ft st tn kd g L m mn cx cy (nN (mn g)) mn1 cx1 cy1 n1) ∧ (¬ (lvF ft st tn g ∧ ¬ (kd g).toInt = 0 ∧ ¬ (kd g).toInt = 6) → m = 0 ∧ mn1 = mn ∧ cx1 = cx ∧ cy1 = cy)
def rnP (ft : Nat) (st tn kd : Nat → Int32) (L : Nat) : Nat → (Nat → Int32) → (Nat → Int32) → (Nat → Int32) → Nat → (Nat → Int32) → (Nat → Int32) → (Nat → Int32) → Prop
  | 0, mn, cx, cy, t, mn1, cx1, cy1 => t = 0 ∧ mn1 = mn ∧ cx1 = cx ∧ cy1 = cy
  | j + 1, mn, cx, cy, t, mn1, cx1, cy1 => ∃ m mn2 cx2 cy2 t2, rn1 ft st tn kd L (ft - (j + 1)) mn cx cy m mn2 cx2 cy2 ∧ rnP ft st tn kd L j mn2 cx2 cy2 t2 mn1 cx1 cy1 ∧ t = m + t2
def rnA (ft : Nat) (st tn kd : Nat → Int32) (L : Nat) : Nat → (Nat → Int32) → (Nat → Int32) → (Nat → Int32) → Nat → (Nat → Int32) → (Nat → Int32) → (Nat → Int32) → Prop
  | 0, _, _, _, _, _, _, _ => False
  | p + 1, mn, cx, cy, t, mn1, cx1, cy1 => ∃ t2 mn2 cx2 cy2, rnP ft st tn kd L ft mn cx cy t2 mn2 cx2 cy2 ∧ ((t2 = 0 ∧ t = 0 ∧ mn1 = mn2 ∧ cx1 = cx2 ∧ cy1 = cy2) ∨ (0 < t2 ∧ ∃ t3, rnA ft st tn kd L p mn2 cx2 cy2 t3 mn1 cx1 cy1 ∧ t = t2 + t3))
def allI (ft : Nat) (st tn kd mn cx cy : Nat → Int32) : Prop := ∀ q, lvF ft st tn q → wfM mn cx cy q ∧ (5 ≤ (kd q).toInt → 3 ≤ nN (mn q))
theorem allI_p {ft : Nat} {st tn kd mn cx cy : Nat → Int32} {g : Nat} (h : allI ft st tn kd mn cx cy) (hg : lvF ft st tn g) : plI ft st tn kd g mn cx cy (nN (mn g)) :=
  ⟨(h g hg).1.1, (h g hg).1.2.1, (h g hg).1.2.2, fun q hq => (h q hq).1, (h g hg).2⟩
theorem allI_s {ft : Nat} {st tn kd mn cx cy mn1 cx1 cy1 : Nat → Int32} {g m L n1 : Nat} (h : allI ft st tn kd mn cx cy) (hg : lvF ft st tn g) (hp : plN ft st tn kd g L m mn cx cy (nN (mn g)) mn1 cx1 cy1 n1) : allI ft st tn kd mn1 cx1 cy1 ∧ m ≤ 40 := by
  have h2 := plN_end m _ _ _ _ _ _ _ n1 (allI_p h hg) hp
  have h40 := (h g hg).1.2.1
  refine ⟨fun q hq => ⟨h2.1.2.2.2.1 q hq, fun h5 => ?_⟩, by have := h2.2.1; omega⟩
  by_cases e : q = g
  · subst e
    rw [h2.1.1, nN_nI (by have := h2.1.2.1; omega)]; exact h2.1.2.2.2.2 h5
  · rw [h2.2.2.1 q e]; exact (h q hq).2 h5
theorem rnP_s {ft : Nat} {st tn kd : Nat → Int32} {L q : Nat} {mn cx cy mn1 cx1 cy1 : Nat → Int32} {t : Nat} (hq : q < ft) (h : rnP ft st tn kd L (ft - q) mn cx cy t mn1 cx1 cy1) : ∃ m mn2 cx2 cy2 t2, rn1 ft st tn kd L q mn cx cy m mn2 cx2 cy2 ∧ rnP ft st tn kd L (ft - (q + 1)) mn2 cx2 cy2 t2 mn1 cx1 cy1 ∧ t = m + t2 := by
  obtain ⟨j, hj⟩ : ∃ j, ft - q = j + 1 := ⟨ft - q - 1, by omega⟩
  rw [hj] at h
  obtain ⟨m, mn2, cx2, cy2, t2, h1, h2, h3⟩ := h
  rw [show ft - (j + 1) = q by omega] at h1
  exact ⟨m, mn2, cx2, cy2, t2, h1, by rw [show ft - (q + 1) = j by omega]; exact h2, h3⟩
theorem rnP_z {ft : Nat} {st tn kd : Nat → Int32} {L j : Nat} {mn cx cy mn1 cx1 cy1 : Nat → Int32} {t : Nat} (hj : j = 0) (h : rnP ft st tn kd L j mn cx cy t mn1 cx1 cy1) : t = 0 ∧ mn1 = mn ∧ cx1 = cx ∧ cy1 = cy := by subst hj; exact h
theorem dlN_mono {a b : Nat} (h : a ≤ b) (cl ln : Nat) : dlN a cl ln ≤ dlN b cl ln := by
  obtain ⟨k, rfl⟩ : ∃ k, b = a + k := ⟨b - a, by omega⟩
  rw [dlN_add]; exact dlN_le _ _ _
theorem dlN_fit : ∀ (m cl ln : Nat), ln ≤ 64 * cl → 1 ≤ cl → ln + m ≤ 64 * dlN m cl ln := by
  intro m
  induction m with
  | zero => intro cl ln h _; exact h
  | succ m ih =>
    intro cl ln h h1
    have h2 := ih (dl cl ln) (ln + 1) (dl_fit h h1) (by have := dl_le cl ln; omega)
    show ln + (m + 1) ≤ 64 * dlN m (dl cl ln) (ln + 1); omega
/-- how RUN stands between two passes: goes on (x 1) or is through (x 0) -/
def rnM (ft : Nat) (st tn kd : Nat → Int32) (L T : Nat) (mn1 cx1 cy1 : Nat → Int32) (x : Int32) (pp nC : Nat) (mn cx cy : Nat → Int32) : Prop := (x = 1 ∧ ∃ t, rnA ft st tn kd L pp mn cx cy t mn1 cx1 cy1 ∧ nC + t = T) ∨ (x = 0 ∧ mn1 = mn ∧ cx1 = cx ∧ cy1 = cy ∧ nC = T)
theorem rnM_s {ft : Nat} {st tn kd : Nat → Int32} {L T : Nat} {mn1 cx1 cy1 : Nat → Int32} {x : Int32} {pp nC : Nat} {mn cx cy : Nat → Int32} (h : rnM ft st tn kd L T mn1 cx1 cy1 x pp nC mn cx cy) (hx : ¬ x.toInt = 0) : ∃ p t mn2 cx2 cy2, pp = p + 1 ∧ rnP ft st tn kd L ft mn cx cy t mn2 cx2 cy2 ∧ (t = 0 → rnM ft st tn kd L T mn1 cx1 cy1 0 0 nC mn2 cx2 cy2) ∧ (0 < t → rnM ft st tn kd L T mn1 cx1 cy1 1 p (nC + t) mn2 cx2 cy2) ∧ nC + t ≤ T := by
  rcases h with ⟨h, t, hA, ht⟩ | ⟨h, _⟩
  · cases pp with
    | zero => exact absurd hA (fun h => h)
    | succ p =>
      obtain ⟨t2, mn2, cx2, cy2, h1, h2⟩ := hA
      refine ⟨p, t2, mn2, cx2, cy2, rfl, h1, fun h0 => ?_, fun h0 => ?_, ?_⟩
      · rcases h2 with ⟨_, e2, e3, e4, e5⟩ | ⟨e, _⟩
        · exact Or.inr ⟨rfl, e3, e4, e5, by omega⟩
        · omega
      · rcases h2 with ⟨e, _⟩ | ⟨_, t3, h3, h4⟩
        · omega
        · exact Or.inl ⟨rfl, t3, h3, by omega⟩
      · rcases h2 with ⟨e, _⟩ | ⟨_, t3, h3, h4⟩ <;> omega
  · rw [h] at hx; exact absurd (by decide) hx
theorem rnM_z {ft : Nat} {st tn kd : Nat → Int32} {L T : Nat} {mn1 cx1 cy1 : Nat → Int32} {x : Int32} {pp nC : Nat} {mn cx cy : Nat → Int32} (h : rnM ft st tn kd L T mn1 cx1 cy1 x pp nC mn cx cy) (hx : x.toInt = 0) : mn1 = mn ∧ cx1 = cx ∧ cy1 = cy ∧ nC = T := by
  rcases h with ⟨h, _⟩ | ⟨_, h⟩
  · rw [h] at hx; exact absurd hx (by decide)
  · exact h
theorem rnM_le {ft : Nat} {st tn kd : Nat → Int32} {L T : Nat} {mn1 cx1 cy1 : Nat → Int32} {x : Int32} {pp nC : Nat} {mn cx cy : Nat → Int32} (h : rnM ft st tn kd L T mn1 cx1 cy1 x pp nC mn cx cy) : nC ≤ T := by
  rcases h with ⟨_, t, _, ht⟩ | ⟨_, _, _, _, h⟩ <;> omega
