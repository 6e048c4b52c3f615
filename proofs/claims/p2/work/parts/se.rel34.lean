/-! numbers of the script -/
theorem nI_ex {v : Int32} {n : Nat} (h : 0 ≤ v.toInt ∧ v.toInt < ((n : Nat) : Int)) : ∃ f, f < n ∧ v = nI f := by
  have h2 := Int32.toInt_lt v
  exact ⟨v.toInt.toNat, by omega, Int32.toInt_inj.mp (by rw [nI_toInt (by omega)]; omega)⟩
theorem nI_ge9 {v : Int32} (h : 0 ≤ v.toInt) : ∃ n, n ≤ 2147483647 ∧ v = nI n := by
  have h2 := Int32.toInt_lt v
  exact ⟨v.toInt.toNat, by omega, Int32.toInt_inj.mp (by rw [nI_toInt (by omega)]; omega)⟩
theorem lw_sub6 {L : Nat} (h : L ≤ 3072) : (Int32.ofNat L - 6).toInt = ((L : Nat) : Int) - 6 := by
  have e1 : (Int32.ofNat L).toInt = ((L : Nat) : Int) := nI_toInt (by omega)
  have e2 : (6 : Int32).toInt = 6 := by decide
  rw [fb_subI (by rw [e1, e2]; omega) (by rw [e1, e2]; omega), e1, e2]
/-! at the start -/
theorem shB_0 {cI cO : ClassId} {f : Nat → va_E} {e0 : Nat} {V : Nat → Nat → Nat → Int32} {VX VY : Nat → Nat → Int32} {tn rk wd tw pa pb wh of9 we kd st gb it mn cx cy : Nat → Int32} : shB cI cO [] f e0 (fun _ => none) e0 0 0 0 0 (fun _ => 0) V VX VY tn rk wd tw pa pb wh of9 we kd st gb it mn cx cy := by
  refine ⟨fun _ => 0, fun _ => 0, fun _ => 0, fun _ _ => 0, fun _ => 0, fun _ => none, ⟨?_, ?_, ?_, ?_, ?_, ?_, ?_⟩, ?_, rfl⟩
  · intro q hq; exact absurd hq (Nat.not_lt_zero _)
  · intro q hq; exact absurd hq (Nat.not_lt_zero _)
  · intro t _ _ q hq; exact absurd hq (Nat.not_lt_zero _)
  · intro t h1 h2; omega
  · exact Or.inl ⟨rfl, rfl⟩
  · exact ⟨Nat.le_refl _, Nat.le_refl _, Nat.zero_le _, fun _ _ _ => Nat.le_refl _, Nat.le_refl _, Nat.zero_le _⟩
  · intro q hq; exact absurd hq (Nat.not_lt_zero _)
  · intro q hq; exact absurd hq (Nat.not_lt_zero _)
theorem smN_00 : ∀ n, smN (fun _ => 0) n = 0 := by
  intro n
  induction n with
  | zero => rfl
  | succ n ih => show smN (fun _ => 0) n + 0 = 0; rw [ih]
theorem INV_0 {V : Nat → Nat → Nat → Int32} {VX VY : Nat → Nat → Int32} {rk wd tw pa pb kd st it mn cx cy sh lb lc : Nat → Int32} : INV 0 0 0 0 (fun _ => 0) (fun _ => 0) 0 0 0 1 0 1 (fun _ => 0) V VX VY (fun _ => 0) rk wd tw pa pb kd st it mn cx cy (fun _ => 0) sh lb lc := by
  have e0 : (0 : Int32).toInt = 0 := by decide
  have hb : ∀ (k s m : Nat → Int32), bdC (fun _ => 0) 0 0 k s m (fun _ => 0) := fun k s m => ⟨Nat.le_refl _, fun q hq => absurd hq (Nat.not_lt_zero _)⟩
  refine ⟨⟨fun q hq => absurd hq (Nat.not_lt_zero _), fun q hq => absurd hq (Nat.not_lt_zero _), hb _ _ _, fun q _ g => absurd e0 g⟩, fun t _ _ => ⟨fun q hq => absurd hq (Nat.not_lt_zero _), hb _ _ _⟩, ⟨⟨rfl, fun t _ _ => rfl, fun t _ h => absurd h (Nat.not_lt_zero _), fun h => absurd h (Nat.lt_irrefl _)⟩, Nat.le_refl _, ⟨0, rfl⟩, Nat.zero_le _, fun h => absurd h (Nat.lt_irrefl _), Or.inl rfl⟩, ⟨by rw [smN_00]; exact Nat.le_refl _, Nat.le_refl _, Nat.le_refl _⟩, ⟨Nat.zero_le _, Nat.le_refl _, Nat.zero_le _, Or.inl rfl, fun j hj => absurd hj (Nat.not_lt_zero _)⟩⟩
theorem lw_e0 {A : Array Value} {s : State} {t : Term} {e0 : Nat} {cell0 : Cell} (hl : (Cond.eq (.length t) (.int 0)).before A s = true) (ha : (Cond.arrayOf t (.object "java/lang/Object")).before A s = true) (ht : t.eval A s none [] s = some (.ref e0)) (hc : s.arrayAt? e0 = some cell0) : zE0 e0 (fun q : Nat => s.heap.size ≤ q) s s.heap := by
  have hv := va_eqt hl
  have hcb := (State.arrayAt?_spec hc).1
  have h31 : cell0.slots.size < 2147483648 ∧ cell0.slots.size.toInt32 = 0 := by
    simp only [Term.eval, ht, hc, Option.bind_eq_bind, Option.bind_some] at hv
    by_cases hlt : cell0.slots.size < 2147483648
    · rw [if_pos hlt] at hv
      have h1 := Option.some.inj hv
      injection h1 with h2
      exact ⟨hlt, h2⟩
    · rw [if_neg hlt] at hv
      cases hv
  have e : (nI cell0.slots.size).toInt = ((cell0.slots.size : Nat) : Int) := nI_toInt h31.1
  have e2 : nI cell0.slots.size = 0 := h31.2
  rw [e2] at e
  have e3 : (0 : Int32).toInt = 0 := by decide
  exact ⟨cell0, hcb, by omega, (Cond.arrayOf_spec ha ht hcb).1, fun h => absurd (Array.getElem?_eq_some_iff.mp hcb).1 (Nat.not_lt.mpr h)⟩
section
variable {ft L : Nat} {kd st tn : Nat → Int32}
theorem rnP_e : ∀ (j : Nat) (mn cx cy mn1 cx1 cy1 : Nat → Int32), rnP ft st tn kd L j mn cx cy 0 mn1 cx1 cy1 → mn1 = mn ∧ cx1 = cx ∧ cy1 = cy := by
  intro j
  induction j with
  | zero => intro mn cx cy mn1 cx1 cy1 h; exact h.2
  | succ j ih =>
    intro mn cx cy mn1 cx1 cy1 hr
    obtain ⟨m, mn2, cx2, cy2, t2, r1, r2, r3⟩ := hr
    have em : m = 0 := by omega
    have et : t2 = 0 := by omega
    subst em et
    have e : mn2 = mn ∧ cx2 = cx ∧ cy2 = cy := by
      by_cases b : lvF ft st tn (ft - (j + 1)) ∧ ¬ (kd (ft - (j + 1))).toInt = 0 ∧ ¬ (kd (ft - (j + 1))).toInt = 6
      · obtain ⟨n1, hp⟩ := r1.1 b
        have z := plN_z rfl hp
        exact ⟨z.1, z.2.1, z.2.2.1⟩
      · exact (r1.2 b).2
    have i := ih _ _ _ _ _ _ r2
    exact ⟨i.1.trans e.1, i.2.1.trans e.2.1, i.2.2.trans e.2.2⟩
theorem rnA_e {p : Nat} {mn cx cy mn1 cx1 cy1 : Nat → Int32} (h : rnA ft st tn kd L p mn cx cy 0 mn1 cx1 cy1) : mn1 = mn ∧ cx1 = cx ∧ cy1 = cy := by
  cases p with
  | zero => exact absurd h (fun g => g)
  | succ p =>
    obtain ⟨t2, mn2, cx2, cy2, h1, h2⟩ := h
    rcases h2 with ⟨e, _, e1, e2, e3⟩ | ⟨g, t3, _, e⟩
    · rw [e] at h1
      have i := rnP_e _ _ _ _ _ _ _ h1
      exact ⟨e1.trans i.1, e2.trans i.2.1, e3.trans i.2.2⟩
    · omega
end
