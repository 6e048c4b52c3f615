/-! what holds of all that are there -/
def okA (ft : Nat) (st tn kd mn cx cy : Nat → Int32) : Prop := ∀ q, lvF ft st tn q → wfM mn cx cy q ∧ mSm (kd q).toInt (nN (mn q)) (cF40 cx q) (cF40 cy q)
section
variable {ft : Nat} {st tn kd mn cx cy mn1 cx1 cy1 : Nat → Int32}
theorem okA_wf (h : okA ft st tn kd mn cx cy) : ∀ q, lvF ft st tn q → wfM mn cx cy q := fun q hq => (h q hq).1
theorem okA_kn (h : okA ft st tn kd mn cx cy) : okN ft st tn kd mn := fun q hq => by
  have hs := (h q hq).2
  by_cases e : (kd q).toInt = 0
  · exact Or.inl ⟨e, hs.1 e⟩
  · refine Or.inr ⟨e, ?_⟩
    have := (hs.2 e).1
    unfold mnc at this
    split at this <;> omega
theorem okA_al (h : okA ft st tn kd mn cx cy) : allI ft st tn kd mn cx cy := fun q hq => ⟨(h q hq).1, fun g => by
  have := ((h q hq).2.2 (by omega)).1
  unfold mnc at this
  rw [if_pos g] at this; exact this⟩
theorem okA_th {f : Nat} (h : okA ft st tn kd mn cx cy) (hf : lvF ft st tn f) (hb : 1 ≤ (kd f).toInt ∧ (kd f).toInt ≤ 5) : thI ft st tn kd f mn cx cy (nN (mn f)) := by
  have hk := okA_kn h f hf
  refine ⟨allI_p (okA_al h) hf, (h f hf).2, okA_kn h, hb, by omega, (okA_al h f hf).2, hf⟩
theorem thI_e {f L : Nat} : ∀ (m n : Nat) (mn cx cy mn1 cx1 cy1 : Nat → Int32) (n1 : Nat), thI ft st tn kd f mn cx cy n → plN ft st tn kd f L m mn cx cy n mn1 cx1 cy1 n1 → thI ft st tn kd f mn1 cx1 cy1 n1 := by
  intro m
  induction m with
  | zero =>
    intro n mn cx cy mn1 cx1 cy1 n1 h hp
    obtain ⟨e1, e2, e3, e4, _⟩ := plN_z rfl hp
    rw [e1, e2, e3, e4]; exact h
  | succ m ih =>
    intro n mn cx cy mn1 cx1 cy1 n1 h hp
    obtain ⟨r, k, e, hb, hr⟩ := plN_p (by omega) hp
    have e : r = m := by omega
    subst e
    exact ih _ _ _ _ _ _ _ _ (thI_s h hb) hr
theorem okA_s {f L m n1 : Nat} (h : okA ft st tn kd mn cx cy) (hf : lvF ft st tn f) (hb : 1 ≤ (kd f).toInt ∧ (kd f).toInt ≤ 5) (hp : plN ft st tn kd f L m mn cx cy (nN (mn f)) mn1 cx1 cy1 n1) : okA ft st tn kd mn1 cx1 cy1 := by
  have hI := okA_th h hf hb
  have hE := thI_e _ _ _ _ _ _ _ _ _ hI hp
  have h2 := plN_end _ _ _ _ _ _ _ _ _ hI.1 hp
  intro q hq
  refine ⟨h2.1.2.2.2.1 q hq, ?_⟩
  by_cases e : q = f
  · subst e
    rw [h2.1.1, nN_n9 (by have := h2.1.2.1; omega)]; exact hE.2.1
  · rw [h2.2.2.1 q e]
    exact mSm_cg (fun j hj => by
      have w := (h q hq).1.2.1
      have := h2.2.2.2.1 (40 * q + j) (by omega)
      exact ⟨this.1.symm, this.2.symm⟩) (h q hq).2
end
/-! RUN by the class: what is counted -/
def cmd (md : Nat → Nat) : Nat → Nat
  | 0 => 0
  | k + 1 => cmd md k + (if md k = 0 then 0 else 1)
def smd (md n0 : Nat → Nat) : Nat → Nat
  | 0 => 0
  | k + 1 => smd md n0 k + (if md k = 0 then 0 else 2 * n0 k + 10)
theorem cmd_le (md : Nat → Nat) : ∀ k, cmd md k ≤ k := by
  intro k
  induction k with
  | zero => exact Nat.le_refl _
  | succ k ih => show cmd md k + (if md k = 0 then 0 else 1) ≤ k + 1; split <;> omega
theorem smd_le (md n0 : Nat → Nat) : ∀ k, smd md n0 k ≤ smd (fun _ => 1) n0 k := by
  intro k
  induction k with
  | zero => exact Nat.le_refl _
  | succ k ih => show smd md n0 k + (if md k = 0 then 0 else 2 * n0 k + 10) ≤ smd (fun _ => 1) n0 k + (2 * n0 k + 10); split <;> omega
theorem cmd_o {md : Nat → Nat} {q v : Nat} : ∀ k, k ≤ q → cmd (upN md q v) k = cmd md k := by
  intro k
  induction k with
  | zero => intro _; rfl
  | succ k ih => intro h; show cmd (upN md q v) k + (if upN md q v k = 0 then 0 else 1) = _; rw [ih (by omega), upN_o (by omega)]; rfl
theorem smd_o {md n0 : Nat → Nat} {q v : Nat} : ∀ k, k ≤ q → smd (upN md q v) n0 k = smd md n0 k := by
  intro k
  induction k with
  | zero => intro _; rfl
  | succ k ih => intro h; show smd (upN md q v) n0 k + (if upN md q v k = 0 then 0 else 2 * n0 k + 10) = _; rw [ih (by omega), upN_o (by omega)]; rfl
theorem cmd_s {md : Nat → Nat} {q : Nat} : ∀ k, q < k → cmd (upN md q 1) k = cmd md k + (if md q = 0 then 1 else 0) := by
  intro k
  induction k with
  | zero => intro h; omega
  | succ k ih =>
    intro h
    show cmd (upN md q 1) k + (if upN md q 1 k = 0 then 0 else 1) = cmd md k + (if md k = 0 then 0 else 1) + _
    by_cases e : k = q
    · subst e; rw [cmd_o k (Nat.le_refl _), upN_at, if_neg (by decide)]; split <;> omega
    · rw [ih (by omega), upN_o e]; omega
theorem smd_s {md n0 : Nat → Nat} {q : Nat} : ∀ k, q < k → smd (upN md q 1) n0 k = smd md n0 k + (if md q = 0 then 2 * n0 q + 10 else 0) := by
  intro k
  induction k with
  | zero => intro h; omega
  | succ k ih =>
    intro h
    show smd (upN md q 1) n0 k + (if upN md q 1 k = 0 then 0 else 2 * n0 k + 10) = smd md n0 k + (if md k = 0 then 0 else 2 * n0 k + 10) + _
    by_cases e : k = q
    · subst e; rw [smd_o k (Nat.le_refl _), upN_at, if_neg (by decide)]; split <;> omega
    · rw [ih (by omega), upN_o e]; omega
theorem run_c {cI : ClassId} {L : List Nat} {f : Nat → va_E} {FA : Nat → Option Nat} {kd st tn mn cx cy : Nat → Int32} {ft i : Nat} (h : ∀ q, q < ft → vwO cI L f FA kd st tn mn cx cy q) (hi : i < ft) :
    (¬ (tn i).toInt = 0 ∧ vwT L f FA kd st i) ∨ ((tn i).toInt = 0 ∧ ¬ ((st i).toInt = 1 ∧ (1 ≤ (kd i).toInt ∧ (kd i).toInt ≤ 5)) ∧ vwL cI L f FA kd st mn cx cy i) ∨ (lvF ft st tn i ∧ (1 ≤ (kd i).toInt ∧ (kd i).toInt ≤ 5)) := by
  by_cases t0 : (tn i).toInt = 0
  · by_cases s1 : (st i).toInt = 1 ∧ (1 ≤ (kd i).toInt ∧ (kd i).toInt ≤ 5)
    · exact Or.inr (Or.inr ⟨⟨hi, s1.1, t0⟩, s1.2⟩)
    · exact Or.inr (Or.inl ⟨t0, s1, (h i hi).2.2 t0⟩)
  · exact Or.inl ⟨t0, (h i hi).2.1 t0⟩
theorem run_c6 {cI : ClassId} {L : List Nat} {f : Nat → va_E} {FA : Nat → Option Nat} {kd st tn mn cx cy : Nat → Int32} {ft i m : Nat} {md : Nat → Nat} (h : ∀ q, q < ft → vwO cI L f FA kd st tn mn cx cy q) (hi : i < ft) (hm : md i ≤ 1) :
    (¬ (tn i).toInt = 0 ∧ vwT L f FA kd st i) ∨ ((tn i).toInt = 0 ∧ ¬ ((st i).toInt = 1 ∧ (1 ≤ (kd i).toInt ∧ (kd i).toInt ≤ 5)) ∧ vwL cI L f FA kd st mn cx cy i) ∨ ((lvF ft st tn i ∧ (1 ≤ (kd i).toInt ∧ (kd i).toInt ≤ 5)) ∧ m = 0 ∧ md i = 0) ∨ ((lvF ft st tn i ∧ (1 ≤ (kd i).toInt ∧ (kd i).toInt ≤ 5)) ∧ m = 0 ∧ md i = 1) ∨ ((lvF ft st tn i ∧ (1 ≤ (kd i).toInt ∧ (kd i).toInt ≤ 5)) ∧ 1 ≤ m ∧ md i = 0) ∨ ((lvF ft st tn i ∧ (1 ≤ (kd i).toInt ∧ (kd i).toInt ≤ 5)) ∧ 1 ≤ m ∧ md i = 1) := by
  rcases run_c h hi with g | g | g
  · exact Or.inl g
  · exact Or.inr (Or.inl g)
  · by_cases e : m = 0
    · by_cases e2 : md i = 0
      · exact Or.inr (Or.inr (Or.inl ⟨g, e, e2⟩))
      · exact Or.inr (Or.inr (Or.inr (Or.inl ⟨g, e, by omega⟩)))
    · by_cases e2 : md i = 0
      · exact Or.inr (Or.inr (Or.inr (Or.inr (Or.inl ⟨g, by omega, e2⟩))))
      · exact Or.inr (Or.inr (Or.inr (Or.inr (Or.inr ⟨g, by omega, by omega⟩))))
