/-! the reference's kept sheets: how the array grows, where a feature's numbers lie, what they are -/
def dc (c w : Nat) : Nat := if w = 4096 * c then 2 * c else c
def pw (c d : Nat) : Prop := ∃ k : Nat, d = c * 2 ^ k
theorem pw_rf (c : Nat) : pw c c := ⟨0, by simp⟩
theorem pw_le {c d : Nat} (h : pw c d) : c ≤ d := by
  obtain ⟨k, rfl⟩ := h
  exact Nat.le_mul_of_pos_right c (Nat.two_pow_pos k)
theorem pw_half {c d : Nat} (h : pw c d) (hc : c < d) : pw (2 * c) d ∧ 2 * c ≤ d := by
  obtain ⟨k, rfl⟩ := h
  cases k with
  | zero => simp at hc
  | succ k =>
    have e : pw (2 * c) (c * 2 ^ (k + 1)) := ⟨k, by rw [Nat.pow_succ]; simp only [Nat.mul_comm, Nat.mul_left_comm, Nat.mul_assoc]⟩
    exact ⟨e, pw_le e⟩
theorem dc_pw {c d w : Nat} (h : pw c d) (hw : w < 4096 * d) : pw (dc c w) d ∧ c ≤ dc c w ∧ dc c w ≤ d ∧ (w ≤ 4096 * c → w < 4096 * dc c w ∨ c = 0) := by
  unfold dc
  by_cases q : w = 4096 * c
  · rw [if_pos q]
    have h2 := pw_half h (by omega)
    exact ⟨h2.1, by omega, h2.2, fun _ => by omega⟩
  · rw [if_neg q]
    exact ⟨h, Nat.le_refl _, pw_le h, fun _ => Or.inl (by omega)⟩
theorem pw_end {c d e : Nat} (h : pw c d) (hc : e ≤ 4096 * c) (hm : 2048 * d < e) : c = d := by
  have h1 := pw_le h
  by_cases q : c < d
  · have := (pw_half h q).2; omega
  · omega
theorem pw_tr {a b c : Nat} (h : pw a b) (h2 : pw b c) : pw a c := by
  obtain ⟨k, rfl⟩ := h; obtain ⟨j, rfl⟩ := h2
  exact ⟨k + j, by rw [Nat.pow_add, Nat.mul_assoc]⟩
theorem pw_ex (e : Nat) : ∀ (n c : Nat), 1 ≤ c → e ≤ 4096 * c + n → ∃ d, pw c d ∧ e ≤ 4096 * d ∧ (d = c ∨ 2048 * d < e) := by
  intro n
  induction n using Nat.strongRecOn with
  | ind n ih =>
    intro c hc hn
    by_cases q : e ≤ 4096 * c
    · exact ⟨c, pw_rf c, q, Or.inl rfl⟩
    · obtain ⟨d, h1, h2, h3⟩ := ih (n - 4096 * c) (by omega) (2 * c) (by omega) (by omega)
      refine ⟨d, pw_tr ⟨1, by omega⟩ h1, h2, ?_⟩
      rcases h3 with h3 | h3
      · exact Or.inr (by omega)
      · exact Or.inr h3
/-- how many corners of a feature are kept -/
def nnF (st tn mn : Nat → Int32) (f : Nat) : Nat := if (tn f).toInt = 0 ∧ ¬ (st f).toInt = 0 then nN (mn f) else 0
def psN (nn : Nat → Nat) (w0 : Nat) : Nat → Nat
  | 0 => w0 + 1
  | f + 1 => psN nn w0 f + (10 + 2 * nn f)
theorem psN_mono (nn : Nat → Nat) (w0 : Nat) {f g : Nat} (h : f < g) : psN nn w0 f + (10 + 2 * nn f) ≤ psN nn w0 g := by
  induction g with
  | zero => omega
  | succ g ih =>
    rcases Nat.lt_or_ge f g with q | q
    · have := ih q; show _ ≤ psN nn w0 g + (10 + 2 * nn g); omega
    · rw [show f = g by omega]; exact Nat.le_refl _
theorem psN_ge (nn : Nat → Nat) (w0 g : Nat) : w0 + 1 ≤ psN nn w0 g := by
  induction g with
  | zero => exact Nat.le_refl _
  | succ g ih => show _ ≤ psN nn w0 g + (10 + 2 * nn g); omega
def shD (kd st gb it pa pb rk wd tw : Nat → Int32) (nn : Nat → Nat) (cx cy : Nat → Int32) (f j : Nat) : Int32 :=
  match j with
  | 0 => kd f | 1 => st f | 2 => gb f | 3 => it f | 4 => pa f | 5 => pb f | 6 => rk f | 7 => wd f | 8 => tw f | 9 => nI (nn f)
  | j + 10 => if j % 2 = 0 then cx (40 * f + j / 2) else cy (40 * f + j / 2)
theorem wr_s {p i w : Nat} {sh sh1 D : Nat → Int32} (h : ∀ j, j < i → sh (p + j) = D j) (hw : w = p + i) (h1 : sh1 w = D i) (h2 : ∀ j, j < w → sh1 j = sh j) : ∀ j, j < i + 1 → sh1 (p + j) = D j := by
  intro j hj
  rcases Nat.lt_or_ge j i with q | q
  · rw [h2 _ (by omega)]; exact h j q
  · rw [show j = i by omega, ← hw]; exact h1
theorem wr_o {w : Nat} {sh sh1 : Nat → Int32} {nn : Nat → Nat} {w0 f : Nat} {D : Nat → Nat → Int32} (h : ∀ g, g < f → ∀ j, j < 10 + 2 * nn g → sh (psN nn w0 g + j) = D g j) (hw : psN nn w0 f ≤ w) (h2 : ∀ j, j < w → sh1 j = sh j) : ∀ g, g < f → ∀ j, j < 10 + 2 * nn g → sh1 (psN nn w0 g + j) = D g j := by
  intro g hg j hj
  have := psN_mono nn w0 hg
  rw [h2 _ (by omega)]; exact h g hg j hj
theorem wr_n {sh : Nat → Int32} {nn : Nat → Nat} {w0 f : Nat} {D : Nat → Nat → Int32} (h : ∀ g, g < f → ∀ j, j < 10 + 2 * nn g → sh (psN nn w0 g + j) = D g j) (h1 : ∀ j, j < 10 + 2 * nn f → sh (psN nn w0 f + j) = D f j) : ∀ g, g < f + 1 → ∀ j, j < 10 + 2 * nn g → sh (psN nn w0 g + j) = D g j := by
  intro g hg j hj
  rcases Nat.lt_or_ge g f with q | q
  · exact h g q j hj
  · obtain rfl : g = f := by omega
    exact h1 j hj
theorem up_lo {c c1 : Nat → Int32} {k n : Nat} {x : Int32} (h : ∀ j, j < n → c1 j = c j) (hk : n ≤ k) : ∀ j, j < n → upd c1 k x j = c j := by
  intro j hj; unfold upd; rw [if_neg (by omega)]; exact h j hj
theorem up_sn {c c1 : Nat → Int32} {n : Nat} {x : Int32} (h : ∀ j, j < n → c1 j = c j) (hx : x = c n) : ∀ j, j < n + 1 → upd c1 n x j = c j := by
  intro j hj; unfold upd
  by_cases q : j = n
  · rw [if_pos q, q, hx]
  · rw [if_neg q]; exact h j (by omega)
theorem up_at (c : Nat → Int32) (k : Nat) (x : Int32) : upd c k x k = x := by unfold upd; rw [if_pos rfl]
/-- while a sheet is written: q features are through, and i numbers of the next -/
def KI (c cE w0 : Nat) (v0 : Int32) (nn : Nat → Nat) (D : Nat → Nat → Int32) (shO : Nat → Int32) (q i : Nat) (sh : Nat → Int32) (c1 w : Nat) : Prop :=
  (pw c1 cE ∧ c ≤ c1 ∧ c1 ≤ cE ∧ w ≤ 4096 * c1 ∧ w = psN nn w0 q + i) ∧ sh w0 = v0 ∧ (∀ j, j < w0 → sh j = shO j) ∧ (∀ g, g < q → ∀ j, j < 10 + 2 * nn g → sh (psN nn w0 g + j) = D g j) ∧ (∀ j, j < i → sh (psN nn w0 q + j) = D q j) ∧ (∀ j, w ≤ j → j < 4096 * c → sh j = shO j)
theorem KI_0 {c cE w0 : Nat} {v0 : Int32} {nn : Nat → Nat} {D : Nat → Nat → Int32} {shO sh1 : Nat → Int32} {c1 : Nat} (hc : 1 ≤ c) (hp : pw c cE) (hw : w0 ≤ 4096 * c) (hE : w0 < 4096 * cE) (h1 : sh1 w0 = v0) (h2 : ∀ j, j < w0 → sh1 j = shO j) (h3 : ∀ j, j ≠ w0 → j < 4096 * c → sh1 j = shO j) (hd : c1 = dc c w0) : KI c cE w0 v0 nn D shO 0 0 sh1 c1 (w0 + 1) := by
  have h := dc_pw hp hE
  rw [← hd] at h
  refine ⟨⟨h.1, h.2.1, h.2.2.1, ?_, rfl⟩, h1, h2, fun g hg => by omega, fun j hj => by omega, fun j hj hc => h3 j (by omega) hc⟩
  have := h.2.2.2 hw; omega
theorem KI_s {c cE w0 : Nat} {v0 : Int32} {nn : Nat → Nat} {D : Nat → Nat → Int32} {shO sh sh1 : Nat → Int32} {q i c1 c2 w : Nat} (hc : 1 ≤ c) (h : KI c cE w0 v0 nn D shO q i sh c1 w) (hE : w < 4096 * cE) (h1 : sh1 w = D q i) (h2 : ∀ j, j < w → sh1 j = sh j) (h3 : ∀ j, j ≠ w → j < 4096 * c1 → sh1 j = sh j) (hd : c2 = dc c1 w) : KI c cE w0 v0 nn D shO q (i + 1) sh1 c2 (w + 1) := by
  obtain ⟨⟨a1, a2, a3, a4, a5⟩, a6, a7, a8, a9, a10⟩ := h
  have hh := dc_pw a1 hE
  rw [← hd] at hh
  have hg := psN_ge nn w0 q
  refine ⟨⟨hh.1, by omega, hh.2.2.1, ?_, by omega⟩, by rw [h2 _ (by omega)]; exact a6, fun j hj => by rw [h2 _ (by omega)]; exact a7 j hj, wr_o a8 (by omega) h2, wr_s a9 a5 h1 h2, fun j hj hc => by rw [h3 j (by omega) (by omega)]; exact a10 j (by omega) hc⟩
  have := hh.2.2.2 a4; omega
theorem KI_n {c cE w0 : Nat} {v0 : Int32} {nn : Nat → Nat} {D : Nat → Nat → Int32} {shO sh : Nat → Int32} {q c1 w i : Nat} (h : KI c cE w0 v0 nn D shO q i sh c1 w) (hi : i = 10 + 2 * nn q) : KI c cE w0 v0 nn D shO (q + 1) 0 sh c1 w := by
  obtain ⟨⟨a1, a2, a3, a4, a5⟩, a6, a7, a8, a9, a10⟩ := h
  subst hi
  exact ⟨⟨a1, a2, a3, a4, a5⟩, a6, a7, wr_n a8 a9, fun j hj => by omega, a10⟩
theorem shD_x {kd st gb it pa pb rk wd tw : Nat → Int32} {nn : Nat → Nat} {cx cy : Nat → Int32} {f k j : Nat} (h : j = 10 + 2 * k) : shD kd st gb it pa pb rk wd tw nn cx cy f j = cx (40 * f + k) := by
  rw [show j = 2 * k + 10 by omega]
  show (if (2 * k) % 2 = 0 then cx (40 * f + 2 * k / 2) else cy (40 * f + 2 * k / 2)) = _
  rw [if_pos (by omega), show 2 * k / 2 = k by omega]
theorem shD_y {kd st gb it pa pb rk wd tw : Nat → Int32} {nn : Nat → Nat} {cx cy : Nat → Int32} {f k j : Nat} (h : j = 11 + 2 * k) : shD kd st gb it pa pb rk wd tw nn cx cy f j = cy (40 * f + k) := by
  rw [show j = (2 * k + 1) + 10 by omega]
  show (if (2 * k + 1) % 2 = 0 then cx (40 * f + (2 * k + 1) / 2) else cy (40 * f + (2 * k + 1) / 2)) = _
  rw [if_neg (by omega), show (2 * k + 1) / 2 = k by omega]
theorem up_ne {c c1 : Nat → Int32} {k m : Nat} {x : Int32} (h : ∀ j, j < m → c1 j = c j) : ∀ j, j ≠ k → j < m → upd c1 k x j = c j := by
  intro j hj hm; unfold upd; rw [if_neg hj]; exact h j hm
