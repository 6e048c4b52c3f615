section
/-! the reference's kept sheets: how the array grows, where a feature's numbers lie, what they are -/
def dc (c w : Nat) : Nat := if w = 4096 * c then 2 * c else c
def pw (c d : Nat) : Prop := ∃ k : Nat, d = c * 2 ^ k
theorem pw_rf (c : Nat) : pw c c := ⟨0, by simp⟩
theorem pw_le {c d : Nat} (h : pw c d) : c ≤ d := by
  obtain ⟨k, rfl⟩ := h
  exact Nat.le_mul_of_pos_right c (Nat.two_pow_pos k)
theorem pw_half {c d : Nat} (h : pw c d) (hc : c < d) : pw (2 * c) d ∧ 2 * c ≤ d := by
  obtain ⟨k, rfl⟩ := h
  cases k with
  | zero => simp at hc
  | succ k =>
    have e : pw (2 * c) (c * 2 ^ (k + 1)) := ⟨k, by rw [Nat.pow_succ]; simp only [Nat.mul_comm, Nat.mul_left_comm, Nat.mul_assoc]⟩
    exact ⟨e, pw_le e⟩
theorem dc_pw {c d w : Nat} (h : pw c d) (hw : w < 4096 * d) : pw (dc c w) d ∧ c ≤ dc c w ∧ dc c w ≤ d ∧ (w ≤ 4096 * c → w < 4096 * dc c w ∨ c = 0) := by
  unfold dc
  by_cases q : w = 4096 * c
  · rw [if_pos q]
    have h2 := pw_half h (by omega)
    exact ⟨h2.1, by omega, h2.2, fun _ => by omega⟩
  · rw [if_neg q]
    exact ⟨h, Nat.le_refl _, pw_le h, fun _ => Or.inl (by omega)⟩
theorem pw_end {c d e : Nat} (h : pw c d) (hc : e ≤ 4096 * c) (hm : 2048 * d < e) : c = d := by
  have h1 := pw_le h
  by_cases q : c < d
  · have := (pw_half h q).2; omega
  · omega
theorem pw_tr {a b c : Nat} (h : pw a b) (h2 : pw b c) : pw a c := by
  obtain ⟨k, rfl⟩ := h; obtain ⟨j, rfl⟩ := h2
  exact ⟨k + j, by rw [Nat.pow_add, Nat.mul_assoc]⟩
theorem pw_ex (e : Nat) : ∀ (n c : Nat), 1 ≤ c → e ≤ 4096 * c + n → ∃ d, pw c d ∧ e ≤ 4096 * d ∧ (d = c ∨ 2048 * d < e) := by
  intro n
  induction n using Nat.strongRecOn with
  | ind n ih =>
    intro c hc hn
    by_cases q : e ≤ 4096 * c
    · exact ⟨c, pw_rf c, q, Or.inl rfl⟩
    · obtain ⟨d, h1, h2, h3⟩ := ih (n - 4096 * c) (by omega) (2 * c) (by omega) (by omega)
      refine ⟨d, pw_tr ⟨1, by omega⟩ h1, h2, ?_⟩
      rcases h3 with h3 | h3
      · exact Or.inr (by omega)
      · exact Or.inr h3
/-- how many corners of a feature are kept -/
def nnF (st tn mn : Nat → Int32) (f : Nat) : Nat := if (tn f).toInt = 0 ∧ ¬ (st f).toInt = 0 then nN (mn f) else 0
def psN (nn : Nat → Nat) (w0 : Nat) : Nat → Nat
  | 0 => w0 + 1
  | f + 1 => psN nn w0 f + (10 + 2 * nn f)
theorem psN_mono (nn : Nat → Nat) (w0 : Nat) {f g : Nat} (h : f < g) : psN nn w0 f + (10 + 2 * nn f) ≤ psN nn w0 g := by
  induction g with
  | zero => omega
  | succ g ih =>
    rcases Nat.lt_or_ge f g with q | q
    · have := ih q; show _ ≤ psN nn w0 g + (10 + 2 * nn g); omega
    · rw [show f = g by omega]; exact Nat.le_refl _
theorem psN_ge (nn : Nat → Nat) (w0 g : Nat) : w0 + 1 ≤ psN nn w0 g := by
  induction g with
  | zero => exact Nat.le_refl _
  | succ g ih => show _ ≤ psN nn w0 g + (10 + 2 * nn g); omega
def shD (kd st gb it pa pb rk wd tw : Nat → Int32) (nn : Nat → Nat) (cx cy : Nat → Int32) (f j : Nat) : Int32 :=
  match j with
  | 0 => kd f | 1 => st f | 2 => gb f | 3 => it f | 4 => pa f | 5 => pb f | 6 => rk f | 7 => wd f | 8 => tw f | 9 => nI (nn f)
  | j + 10 => if j % 2 = 0 then cx (40 * f + j / 2) else cy (40 * f + j / 2)
theorem wr_s {p i w : Nat} {sh sh1 D : Nat → Int32} (h : ∀ j, j < i → sh (p + j) = D j) (hw : w = p + i) (h1 : sh1 w = D i) (h2 : ∀ j, j < w → sh1 j = sh j) : ∀ j, j < i + 1 → sh1 (p + j) = D j := by
  intro j hj
  rcases Nat.lt_or_ge j i with q | q
  · rw [h2 _ (by omega)]; exact h j q
  · rw [show j = i by omega, ← hw]; exact h1
theorem wr_o {w : Nat} {sh sh1 : Nat → Int32} {nn : Nat → Nat} {w0 f : Nat} {D : Nat → Nat → Int32} (h : ∀ g, g < f → ∀ j, j < 10 + 2 * nn g → sh (psN nn w0 g + j) = D g j) (hw : psN nn w0 f ≤ w) (h2 : ∀ j, j < w → sh1 j = sh j) : ∀ g, g < f → ∀ j, j < 10 + 2 * nn g → sh1 (psN nn w0 g + j) = D g j := by
  intro g hg j hj
  have := psN_mono nn w0 hg
  rw [h2 _ (by omega)]; exact h g hg j hj
theorem wr_n {sh : Nat → Int32} {nn : Nat → Nat} {w0 f : Nat} {D : Nat → Nat → Int32} (h : ∀ g, g < f → ∀ j, j < 10 + 2 * nn g → sh (psN nn w0 g + j) = D g j) (h1 : ∀ j, j < 10 + 2 * nn f → sh (psN nn w0 f + j) = D f j) : ∀ g, g < f + 1 → ∀ j, j < 10 + 2 * nn g → sh (psN nn w0 g + j) = D g j := by
  intro g hg j hj
  rcases Nat.lt_or_ge g f with q | q
  · exact h g q j hj
  · obtain rfl : g = f := by omega
    exact h1 j hj
theorem up_lo {c c1 : Nat → Int32} {k n : Nat} {x : Int32} (h : ∀ j, j < n → c1 j = c j) (hk : n ≤ k) : ∀ j, j < n → upd c1 k x j = c j := by
  intro j hj; unfold upd; rw [if_neg (by omega)]; exact h j hj
theorem up_sn {c c1 : Nat → Int32} {n : Nat} {x : Int32} (h : ∀ j, j < n → c1 j = c j) (hx : x = c n) : ∀ j, j < n + 1 → upd c1 n x j = c j := by
  intro j hj; unfold upd
  by_cases q : j = n
  · rw [if_pos q, q, hx]
  · rw [if_neg q]; exact h j (by omega)
theorem up_at (c : Nat → Int32) (k : Nat) (x : Int32) : upd c k x k = x := by unfold upd; rw [if_pos rfl]
/-- while a sheet is written: q features are through, and i numbers of the next -/
def KI (c cE w0 : Nat) (v0 : Int32) (nn : Nat → Nat) (D : Nat → Nat → Int32) (shO : Nat → Int32) (q i : Nat) (sh : Nat → Int32) (c1 w : Nat) : Prop :=
  (pw c1 cE ∧ c ≤ c1 ∧ c1 ≤ cE ∧ w ≤ 4096 * c1 ∧ w = psN nn w0 q + i) ∧ sh w0 = v0 ∧ (∀ j, j < w0 → sh j = shO j) ∧ (∀ g, g < q → ∀ j, j < 10 + 2 * nn g → sh (psN nn w0 g + j) = D g j) ∧ (∀ j, j < i → sh (psN nn w0 q + j) = D q j) ∧ (∀ j, w ≤ j → j < 4096 * c → sh j = shO j)
theorem KI_0 {c cE w0 : Nat} {v0 : Int32} {nn : Nat → Nat} {D : Nat → Nat → Int32} {shO sh1 : Nat → Int32} {c1 : Nat} (hc : 1 ≤ c) (hp : pw c cE) (hw : w0 ≤ 4096 * c) (hE : w0 < 4096 * cE) (h1 : sh1 w0 = v0) (h2 : ∀ j, j < w0 → sh1 j = shO j) (h3 : ∀ j, j ≠ w0 → j < 4096 * c → sh1 j = shO j) (hd : c1 = dc c w0) : KI c cE w0 v0 nn D shO 0 0 sh1 c1 (w0 + 1) := by
  have h := dc_pw hp hE
  rw [← hd] at h
  refine ⟨⟨h.1, h.2.1, h.2.2.1, ?_, rfl⟩, h1, h2, fun g hg => by omega, fun j hj => by omega, fun j hj hc => h3 j (by omega) hc⟩
  have := h.2.2.2 hw; omega
theorem KI_s {c cE w0 : Nat} {v0 : Int32} {nn : Nat → Nat} {D : Nat → Nat → Int32} {shO sh sh1 : Nat → Int32} {q i c1 c2 w : Nat} (hc : 1 ≤ c) (h : KI c cE w0 v0 nn D shO q i sh c1 w) (hE : w < 4096 * cE) (h1 : sh1 w = D q i) (h2 : ∀ j, j < w → sh1 j = sh j) (h3 : ∀ j, j ≠ w → j < 4096 * c1 → sh1 j = sh j) (hd : c2 = dc c1 w) : KI c cE w0 v0 nn D shO q (i + 1) sh1 c2 (w + 1) := by
  obtain ⟨⟨a1, a2, a3, a4, a5⟩, a6, a7, a8, a9, a10⟩ := h
  have hh := dc_pw a1 hE
  rw [← hd] at hh
  have hg := psN_ge nn w0 q
  refine ⟨⟨hh.1, by omega, hh.2.2.1, ?_, by omega⟩, by rw [h2 _ (by omega)]; exact a6, fun j hj => by rw [h2 _ (by omega)]; exact a7 j hj, wr_o a8 (by omega) h2, wr_s a9 a5 h1 h2, fun j hj hc => by rw [h3 j (by omega) (by omega)]; exact a10 j (by omega) hc⟩
  have := hh.2.2.2 a4; omega
theorem KI_n {c cE w0 : Nat} {v0 : Int32} {nn : Nat → Nat} {D : Nat → Nat → Int32} {shO sh : Nat → Int32} {q c1 w i : Nat} (h : KI c cE w0 v0 nn D shO q i sh c1 w) (hi : i = 10 + 2 * nn q) : KI c cE w0 v0 nn D shO (q + 1) 0 sh c1 w := by
  obtain ⟨⟨a1, a2, a3, a4, a5⟩, a6, a7, a8, a9, a10⟩ := h
  subst hi
  exact ⟨⟨a1, a2, a3, a4, a5⟩, a6, a7, wr_n a8 a9, fun j hj => by omega, a10⟩
theorem shD_x {kd st gb it pa pb rk wd tw : Nat → Int32} {nn : Nat → Nat} {cx cy : Nat → Int32} {f k j : Nat} (h : j = 10 + 2 * k) : shD kd st gb it pa pb rk wd tw nn cx cy f j = cx (40 * f + k) := by
  rw [show j = 2 * k + 10 by omega]
  show (if (2 * k) % 2 = 0 then cx (40 * f + 2 * k / 2) else cy (40 * f + 2 * k / 2)) = _
  rw [if_pos (by omega), show 2 * k / 2 = k by omega]
theorem shD_y {kd st gb it pa pb rk wd tw : Nat → Int32} {nn : Nat → Nat} {cx cy : Nat → Int32} {f k j : Nat} (h : j = 11 + 2 * k) : shD kd st gb it pa pb rk wd tw nn cx cy f j = cy (40 * f + k) := by
  rw [show j = (2 * k + 1) + 10 by omega]
  show (if (2 * k + 1) % 2 = 0 then cx (40 * f + (2 * k + 1) / 2) else cy (40 * f + (2 * k + 1) / 2)) = _
  rw [if_neg (by omega), show (2 * k + 1) / 2 = k by omega]
theorem up_ne {c c1 : Nat → Int32} {k m : Nat} {x : Int32} (h : ∀ j, j < m → c1 j = c j) : ∀ j, j ≠ k → j < m → upd c1 k x j = c j := by
  intro j hj hm; unfold upd; rw [if_neg hj]; exact h j hm
end
section
/-! a kept sheet taken back -/
def rsA (q : Nat) (d k : Nat → Int32) : Nat → Int32 := fun g => if g < q then d g else k g
theorem rsA_0 (d k : Nat → Int32) : k = rsA 0 d k := by funext g; unfold rsA; rw [if_neg (by omega)]
theorem rsA_s {q : Nat} {d k k1 : Nat → Int32} {x : Int32} (h : k1 = rsA q d k) (hx : x = d q) : upd k1 q x = rsA (q + 1) d k := by
  subst h hx; funext g; unfold upd rsA
  by_cases h : g = q
  · subst h; rw [if_pos rfl, if_pos (by omega)]
  · rw [if_neg h]
    by_cases h2 : g < q
    · rw [if_pos h2, if_pos (by omega)]
    · rw [if_neg h2, if_neg (by omega)]
def rsM (q : Nat) (D : Nat → Nat → Int32) (nn : Nat → Nat) (tn mn : Nat → Int32) : Nat → Int32 := fun g => if g < q ∧ ¬ (D g 1).toInt = 0 ∧ (tn g).toInt = 0 then nI (nn g) else mn g
theorem rsM_0 (D : Nat → Nat → Int32) (nn : Nat → Nat) (tn mn : Nat → Int32) : mn = rsM 0 D nn tn mn := by funext g; unfold rsM; rw [if_neg (by omega)]
theorem rsM_y {q : Nat} {D : Nat → Nat → Int32} {nn : Nat → Nat} {tn mn k1 : Nat → Int32} (h : k1 = rsM q D nn tn mn) (h1 : ¬ (D q 1).toInt = 0) (h2 : (tn q).toInt = 0) : upd k1 q (nI (nn q)) = rsM (q + 1) D nn tn mn := by
  subst h; funext g; unfold upd rsM
  by_cases h : g = q
  · subst h; rw [if_pos rfl, if_pos ⟨by omega, h1, h2⟩]
  · rw [if_neg h]
    by_cases h3 : g < q ∧ ¬ (D g 1).toInt = 0 ∧ (tn g).toInt = 0
    · rw [if_pos h3, if_pos ⟨by omega, h3.2⟩]
    · rw [if_neg h3, if_neg (fun h4 => h3 ⟨by omega, h4.2⟩)]
theorem rsM_n {q : Nat} {D : Nat → Nat → Int32} {nn : Nat → Nat} {tn mn k1 : Nat → Int32} (h : k1 = rsM q D nn tn mn) (h1 : (D q 1).toInt = 0 ∨ ¬ (tn q).toInt = 0) : k1 = rsM (q + 1) D nn tn mn := by
  subst h; funext g; unfold rsM
  by_cases h3 : g < q ∧ ¬ (D g 1).toInt = 0 ∧ (tn g).toInt = 0
  · rw [if_pos h3, if_pos ⟨by omega, h3.2⟩]
  · rw [if_neg h3, if_neg (fun h4 => by
      by_cases h5 : g = q
      · subst h5; exact h1.elim (fun h => h4.2.1 h) (fun h => h h4.2.2)
      · exact h3 ⟨by omega, h4.2⟩)]
def rsC (q k : Nat) (D : Nat → Nat → Int32) (nn : Nat → Nat) (o : Nat) (cx : Nat → Int32) : Nat → Int32 := fun j => if (j / 40 < q ∧ j % 40 < nn (j / 40)) ∨ (j / 40 = q ∧ j % 40 < k) then D (j / 40) (o + 2 * (j % 40)) else cx j
theorem rsC_0 (D : Nat → Nat → Int32) (nn : Nat → Nat) (o : Nat) (cx : Nat → Int32) : cx = rsC 0 0 D nn o cx := by funext j; unfold rsC; rw [if_neg (by omega)]
theorem rsC_s {q k o : Nat} {D : Nat → Nat → Int32} {nn : Nat → Nat} {cx c1 : Nat → Int32} {x : Int32} (h : c1 = rsC q k D nn o cx) (hk : k < 40) (hx : x = D q (o + 2 * k)) : upd c1 (40 * q + k) x = rsC q (k + 1) D nn o cx := by
  subst h hx; funext j; unfold upd rsC
  by_cases h : j = 40 * q + k
  · have e1 : j / 40 = q := by omega
    have e2 : j % 40 = k := by omega
    rw [if_pos h, if_pos (Or.inr ⟨e1, by omega⟩), e1, e2]
  · rw [if_neg h]
    by_cases h2 : (j / 40 < q ∧ j % 40 < nn (j / 40)) ∨ (j / 40 = q ∧ j % 40 < k)
    · rw [if_pos h2, if_pos (h2.elim Or.inl (fun h => Or.inr ⟨h.1, by omega⟩))]
    · rw [if_neg h2, if_neg (fun h3 => h2 (h3.elim Or.inl (fun h4 => Or.inr ⟨h4.1, by omega⟩)))]
theorem rsC_n {q k o : Nat} {D : Nat → Nat → Int32} {nn : Nat → Nat} {cx c1 : Nat → Int32} (h : c1 = rsC q k D nn o cx) (hk : k = nn q) : c1 = rsC (q + 1) 0 D nn o cx := by
  subst h hk; funext j; unfold rsC
  by_cases h2 : (j / 40 < q ∧ j % 40 < nn (j / 40)) ∨ (j / 40 = q ∧ j % 40 < nn q)
  · rw [if_pos h2, if_pos (Or.inl (h2.elim (fun h => ⟨by omega, h.2⟩) (fun h => ⟨by omega, by rw [h.1]; exact h.2⟩)))]
  · rw [if_neg h2, if_neg (fun h3 => h3.elim (fun h4 => h2 (by
      rcases Nat.lt_or_ge (j / 40) q with h5 | h5
      · exact Or.inl ⟨h5, h4.2⟩
      · have h6 : j / 40 = q := by omega
        exact Or.inr ⟨h6, by rw [← h6]; exact h4.2⟩)) (fun h4 => by omega))]
/-- how the rows of what went grow -/
def dl (c w : Nat) : Nat := if w = 64 * c then 2 * c else c
end
section
def cpk (k : Int) : Nat := if k = 0 then 1 else 40
theorem cpk_s (k : Int) : (k = 0 ∧ cpk k = 1) ∨ (¬ k = 0 ∧ cpk k = 40) := by unfold cpk; split <;> omega
/-- a box's corners laid into a row -/
def bxX (f : Nat) (lx hx : Int32) (k : Nat) (c : Nat → Int32) : Nat → Int32 := fun j => if 40 * f ≤ j ∧ j < 40 * f + k then (if j = 40 * f + 1 ∨ j = 40 * f + 2 then hx else lx) else c j
def bxY (f : Nat) (ly hy : Int32) (k : Nat) (c : Nat → Int32) : Nat → Int32 := fun j => if 40 * f ≤ j ∧ j < 40 * f + k then (if 40 * f + 1 < j then hy else ly) else c j
theorem bxX_0 (f : Nat) (lx hx : Int32) (c : Nat → Int32) : c = bxX f lx hx 0 c := by funext j; unfold bxX; rw [if_neg (by omega)]
theorem bxY_0 (f : Nat) (lx hx : Int32) (c : Nat → Int32) : c = bxY f lx hx 0 c := by funext j; unfold bxY; rw [if_neg (by omega)]
theorem bxX_s {f k : Nat} {lx hx x : Int32} {c c1 : Nat → Int32} (h : c1 = bxX f lx hx k c) (hv : x = if k = 1 ∨ k = 2 then hx else lx) : upd c1 (40 * f + k) x = bxX f lx hx (k + 1) c := by
  subst h hv; funext j; unfold upd bxX
  by_cases q : j = 40 * f + k
  · rw [if_pos q, if_pos (show 40 * f ≤ j ∧ j < 40 * f + (k + 1) by omega)]
    by_cases q2 : k = 1 ∨ k = 2
    · rw [if_pos q2, if_pos (show j = 40 * f + 1 ∨ j = 40 * f + 2 by omega)]
    · rw [if_neg q2, if_neg (show ¬ (j = 40 * f + 1 ∨ j = 40 * f + 2) by omega)]
  · rw [if_neg q]
    by_cases q2 : 40 * f ≤ j ∧ j < 40 * f + k
    · rw [if_pos q2, if_pos (by omega : 40 * f ≤ j ∧ j < 40 * f + (k + 1))]
    · rw [if_neg q2, if_neg (by omega : ¬ (40 * f ≤ j ∧ j < 40 * f + (k + 1)))]
theorem bxY_s {f k : Nat} {lx hx x : Int32} {c c1 : Nat → Int32} (h : c1 = bxY f lx hx k c) (hv : x = if 1 < k then hx else lx) : upd c1 (40 * f + k) x = bxY f lx hx (k + 1) c := by
  subst h hv; funext j; unfold upd bxY
  by_cases q : j = 40 * f + k
  · rw [if_pos q, if_pos (show 40 * f ≤ j ∧ j < 40 * f + (k + 1) by omega)]
    by_cases q2 : 1 < k
    · rw [if_pos q2, if_pos (show 40 * f + 1 < j by omega)]
    · rw [if_neg q2, if_neg (show ¬ 40 * f + 1 < j by omega)]
  · rw [if_neg q]
    by_cases q2 : 40 * f ≤ j ∧ j < 40 * f + k
    · rw [if_pos q2, if_pos (by omega : 40 * f ≤ j ∧ j < 40 * f + (k + 1))]
    · rw [if_neg q2, if_neg (by omega : ¬ (40 * f ≤ j ∧ j < 40 * f + (k + 1)))]
end
section
/-! PLAINER: which corner goes, and what is left when none goes any more -/
abbrev trF (cx cy : Nat → Int32) (f n k : Nat) : Nat := Int.natAbs (cr (cF40 cx f (prv n k)).toInt (cF40 cy f (prv n k)).toInt (cF40 cx f k).toInt (cF40 cy f k).toInt (cF40 cx f (nxt n k)).toInt (cF40 cy f (nxt n k)).toInt)
def cnd (ft : Nat) (st tn kd mn cx cy : Nat → Int32) (f n L k : Nat) : Prop := mGo ft st tn kd mn cx cy f n k ∧ trF cx cy f n k ≤ L
def pBest (ft : Nat) (st tn kd mn cx cy : Nat → Int32) (f n L k : Nat) : Prop := k < n ∧ cnd ft st tn kd mn cx cy f n L k ∧ lwP ft st tn kd mn cx cy f n k ∧ ∀ j, j < n → cnd ft st tn kd mn cx cy f n L j → lwP ft st tn kd mn cx cy f n j → trF cx cy f n k < trF cx cy f n j ∨ (trF cx cy f n k = trF cx cy f n j ∧ k ≤ j)
theorem pBest_u {ft : Nat} {st tn kd mn cx cy : Nat → Int32} {f n L k j : Nat} (h : pBest ft st tn kd mn cx cy f n L k) (h2 : pBest ft st tn kd mn cx cy f n L j) : k = j := by
  have a := h.2.2.2 j h2.1 h2.2.1 h2.2.2.1
  have b := h2.2.2.2 k h.1 h.2.1 h.2.2.1
  omega
/-- how many below n are so -/
noncomputable def cntP (P : Nat → Prop) : Nat → Nat
  | 0 => 0
  | n + 1 => cntP P n + @ite Nat (P n) (Classical.propDecidable _) 1 0
theorem cntP_le {P Q : Nat → Prop} (h : ∀ j, Q j → P j) (n : Nat) : cntP Q n ≤ cntP P n := by
  induction n with
  | zero => exact Nat.le_refl _
  | succ n ih =>
    show cntP Q n + _ ≤ cntP P n + _
    by_cases q : Q n
    · rw [if_pos q, if_pos (h n q)]; omega
    · rw [if_neg q]; omega
theorem cntP_lt {P Q : Nat → Prop} {i n : Nat} (h : ∀ j, Q j → P j) (hi : i < n) (h1 : P i) (h2 : ¬ Q i) : cntP Q n < cntP P n := by
  induction n with
  | zero => omega
  | succ n ih =>
    show cntP Q n + _ < cntP P n + _
    rcases Nat.lt_or_ge i n with q | q
    · have := ih q
      by_cases q2 : Q n
      · rw [if_pos q2, if_pos (h n q2)]; omega
      · rw [if_neg q2]; omega
    · obtain rfl : i = n := by omega
      rw [if_neg h2, if_pos h1]
      have := cntP_le h i; omega
/-- the best so far below k, as the loop finds it -/
def bstS (T : Nat → Nat) (FS : Nat → Prop) (k : Nat) (z : Int32) : Prop := (z = -1 ∧ ∀ j, j < k → FS j) ∨ ∃ b, z = nI b ∧ b < k ∧ ¬ FS b ∧ ∀ j, j < k → ¬ FS j → T b < T j ∨ (T b = T j ∧ b ≤ j)
theorem bst_0 (T : Nat → Nat) (FS : Nat → Prop) : bstS T FS 0 (-1) := Or.inl ⟨rfl, fun j hj => by omega⟩
theorem bst_f {T : Nat → Nat} {FS : Nat → Prop} {k : Nat} {z : Int32} (h : bstS T FS k z) (hf : FS k) : bstS T FS (k + 1) z := by
  rcases h with ⟨h, h1⟩ | ⟨b, h, h1, h2, h3⟩
  · refine Or.inl ⟨h, fun j hj => ?_⟩
    rcases Nat.lt_or_ge j k with q | q
    · exact h1 j q
    · rw [show j = k by omega]; exact hf
  · refine Or.inr ⟨b, h, by omega, h2, fun j hj hn => ?_⟩
    rcases Nat.lt_or_ge j k with q | q
    · exact h3 j q hn
    · rw [show j = k by omega] at hn; exact absurd hf hn
theorem bst_n {T : Nat → Nat} {FS : Nat → Prop} {k : Nat} {z : Int32} (h : bstS T FS k z) (hz : z.toInt = -1) (hk : k < 2147483648) (hf : ¬ FS k) : bstS T FS (k + 1) (nI k) := by
  rcases h with ⟨h, h1⟩ | ⟨b, h, h1, h2, h3⟩
  · refine Or.inr ⟨k, rfl, by omega, hf, fun j hj hn => ?_⟩
    rcases Nat.lt_or_ge j k with q | q
    · exact absurd (h1 j q) hn
    · exact Or.inr ⟨by rw [show j = k by omega], by omega⟩
  · rw [h, nI_toInt (by omega)] at hz; omega
theorem bst_l {T : Nat → Nat} {FS : Nat → Prop} {k b : Nat} {z : Int32} (hz : z = nI b) (h1 : b < k) (h2 : ¬ FS b) (h3 : ∀ j, j < k → ¬ FS j → T b < T j ∨ (T b = T j ∧ b ≤ j)) (hf : ¬ FS k) (hl : T k < T b) : bstS T FS (k + 1) (nI k) := by
  refine Or.inr ⟨k, rfl, by omega, hf, fun j hj hn => ?_⟩
  rcases Nat.lt_or_ge j k with q | q
  · have := h3 j q hn; omega
  · exact Or.inr ⟨by rw [show j = k by omega], by omega⟩
theorem bst_g {T : Nat → Nat} {FS : Nat → Prop} {k b : Nat} {z : Int32} (hz : z = nI b) (h1 : b < k) (h2 : ¬ FS b) (h3 : ∀ j, j < k → ¬ FS j → T b < T j ∨ (T b = T j ∧ b ≤ j)) (hl : T b ≤ T k) : bstS T FS (k + 1) z := by
  refine Or.inr ⟨b, hz, by omega, h2, fun j hj hn => ?_⟩
  rcases Nat.lt_or_ge j k with q | q
  · exact h3 j q hn
  · rw [show j = k by omega]; omega
theorem bst_get {T : Nat → Nat} {FS : Nat → Prop} {k : Nat} {z : Int32} (h : bstS T FS k z) (hz : ¬ z.toInt = -1) : ∃ b, z = nI b ∧ b < k ∧ ¬ FS b ∧ ∀ j, j < k → ¬ FS j → T b < T j ∨ (T b = T j ∧ b ≤ j) := by
  rcases h with ⟨h, h1⟩ | h
  · rw [h] at hz; exact absurd (by decide) hz
  · exact h
theorem bst_no {T : Nat → Nat} {FS : Nat → Prop} {k : Nat} {z : Int32} (h : bstS T FS k z) (hz : z.toInt = -1) (hk : k < 2147483648) : ∀ j, j < k → FS j := by
  rcases h with ⟨h, h1⟩ | ⟨b, h, h1, _⟩
  · exact h1
  · rw [h, nI_toInt (by omega)] at hz; omega
theorem mGo_2 {ft : Nat} {st tn kd mn cx cy : Nat → Int32} {f n k : Nat} (h : mGo ft st tn kd mn cx cy f n k) (hk : k < n) (h3 : 5 ≤ (kd f).toInt → 3 ≤ n) : 2 ≤ n := by
  unfold mGo at h; omega
theorem trB {cx cy : Nat → Int32} {f n k : Nat} (hp : pls n (cF40 cx f) (cF40 cy f)) (hk : k < n) : trF cx cy f n k ≤ 2000000 := by
  have h1 := prv_lt (n := n) (i := k) hk; have h2 := nxt_lt (n := n) (i := k) (by omega)
  have := crBp (hp _ h1).1 (hp _ h1).2 (hp k hk).1 (hp k hk).2 (hp _ h2).1 (hp _ h2).2
  unfold trF; omega
/-- a method's end with an answer that is only told of -/
def zQe (B : Option Value → State → Prop) (A : Nat → Prop) : Array Value → State → Outcome → State → Prop := fun _ st oc t => (∃ v, oc = .returned v ∧ B v t) ∧ va_F A st t
section ZE
variable {p : Program} {l : Launch} {e : Env} {R : Room} {s : State} {m : MethodId} {args : Array Value} {below : List Frame} {meth : Method} {c : Code} {H : Heap} {locs : List Loc} {cells slots : Nat} {Q : State → Prop}
variable {pc : Nat} {ls : Array Slot} {rest st0 : List Value} {a : Array Value} {A0 A1 : Nat → Prop} {H0 : Heap} {mc ms : Nat} {free : Addr → Prop}
theorem zcalle {B : Option Value → State → Prop} (hr : va_Run p l e R s m args below meth c H locs cells slots mc ms (F0 m pc ls st0) rest (zQe B A1 a) free) (hS : va_S A0 H0 H locs) (hA : ∀ q, A1 q → A0 q) (hf : ∀ q, free q → A0 q)
    (kk : ∀ (v : Option Value) (t : State) (H1 : Heap) (locs1 : List Loc), t.heap = H1 → B v t → (∀ q : Nat, q < H.size → ¬ A1 q → H1[q]? = H[q]?) → va_S A0 H0 H1 locs1 → W p l e R s m args below meth c H1 locs1 (cells + mc) (slots + ms) Q (F0 m (pc + 3) ls (v.toList ++ rest))) : W p l e R s m args below meth c H locs cells slots Q (F0 m pc ls st0) := by
  intro T hT X
  obtain ⟨v1, st₀, t, T', L, h0, X', hL, e1, e2, ⟨⟨v2, hv, hb⟩, hz, hk⟩, st⟩ := hr T hT X
  cases hv
  rw [h0] at hz hk
  obtain ⟨t2, a1, b1⟩ := kk v1 t T'.heap (locs ++ L) e1.symm hb (fun q h1 h2 => by rw [e1]; exact hk q h1 h2)
    ⟨Nat.le_trans hS.1 (by rw [e1]; exact hz), fun q h1 h2 => by rw [e1, hk q (Nat.lt_of_lt_of_le h1 hS.1) (fun z => h2 (hA q z))]; exact hS.2.1 q h1 h2, fun q hq => by
      rcases List.mem_append.mp hq with h | h
      · exact hS.2.2 q h
      · exact hf _ (hL q h)⟩ T' rfl X'
  exact ⟨t2, st t2 a1, b1⟩
end ZE
end
section
/-! PLAINER to its end -/
theorem nN_nI {k : Nat} (h : k < 2147483648) : nN (nI k) = k := by unfold nN; rw [nI_toInt h]; omega
def plI (ft : Nat) (st tn kd : Nat → Int32) (f : Nat) (mn cx cy : Nat → Int32) (n : Nat) : Prop := mn f = nI n ∧ (1 ≤ n ∧ n ≤ 40) ∧ pls n (cF40 cx f) (cF40 cy f) ∧ (∀ q, lvF ft st tn q → wfM mn cx cy q) ∧ (5 ≤ (kd f).toInt → 3 ≤ n)
theorem plI_s {ft : Nat} {st tn kd : Nat → Int32} {f : Nat} {mn cx cy : Nat → Int32} {n L k : Nat} (h : plI ft st tn kd f mn cx cy n) (hb : pBest ft st tn kd mn cx cy f n L k) : plI ft st tn kd f (upd mn f (nI (n - 1))) (shp f k (n - 1) cx) (shp f k (n - 1) cy) (n - 1) := by
  obtain ⟨h1, h2, h3, h4, h5⟩ := h
  have hl := hb.2.2.1
  have hp := hl.1
  have hs := hl.2.1
  have hn := mSm_pos hs
  refine ⟨by unfold upd; rw [if_pos rfl], ⟨hn, by omega⟩, hp, fun q hq => ?_, fun h => ?_⟩
  · by_cases e : q = f
    · subst e
      unfold wfM
      rw [show upd mn q (nI (n - 1)) q = nI (n - 1) by unfold upd; rw [if_pos rfl], nN_nI (by omega)]
      exact ⟨rfl, ⟨hn, by omega⟩, hp⟩
    · exact wfM_o (h4 q hq) e (fun j hj => by simp only [upd, if_neg hj]) (fun j hj => ⟨shp_o (by omega) hj, shp_o (by omega) hj⟩)
  · have h6 := (hs.2 (by omega)).1
    unfold mnc at h6; rw [if_pos h] at h6; exact h6
/-- m corners go, one by one, and then none -/
def plN (ft : Nat) (st tn kd : Nat → Int32) (f L : Nat) : Nat → (Nat → Int32) → (Nat → Int32) → (Nat → Int32) → Nat → (Nat → Int32) → (Nat → Int32) → (Nat → Int32) → Nat → Prop
  | 0, mn, cx, cy, n, mn1, cx1, cy1, n1 => mn1 = mn ∧ cx1 = cx ∧ cy1 = cy ∧ n1 = n ∧ ¬ ∃ k, pBest ft st tn kd mn cx cy f n L k
  | m + 1, mn, cx, cy, n, mn1, cx1, cy1, n1 => ∃ k, pBest ft st tn kd mn cx cy f n L k ∧ plN ft st tn kd f L m (upd mn f (nI (n - 1))) (shp f k (n - 1) cx) (shp f k (n - 1) cy) (n - 1) mn1 cx1 cy1 n1
theorem plN_ex {ft : Nat} {st tn kd : Nat → Int32} {f L : Nat} : ∀ (n : Nat) (mn cx cy : Nat → Int32), plI ft st tn kd f mn cx cy n → ∃ m mn1 cx1 cy1 n1, plN ft st tn kd f L m mn cx cy n mn1 cx1 cy1 n1 := by
  intro n
  induction n with
  | zero => intro mn cx cy h; have := h.2.1; omega
  | succ n ih =>
    intro mn cx cy h
    by_cases q : ∃ k, pBest ft st tn kd mn cx cy f (n + 1) L k
    · obtain ⟨k, hk⟩ := q
      have h2 := plI_s h hk
      rw [show n + 1 - 1 = n by omega] at h2
      obtain ⟨m, mn1, cx1, cy1, n1, h3⟩ := ih _ _ _ h2
      exact ⟨m + 1, mn1, cx1, cy1, n1, k, hk, by rw [show n + 1 - 1 = n by omega]; exact h3⟩
    · exact ⟨0, mn, cx, cy, n + 1, rfl, rfl, rfl, rfl, q⟩
theorem plN_end {ft : Nat} {st tn kd : Nat → Int32} {f L : Nat} : ∀ (m n : Nat) (mn cx cy mn1 cx1 cy1 : Nat → Int32) (n1 : Nat), plI ft st tn kd f mn cx cy n → plN ft st tn kd f L m mn cx cy n mn1 cx1 cy1 n1 → plI ft st tn kd f mn1 cx1 cy1 n1 ∧ n1 + m = n ∧ (∀ q, q ≠ f → mn1 q = mn q) ∧ (∀ j, (j < 40 * f ∨ 40 * f + 40 ≤ j) → cx1 j = cx j ∧ cy1 j = cy j) ∧ ¬ ∃ k, pBest ft st tn kd mn1 cx1 cy1 f n1 L k := by
  intro m
  induction m with
  | zero =>
    intro n mn cx cy mn1 cx1 cy1 n1 h hN
    obtain ⟨rfl, rfl, rfl, rfl, h2⟩ := hN
    exact ⟨h, rfl, fun _ _ => rfl, fun _ _ => ⟨rfl, rfl⟩, h2⟩
  | succ m ih =>
    intro n mn cx cy mn1 cx1 cy1 n1 h hN
    obtain ⟨k, hk, h2⟩ := hN
    have hs := plI_s h hk
    have h3 := ih _ _ _ _ _ _ _ _ hs h2
    have hn := h.2.1
    have hn2 := hs.2.1
    refine ⟨h3.1, by have := h3.2.1; omega, fun q hq => ?_, fun j hj => ?_, h3.2.2.2.2⟩
    · rw [h3.2.2.1 q hq]; simp only [upd, if_neg hq]
    · have h4 := h3.2.2.2.1 j hj
      rw [h4.1, h4.2]; exact ⟨shp_o (by omega) hj, shp_o (by omega) hj⟩
def dlN : Nat → Nat → Nat → Nat
  | 0, cl, _ => cl
  | m + 1, cl, ln => dlN m (dl cl ln) (ln + 1)
theorem dl_le (cl ln : Nat) : cl ≤ dl cl ln := by unfold dl; split <;> omega
theorem dlN_le : ∀ (m cl ln : Nat), cl ≤ dlN m cl ln := by
  intro m
  induction m with
  | zero => intro cl ln; exact Nat.le_refl _
  | succ m ih => intro cl ln; exact Nat.le_trans (dl_le cl ln) (ih _ _)
theorem dl_fit {cl ln : Nat} (h : ln ≤ 64 * cl) (h1 : 1 ≤ cl) : ln + 1 ≤ 64 * dl cl ln := by unfold dl; split <;> omega
theorem dlN_b : ∀ (m cl ln : Nat), ln ≤ 64 * cl → 1 ≤ cl → dlN m cl ln ≤ cl ∨ 32 * dlN m cl ln < ln + m := by
  intro m
  induction m with
  | zero => intro cl ln _ _; exact Or.inl (Nat.le_refl _)
  | succ m ih =>
    intro cl ln h h1
    have h2 := ih (dl cl ln) (ln + 1)
    show dlN m (dl cl ln) (ln + 1) ≤ cl ∨ 32 * dlN m (dl cl ln) (ln + 1) < ln + (m + 1)
    unfold dl at h2 ⊢
    by_cases q : ln = 64 * cl
    · rw [if_pos q] at h2 ⊢
      have := h2 (by omega) (by omega); omega
    · rw [if_neg q] at h2 ⊢
      have := h2 (by omega) h1; omega
theorem dlN_add : ∀ (m k cl ln : Nat), dlN (m + k) cl ln = dlN k (dlN m cl ln) (ln + m) := by
  intro m
  induction m with
  | zero => intro k cl ln; rw [Nat.zero_add]; rfl
  | succ m ih =>
    intro k cl ln
    rw [show m + 1 + k = (m + k) + 1 by omega]
    show dlN (m + k) (dl cl ln) (ln + 1) = dlN k (dlN m (dl cl ln) (ln + 1)) (ln + (m + 1))
    rw [ih, show ln + 1 + m = ln + (m + 1) by omega]
theorem plN_z {ft : Nat} {st tn kd : Nat → Int32} {f L m : Nat} {mn cx cy mn1 cx1 cy1 : Nat → Int32} {n n1 : Nat} (h0 : m = 0) (h : plN ft st tn kd f L m mn cx cy n mn1 cx1 cy1 n1) : mn1 = mn ∧ cx1 = cx ∧ cy1 = cy ∧ n1 = n ∧ ¬ ∃ k, pBest ft st tn kd mn cx cy f n L k := by subst h0; exact h
theorem plN_p {ft : Nat} {st tn kd : Nat → Int32} {f L m : Nat} {mn cx cy mn1 cx1 cy1 : Nat → Int32} {n n1 : Nat} (h0 : 0 < m) (h : plN ft st tn kd f L m mn cx cy n mn1 cx1 cy1 n1) : ∃ r k, m = r + 1 ∧ pBest ft st tn kd mn cx cy f n L k ∧ plN ft st tn kd f L r (upd mn f (nI (n - 1))) (shp f k (n - 1) cx) (shp f k (n - 1) cy) (n - 1) mn1 cx1 cy1 n1 := by
  cases m with
  | zero => omega
  | succ r => obtain ⟨k, h1, h2⟩ := h; exact ⟨r, k, rfl, h1, h2⟩
end
section
/-! a change taken back, and done -/
def fgX (f on : Nat) (X c : Nat → Int32) : Nat → Int32 := fun j => if 40 * f ≤ j ∧ j < 40 * f + on then X (j - 40 * f) else c j
theorem fgX_of {f on : Nat} {X c c1 : Nat → Int32} (h1 : ∀ j, j < on → c1 (40 * f + j) = X j) (h2 : ∀ j, (j < 40 * f ∨ 40 * f + on ≤ j) → c1 j = c j) : c1 = fgX f on X c := by
  funext j; unfold fgX
  by_cases q : 40 * f ≤ j ∧ j < 40 * f + on
  · rw [if_pos q]
    have := h1 (j - 40 * f) (by omega)
    rw [show 40 * f + (j - 40 * f) = j by omega] at this; exact this
  · rw [if_neg q]; exact h2 j (by omega)
theorem gv_of {f n on : Nat} {X P c c1 c2 : Nat → Int32} (h0 : c1 = fgX f on X c) (hP : ∀ j, j < n → P j = c (40 * f + j)) (hX : ∀ j, n ≤ j → j < on → c (40 * f + j) = X j) (h1 : ∀ j, j < n → c2 (40 * f + j) = P j) (h2 : ∀ j, (j < 40 * f ∨ 40 * f + n ≤ j) → c2 j = c1 j) : c2 = c := by
  funext j
  by_cases q : 40 * f ≤ j ∧ j < 40 * f + n
  · have := h1 (j - 40 * f) (by omega)
    rw [hP _ (by omega), show 40 * f + (j - 40 * f) = j by omega] at this; exact this
  · rw [h2 j (by omega), h0]; unfold fgX
    by_cases q2 : 40 * f ≤ j ∧ j < 40 * f + on
    · rw [if_pos q2]
      have := hX (j - 40 * f) (by omega) (by omega)
      rw [show 40 * f + (j - 40 * f) = j by omega] at this; exact this.symm
    · rw [if_neg q2]
end
section
/-! rows that move -/
theorem fgX_0 (f : Nat) (V c : Nat → Int32) : c = fgX f 0 V c := by funext j; unfold fgX; rw [if_neg (by omega)]
theorem fgX_u {f k : Nat} {V c c1 : Nat → Int32} {x : Int32} (h : c1 = fgX f k V c) (hx : x = V k) : upd c1 (40 * f + k) x = fgX f (k + 1) V c := by
  subst h hx; funext j; unfold upd fgX
  by_cases q : j = 40 * f + k
  · subst q; rw [if_pos rfl, if_pos (by omega), show 40 * f + k - 40 * f = k by omega]
  · rw [if_neg q]
    by_cases q2 : 40 * f ≤ j ∧ j < 40 * f + k
    · rw [if_pos q2, if_pos (show 40 * f ≤ j ∧ j < 40 * f + (k + 1) by omega)]
    · rw [if_neg q2, if_neg (show ¬ (40 * f ≤ j ∧ j < 40 * f + (k + 1)) by omega)]
theorem fgX_k {f k : Nat} {V c c1 : Nat → Int32} (h : c1 = fgX f k V c) (hx : c (40 * f + k) = V k) : c1 = fgX f (k + 1) V c := by
  subst h; funext j; unfold fgX
  by_cases q : j = 40 * f + k
  · subst q; rw [if_neg (by omega), if_pos (by omega), show 40 * f + k - 40 * f = k by omega]; exact hx
  · by_cases q2 : 40 * f ≤ j ∧ j < 40 * f + k
    · rw [if_pos q2, if_pos (show 40 * f ≤ j ∧ j < 40 * f + (k + 1) by omega)]
    · rw [if_neg q2, if_neg (show ¬ (40 * f ≤ j ∧ j < 40 * f + (k + 1)) by omega)]
theorem fgX_at {f n k : Nat} {V c : Nat → Int32} (h : k < n) : fgX f n V c (40 * f + k) = V k := by
  unfold fgX; rw [if_pos (by omega), show 40 * f + k - 40 * f = k by omega]
theorem fgX_o {f n j : Nat} {V c : Nat → Int32} (h : j < 40 * f ∨ 40 * f + n ≤ j) : fgX f n V c j = c j := by unfold fgX; rw [if_neg (by omega)]
theorem fgX_same {f n : Nat} {V c : Nat → Int32} (h : ∀ k, k < n → V k = c (40 * f + k)) : fgX f n V c = c := by
  funext j; unfold fgX
  by_cases q : 40 * f ≤ j ∧ j < 40 * f + n
  · rw [if_pos q, h _ (by omega), show 40 * f + (j - 40 * f) = j by omega]
  · rw [if_neg q]
theorem fgX_back {f n : Nat} {X V c : Nat → Int32} (h : ∀ k, k < n → X k = c (40 * f + k)) : fgX f n X (fgX f n V c) = c := by
  funext j; unfold fgX
  by_cases q : 40 * f ≤ j ∧ j < 40 * f + n
  · rw [if_pos q, h _ (by omega), show 40 * f + (j - 40 * f) = j by omega]
  · rw [if_neg q, if_neg q]
/-- something moves -/
def mvd (n : Nat) (VX VY X Y : Nat → Int32) : Prop := ∃ k, k < n ∧ ¬ (VX k = X k ∧ VY k = Y k)
theorem mv_iff {f n : Nat} {VX VY cx cy cx1 cy1 ox oy : Nat → Int32} (hcx : cx1 = fgX f n VX cx) (hcy : cy1 = fgX f n VY cy) (hox : ∀ j, j < n → ox j = cx (40 * f + j) ∧ oy j = cy (40 * f + j)) : (∃ k, k < n ∧ ¬ ((cx1 (40 * f + k)).toInt = (ox k).toInt ∧ (cy1 (40 * f + k)).toInt = (oy k).toInt)) ↔ mvd n VX VY (cF40 cx f) (cF40 cy f) := by
  subst hcx hcy
  constructor
  · rintro ⟨k, hk, h⟩
    refine ⟨k, hk, fun h2 => h ?_⟩
    rw [fgX_at hk, fgX_at hk, (hox k hk).1, (hox k hk).2, h2.1, h2.2]; exact ⟨rfl, rfl⟩
  · rintro ⟨k, hk, h⟩
    refine ⟨k, hk, fun h2 => h ?_⟩
    rw [fgX_at hk, fgX_at hk, (hox k hk).1, (hox k hk).2] at h2
    exact ⟨Int32.toInt_inj.mp h2.1, Int32.toInt_inj.mp h2.2⟩
theorem swp_c {on e : Nat} {X Y U V P Q : Nat → Int32} {x y : Int} (he : e < on) (h : ∀ j, j < on → X j = U j ∧ Y j = V j) : swp on X Y P Q x y e = swp on U V P Q x y e := by
  have h2 := h _ (nxt_lt (n := on) (i := e) (by omega)); have h3 := h e he
  unfold swp spr stay; rw [h2.1, h2.2, h3.1, h3.2]
theorem sWm_c {kf : Int} {on f : Nat} {X Y U V cx cy : Nat → Int32} (h1 : 1 ≤ on) (h : ∀ j, j < on → X j = U j ∧ Y j = V j) : sWm kf on X Y cx cy f = sWm kf on U V cx cy f := by
  funext q k
  have hle := eO_le (k := kf) h1
  exact propext ⟨fun ⟨e, he, h2⟩ => ⟨e, he, by rw [← swp_c (by omega) h]; exact h2⟩, fun ⟨e, he, h2⟩ => ⟨e, he, by rw [swp_c (by omega) h]; exact h2⟩⟩
/-- a move of all corners is lawful -/
def lwM (ft : Nat) (st tn kd mn cx cy : Nat → Int32) (f n : Nat) (VX VY : Nat → Int32) : Prop := lwA ft st tn kd mn (fgX f n VX cx) (fgX f n VY cy) f n (cF40 cx f 0) (cF40 cy f 0) (bMt kd mn cx cy f n) (bWi kd mn cx cy f) (bIn kd cx cy f n) (sWm (kd f).toInt n (cF40 cx f) (cF40 cy f) (fgX f n VX cx) (fgX f n VY cy) f)
theorem lwM_eq {ft : Nat} {st tn kd mn cx cy cx1 cy1 ox oy VX VY : Nat → Int32} {f n : Nat} (h1 : 1 ≤ n) (hcx : cx1 = fgX f n VX cx) (hcy : cy1 = fgX f n VY cy) (hox : ∀ j, j < n → ox j = cx (40 * f + j) ∧ oy j = cy (40 * f + j)) : lwA ft st tn kd mn cx1 cy1 f n (ox 0) (oy 0) (bMt kd mn cx cy f n) (bWi kd mn cx cy f) (bIn kd cx cy f n) (sWm (kd f).toInt n ox oy cx1 cy1 f) = lwM ft st tn kd mn cx cy f n VX VY := by
  subst hcx hcy
  unfold lwM
  rw [(hox 0 (by omega)).1, (hox 0 (by omega)).2, sWm_c (U := cF40 cx f) (V := cF40 cy f) h1 hox]
end
section
/-! how far a corner is from another, and how far it moves -/
def wyR (kf : Int) (n k i : Nat) : Nat := if 5 ≤ kf then min (Int.natAbs (((i : Nat) : Int) - ((k : Nat) : Int))) (n - Int.natAbs (((i : Nat) : Int) - ((k : Nat) : Int))) else Int.natAbs (((i : Nat) : Int) - ((k : Nat) : Int))
def shV (kf : Int) (n k : Nat) (dx : Int32) (rr : Nat) (X : Nat → Int32) (i : Nat) : Int32 := if rr < wyR kf n k i ∨ (¬ 5 ≤ kf ∧ (i = 0 ∨ i = n - 1)) then X i else X i + dx * nI (rr + 1 - wyR kf n k i) / nI (rr + 1)
theorem shV_t {kf : Int} {n k : Nat} {dx : Int32} {rr : Nat} {X : Nat → Int32} {i : Nat} (h : rr < wyR kf n k i ∨ (¬ 5 ≤ kf ∧ (i = 0 ∨ i = n - 1))) : X i = shV kf n k dx rr X i := by unfold shV; rw [if_pos h]
theorem shV_f {kf : Int} {n k : Nat} {dx : Int32} {rr : Nat} {X : Nat → Int32} {i : Nat} (h : ¬ (rr < wyR kf n k i ∨ (¬ 5 ≤ kf ∧ (i = 0 ∨ i = n - 1)))) : X i + dx * nI (rr + 1 - wyR kf n k i) / nI (rr + 1) = shV kf n k dx rr X i := by unfold shV; rw [if_neg h]
end
section
/-! boxes and distances of the reference -/
theorem iI_64 {z : Int} (h : -2147483648 ≤ z ∧ z < 2147483648) : (iI z).toInt64 = jI z := jI_of (by rw [i64, iI_toInt h])
theorem jI_mul {y z : Int} (h1 : -9000000000000000000 ≤ y ∧ y ≤ 9000000000000000000) (h2 : -9000000000000000000 ≤ z ∧ z ≤ 9000000000000000000) (h3 : -9000000000000000000 ≤ y * z ∧ y * z ≤ 9000000000000000000) : jI y * jI z = jI (y * z) := by
  refine jI_of ?_
  rw [fb_mulL (by rw [jI_toInt (by omega), jI_toInt (by omega)]; omega) (by rw [jI_toInt (by omega), jI_toInt (by omega)]; omega), jI_toInt (by omega), jI_toInt (by omega)]
theorem sub_pl {x y : Int32} (h1 : pl x) (h2 : pl y) : x - y = iI (x.toInt - y.toInt) := by
  unfold pl at h1 h2; exact iI_of (fb_subI (by omega) (by omega))
theorem sqN {u : Int} (h : -2000 ≤ u ∧ u ≤ 2000) : 0 ≤ u * u ∧ u * u ≤ 4000000 := by
  have := Int.mul_nonneg (show 0 ≤ 2000 - u by omega) (show 0 ≤ 2000 + u by omega)
  have h0 : 0 ≤ u * u := by
    rcases Int.le_total 0 u with q | q
    · exact Int.mul_nonneg q q
    · have := Int.mul_nonneg (show 0 ≤ -u by omega) (show 0 ≤ -u by omega); rw [Int.neg_mul_neg] at this; exact this
  simp only [Int.sub_mul, Int.mul_add] at this
  have e : 2000 * u = u * 2000 := Int.mul_comm _ _
  omega
theorem sqM {u : Int} (h : -2000000 ≤ u ∧ u ≤ 2000000) : 0 ≤ u * u ∧ u * u ≤ 4000000000000 := by
  have := Int.mul_nonneg (show 0 ≤ 2000000 - u by omega) (show 0 ≤ 2000000 + u by omega)
  have h0 : 0 ≤ u * u := by
    rcases Int.le_total 0 u with q | q
    · exact Int.mul_nonneg q q
    · have := Int.mul_nonneg (show 0 ≤ -u by omega) (show 0 ≤ -u by omega); rw [Int.neg_mul_neg] at this; exact this
  simp only [Int.sub_mul, Int.mul_add] at this
  have e : 2000000 * u = u * 2000000 := Int.mul_comm _ _
  omega
theorem prN {u d : Int} (h1 : 0 ≤ u ∧ u ≤ 4000000000000) (h2 : 0 ≤ d ∧ d ≤ 2000000) : 0 ≤ u * d ∧ u * d ≤ 8000000000000000000 := by
  have a := Int.mul_nonneg h1.1 h2.1
  have b := Int.mul_nonneg (show 0 ≤ 4000000000000 - u by omega) h2.1
  simp only [Int.sub_mul] at b
  omega
/-- the square of a place's distance from an edge, by over and under -/
def nrL (a1 a2 b1 b2 : Int) : Int := (b1 - a1) * (b1 - a1) + (b2 - a2) * (b2 - a2)
def nrT (a1 a2 b1 b2 x y : Int) : Int := (b1 - a1) * (x - a1) + (b2 - a2) * (y - a2)
def nrU (a1 a2 b1 b2 x y : Int) : Int := if nrT a1 a2 b1 b2 x y ≤ 0 then (x - a1) * (x - a1) + (y - a2) * (y - a2) else if nrL a1 a2 b1 b2 ≤ nrT a1 a2 b1 b2 x y then (x - a1 - (b1 - a1)) * (x - a1 - (b1 - a1)) + (y - a2 - (b2 - a2)) * (y - a2 - (b2 - a2)) else cr a1 a2 b1 b2 x y * cr a1 a2 b1 b2 x y
def nrD (a1 a2 b1 b2 x y : Int) : Int := if nrT a1 a2 b1 b2 x y ≤ 0 then 1 else if nrL a1 a2 b1 b2 ≤ nrT a1 a2 b1 b2 x y then 1 else nrL a1 a2 b1 b2
theorem sqZ {u : Int} : 0 ≤ u * u := by
  rcases Int.le_total 0 u with q | q
  · exact Int.mul_nonneg q q
  · have := Int.mul_nonneg (show 0 ≤ -u by omega) (show 0 ≤ -u by omega); rw [Int.neg_mul_neg] at this; exact this
theorem nrT_0 {a1 a2 b1 b2 x y : Int} (h : nrL a1 a2 b1 b2 = 0) : nrT a1 a2 b1 b2 x y = 0 := by
  unfold nrL at h
  have q1 := sqZ (u := b1 - a1)
  have q2 := sqZ (u := b2 - a2)
  have e1 : b1 - a1 = 0 := (Int.mul_eq_zero.mp (show (b1 - a1) * (b1 - a1) = 0 by omega)).elim id id
  have e2 : b2 - a2 = 0 := (Int.mul_eq_zero.mp (show (b2 - a2) * (b2 - a2) = 0 by omega)).elim id id
  unfold nrT; rw [e1, e2, Int.zero_mul, Int.zero_mul]; rfl
theorem jI_2 : (2 : Int64) = jI 2 := jI_of (by decide)
end
section
/-! a sheet's numbers hang on the corners that are kept alone -/
theorem shD_cg {kd st gb it pa pb rk wd tw : Nat → Int32} {nn : Nat → Nat} {cx cy cx1 cy1 : Nat → Int32} {g j : Nat} (h : ∀ k, k < nn g → cx1 (40 * g + k) = cx (40 * g + k) ∧ cy1 (40 * g + k) = cy (40 * g + k)) (hj : j < 10 + 2 * nn g) : shD kd st gb it pa pb rk wd tw nn cx1 cy1 g j = shD kd st gb it pa pb rk wd tw nn cx cy g j := by
  rcases Nat.lt_or_ge j 10 with q | q
  · rcases (show j = 0 ∨ j = 1 ∨ j = 2 ∨ j = 3 ∨ j = 4 ∨ j = 5 ∨ j = 6 ∨ j = 7 ∨ j = 8 ∨ j = 9 by omega) with rfl | rfl | rfl | rfl | rfl | rfl | rfl | rfl | rfl | rfl <;> rfl
  · rcases Nat.mod_two_eq_zero_or_one j with q2 | q2
    · rw [shD_x (k := (j - 10) / 2) (by omega), shD_x (k := (j - 10) / 2) (by omega)]; exact (h _ (by omega)).1
    · rw [shD_y (k := (j - 11) / 2) (by omega), shD_y (k := (j - 11) / 2) (by omega)]; exact (h _ (by omega)).2
/-- those that are marked get a number -/
noncomputable def gnA (P : Nat → Prop) (q : Nat) (x : Int32) (k : Nat → Int32) : Nat → Int32 := fun g => @ite Int32 (g < q ∧ P g) (Classical.propDecidable _) x (k g)
theorem gnA_0 (P : Nat → Prop) (x : Int32) (k : Nat → Int32) : k = gnA P 0 x k := by funext g; unfold gnA; rw [if_neg (by omega)]
theorem gnA_y {P : Nat → Prop} {q : Nat} {x : Int32} {k k1 : Nat → Int32} (h : k1 = gnA P q x k) (hp : P q) : upd k1 q x = gnA P (q + 1) x k := by
  subst h; funext g; unfold upd gnA
  by_cases e : g = q
  · subst e; rw [if_pos rfl, if_pos ⟨by omega, hp⟩]
  · rw [if_neg e]
    by_cases e2 : g < q ∧ P g
    · rw [if_pos e2, if_pos ⟨by omega, e2.2⟩]
    · rw [if_neg e2, if_neg (fun h => e2 ⟨by omega, h.2⟩)]
theorem gnA_n {P : Nat → Prop} {q : Nat} {x : Int32} {k k1 : Nat → Int32} (h : k1 = gnA P q x k) (hp : ¬ P q) : k1 = gnA P (q + 1) x k := by
  subst h; funext g; unfold gnA
  by_cases e2 : g < q ∧ P g
  · rw [if_pos e2, if_pos ⟨by omega, e2.2⟩]
  · rw [if_neg e2, if_neg (fun h => by
      by_cases e : g = q
      · subst e; exact hp h.2
      · exact e2 ⟨by omega, h.2⟩)]
theorem cntP_y {P : Nat → Prop} {n : Nat} (h : P n) : cntP P (n + 1) = cntP P n + 1 := by show cntP P n + _ = _; rw [if_pos h]
theorem cntP_n {P : Nat → Prop} {n : Nat} (h : ¬ P n) : cntP P (n + 1) = cntP P n := by show cntP P n + _ = _; rw [if_neg h]; rfl
theorem cntP_b (P : Nat → Prop) (n : Nat) : cntP P n ≤ n := by
  induction n with
  | zero => exact Nat.le_refl _
  | succ n ih =>
    by_cases h : P n
    · rw [cntP_y h]; omega
    · rw [cntP_n h]; omega
end
section
/-! SQUARE -/
theorem mnI_s (z : Int) (X : Nat → Int32) (i : Nat) : mnI z X (i + 1) = min (mnI z X i) (X i).toInt := rfl
theorem mxI_s (z : Int) (X : Nat → Int32) (i : Nat) : mxI z X (i + 1) = max (mxI z X i) (X i).toInt := rfl
theorem mnP {z : Int} {X Y : Nat → Int32} {n : Nat} (hz : 0 ≤ z ∧ z ≤ 1000) (h : pls n X Y) : ∀ i, i ≤ n → (0 ≤ mnI z X i ∧ mnI z X i ≤ 1000) ∧ (0 ≤ mnI z Y i ∧ mnI z Y i ≤ 1000) ∧ (0 ≤ mxI z X i ∧ mxI z X i ≤ 1000) ∧ (0 ≤ mxI z Y i ∧ mxI z Y i ≤ 1000) := by
  intro i
  induction i with
  | zero => intro _; exact ⟨hz, hz, hz, hz⟩
  | succ i ih =>
    intro hi
    have h1 := ih (by omega)
    have h2 := h i (by omega)
    unfold pl at h2
    rw [mnI_s, mnI_s, mxI_s, mxI_s]; omega
theorem fgX_cg {f n : Nat} {X Y c : Nat → Int32} (h : ∀ k, k < n → X k = Y k) : fgX f n X c = fgX f n Y c := by
  funext j; unfold fgX
  by_cases q : 40 * f ≤ j ∧ j < 40 * f + n
  · rw [if_pos q, if_pos q, h _ (by omega)]
  · rw [if_neg q, if_neg q]
theorem bxX_o {f j : Nat} {lx hx : Int32} {c : Nat → Int32} (h : j < 40 * f ∨ 40 * f + 4 ≤ j) : bxX f lx hx 4 c j = c j := by unfold bxX; rw [if_neg (by omega)]
theorem bxY_o {f j : Nat} {lx hx : Int32} {c : Nat → Int32} (h : j < 40 * f ∨ 40 * f + 4 ≤ j) : bxY f lx hx 4 c j = c j := by unfold bxY; rw [if_neg (by omega)]
/-- the least box of a row -/
abbrev bL (X : Nat → Int32) (n : Nat) : Int := mnI (X 0).toInt X n
abbrev bH (X : Nat → Int32) (n : Nat) : Int := mxI (X 0).toInt X n
/-- the box's double area, less the row's own -/
def dfB (n : Nat) (X Y : Nat → Int32) : Int := 2 * (bH X n - bL X n) * (bH Y n - bL Y n) - ((Int.natAbs (ar2 n X Y n) : Nat) : Int)
theorem dfB_eq (n : Nat) (X Y : Nat → Int32) : dfB n X Y = 2 * (mxI (X 0).toInt X n - mnI (X 0).toInt X n) * (mxI (Y 0).toInt Y n - mnI (Y 0).toInt Y n) - ((Int.natAbs (ar2 n X Y n) : Nat) : Int) := rfl
/-- a row becomes its box lawfully -/
def lwS (ft : Nat) (st tn kd mn cx cy : Nat → Int32) (f n : Nat) : Prop := lwA ft st tn (upd kd f 6) (upd mn f 4) (bxX f (iI (bL (cF40 cx f) n)) (iI (bH (cF40 cx f) n)) 4 cx) (bxY f (iI (bL (cF40 cy f) n)) (iI (bH (cF40 cy f) n)) 4 cy) f 4 (cF40 cx f 0) (cF40 cy f 0) (bMt kd mn cx cy f n) (bWi kd mn cx cy f) (bIn kd cx cy f n) sW0
theorem nn_le {st tn mn : Nat → Int32} {ft g : Nat} (hmn : ∀ v9, v9 < ft → (tn v9).toInt = 0 → ¬ (st v9).toInt = 0 → mn v9 = nI (nN (mn v9)) ∧ nN (mn v9) ≤ 40) (hg : g < ft) : nnF st tn mn g ≤ 40 := by
  unfold nnF
  by_cases q : (tn g).toInt = 0 ∧ ¬ (st g).toInt = 0
  · rw [if_pos q]; exact (hmn g hg q.1 q.2).2
  · rw [if_neg q]; omega
theorem sqK {f n g k : Nat} {X c c1 : Nat → Int32} (hX : ∀ j, j < n → X j = c (40 * f + j)) (h1 : ∀ j, (j < 40 * f ∨ 40 * f + 40 ≤ j) → c1 j = c j) (hk : k < 40) (hf : g = f → k < n) (hn : n ≤ 40) : fgX f n X c1 (40 * g + k) = c (40 * g + k) := by
  by_cases e : g = f
  · subst e; rw [fgX_at (hf rfl), hX k (hf rfl)]
  · rw [fgX_o (by omega), h1 _ (by omega)]
theorem nnF_at {st tn mn : Nat → Int32} {f n : Nat} (h1 : (st f).toInt = 1) (h2 : (tn f).toInt = 0) (h3 : mn f = nI n) (hn : n ≤ 40) : nnF st tn mn f = n := by
  unfold nnF; rw [if_pos ⟨h2, by omega⟩, h3, nN_nI (by omega)]
theorem i32B (x : Int32) : -2147483648 ≤ x.toInt ∧ x.toInt ≤ 2147483647 := ⟨by have := Int32.le_toInt x; omega, by have := Int32.toInt_lt x; omega⟩
theorem dfB_b {n : Nat} {X Y : Nat → Int32} (hp : pls n X Y) (h1 : 1 ≤ n) (h40 : n ≤ 40) : -1000000000000 ≤ dfB n X Y ∧ dfB n X Y ≤ 1000000000000 := by
  have a := mnP (z := (X 0).toInt) (hp 0 (by omega)).1 hp n (Nat.le_refl _)
  have b := mnP (z := (Y 0).toInt) (hp 0 (by omega)).2 hp n (Nat.le_refl _)
  have c := mulB (u := mxI (X 0).toInt X n - mnI (X 0).toInt X n) (v := mxI (Y 0).toInt Y n - mnI (Y 0).toInt Y n) (by omega) (by omega) (by omega) (by omega)
  have d := ar2B hp n (Nat.le_refl _)
  rw [dfB_eq, Int.mul_assoc]
  generalize (mxI (X 0).toInt X n - mnI (X 0).toInt X n) * (mxI (Y 0).toInt Y n - mnI (Y 0).toInt Y n) = m at *
  generalize ar2 n X Y n = r at *
  omega
theorem sqL {n : Nat} {X Y : Nat → Int32} (hp : pls n X Y) (h1 : 1 ≤ n) (h40 : n ≤ 40) : 2 * (iI (mxI (X 0).toInt X n) - iI (mnI (X 0).toInt X n)).toInt64 * (iI (mxI (Y 0).toInt Y n) - iI (mnI (Y 0).toInt Y n)).toInt64 - jI ((Int.natAbs (ar2 n X Y n) : Nat) : Int) = jI (dfB n X Y) := by
  have a := mnP (z := (X 0).toInt) (hp 0 (by omega)).1 hp n (Nat.le_refl _)
  have b := mnP (z := (Y 0).toInt) (hp 0 (by omega)).2 hp n (Nat.le_refl _)
  have c := mulB (u := mxI (X 0).toInt X n - mnI (X 0).toInt X n) (v := mxI (Y 0).toInt Y n - mnI (Y 0).toInt Y n) (by omega) (by omega) (by omega) (by omega)
  have d := ar2B hp n (Nat.le_refl _)
  rw [dfB_eq, iI_sub (by omega) (by omega), iI_sub (by omega) (by omega), iI_64 (by omega), iI_64 (by omega), jI_2, Int.mul_assoc]
  have hu : -1000 ≤ mxI (X 0).toInt X n - mnI (X 0).toInt X n ∧ mxI (X 0).toInt X n - mnI (X 0).toInt X n ≤ 1000 := by omega
  have hv : -1000 ≤ mxI (Y 0).toInt Y n - mnI (Y 0).toInt Y n ∧ mxI (Y 0).toInt Y n - mnI (Y 0).toInt Y n ≤ 1000 := by omega
  clear a b
  generalize mxI (X 0).toInt X n - mnI (X 0).toInt X n = u at *
  generalize mxI (Y 0).toInt Y n - mnI (Y 0).toInt Y n = v at *
  generalize ar2 n X Y n = r at *
  have e : jI 2 * jI u * jI v = jI (2 * (u * v)) := by
    refine jI_of ?_
    have h2 : (jI 2 * jI u).toInt = 2 * u := by rw [fb_mulL (by rw [jI_toInt (by omega), jI_toInt (by omega)]; omega) (by rw [jI_toInt (by omega), jI_toInt (by omega)]; omega), jI_toInt (by omega), jI_toInt (by omega)]
    have h3 : 2 * u * v = 2 * (u * v) := Int.mul_assoc _ _ _
    rw [fb_mulL (by rw [h2, jI_toInt (by omega), h3]; omega) (by rw [h2, jI_toInt (by omega), h3]; omega), h2, jI_toInt (by omega), h3]
  rw [e, jI_sub (by omega) (by omega)]
end
section
/-! a place's distance from an edge -/
theorem mulC {u v : Int} (h1 : -2000 ≤ u ∧ u ≤ 2000) (h2 : -2000 ≤ v ∧ v ≤ 2000) : -4000000 ≤ u * v ∧ u * v ≤ 4000000 := by
  have a := Int.mul_nonneg (show 0 ≤ 2000 - u by omega) (show 0 ≤ 2000 - v by omega)
  have b := Int.mul_nonneg (show 0 ≤ 2000 + u by omega) (show 0 ≤ 2000 + v by omega)
  have c := Int.mul_nonneg (show 0 ≤ 2000 - u by omega) (show 0 ≤ 2000 + v by omega)
  have d := Int.mul_nonneg (show 0 ≤ 2000 + u by omega) (show 0 ≤ 2000 - v by omega)
  simp only [Int.sub_mul, Int.mul_sub, Int.add_mul, Int.mul_add] at a b c d
  omega
theorem sm2 {u v w z : Int} (h1 : -2000 ≤ u ∧ u ≤ 2000) (h2 : -2000 ≤ v ∧ v ≤ 2000) (h3 : -2000 ≤ w ∧ w ≤ 2000) (h4 : -2000 ≤ z ∧ z ≤ 2000) : jI u * jI v + jI w * jI z = jI (u * v + w * z) := by
  have a := mulC h1 h2; have b := mulC h3 h4
  rw [jI_mul (by omega) (by omega) (by omega), jI_mul (by omega) (by omega) (by omega), jI_add (by omega) (by omega)]
theorem sd2 {u v w z : Int} (h1 : -2000 ≤ u ∧ u ≤ 2000) (h2 : -2000 ≤ v ∧ v ≤ 2000) (h3 : -2000 ≤ w ∧ w ≤ 2000) (h4 : -2000 ≤ z ∧ z ≤ 2000) : jI u * jI v - jI w * jI z = jI (u * v - w * z) := by
  have a := mulC h1 h2; have b := mulC h3 h4
  rw [jI_mul (by omega) (by omega) (by omega), jI_mul (by omega) (by omega) (by omega), jI_sub (by omega) (by omega)]
theorem sj {x y : Int32} (h1 : pl x) (h2 : pl y) : (x - y).toInt64 = jI (x.toInt - y.toInt) := by
  have h1' := h1; have h2' := h2; unfold pl at h1' h2'
  rw [sub_pl h1 h2, iI_64 (by omega)]
theorem sB {x y : Int32} (h1 : pl x) (h2 : pl y) : -1000 ≤ x.toInt - y.toInt ∧ x.toInt - y.toInt ≤ 1000 := by unfold pl at h1 h2; omega
theorem nr_len {a1 a2 b1 b2 : Int32} (h1 : pl a1) (h2 : pl a2) (h3 : pl b1) (h4 : pl b2) : (b1 - a1).toInt64 * (b1 - a1).toInt64 + (b2 - a2).toInt64 * (b2 - a2).toInt64 = jI (nrL a1.toInt a2.toInt b1.toInt b2.toInt) := by
  have p := sB h3 h1; have q := sB h4 h2
  rw [sj h3 h1, sj h4 h2, sm2 (by omega) (by omega) (by omega) (by omega)]; rfl
theorem nr_dot {a1 a2 b1 b2 x y : Int32} (h1 : pl a1) (h2 : pl a2) (h3 : pl b1) (h4 : pl b2) (h5 : pl x) (h6 : pl y) : (b1 - a1).toInt64 * (x - a1).toInt64 + (b2 - a2).toInt64 * (y - a2).toInt64 = jI (nrT a1.toInt a2.toInt b1.toInt b2.toInt x.toInt y.toInt) := by
  have p := sB h3 h1; have q := sB h4 h2; have r := sB h5 h1; have t := sB h6 h2
  rw [sj h3 h1, sj h4 h2, sj h5 h1, sj h6 h2, sm2 (by omega) (by omega) (by omega) (by omega)]; rfl
theorem nrL_b {a1 a2 b1 b2 : Int32} (h1 : pl a1) (h2 : pl a2) (h3 : pl b1) (h4 : pl b2) : 0 ≤ nrL a1.toInt a2.toInt b1.toInt b2.toInt ∧ nrL a1.toInt a2.toInt b1.toInt b2.toInt ≤ 2000000 := by
  have p := sB h3 h1; have q := sB h4 h2
  have a := mulB p.1 p.2 p.1 p.2; have b := mulB q.1 q.2 q.1 q.2
  have c := sqZ (u := b1.toInt - a1.toInt); have d := sqZ (u := b2.toInt - a2.toInt)
  unfold nrL; omega
theorem nrT_b {a1 a2 b1 b2 x y : Int32} (h1 : pl a1) (h2 : pl a2) (h3 : pl b1) (h4 : pl b2) (h5 : pl x) (h6 : pl y) : -2000000 ≤ nrT a1.toInt a2.toInt b1.toInt b2.toInt x.toInt y.toInt ∧ nrT a1.toInt a2.toInt b1.toInt b2.toInt x.toInt y.toInt ≤ 2000000 := by
  have p := sB h3 h1; have q := sB h4 h2; have r := sB h5 h1; have t := sB h6 h2
  have a := mulB p.1 p.2 r.1 r.2; have b := mulB q.1 q.2 t.1 t.2
  unfold nrT; omega
theorem nr_u0 {a1 a2 b1 b2 x y : Int32} (h1 : pl a1) (h2 : pl a2) (h5 : pl x) (h6 : pl y) (h : nrT a1.toInt a2.toInt b1.toInt b2.toInt x.toInt y.toInt ≤ 0) : (x - a1).toInt64 * (x - a1).toInt64 + (y - a2).toInt64 * (y - a2).toInt64 = jI (nrU a1.toInt a2.toInt b1.toInt b2.toInt x.toInt y.toInt) := by
  have r := sB h5 h1; have t := sB h6 h2
  rw [sj h5 h1, sj h6 h2, sm2 (by omega) (by omega) (by omega) (by omega)]; unfold nrU; rw [if_pos h]
theorem jI_sb {u v : Int} (h1 : -2000 ≤ u ∧ u ≤ 2000) (h2 : -2000 ≤ v ∧ v ≤ 2000) : jI u - jI v = jI (u - v) := jI_sub (by omega) (by omega)
theorem nr_u1 {a1 a2 b1 b2 x y : Int32} (h1 : pl a1) (h2 : pl a2) (h3 : pl b1) (h4 : pl b2) (h5 : pl x) (h6 : pl y) (h : ¬ nrT a1.toInt a2.toInt b1.toInt b2.toInt x.toInt y.toInt ≤ 0) (hh : nrL a1.toInt a2.toInt b1.toInt b2.toInt ≤ nrT a1.toInt a2.toInt b1.toInt b2.toInt x.toInt y.toInt) : ((x - a1).toInt64 - (b1 - a1).toInt64) * ((x - a1).toInt64 - (b1 - a1).toInt64) + ((y - a2).toInt64 - (b2 - a2).toInt64) * ((y - a2).toInt64 - (b2 - a2).toInt64) = jI (nrU a1.toInt a2.toInt b1.toInt b2.toInt x.toInt y.toInt) := by
  have p := sB h3 h1; have q := sB h4 h2; have r := sB h5 h1; have t := sB h6 h2
  rw [sj h3 h1, sj h4 h2, sj h5 h1, sj h6 h2, jI_sb (by omega) (by omega), jI_sb (by omega) (by omega), sm2 (by omega) (by omega) (by omega) (by omega)]; unfold nrU; rw [if_neg h, if_pos hh]
theorem nr_u2 {a1 a2 b1 b2 x y : Int32} (h1 : pl a1) (h2 : pl a2) (h3 : pl b1) (h4 : pl b2) (h5 : pl x) (h6 : pl y) (h : ¬ nrT a1.toInt a2.toInt b1.toInt b2.toInt x.toInt y.toInt ≤ 0) (hh : ¬ nrL a1.toInt a2.toInt b1.toInt b2.toInt ≤ nrT a1.toInt a2.toInt b1.toInt b2.toInt x.toInt y.toInt) : ((b1 - a1).toInt64 * (y - a2).toInt64 - (b2 - a2).toInt64 * (x - a1).toInt64) * ((b1 - a1).toInt64 * (y - a2).toInt64 - (b2 - a2).toInt64 * (x - a1).toInt64) = jI (nrU a1.toInt a2.toInt b1.toInt b2.toInt x.toInt y.toInt) := by
  have p := sB h3 h1; have q := sB h4 h2; have r := sB h5 h1; have t := sB h6 h2
  have c := crBp h1 h2 h3 h4 h5 h6
  have d := sqM c
  rw [sj h3 h1, sj h4 h2, sj h5 h1, sj h6 h2, sd2 (by omega) (by omega) (by omega) (by omega)]
  show jI (cr a1.toInt a2.toInt b1.toInt b2.toInt x.toInt y.toInt) * jI (cr a1.toInt a2.toInt b1.toInt b2.toInt x.toInt y.toInt) = _
  rw [jI_mul (by omega) (by omega) (by omega)]; unfold nrU; rw [if_neg h, if_neg hh]
theorem nrU_b {a1 a2 b1 b2 x y : Int32} (h1 : pl a1) (h2 : pl a2) (h3 : pl b1) (h4 : pl b2) (h5 : pl x) (h6 : pl y) : (0 ≤ nrU a1.toInt a2.toInt b1.toInt b2.toInt x.toInt y.toInt ∧ nrU a1.toInt a2.toInt b1.toInt b2.toInt x.toInt y.toInt ≤ 4000000000000) ∧ (1 ≤ nrD a1.toInt a2.toInt b1.toInt b2.toInt x.toInt y.toInt ∧ nrD a1.toInt a2.toInt b1.toInt b2.toInt x.toInt y.toInt ≤ 2000000) := by
  have p := sB h3 h1; have q := sB h4 h2; have r := sB h5 h1; have t := sB h6 h2
  have c := sqM (crBp h1 h2 h3 h4 h5 h6)
  have l := nrL_b h1 h2 h3 h4
  have s1 := sqN (u := x.toInt - a1.toInt) (by omega); have s2 := sqN (u := y.toInt - a2.toInt) (by omega)
  have s3 := sqN (u := x.toInt - a1.toInt - (b1.toInt - a1.toInt)) (by omega); have s4 := sqN (u := y.toInt - a2.toInt - (b2.toInt - a2.toInt)) (by omega)
  unfold nrU nrD
  by_cases e1 : nrT a1.toInt a2.toInt b1.toInt b2.toInt x.toInt y.toInt ≤ 0
  · rw [if_pos e1, if_pos e1]; omega
  · rw [if_neg e1, if_neg e1]
    by_cases e2 : nrL a1.toInt a2.toInt b1.toInt b2.toInt ≤ nrT a1.toInt a2.toInt b1.toInt b2.toInt x.toInt y.toInt
    · rw [if_pos e2, if_pos e2]; omega
    · rw [if_neg e2, if_neg e2]
      have : nrL a1.toInt a2.toInt b1.toInt b2.toInt ≠ 0 := fun h => e2 (by rw [h, nrT_0 h]; exact Int.le_refl _)
      omega
theorem nrD_0 {a1 a2 b1 b2 x y : Int} (h : nrT a1 a2 b1 b2 x y ≤ 0) : nrD a1 a2 b1 b2 x y = 1 := by unfold nrD; rw [if_pos h]
theorem nrD_1 {a1 a2 b1 b2 x y : Int} (h : ¬ nrT a1 a2 b1 b2 x y ≤ 0) (hh : nrL a1 a2 b1 b2 ≤ nrT a1 a2 b1 b2 x y) : nrD a1 a2 b1 b2 x y = 1 := by unfold nrD; rw [if_neg h, if_pos hh]
theorem nrD_2 {a1 a2 b1 b2 x y : Int} (h : ¬ nrT a1 a2 b1 b2 x y ≤ 0) (hh : ¬ nrL a1 a2 b1 b2 ≤ nrT a1 a2 b1 b2 x y) : nrD a1 a2 b1 b2 x y = nrL a1 a2 b1 b2 := by unfold nrD; rw [if_neg h, if_neg hh]
/-- the nearer of two fractions; the first is none as long as its under is 0 -/
def ndP (u d U D zu zd : Int) : Prop := ((d = 0 ∨ U * d < u * D) ∧ zu = U ∧ zd = D) ∨ (¬ (d = 0 ∨ U * d < u * D) ∧ zu = u ∧ zd = d)
theorem jI_1 : (1 : Int64) = jI 1 := jI_of (by decide)
end
section
/-! FEW: areas, and who comes before whom -/
def arF (mn cx cy : Nat → Int32) (f : Nat) : Nat := Int.natAbs (ar2 (nN (mn f)) (cF40 cx f) (cF40 cy f) (nN (mn f)))
theorem arF_b {mn cx cy : Nat → Int32} {f : Nat} (h : wfM mn cx cy f) : arF mn cx cy f ≤ 40000000 := by
  have h2 := ar2B h.2.2 _ (Nat.le_refl _)
  have h3 := h.2.1
  unfold arF; omega
def smF (ft : Nat) (st tn kd mn cx cy : Nat → Int32) (le : Int) (f : Nat) : Prop := lvF ft st tn f ∧ (kd f).toInt = 6 ∧ ((arF mn cx cy f : Nat) : Int) < le
def gtF (ft : Nat) (st tn kd mn tw cx cy : Nat → Int32) (f g : Nat) : Prop := g ≠ f ∧ lvF ft st tn g ∧ (kd g).toInt = 6 ∧ (tw g).toInt = (tw f).toInt ∧ (arF mn cx cy f < arF mn cx cy g ∨ (arF mn cx cy g = arF mn cx cy f ∧ g < f))
/-- those that go by FEW -/
def fwM (ft : Nat) (st tn kd mn tw cx cy : Nat → Int32) (le mv : Int) (f : Nat) : Prop := smF ft st tn kd mn cx cy le f ∧ mv ≤ ((cntP (gtF ft st tn kd mn tw cx cy f) ft : Nat) : Int)
theorem fw_s {ft : Nat} {st tn kd mn tw cx cy : Nat → Int32} {le mv : Int} {f : Nat} (h : ¬ smF ft st tn kd mn cx cy le f) : (0 : Int32) = pI (fwM ft st tn kd mn tw cx cy le mv f) := (zp_f (fun q => h q.1)).symm
theorem fw_t {ft : Nat} {st tn kd mn tw cx cy : Nat → Int32} {le mv : Int} {f k : Nat} (h : smF ft st tn kd mn cx cy le f) (hk : k = ft) (hm : mv ≤ ((cntP (gtF ft st tn kd mn tw cx cy f) k : Nat) : Int)) : (1 : Int32) = pI (fwM ft st tn kd mn tw cx cy le mv f) := by
  rw [hk] at hm; exact (zp_t ⟨h, hm⟩).symm
theorem fw_n {ft : Nat} {st tn kd mn tw cx cy : Nat → Int32} {le mv : Int} {f k : Nat} (hk : k = ft) (hm : ((cntP (gtF ft st tn kd mn tw cx cy f) k : Nat) : Int) < mv) : (0 : Int32) = pI (fwM ft st tn kd mn tw cx cy le mv f) := by
  rw [hk] at hm; exact (zp_f (fun q => by have := q.2; omega)).symm
end
section
/-! RUN: one feature, a pass over all, passes till one takes nothing -/
def rn1 (ft : Nat) (st tn kd : Nat → Int32) (L g : Nat) (mn cx cy : Nat → Int32) (m : Nat) (mn1 cx1 cy1 : Nat → Int32) : Prop :=
  ((lvF ft st tn g ∧ ¬ (kd g).toInt = 0 ∧ ¬ (kd g).toInt = 6) → ∃ n1, plN ft st tn kd g L m mn cx cy (nN (mn g)) mn1 cx1 cy1 n1) ∧ (¬ (lvF ft st tn g ∧ ¬ (kd g).toInt = 0 ∧ ¬ (kd g).toInt = 6) → m = 0 ∧ mn1 = mn ∧ cx1 = cx ∧ cy1 = cy)
def rnP (ft : Nat) (st tn kd : Nat → Int32) (L : Nat) : Nat → (Nat → Int32) → (Nat → Int32) → (Nat → Int32) → Nat → (Nat → Int32) → (Nat → Int32) → (Nat → Int32) → Prop
  | 0, mn, cx, cy, t, mn1, cx1, cy1 => t = 0 ∧ mn1 = mn ∧ cx1 = cx ∧ cy1 = cy
  | j + 1, mn, cx, cy, t, mn1, cx1, cy1 => ∃ m mn2 cx2 cy2 t2, rn1 ft st tn kd L (ft - (j + 1)) mn cx cy m mn2 cx2 cy2 ∧ rnP ft st tn kd L j mn2 cx2 cy2 t2 mn1 cx1 cy1 ∧ t = m + t2
def rnA (ft : Nat) (st tn kd : Nat → Int32) (L : Nat) : Nat → (Nat → Int32) → (Nat → Int32) → (Nat → Int32) → Nat → (Nat → Int32) → (Nat → Int32) → (Nat → Int32) → Prop
  | 0, _, _, _, _, _, _, _ => False
  | p + 1, mn, cx, cy, t, mn1, cx1, cy1 => ∃ t2 mn2 cx2 cy2, rnP ft st tn kd L ft mn cx cy t2 mn2 cx2 cy2 ∧ ((t2 = 0 ∧ t = 0 ∧ mn1 = mn2 ∧ cx1 = cx2 ∧ cy1 = cy2) ∨ (0 < t2 ∧ ∃ t3, rnA ft st tn kd L p mn2 cx2 cy2 t3 mn1 cx1 cy1 ∧ t = t2 + t3))
def allI (ft : Nat) (st tn kd mn cx cy : Nat → Int32) : Prop := ∀ q, lvF ft st tn q → wfM mn cx cy q ∧ (5 ≤ (kd q).toInt → 3 ≤ nN (mn q))
theorem allI_p {ft : Nat} {st tn kd mn cx cy : Nat → Int32} {g : Nat} (h : allI ft st tn kd mn cx cy) (hg : lvF ft st tn g) : plI ft st tn kd g mn cx cy (nN (mn g)) :=
  ⟨(h g hg).1.1, (h g hg).1.2.1, (h g hg).1.2.2, fun q hq => (h q hq).1, (h g hg).2⟩
theorem allI_s {ft : Nat} {st tn kd mn cx cy mn1 cx1 cy1 : Nat → Int32} {g m L n1 : Nat} (h : allI ft st tn kd mn cx cy) (hg : lvF ft st tn g) (hp : plN ft st tn kd g L m mn cx cy (nN (mn g)) mn1 cx1 cy1 n1) : allI ft st tn kd mn1 cx1 cy1 ∧ m ≤ 40 := by
  have h2 := plN_end m _ _ _ _ _ _ _ n1 (allI_p h hg) hp
  have h40 := (h g hg).1.2.1
  refine ⟨fun q hq => ⟨h2.1.2.2.2.1 q hq, fun h5 => ?_⟩, by have := h2.2.1; omega⟩
  by_cases e : q = g
  · subst e
    rw [h2.1.1, nN_nI (by have := h2.1.2.1; omega)]; exact h2.1.2.2.2.2 h5
  · rw [h2.2.2.1 q e]; exact (h q hq).2 h5
theorem rnP_s {ft : Nat} {st tn kd : Nat → Int32} {L q : Nat} {mn cx cy mn1 cx1 cy1 : Nat → Int32} {t : Nat} (hq : q < ft) (h : rnP ft st tn kd L (ft - q) mn cx cy t mn1 cx1 cy1) : ∃ m mn2 cx2 cy2 t2, rn1 ft st tn kd L q mn cx cy m mn2 cx2 cy2 ∧ rnP ft st tn kd L (ft - (q + 1)) mn2 cx2 cy2 t2 mn1 cx1 cy1 ∧ t = m + t2 := by
  obtain ⟨j, hj⟩ : ∃ j, ft - q = j + 1 := ⟨ft - q - 1, by omega⟩
  rw [hj] at h
  obtain ⟨m, mn2, cx2, cy2, t2, h1, h2, h3⟩ := h
  rw [show ft - (j + 1) = q by omega] at h1
  exact ⟨m, mn2, cx2, cy2, t2, h1, by rw [show ft - (q + 1) = j by omega]; exact h2, h3⟩
theorem rnP_z {ft : Nat} {st tn kd : Nat → Int32} {L j : Nat} {mn cx cy mn1 cx1 cy1 : Nat → Int32} {t : Nat} (hj : j = 0) (h : rnP ft st tn kd L j mn cx cy t mn1 cx1 cy1) : t = 0 ∧ mn1 = mn ∧ cx1 = cx ∧ cy1 = cy := by subst hj; exact h
theorem dlN_mono {a b : Nat} (h : a ≤ b) (cl ln : Nat) : dlN a cl ln ≤ dlN b cl ln := by
  obtain ⟨k, rfl⟩ : ∃ k, b = a + k := ⟨b - a, by omega⟩
  rw [dlN_add]; exact dlN_le _ _ _
theorem dlN_fit : ∀ (m cl ln : Nat), ln ≤ 64 * cl → 1 ≤ cl → ln + m ≤ 64 * dlN m cl ln := by
  intro m
  induction m with
  | zero => intro cl ln h _; exact h
  | succ m ih =>
    intro cl ln h h1
    have h2 := ih (dl cl ln) (ln + 1) (dl_fit h h1) (by have := dl_le cl ln; omega)
    show ln + (m + 1) ≤ 64 * dlN m (dl cl ln) (ln + 1); omega
/-- how RUN stands between two passes: goes on (x 1) or is through (x 0) -/
def rnM (ft : Nat) (st tn kd : Nat → Int32) (L T : Nat) (mn1 cx1 cy1 : Nat → Int32) (x : Int32) (pp nC : Nat) (mn cx cy : Nat → Int32) : Prop := (x = 1 ∧ ∃ t, rnA ft st tn kd L pp mn cx cy t mn1 cx1 cy1 ∧ nC + t = T) ∨ (x = 0 ∧ mn1 = mn ∧ cx1 = cx ∧ cy1 = cy ∧ nC = T)
theorem rnM_s {ft : Nat} {st tn kd : Nat → Int32} {L T : Nat} {mn1 cx1 cy1 : Nat → Int32} {x : Int32} {pp nC : Nat} {mn cx cy : Nat → Int32} (h : rnM ft st tn kd L T mn1 cx1 cy1 x pp nC mn cx cy) (hx : ¬ x.toInt = 0) : ∃ p t mn2 cx2 cy2, pp = p + 1 ∧ rnP ft st tn kd L ft mn cx cy t mn2 cx2 cy2 ∧ (t = 0 → rnM ft st tn kd L T mn1 cx1 cy1 0 0 nC mn2 cx2 cy2) ∧ (0 < t → rnM ft st tn kd L T mn1 cx1 cy1 1 p (nC + t) mn2 cx2 cy2) ∧ nC + t ≤ T := by
  rcases h with ⟨h, t, hA, ht⟩ | ⟨h, _⟩
  · cases pp with
    | zero => exact absurd hA (fun h => h)
    | succ p =>
      obtain ⟨t2, mn2, cx2, cy2, h1, h2⟩ := hA
      refine ⟨p, t2, mn2, cx2, cy2, rfl, h1, fun h0 => ?_, fun h0 => ?_, ?_⟩
      · rcases h2 with ⟨_, e2, e3, e4, e5⟩ | ⟨e, _⟩
        · exact Or.inr ⟨rfl, e3, e4, e5, by omega⟩
        · omega
      · rcases h2 with ⟨e, _⟩ | ⟨_, t3, h3, h4⟩
        · omega
        · exact Or.inl ⟨rfl, t3, h3, by omega⟩
      · rcases h2 with ⟨e, _⟩ | ⟨_, t3, h3, h4⟩ <;> omega
  · rw [h] at hx; exact absurd (by decide) hx
theorem rnM_z {ft : Nat} {st tn kd : Nat → Int32} {L T : Nat} {mn1 cx1 cy1 : Nat → Int32} {x : Int32} {pp nC : Nat} {mn cx cy : Nat → Int32} (h : rnM ft st tn kd L T mn1 cx1 cy1 x pp nC mn cx cy) (hx : x.toInt = 0) : mn1 = mn ∧ cx1 = cx ∧ cy1 = cy ∧ nC = T := by
  rcases h with ⟨h, _⟩ | ⟨_, h⟩
  · rw [h] at hx; exact absurd hx (by decide)
  · exact h
theorem rnM_le {ft : Nat} {st tn kd : Nat → Int32} {L T : Nat} {mn1 cx1 cy1 : Nat → Int32} {x : Int32} {pp nC : Nat} {mn cx cy : Nat → Int32} (h : rnM ft st tn kd L T mn1 cx1 cy1 x pp nC mn cx cy) : nC ≤ T := by
  rcases h with ⟨_, t, _, ht⟩ | ⟨_, _, _, _, h⟩ <;> omega
end
section
theorem wyR_b {kf : Int} {n k i : Nat} (hk : k < n) (hi : i < n) : wyR kf n k i ≤ n := by
  unfold wyR
  by_cases h : 5 ≤ kf
  · rw [if_pos h]; omega
  · rw [if_neg h]; omega
end
section
/-! queries of the reference -/
noncomputable def smP (P : Nat → Prop) (c : Nat → Nat) : Nat → Nat
  | 0 => 0
  | n + 1 => smP P c n + @ite Nat (P n) (Classical.propDecidable _) (c n) 0
theorem smP_y {P : Nat → Prop} {c : Nat → Nat} {n : Nat} (h : P n) : smP P c (n + 1) = smP P c n + c n := by show smP P c n + _ = _; rw [if_pos h]
theorem smP_n {P : Nat → Prop} {c : Nat → Nat} {n : Nat} (h : ¬ P n) : smP P c (n + 1) = smP P c n + 0 := by show smP P c n + _ = _; rw [if_neg h]
theorem cntP_n0 {P : Nat → Prop} {n : Nat} (h : ¬ P n) : cntP P (n + 1) = cntP P n + 0 := by rw [cntP_n h]; rfl
theorem smP_b {P : Nat → Prop} {c : Nat → Nat} (n : Nat) (h : ∀ j, j < n → P j → c j ≤ 40) : smP P c n ≤ 40 * n := by
  induction n with
  | zero => exact Nat.le_refl _
  | succ n ih =>
    have h2 := ih (fun j hj => h j (by omega))
    by_cases q : P n
    · rw [smP_y q]; have := h n (by omega) q; omega
    · rw [smP_n q]; omega
/-- 2 of its set, 1 inside, 0 else -/
noncomputable def inV (p q : Prop) : Int32 := @ite Int32 p (Classical.propDecidable _) 2 (pI q)
theorem inV_2 {p q : Prop} (h : p) : (2 : Int32) = inV p q := by unfold inV; rw [if_pos h]
theorem inV_1 {p q : Prop} (h : ¬ p) (h2 : q) : (1 : Int32) = inV p q := by unfold inV; rw [if_neg h, zp_t h2]
theorem inV_0 {p q : Prop} (h : ¬ p) (h2 : ¬ q) : (0 : Int32) = inV p q := by unfold inV; rw [if_neg h, zp_f h2]
end
section
/-! fractions made plain -/
theorem jN_ne {a : Nat} (h : 0 < a) (h2 : a ≤ 4000000000000) : ¬ jI ((a : Nat) : Int) = 0 := fun q => by
  have e : (jI ((a : Nat) : Int)).toInt = (0 : Int64).toInt := by rw [q]
  rw [jI_toInt (by omega)] at e
  have e0 : (0 : Int64).toInt = 0 := by decide
  omega
theorem jN_div {a b : Nat} (ha : 0 < a) (ha2 : a ≤ 4000000000000) (hb : b ≤ 4000000000000) : jI ((b : Nat) : Int) / jI ((a : Nat) : Int) = jI ((b / a : Nat) : Int) := by
  refine jI_of ?_
  have hd : b / a ≤ b := Nat.div_le_self b a
  rw [Int64.toInt_div, jI_toInt (by omega), jI_toInt (by omega), Int.tdiv_eq_ediv_of_nonneg (by omega), ← Int.natCast_ediv]
  generalize b / a = q at *
  exact fb_bmodL (by omega) (by omega)
theorem jN_rem {a b : Nat} (ha : 0 < a) (ha2 : a ≤ 4000000000000) (hb : b ≤ 4000000000000) : jI ((b : Nat) : Int) - jI ((b : Nat) : Int) / jI ((a : Nat) : Int) * jI ((a : Nat) : Int) = jI ((b % a : Nat) : Int) := by
  have h1 : b / a * a ≤ b := Nat.div_mul_le_self b a
  have h2 : a * (b / a) + b % a = b := Nat.div_add_mod b a
  have h3 : a * (b / a) = b / a * a := Nat.mul_comm _ _
  have hd : b / a ≤ b := Nat.div_le_self b a
  have h4 : ((b / a : Nat) : Int) * ((a : Nat) : Int) = ((b / a * a : Nat) : Int) := (Int.natCast_mul _ _).symm
  rw [jN_div ha ha2 hb]
  generalize b / a = q at *
  generalize b % a = r at *
  refine jI_of ?_
  have e : (jI ((q : Nat) : Int) * jI ((a : Nat) : Int)).toInt = ((q * a : Nat) : Int) := by
    rw [fb_mulL (by rw [jI_toInt (by omega), jI_toInt (by omega), h4]; omega) (by rw [jI_toInt (by omega), jI_toInt (by omega), h4]; omega), jI_toInt (by omega), jI_toInt (by omega), h4]
  rw [fb_subL (by rw [e, jI_toInt (by omega)]; omega) (by rw [e, jI_toInt (by omega)]; omega), e, jI_toInt (by omega)]
  omega
end
section
/-! DISTANCE: the least of all distances of ends from edges -/
def dcS (n : Nat) (X Y : Nat → Int32) (m : Nat) (U V : Nat → Int32) (i k : Nat) (zu zd : Int) : Prop :=
  (zu = nrU (X i).toInt (Y i).toInt (X (nxt n i)).toInt (Y (nxt n i)).toInt (U k).toInt (V k).toInt ∧ zd = nrD (X i).toInt (Y i).toInt (X (nxt n i)).toInt (Y (nxt n i)).toInt (U k).toInt (V k).toInt) ∨
  (zu = nrU (X i).toInt (Y i).toInt (X (nxt n i)).toInt (Y (nxt n i)).toInt (U (nxt m k)).toInt (V (nxt m k)).toInt ∧ zd = nrD (X i).toInt (Y i).toInt (X (nxt n i)).toInt (Y (nxt n i)).toInt (U (nxt m k)).toInt (V (nxt m k)).toInt) ∨
  (zu = nrU (U k).toInt (V k).toInt (U (nxt m k)).toInt (V (nxt m k)).toInt (X i).toInt (Y i).toInt ∧ zd = nrD (U k).toInt (V k).toInt (U (nxt m k)).toInt (V (nxt m k)).toInt (X i).toInt (Y i).toInt) ∨
  (zu = nrU (U k).toInt (V k).toInt (U (nxt m k)).toInt (V (nxt m k)).toInt (X (nxt n i)).toInt (Y (nxt n i)).toInt ∧ zd = nrD (U k).toInt (V k).toInt (U (nxt m k)).toInt (V (nxt m k)).toInt (X (nxt n i)).toInt (Y (nxt n i)).toInt)
/-- a fraction is the least of a set of them, or there is none yet -/
def IM (P : Int → Int → Prop) (u d : Int) : Prop := (d = 0 ∧ u = 0 ∧ ∀ U D, ¬ P U D) ∨ (1 ≤ d ∧ P u d ∧ ∀ U D, P U D → u * D ≤ U * d)
theorem IM_cg {P Q : Int → Int → Prop} {u d : Int} (h : ∀ U D, P U D ↔ Q U D) (hI : IM P u d) : IM Q u d := by
  rcases hI with ⟨h1, h2, h3⟩ | ⟨h1, h2, h3⟩
  · exact Or.inl ⟨h1, h2, fun U D q => h3 U D ((h U D).mpr q)⟩
  · exact Or.inr ⟨h1, (h u d).mp h2, fun U D q => h3 U D ((h U D).mpr q)⟩
theorem fr_tr {u d U D V E : Int} (hd : 1 ≤ d) (hD : 1 ≤ D) (hE : 1 ≤ E) (h1 : U * d < u * D) (h2 : u * E ≤ V * d) : U * E ≤ V * D := by
  have a : U * d * E ≤ u * D * E := Int.mul_le_mul_of_nonneg_right (Int.le_of_lt h1) (by omega)
  have b : u * E * D ≤ V * d * D := Int.mul_le_mul_of_nonneg_right h2 (by omega)
  have c : U * E * d ≤ V * D * d := by
    have e1 : U * E * d = U * d * E := by rw [Int.mul_assoc, Int.mul_comm E d, ← Int.mul_assoc]
    have e2 : u * D * E = u * E * D := by rw [Int.mul_assoc, Int.mul_comm D E, ← Int.mul_assoc]
    have e3 : V * d * D = V * D * d := by rw [Int.mul_assoc, Int.mul_comm d D, ← Int.mul_assoc]
    omega
  exact Int.le_of_mul_le_mul_right c (by omega)
theorem IM_s {P : Int → Int → Prop} {u d U D zu zd : Int} (hI : IM P u d) (hP : ∀ A B, P A B → 1 ≤ B) (hD : 1 ≤ D) (hn : ndP u d U D zu zd) : IM (fun A B => P A B ∨ (A = U ∧ B = D)) zu zd := by
  rcases hn with ⟨h1, rfl, rfl⟩ | ⟨h1, rfl, rfl⟩
  · refine Or.inr ⟨hD, Or.inr ⟨rfl, rfl⟩, fun A B hAB => ?_⟩
    rcases hAB with hAB | ⟨rfl, rfl⟩
    · rcases hI with ⟨_, _, h3⟩ | ⟨g1, g2, g3⟩
      · exact absurd hAB (h3 A B)
      · rcases h1 with h1 | h1
        · omega
        · exact fr_tr g1 hD (hP A B hAB) h1 (g3 A B hAB)
    · exact Int.le_refl _
  · rcases hI with ⟨g1, _⟩ | ⟨g1, g2, g3⟩
    · exact absurd (Or.inl g1) h1
    · refine Or.inr ⟨g1, Or.inl g2, fun A B hAB => ?_⟩
      rcases hAB with hAB | ⟨rfl, rfl⟩
      · exact g3 A B hAB
      · exact Int.not_lt.mp (fun q => h1 (Or.inr q))
theorem IM_p {P : Int → Int → Prop} {U D : Int} (hP : ∀ A B, P A B → 1 ≤ B) (hD : 1 ≤ D) : ∀ A B, (P A B ∨ (A = U ∧ B = D)) → 1 ≤ B := fun A B g => g.elim (hP A B) (fun g => by rw [g.2]; exact hD)
theorem ndP_b {u d U D zu zd : Int} (h1 : 0 ≤ u ∧ u ≤ 4000000000000) (h2 : 0 ≤ d ∧ d ≤ 2000000) (hU : (0 ≤ U ∧ U ≤ 4000000000000) ∧ (1 ≤ D ∧ D ≤ 2000000)) (h : ndP u d U D zu zd) : (0 ≤ zu ∧ zu ≤ 4000000000000) ∧ (0 ≤ zd ∧ zd ≤ 2000000) := by
  rcases h with ⟨_, rfl, rfl⟩ | ⟨_, rfl, rfl⟩
  · exact ⟨hU.1, by omega, hU.2.2⟩
  · exact ⟨h1, h2⟩
theorem dcS_b {n : Nat} {X Y : Nat → Int32} {m : Nat} {U V : Nat → Int32} {i k : Nat} (hp : pls n X Y) (hq : pls m U V) (hi : i < n) (hk : k < m) {A B : Int} (h : dcS n X Y m U V i k A B) : 1 ≤ B := by
  have hi2 := nxt_lt (n := n) (i := i) (by omega); have hk2 := nxt_lt (n := m) (i := k) (by omega)
  rcases h with ⟨_, rfl⟩ | ⟨_, rfl⟩ | ⟨_, rfl⟩ | ⟨_, rfl⟩
  · exact (nrU_b (hp i hi).1 (hp i hi).2 (hp _ hi2).1 (hp _ hi2).2 (hq k hk).1 (hq k hk).2).2.1
  · exact (nrU_b (hp i hi).1 (hp i hi).2 (hp _ hi2).1 (hp _ hi2).2 (hq _ hk2).1 (hq _ hk2).2).2.1
  · exact (nrU_b (hq k hk).1 (hq k hk).2 (hq _ hk2).1 (hq _ hk2).2 (hp i hi).1 (hp i hi).2).2.1
  · exact (nrU_b (hq k hk).1 (hq k hk).2 (hq _ hk2).1 (hq _ hk2).2 (hp _ hi2).1 (hp _ hi2).2).2.1
/-- the candidates of the first pairs of edges -/
def dcP (n : Nat) (X Y : Nat → Int32) (m : Nat) (U V : Nat → Int32) (e i k : Nat) (A B : Int) : Prop := ∃ i1 k1, ((i1 < i ∧ k1 < e) ∨ (i1 = i ∧ k1 < k)) ∧ dcS n X Y m U V i1 k1 A B
theorem dcP_0 (n : Nat) (X Y : Nat → Int32) (m : Nat) (U V : Nat → Int32) (e : Nat) : IM (dcP n X Y m U V e 0 0) 0 0 := Or.inl ⟨rfl, rfl, fun A B ⟨i1, k1, h, _⟩ => by omega⟩
theorem dcP_n {n : Nat} {X Y : Nat → Int32} {m : Nat} {U V : Nat → Int32} {e i : Nat} {u d : Int} (h : IM (dcP n X Y m U V e i e) u d) : IM (dcP n X Y m U V e (i + 1) 0) u d :=
  IM_cg (fun A B => ⟨fun ⟨i1, k1, h, h2⟩ => ⟨i1, k1, by omega, h2⟩, fun ⟨i1, k1, h, h2⟩ => ⟨i1, k1, by omega, h2⟩⟩) h
theorem dcP_s {n : Nat} {X Y : Nat → Int32} {m : Nat} {U V : Nat → Int32} {e i k : Nat} {u d u1 d1 u2 d2 u3 d3 u4 d4 : Int} (hp : pls n X Y) (hq : pls m U V) (hi : i < n) (hk : k < m) (hen : e ≤ m) (h : IM (dcP n X Y m U V e i k) u d)
    (h1 : ndP u d (nrU (X i).toInt (Y i).toInt (X (nxt n i)).toInt (Y (nxt n i)).toInt (U k).toInt (V k).toInt) (nrD (X i).toInt (Y i).toInt (X (nxt n i)).toInt (Y (nxt n i)).toInt (U k).toInt (V k).toInt) u1 d1)
    (h2 : ndP u1 d1 (nrU (X i).toInt (Y i).toInt (X (nxt n i)).toInt (Y (nxt n i)).toInt (U (nxt m k)).toInt (V (nxt m k)).toInt) (nrD (X i).toInt (Y i).toInt (X (nxt n i)).toInt (Y (nxt n i)).toInt (U (nxt m k)).toInt (V (nxt m k)).toInt) u2 d2)
    (h3 : ndP u2 d2 (nrU (U k).toInt (V k).toInt (U (nxt m k)).toInt (V (nxt m k)).toInt (X i).toInt (Y i).toInt) (nrD (U k).toInt (V k).toInt (U (nxt m k)).toInt (V (nxt m k)).toInt (X i).toInt (Y i).toInt) u3 d3)
    (h4 : ndP u3 d3 (nrU (U k).toInt (V k).toInt (U (nxt m k)).toInt (V (nxt m k)).toInt (X (nxt n i)).toInt (Y (nxt n i)).toInt) (nrD (U k).toInt (V k).toInt (U (nxt m k)).toInt (V (nxt m k)).toInt (X (nxt n i)).toInt (Y (nxt n i)).toInt) u4 d4) : IM (dcP n X Y m U V e i (k + 1)) u4 d4 := by
  have hi2 := nxt_lt (n := n) (i := i) (by omega); have hk2 := nxt_lt (n := m) (i := k) (by omega)
  have b1 := (nrU_b (hp i hi).1 (hp i hi).2 (hp _ hi2).1 (hp _ hi2).2 (hq k hk).1 (hq k hk).2).2.1
  have b2 := (nrU_b (hp i hi).1 (hp i hi).2 (hp _ hi2).1 (hp _ hi2).2 (hq _ hk2).1 (hq _ hk2).2).2.1
  have b3 := (nrU_b (hq k hk).1 (hq k hk).2 (hq _ hk2).1 (hq _ hk2).2 (hp i hi).1 (hp i hi).2).2.1
  have b4 := (nrU_b (hq k hk).1 (hq k hk).2 (hq _ hk2).1 (hq _ hk2).2 (hp _ hi2).1 (hp _ hi2).2).2.1
  have p0 : ∀ A B, dcP n X Y m U V e i k A B → 1 ≤ B := fun A B ⟨i1, k1, g, g2⟩ => dcS_b hp hq (by omega) (by omega) g2
  have s1 := IM_s h p0 b1 h1
  have s2 := IM_s s1 (IM_p p0 b1) b2 h2
  have s3 := IM_s s2 (IM_p (IM_p p0 b1) b2) b3 h3
  have s4 := IM_s s3 (IM_p (IM_p (IM_p p0 b1) b2) b3) b4 h4
  refine IM_cg (fun A B => ⟨fun g => ?_, fun g => ?_⟩) s4
  · rcases g with (((g | g) | g) | g) | g
    · obtain ⟨i1, k1, g1, g2⟩ := g; exact ⟨i1, k1, by omega, g2⟩
    · exact ⟨i, k, by omega, Or.inl g⟩
    · exact ⟨i, k, by omega, Or.inr (Or.inl g)⟩
    · exact ⟨i, k, by omega, Or.inr (Or.inr (Or.inl g))⟩
    · exact ⟨i, k, by omega, Or.inr (Or.inr (Or.inr g))⟩
  · obtain ⟨i1, k1, g1, g2⟩ := g
    by_cases q : i1 = i ∧ k1 = k
    · obtain ⟨rfl, rfl⟩ := q
      rcases g2 with g2 | g2 | g2 | g2
      · exact Or.inl (Or.inl (Or.inl (Or.inr g2)))
      · exact Or.inl (Or.inl (Or.inr g2))
      · exact Or.inl (Or.inr g2)
      · exact Or.inr g2
    · exact Or.inl (Or.inl (Or.inl (Or.inl ⟨i1, k1, by omega, g2⟩)))
theorem dcP_e {n : Nat} {X Y : Nat → Int32} {m : Nat} {U V : Nat → Int32} {e i : Nat} {u d : Int} (h : IM (dcP n X Y m U V e i 0) u d) (hi : 1 ≤ i) (he : 1 ≤ e) : 1 ≤ d := by
  rcases h with ⟨_, _, h3⟩ | ⟨h1, _⟩
  · exact absurd ⟨0, 0, by omega, Or.inl ⟨rfl, rfl⟩⟩ (h3 _ _)
  · exact h1
theorem jI_0 : (0 : Int64) = jI 0 := jI_of (by decide)
end
section
/-! near, weights, places of ends -/
theorem wtL {r : Int32} {L : Nat} (hr : 0 ≤ r.toInt ∧ r.toInt ≤ 9) (hL : L ≤ 100000) : (r + 1).toInt64 * jI ((L : Nat) : Int) = jI ((r.toInt + 1) * ((L : Nat) : Int)) := by
  have e1 : (r + 1).toInt = r.toInt + 1 := by
    have h1 : (1 : Int32).toInt = 1 := by decide
    rw [fb_addI (by rw [h1]; omega) (by rw [h1]; omega), h1]
  have e2 : (r + 1).toInt64 = jI (r.toInt + 1) := jI_of (by rw [i64, e1])
  have hm : 0 ≤ (r.toInt + 1) * ((L : Nat) : Int) := Int.mul_nonneg (by omega) (by omega)
  have hm2 : (r.toInt + 1) * ((L : Nat) : Int) ≤ 10 * ((L : Nat) : Int) := Int.mul_le_mul_of_nonneg_right (by omega) (by omega)
  rw [e2, jI_mul (by omega) (by omega) (by omega)]
end
section
/-! JOIN: how far two houses may be apart -/
theorem gpB9 {g : Int32} {D : Nat} (hg : 0 ≤ g.toInt ∧ g.toInt ≤ 1000) (hD : D ≤ 2000000) : (0 ≤ g.toInt * g.toInt ∧ g.toInt * g.toInt ≤ 1000000) ∧ 0 ≤ g.toInt * g.toInt * ((D : Nat) : Int) ∧ g.toInt * g.toInt * ((D : Nat) : Int) ≤ 2000000000000 := by
  have a := mulB (u := g.toInt) (v := g.toInt) (by omega) (by omega) (by omega) (by omega)
  have b := sqZ (u := g.toInt)
  have c := Int.mul_nonneg b (show 0 ≤ ((D : Nat) : Int) by omega)
  have d := Int.mul_le_mul_of_nonneg_right a.2 (show 0 ≤ ((D : Nat) : Int) by omega)
  exact ⟨⟨b, a.2⟩, c, by omega⟩
theorem gpL {g : Int32} {D : Nat} (hg : 0 ≤ g.toInt ∧ g.toInt ≤ 1000) (hD : D ≤ 2000000) : g.toInt64 * g.toInt64 * jI ((D : Nat) : Int) = jI (g.toInt * g.toInt * ((D : Nat) : Int)) := by
  have h := gpB9 hg hD
  have e : g.toInt64 = jI g.toInt := jI_of (i64 _)
  rw [e, jI_mul (by omega) (by omega) (by omega), jI_mul (by omega) (by omega) (by omega)]
theorem rd_lt {c : Int} {u d : Nat} (hd : 1 ≤ d) : c * ((d / Nat.gcd u d : Nat) : Int) < ((u / Nat.gcd u d : Nat) : Int) ↔ c * ((d : Nat) : Int) < ((u : Nat) : Int) := by
  have hg : 0 < Nat.gcd u d := Nat.gcd_pos_of_pos_right u (by omega)
  have h1 : u / Nat.gcd u d * Nat.gcd u d = u := Nat.div_mul_cancel (Nat.gcd_dvd_left u d)
  have h2 : d / Nat.gcd u d * Nat.gcd u d = d := Nat.div_mul_cancel (Nat.gcd_dvd_right u d)
  have e1 : ((u : Nat) : Int) = ((u / Nat.gcd u d : Nat) : Int) * ((Nat.gcd u d : Nat) : Int) := by rw [← Int.natCast_mul, h1]
  have e2 : ((d : Nat) : Int) = ((d / Nat.gcd u d : Nat) : Int) * ((Nat.gcd u d : Nat) : Int) := by rw [← Int.natCast_mul, h2]
  generalize Nat.gcd u d = q at *
  generalize u / q = a at *
  generalize d / q = b at *
  rw [e1, e2, ← Int.mul_assoc]
  exact ⟨fun h => Int.mul_lt_mul_of_pos_right h (by omega), fun h => Int.lt_of_mul_lt_mul_right h (by omega)⟩
end
section
theorem im_lt {P : Int → Int → Prop} {u d v e c : Int} (h1 : IM P u d) (h2 : IM P v e) (hd : 1 ≤ d) (he : 1 ≤ e) (h : c * d < u) : c * e < v := by
  rcases h1 with ⟨q, _⟩ | ⟨_, _, g⟩
  · omega
  rcases h2 with ⟨q, _⟩ | ⟨_, p, _⟩
  · omega
  have a := g v e p
  have b : c * d * e < u * e := Int.mul_lt_mul_of_pos_right h (by omega)
  have k : c * e * d < v * d := by
    have e1 : c * e * d = c * d * e := by rw [Int.mul_assoc, Int.mul_comm e d, ← Int.mul_assoc]
    omega
  exact Int.lt_of_mul_lt_mul_right k (by omega)
theorem dq_b {u d : Nat} (h : u ≤ 4000000000000 ∧ 1 ≤ d ∧ d ≤ 2000000) : u / Nat.gcd u d ≤ 4000000000000 ∧ 1 ≤ d / Nat.gcd u d ∧ d / Nat.gcd u d ≤ 2000000 :=
  ⟨Nat.le_trans (Nat.div_le_self _ _) h.1, Nat.div_pos (Nat.gcd_le_right _ h.2.1) (Nat.gcd_pos_of_pos_right u h.2.1), Nat.le_trans (Nat.div_le_self _ _) h.2.2⟩
end
section
/-! what is said of a row hangs on its corners alone -/
section CG
variable {n m : Nat} {X Y P Q U V S T : Nat → Int32}
theorem pls_cg (h : ∀ j, j < n → X j = P j ∧ Y j = Q j) : pls n X Y ↔ pls n P Q :=
  ⟨fun g k hk => by rw [← (h k hk).1, ← (h k hk).2]; exact g k hk, fun g k hk => by rw [(h k hk).1, (h k hk).2]; exact g k hk⟩
theorem eOn_cg (h : ∀ j, j < n → X j = P j ∧ Y j = Q j) {i : Nat} (hi : i < n) {x y : Int} : eOn n X Y i x y = eOn n P Q i x y := by
  have h2 := h _ (nxt_lt (n := n) (i := i) (by omega)); have h1 := h i hi
  unfold eOn; rw [h1.1, h1.2, h2.1, h2.2]
theorem eTg_cg (h : ∀ j, j < n → X j = P j ∧ Y j = Q j) {i : Nat} (hi : i < n) {x y : Int} : eTg n X Y x y i = eTg n P Q x y i := by
  have h2 := h _ (nxt_lt (n := n) (i := i) (by omega)); have h1 := h i hi
  unfold eTg eCr; rw [h1.1, h1.2, h2.1, h2.2]
theorem par2_cg {A B : Nat → Prop} : ∀ k, (∀ j, j < k → (A j ↔ B j)) → (par2 A k ↔ par2 B k) := by
  intro k
  induction k with
  | zero => intro _; exact Iff.rfl
  | succ k ih =>
    intro h
    have h1 := ih (fun j hj => h j (by omega))
    have h2 := h k (by omega)
    show (par2 A k ∧ ¬ A k) ∨ (¬ par2 A k ∧ A k) ↔ (par2 B k ∧ ¬ B k) ∨ (¬ par2 B k ∧ B k)
    rw [h1, h2]
theorem inF_cg (h1 : 1 ≤ n) (h : ∀ j, j < n → X j = P j ∧ Y j = Q j) {k : Int} {x y : Int} : inF k n X Y x y ↔ inF k n P Q x y := by
  have hle := eO_le (k := k) h1
  have a : (∃ i, i < eO k n ∧ eOn n X Y i x y) ↔ ∃ i, i < eO k n ∧ eOn n P Q i x y := ⟨fun ⟨i, hi, g⟩ => ⟨i, hi, by rw [← eOn_cg h (by omega)]; exact g⟩, fun ⟨i, hi, g⟩ => ⟨i, hi, by rw [eOn_cg h (by omega)]; exact g⟩⟩
  have b := par2_cg (A := eTg n X Y x y) (B := eTg n P Q x y) (eO k n) (fun j hj => by rw [eTg_cg h (by omega)])
  unfold inF; rw [a, b]
theorem eMt_cg (h : ∀ j, j < n → X j = P j ∧ Y j = Q j) (g : ∀ j, j < m → U j = S j ∧ V j = T j) {i k : Nat} (hi : i < n) (hk : k < m) : eMt n X Y i m U V k = eMt n P Q i m S T k := by
  have h2 := h _ (nxt_lt (n := n) (i := i) (by omega)); have h1 := h i hi
  have g2 := g _ (nxt_lt (n := m) (i := k) (by omega)); have g1 := g k hk
  unfold eMt; rw [h1.1, h1.2, h2.1, h2.2, g1.1, g1.2, g2.1, g2.2]
theorem mtF_cg (hn : 1 ≤ n) (hm : 1 ≤ m) (h : ∀ j, j < n → X j = P j ∧ Y j = Q j) (g : ∀ j, j < m → U j = S j ∧ V j = T j) {k k2 : Int} : mtF k n X Y k2 m U V ↔ mtF k n P Q k2 m S T := by
  have l1 := eO_le (k := k) hn; have l2 := eO_le (k := k2) hm
  unfold mtF
  exact ⟨fun ⟨i, hi, j, hj, q⟩ => ⟨i, hi, j, hj, by rw [← eMt_cg h g (by omega) (by omega)]; exact q⟩, fun ⟨i, hi, j, hj, q⟩ => ⟨i, hi, j, hj, by rw [eMt_cg h g (by omega) (by omega)]; exact q⟩⟩
theorem eRt_cg (h : ∀ j, j < n → X j = P j ∧ Y j = Q j) {k : Nat} (hk : k < n) : eRt n X Y k = eRt n P Q k := by
  have h2 := h _ (nxt_lt (n := n) (i := k) (by omega)); have h3 := h _ (prv_lt (n := n) (i := k) hk); have h1 := h k hk
  unfold eRt; rw [h1.1, h1.2, h2.1, h2.2, h3.1, h3.2]
theorem mFl_cg (h : ∀ j, j < n → X j = P j ∧ Y j = Q j) {i k : Nat} (hi : i < n) (hk : k < n) : mFl n X Y i k = mFl n P Q i k := by
  have h2 := h _ (nxt_lt (n := n) (i := i) (by omega)); have h3 := h _ (nxt_lt (n := n) (i := k) (by omega)); have h1 := h i hi
  unfold mFl; rw [h1.1, h1.2, h2.1, h2.2, h3.1, h3.2]
theorem mCn_cg (h : ∀ j, j < n → X j = P j ∧ Y j = Q j) {kd : Int} {i k : Nat} (hi : i < n) (hk : k < n) : mCn kd n X Y i k = mCn kd n P Q i k := by
  unfold mCn; rw [mFl_cg h hi hk, mFl_cg h hk hi, eMt_cg h h hi hk]
theorem mSm_cg (h : ∀ j, j < n → X j = P j ∧ Y j = Q j) {kd : Int} : mSm kd n X Y → mSm kd n P Q := by
  intro g
  refine ⟨g.1, fun h0 => ?_⟩
  have g2 := g.2 h0
  have hn : 1 ≤ n := mSm_pos g
  have hle := eO_le (k := kd) hn
  refine ⟨g2.1, fun i hi => ?_, fun i k h1 h2 => by rw [← mCn_cg h (by omega) (by omega)]; exact g2.2.2.1 i k h1 h2, g2.2.2.2.elim Or.inl (fun q => Or.inr (fun k hk => by rw [← eRt_cg h hk]; exact q k hk))⟩
  have e1 := h i (by omega); have e2 := h _ (nxt_lt (n := n) (i := i) (by omega))
  rw [← e1.1, ← e1.2, ← e2.1, ← e2.2]; exact g2.2.1 i hi
end CG
end
section
/-! the class's soundness of a row is the reference's -/
theorem edg_eO {kd : Int} {n : Nat} {rg : Int32} (hr : rg.toInt = if 5 ≤ kd then 1 else 0) (hk : ¬ kd = 0) (hn : 2 ≤ n) : edg n rg = eO kd n := by
  unfold edg eO
  rw [if_neg (by omega), if_neg hk]
  by_cases h : 5 ≤ kd
  · rw [if_pos h] at hr ⊢; rw [if_neg (by omega)]
  · rw [if_neg h] at hr ⊢; rw [if_pos hr]
theorem nxt_s {n i : Nat} (h : i + 1 < n) : nxt n i = i + 1 := by unfold nxt; rw [if_pos h]
theorem nxt_l {n i : Nat} (h : ¬ i + 1 < n) : nxt n i = 0 := by unfold nxt; rw [if_neg h]
theorem mFl_f {n i : Nat} {X Y : Nat → Int32} (h : i + 1 < n) : mFl n X Y i (i + 1) = eFd n X Y (i + 1) := by
  unfold mFl eFd; rw [nxt_s h, show prv n (i + 1) = i by unfold prv; rw [if_pos (by omega)]; omega]
theorem mFl_l {n : Nat} {X Y : Nat → Int32} (h : 2 ≤ n) : mFl n X Y (n - 1) 0 = eFd n X Y 0 := by
  unfold mFl eFd; rw [nxt_l (n := n) (i := n - 1) (by omega), show prv n 0 = n - 1 by unfold prv; rw [if_neg (by omega)]]
theorem snd_iff {kd : Int} {n : Nat} {X Y : Nat → Int32} {rg : Int32} (hr : rg.toInt = if 5 ≤ kd then 1 else 0) (hk : ¬ kd = 0) (hn : mnc kd ≤ n) : ((∀ i, i < edg n rg → eFr n X Y rg i (i + 1)) ∧ (¬ kd = 6 ∨ ∀ k, k < n → eRt n X Y k)) ↔ mSm kd n X Y := by
  have h2 : 2 ≤ n := by unfold mnc at hn; split at hn <;> omega
  have he := edg_eO hr hk h2
  have hle := eO_le (k := kd) (n := n) (by omega)
  have hE : (eO kd n = n ∧ 5 ≤ kd) ∨ (eO kd n = n - 1 ∧ ¬ 5 ≤ kd) := by
    unfold eO; rw [if_neg hk]
    by_cases h : 5 ≤ kd
    · rw [if_pos h]; exact Or.inl ⟨rfl, h⟩
    · rw [if_neg h]; exact Or.inr ⟨rfl, h⟩
  rw [he]
  constructor
  · intro h
    refine ⟨fun h0 => absurd h0 hk, fun _ => ⟨hn, fun i hi => (h.1 i hi).1, fun i k h1 hk2 => ?_, h.2⟩⟩
    have g := (h.1 i (by omega)).2 k (by omega) (by rw [he]; exact hk2) (by omega)
    refine ⟨fun e => ?_, fun e q => ?_, fun e q => ?_⟩
    · subst e; rw [mFl_f (by omega)]; exact g.1 (nxt_s (by omega))
    · obtain ⟨q1, q2, q3⟩ := q
      subst q2
      have hk3 : k = n - 1 := by omega
      rw [hk3, mFl_l h2]
      exact g.2.1 (by rw [nxt_s (by omega)]; omega) (nxt_l (by omega))
    · refine g.2.2 (by rw [nxt_s (by omega)]; omega) ?_
      by_cases c : k + 1 < n
      · rw [nxt_s c]; omega
      · rw [nxt_l c]; intro h0; exact q (by omega)
  · intro h
    have g := h.2 hk
    refine ⟨fun i hi => ⟨g.2.1 i hi, fun j h1 h3 h4 => ?_⟩, g.2.2.2⟩
    rw [he] at h3
    have c := g.2.2.1 i j (by omega) h3
    refine ⟨fun e => ?_, fun e q => ?_, fun e q => ?_⟩
    · rw [nxt_s (by omega)] at e
      subst e; rw [← mFl_f (by omega)]; exact c.1 rfl
    · rw [nxt_s (by omega)] at e
      by_cases w : j + 1 < n
      · rw [nxt_s w] at q; omega
      · rw [nxt_l w] at q
        have hj : j = n - 1 := by omega
        have hm := c.2.1 (by omega) (by omega)
        rw [← q, hj, mFl_l h2] at hm
        rw [← q]; exact hm
    · rw [nxt_s (by omega)] at e
      exact c.2.2 (by omega) (fun w => by
        by_cases v : j + 1 < n
        · omega
        · rw [nxt_l v] at q; omega)
end
section
/-! RUN comes to its end -/
theorem smP_o {P : Nat → Prop} {c d : Nat → Nat} (n : Nat) (h : ∀ j, j < n → d j = c j) : smP P d n = smP P c n := by
  induction n with
  | zero => rfl
  | succ n ih =>
    have h1 := ih (fun j hj => h j (by omega))
    by_cases q : P n
    · rw [smP_y q, smP_y q, h1, h n (by omega)]
    · rw [smP_n q, smP_n q, h1]
theorem smP_u {P : Nat → Prop} {c d : Nat → Nat} {g m : Nat} : ∀ n, g < n → P g → (∀ j, j ≠ g → d j = c j) → d g + m = c g → smP P d n + m = smP P c n := by
  intro n
  induction n with
  | zero => intro h; omega
  | succ n ih =>
    intro hg hp ho hm
    rcases Nat.lt_or_ge g n with q | q
    · have h1 := ih q hp ho hm
      by_cases w : P n
      · rw [smP_y w, smP_y w, ho n (by omega)]; omega
      · rw [smP_n w, smP_n w]; omega
    · obtain rfl : g = n := by omega
      rw [smP_y hp, smP_y hp, smP_o g (fun j hj => ho j (by omega))]; omega
theorem rn1_ex {ft : Nat} {st tn kd : Nat → Int32} {L g : Nat} {mn cx cy : Nat → Int32} (hg : g < ft) (h : allI ft st tn kd mn cx cy) : ∃ m mn1 cx1 cy1, rn1 ft st tn kd L g mn cx cy m mn1 cx1 cy1 ∧ allI ft st tn kd mn1 cx1 cy1 ∧ smP (lvF ft st tn) (fun q => nN (mn1 q)) ft + m = smP (lvF ft st tn) (fun q => nN (mn q)) ft := by
  by_cases q : lvF ft st tn g ∧ ¬ (kd g).toInt = 0 ∧ ¬ (kd g).toInt = 6
  · obtain ⟨m, mn1, cx1, cy1, n1, hp⟩ := plN_ex (L := L) _ _ _ _ (allI_p h q.1)
    have he := plN_end m _ _ _ _ _ _ _ n1 (allI_p h q.1) hp
    refine ⟨m, mn1, cx1, cy1, ⟨fun _ => ⟨n1, hp⟩, fun w => absurd q w⟩, (allI_s h q.1 hp).1, smP_u ft hg q.1 (fun j hj => by show nN (mn1 j) = nN (mn j); rw [he.2.2.1 j hj]) ?_⟩
    show nN (mn1 g) + m = nN (mn g)
    rw [he.1.1, nN_nI (by have := he.1.2.1; omega)]; exact he.2.1
  · exact ⟨0, mn, cx, cy, ⟨fun w => absurd w q, fun _ => ⟨rfl, rfl, rfl, rfl⟩⟩, h, rfl⟩
theorem rnP_ex {ft : Nat} {st tn kd : Nat → Int32} {L : Nat} : ∀ (j : Nat) (mn cx cy : Nat → Int32), j ≤ ft → allI ft st tn kd mn cx cy → ∃ t mn1 cx1 cy1, rnP ft st tn kd L j mn cx cy t mn1 cx1 cy1 ∧ allI ft st tn kd mn1 cx1 cy1 ∧ smP (lvF ft st tn) (fun q => nN (mn1 q)) ft + t = smP (lvF ft st tn) (fun q => nN (mn q)) ft := by
  intro j
  induction j with
  | zero => intro mn cx cy _ h; exact ⟨0, mn, cx, cy, ⟨rfl, rfl, rfl, rfl⟩, h, rfl⟩
  | succ j ih =>
    intro mn cx cy hj h
    obtain ⟨m, mn2, cx2, cy2, h1, h2, h3⟩ := rn1_ex (L := L) (g := ft - (j + 1)) (by omega) h
    obtain ⟨t, mn1, cx1, cy1, g1, g2, g3⟩ := ih mn2 cx2 cy2 (by omega) h2
    exact ⟨m + t, mn1, cx1, cy1, ⟨m, mn2, cx2, cy2, t, h1, g1, rfl⟩, g2, by omega⟩
theorem rnA_ex {ft : Nat} {st tn kd : Nat → Int32} {L : Nat} : ∀ (s : Nat) (mn cx cy : Nat → Int32), allI ft st tn kd mn cx cy → smP (lvF ft st tn) (fun q => nN (mn q)) ft ≤ s → ∃ p t mn1 cx1 cy1, rnA ft st tn kd L p mn cx cy t mn1 cx1 cy1 ∧ allI ft st tn kd mn1 cx1 cy1 ∧ smP (lvF ft st tn) (fun q => nN (mn1 q)) ft + t = smP (lvF ft st tn) (fun q => nN (mn q)) ft := by
  intro s
  induction s using Nat.strongRecOn with
  | ind s ih =>
    intro mn cx cy h hs
    obtain ⟨t, mn2, cx2, cy2, h1, h2, h3⟩ := rnP_ex (L := L) ft mn cx cy (Nat.le_refl _) h
    rcases Nat.eq_zero_or_pos t with q | q
    · exact ⟨1, 0, mn2, cx2, cy2, ⟨t, mn2, cx2, cy2, h1, Or.inl ⟨q, rfl, rfl, rfl, rfl⟩⟩, h2, by omega⟩
    · obtain ⟨p, t3, mn1, cx1, cy1, g1, g2, g3⟩ := ih (s - t) (by omega) mn2 cx2 cy2 h2 (by omega)
      exact ⟨p + 1, t + t3, mn1, cx1, cy1, ⟨t, mn2, cx2, cy2, h1, Or.inr ⟨q, t3, g1, rfl⟩⟩, g2, by omega⟩
end
section
section CG2
variable {n m : Nat} {X Y P Q U V S T : Nat → Int32}
theorem ar2_cg (h : ∀ j, j < n → X j = P j ∧ Y j = Q j) : ∀ i, i ≤ n → ar2 n X Y i = ar2 n P Q i := by
  intro i
  induction i with
  | zero => intro _; rfl
  | succ i ih =>
    intro hi
    have h1 := h i (by omega); have h2 := h _ (nxt_lt (n := n) (i := i) (by omega))
    unfold ar2; rw [ih (by omega), h1.1, h1.2, h2.1, h2.2]
theorem ln2_cg (h : ∀ j, j < n → X j = P j ∧ Y j = Q j) : ∀ i, i < n → ln2 X Y i = ln2 P Q i := by
  intro i
  induction i with
  | zero => intro _; rfl
  | succ i ih =>
    intro hi
    have h1 := h i (by omega); have h2 := h (i + 1) (by omega)
    unfold ln2; rw [ih (by omega), h1.1, h1.2, h2.1, h2.2]
theorem mnI_cg {z : Int} (h : ∀ j, j < n → X j = P j) : ∀ i, i ≤ n → mnI z X i = mnI z P i ∧ mxI z X i = mxI z P i := by
  intro i
  induction i with
  | zero => intro _; exact ⟨rfl, rfl⟩
  | succ i ih =>
    intro hi
    have g := ih (by omega)
    rw [mnI_s, mnI_s, mxI_s, mxI_s, g.1, g.2, h i (by omega)]; exact ⟨rfl, rfl⟩
theorem whr_cg (h : ∀ j, j < n → X j = P j ∧ Y j = Q j) {x y : Int} : whr n X Y x y = whr n P Q x y := by
  have a : (∃ i, i < n ∧ eOn n X Y i x y) ↔ ∃ i, i < n ∧ eOn n P Q i x y := ⟨fun ⟨i, hi, g⟩ => ⟨i, hi, by rw [← eOn_cg h hi]; exact g⟩, fun ⟨i, hi, g⟩ => ⟨i, hi, by rw [eOn_cg h hi]; exact g⟩⟩
  have b := par2_cg (A := eTg n X Y x y) (B := eTg n P Q x y) n (fun j hj => by rw [eTg_cg h hj])
  by_cases q : ∃ i, i < n ∧ eOn n X Y i x y
  · rw [whr_2 q, whr_2 (a.mp q)]
  · rw [whr_n q, whr_n (fun w => q (a.mpr w))]; exact zp_iff b
theorem dcS_cg (h : ∀ j, j < n → X j = P j ∧ Y j = Q j) (g : ∀ j, j < m → U j = S j ∧ V j = T j) {i k : Nat} (hi : i < n) (hk : k < m) {A B : Int} : dcS n X Y m U V i k A B = dcS n P Q m S T i k A B := by
  have h2 := h _ (nxt_lt (n := n) (i := i) (by omega)); have h1 := h i hi
  have g2 := g _ (nxt_lt (n := m) (i := k) (by omega)); have g1 := g k hk
  unfold dcS; rw [h1.1, h1.2, h2.1, h2.2, g1.1, g1.2, g2.1, g2.2]
end CG2
end
section
/-! outside the box of a ring: not of its set, not inside -/
theorem par2_no {A : Nat → Prop} : ∀ k, (∀ j, j < k → ¬ A j) → ¬ par2 A k := by
  intro k
  induction k with
  | zero => intro _ h; exact h
  | succ k ih =>
    intro h
    have h1 := ih (fun j hj => h j (by omega))
    rw [par2_n (h k (by omega))]; exact h1
theorem par2_ch {b : Nat → Prop} : ∀ k, (par2 (fun j => b j ↔ ¬ b (j + 1)) k ↔ (b 0 ↔ ¬ b k)) := by
  intro k
  induction k with
  | zero =>
    show False ↔ (b 0 ↔ ¬ b 0)
    by_cases h : b 0 <;> simp [h]
  | succ k ih =>
    show (par2 _ k ∧ ¬ (b k ↔ ¬ b (k + 1))) ∨ (¬ par2 _ k ∧ (b k ↔ ¬ b (k + 1))) ↔ (b 0 ↔ ¬ b (k + 1))
    rw [ih]
    by_cases h0 : b 0 <;> by_cases h1 : b k <;> by_cases h2 : b (k + 1) <;> simp [h0, h1, h2]
theorem par2_cy {b : Nat → Prop} {n : Nat} (hn : 1 ≤ n) : ¬ par2 (fun j => b j ↔ ¬ b (nxt n j)) n := by
  obtain ⟨m, rfl⟩ : ∃ m, n = m + 1 := ⟨n - 1, by omega⟩
  have h1 : par2 (fun j => b j ↔ ¬ b (nxt (m + 1) j)) m ↔ (b 0 ↔ ¬ b m) := (par2_cg m (fun j hj => by rw [nxt_s (by omega)])).trans (par2_ch m)
  show ¬ ((par2 _ m ∧ ¬ (b m ↔ ¬ b (nxt (m + 1) m))) ∨ (¬ par2 _ m ∧ (b m ↔ ¬ b (nxt (m + 1) m))))
  rw [h1, nxt_l (by omega)]
  by_cases h0 : b 0 <;> by_cases h2 : b m <;> simp [h0, h2]
theorem whr_out {n : Nat} {X Y : Nat → Int32} {px py : Int} (hn : 1 ≤ n) (h : (∀ i, i < n → (X i).toInt < px) ∨ (∀ i, i < n → px < (X i).toInt) ∨ (∀ i, i < n → (Y i).toInt < py) ∨ (∀ i, i < n → py < (Y i).toInt)) : whr n X Y px py = 0 := by
  have hon : ¬ ∃ i, i < n ∧ eOn n X Y i px py := by
    rintro ⟨i, hi, g⟩
    have h2 := nxt_lt (n := n) (i := i) (by omega)
    unfold eOn onS at g
    rcases h with h | h | h | h <;> (have a := h i hi; have b := h _ h2; omega)
  rw [whr_n hon]
  refine zp_f ?_
  rcases h with h | h | h | h
  · exact par2_no n (fun j hj => (sk_tg (Or.inr (Or.inr ⟨h j hj, h _ (nxt_lt (by omega))⟩))).1)
  · rw [par2_cg (B := fun j => (py < (Y j).toInt) ↔ ¬ (py < (Y (nxt n j)).toInt)) n (fun j hj => ?_)]
    · exact par2_cy (b := fun j => py < (Y j).toInt) hn
    · have a := h j hj; have b := h _ (nxt_lt (n := n) (i := j) (by omega))
      unfold eTg
      refine ⟨fun g => g.1, fun g => ⟨g, ?_⟩⟩
      have t := tg_left (a1 := -(X j).toInt) (a2 := (Y j).toInt) (b1 := -(X (nxt n j)).toInt) (b2 := (Y (nxt n j)).toInt) (x := -px) (y := py) (by omega) (by omega) g
      have e : cr (-(X j).toInt) (Y j).toInt (-(X (nxt n j)).toInt) (Y (nxt n j)).toInt (-px) py = - eCr n X Y j px py := by unfold eCr cr; grind
      rw [e] at t
      by_cases q : (Y j).toInt < (Y (nxt n j)).toInt
      · exact Or.inl ⟨q, by have := t.1 q; omega⟩
      · exact Or.inr ⟨q, by have := t.2 q; omega⟩
  · exact par2_no n (fun j hj => (sk_tg (Or.inr (Or.inl ⟨h j hj, h _ (nxt_lt (by omega))⟩))).1)
  · exact par2_no n (fun j hj => (sk_tg (Or.inl ⟨h j hj, h _ (nxt_lt (by omega))⟩)).1)
end
section
set_option maxHeartbeats 4000000 in
set_option maxRecDepth 100000 in
theorem k_Row_pull (l : Launch) (dC : Nat → ClassId) (dI : Nat → Nat → Nat) (cI cZ cF : ClassId) (sz : Nat) (r : Nat) (rx : Nat) (ry : Nat) (n : Nat) (cap : Nat) (X : Nat → Int32) (Y : Nat → Int32) (rg : Int32) (kk : Nat) (rr : Nat) (dx : Int32) (dy : Int32) (kf : Int) (hn : n ≤ cap) (hcap : cap ≤ 1000) (hkk : kk < n) (hn40 : n ≤ 40) (hrr : rr ≤ 20) (hrf : rg.toInt = 0 ↔ ¬ 5 ≤ kf) : zM l yX7_pull cX7_pull 8 none ({ frames := 1, cells := 0, slots := 0, locals := 21 } : Room) [.ref r, .int (nI kk), .int dx, .int dy, .int (nI rr)] (dC, dI) (zTy cI cZ cF) [(oc6 r (.ref rx) (.ref ry) (nI n) rg), (oa rx cI cap X), (oa ry cI cap Y)] sz none (fun A t => ∃ (X1 : Nat → Int32), ∃ (Y1 : Nat → Int32), (∀ j, j < n → X1 j = shV kf n kk dx rr X j ∧ Y1 j = shV kf n kk dy rr Y j) ∧ zPD (dC, dI) classes A [(oc6 r (.ref rx) (.ref ry) (nI n) rg), (oa rx cI cap X1), (oa ry cI cap Y1)] t.heap) 0 0 := by
  refine zIn (own := "ScaleShop$Row") (loc := [(0, .ref r), (1, .int (nI kk)), (2, .int dx), (3, .int dy), (4, .int (nI rr))]) rfl rfl rfl rfl (fun p e s m below meth c hx hb hr hts hown hlocks hml hnm9 A hA hS hP hD hK hXN Q9 hQ9 ls hl => ?_)
  refine lv_iload hx hb dX7_pull_0 (lv_at hl 4 rfl) ?_
  refine lv_iconst (v := 0) hx hb dX7_pull_2 rfl ?_
  refine va_mmax hx hb (by rw [hml]; exact hl.1.symm) hown (hts _ mw_158) (hts _ mw_159) (hts _ mw_103) (hts _ mw_maxcode) (Nat.le_of_ble_eq_true rfl) (Nat.le_of_ble_eq_true rfl) (Nat.le_of_ble_eq_true rfl) (Nat.le_of_ble_eq_true rfl) dX7_pull_3 ?_
  have b9_1 : zlt (rr) := show rr < 2147483648 by omega
  refine lv_topi (fun v_2 ev_2 => ?_)
  have hv_2 : v_2.toInt = max ((rr : Nat) : Int) 0 := zmax (nI_toInt b9_1) (by decide) ev_2
  refine zz_i (v := nI rr) (Int32.toInt_inj.mp (by rw [hv_2, nI_toInt (by omega)]; omega)) ?_
  refine lv_iconst (v := 1) hx hb dX7_pull_6 rfl ?_
  refine lv_iadd hx hb dX7_pull_7 ?_
  refine zz_i (v := nI (rr + 1)) (nI_add rr 1) ?_
  refine lv_istore (lv' := [(5, .int (nI (rr + 1))), (0, .ref r), (1, .int (nI kk)), (2, .int dx), (3, .int dy), (4, .int (nI rr))]) hx hb dX7_pull_8 hl (Nat.le_of_ble_eq_true rfl) rfl (fun ls hl => ?_)
  refine lv_iconst (v := 0) hx hb dX7_pull_10 rfl ?_
  refine lv_istore (lv' := [(6, .int 0), (5, .int (nI (rr + 1))), (0, .ref r), (1, .int (nI kk)), (2, .int dx), (3, .int dy), (4, .int (nI rr))]) hx hb dX7_pull_11 hl (Nat.le_of_ble_eq_true rfl) rfl (fun ls hl => ?_)
  have hl_13 : ∀ (n9 : Nat) (i : Nat) (X1 : Nat → Int32) (Y1 : Nat → Int32) (H : Heap) (locs : List Loc) (ls : Array Slot), n - i < n9 → (i ≤ n) → (∀ j, j < i → X1 j = shV kf n kk dx rr X j ∧ Y1 j = shV kf n kk dy rr Y j) → (∀ j, i ≤ j → X1 j = X j ∧ Y1 j = Y j) → va_P (dC, dI) classes [(oc6 r (.ref rx) (.ref ry) (nI n) rg), (oa rx cI cap X1), (oa ry cI cap Y1)] H → va_D A [(oc6 r (.ref rx) (.ref ry) (nI n) rg), (oa rx cI cap X1), (oa ry cI cap Y1)] → va_S A s.heap H locs → lv_has ls 8 [(6, .int (nI i)), (5, .int (nI (rr + 1))), (0, .ref r), (1, .int (nI kk)), (2, .int dx), (3, .int dy), (4, .int (nI rr))] → W p l e ({ frames := 1, cells := 0, slots := 0, locals := 21 } : Room) s m ([.ref r, .int (nI kk), .int dx, .int dy, .int (nI rr)] : List Value).toArray below meth c H locs 0 0 Q9 (F0 m 13 ls []) := by
    intro n9
    induction n9 with
    | zero => intro i X1 Y1 H locs ls hm; exact absurd hm (Nat.not_lt_zero _)
    | succ n9 ih_13 =>
      intro i X1 Y1 H locs ls hm hi hlo hhi hP hD hS hl
      refine lv_iload hx hb dX7_pull_13 (lv_at hl 0 rfl) ?_
      refine lv_aload_n hx hb dX7_pull_15 rfl (lv_at hl 2 rfl) ?_
      refine va_get (D := (dC, dI)) (ci := 6) (v := .int (nI n)) (C := RX7) (T := TX7) (N := 4) hx hb hts inX7 hown hK hP 0 rfl rfl 2 (Nat.le_of_ble_eq_true rfl) (hts _ mw_175) (fun _ h9 => h9) rfl dX7_pull_16 ?_
      have b9_4 : zlt (i) := show i < 2147483648 by omega
      have b9_5 : zlt (n) := show n < 2147483648 by omega
      refine lv_icmp_ge (tgt := 114) hx hb dX7_pull_19 rfl (fun c_3 => ?_) (fun c_3 => ?_)
      · have c_3 : ((n : Nat) : Int) ≤ ((i : Nat) : Int) := zc_le (nI_toInt b9_5) (nI_toInt b9_4) c_3
        obtain ⟨hP9, hD9⟩ := zu_sub (wc := [_, _, _]) hP hD [true, true, true] rfl rfl
        rw [hQ9]
        exact W.vret hx hb hr (fun t ht hW => ⟨⟨rfl, X1, Y1, (fun j hj => hlo j (by omega)), by rw [ht]; exact hP9, hD9⟩, hS.F ht⟩) hS.2.2 dX7_pull_114
      · have c_3 : ((i : Nat) : Int) < ((n : Nat) : Int) := zc_nle (nI_toInt b9_5) (nI_toInt b9_4) c_3
        have hin9 : i < n := (by omega)
        have hwb := wyR_b (kf := kf) hkk hin9
        refine lv_iload hx hb dX7_pull_22 (lv_at hl 0 rfl) ?_
        refine lv_iload_n hx hb dX7_pull_24 rfl (lv_at hl 3 rfl) ?_
        refine lv_isub hx hb dX7_pull_25 ?_
        refine zz_i (v := iI (((i : Nat) : Int) - ((kk : Nat) : Int))) (iI_of (by rw [fb_subI (by rw [nI_toInt (by omega), nI_toInt (by omega)]; omega) (by rw [nI_toInt (by omega), nI_toInt (by omega)]; omega), nI_toInt (by omega), nI_toInt (by omega)])) ?_
        refine va_mabs hx hb (by rw [hml]; exact hl.1.symm) hown (hts _ mw_588) (hts _ mw_589) (hts _ mw_103) (hts _ mw_abscode) (Nat.le_of_ble_eq_true rfl) (Nat.le_of_ble_eq_true rfl) (Nat.le_of_ble_eq_true rfl) (Nat.le_of_ble_eq_true rfl) dX7_pull_26 ?_
        refine zz_i (v := nI (Int.natAbs (((i : Nat) : Int) - ((kk : Nat) : Int)))) (zabs (iI_toInt (by omega)) (by omega)) ?_
        refine lv_istore (lv' := [(7, .int (nI (Int.natAbs (((i : Nat) : Int) - ((kk : Nat) : Int))))), (6, .int (nI i)), (5, .int (nI (rr + 1))), (0, .ref r), (1, .int (nI kk)), (2, .int dx), (3, .int dy), (4, .int (nI rr))]) hx hb dX7_pull_29 hl (Nat.le_of_ble_eq_true rfl) rfl (fun ls hl => ?_)
        refine lv_aload_n hx hb dX7_pull_31 rfl (lv_at hl 3 rfl) ?_
        refine va_get (D := (dC, dI)) (ci := 6) (v := .int rg) (C := RX7) (T := TX7) (N := 4) hx hb hts inX7 hown hK hP 0 rfl rfl 3 (Nat.le_of_ble_eq_true rfl) (hts _ mw_183) (fun _ h9 => h9) rfl dX7_pull_32 ?_
        refine lv_if_eq (tgt := 52) hx hb dX7_pull_35 rfl (fun c_6 => ?_) (fun c_6 => ?_)
        · have c_6 : rg.toInt = 0 := zc_eq rfl rfl c_6
          refine lv_iload hx hb dX7_pull_52 (lv_at hl 0 rfl) ?_
          refine zz_i (v := nI (wyR kf n kk i)) (zn_eq (by unfold wyR; first | (rw [if_pos (by omega)]) | (rw [if_neg (by omega)]))) ?_
          refine lv_iload hx hb dX7_pull_54 (lv_at hl 2 rfl) ?_
          have b9_8 : zlt ((wyR kf n kk i)) := show (wyR kf n kk i) < 2147483648 by omega
          have b9_9 : zlt ((rr + 1)) := show (rr + 1) < 2147483648 by omega
          refine lv_icmp_ge (tgt := 108) hx hb dX7_pull_56 rfl (fun c_7 => ?_) (fun c_7 => ?_)
          · have c_7 : ((rr + 1 : Nat) : Int) ≤ ((wyR kf n kk i : Nat) : Int) := zc_le (nI_toInt b9_9) (nI_toInt b9_8) c_7
            refine lv_iinc (v := nI (i + 1)) (lv' := [(6, .int (nI (i + 1))), (7, .int (nI (Int.natAbs (((i : Nat) : Int) - ((kk : Nat) : Int))))), (5, .int (nI (rr + 1))), (0, .ref r), (1, .int (nI kk)), (2, .int dx), (3, .int dy), (4, .int (nI rr))]) hx hb dX7_pull_108 hl (k := 1) rfl (nI_add i 1) (Nat.le_of_ble_eq_true rfl) rfl (fun ls hl => ?_)
            refine lv_goto (tgt := 13) hx hb dX7_pull_111 rfl ?_
            exact ih_13 (i + 1) X1 Y1 H locs ls (by first | with_reducible assumption | omega) (by first | with_reducible assumption | omega) (by intro j hj; rcases Nat.lt_or_ge j i with h | h; (first | exact hlo j h | (simp only [upd, if_neg (show j ≠ i by omega)]; exact hlo j h)); rw [show j = i by omega]; first | (simp only [upd, if_true]; rw [(hhi i (Nat.le_refl _)).1, (hhi i (Nat.le_refl _)).2]; exact ⟨shV_f hst9, shV_f hst9⟩) | (rw [(hhi i (Nat.le_refl _)).1, (hhi i (Nat.le_refl _)).2]; have h9 : rr < wyR kf n kk i ∨ (¬ 5 ≤ kf ∧ (i = 0 ∨ i = n - 1)) := (by first | exact Or.inl (by first | with_reducible assumption | omega) | exact Or.inr ⟨by omega, by omega⟩); exact ⟨shV_t h9, shV_t h9⟩)) (by intro j hj; first | exact hhi j (by first | with_reducible assumption | omega) | (simp only [upd, if_neg (show j ≠ i by omega)]; exact hhi j (by first | with_reducible assumption | omega))) hP hD hS (lv_sub hl [0, 2, 3, 4, 5, 6, 7] rfl)
          · have c_7 : ((wyR kf n kk i : Nat) : Int) < ((rr + 1 : Nat) : Int) := zc_nle (nI_toInt b9_9) (nI_toInt b9_8) c_7
            refine lv_aload_n hx hb dX7_pull_59 rfl (lv_at hl 3 rfl) ?_
            refine lv_iload hx hb dX7_pull_60 (lv_at hl 1 rfl) ?_
            obtain ⟨hPc, hDc, hFc, hI1⟩ := zi_sub (wc := [_, _, _]) hP hD hS hA [0, 1, 2] rfl rfl
            refine zcall (st1 := [.int (pI (rg.toInt = 0 ∧ (i = 0 ∨ i = n - 1)))]) (va_runV (As := [.int (nI i)]) (rest := []) ⟨hx, hb, hml, hown, hts⟩ (k_Row_isEnd l dC dI cI cZ cF H.size r rx ry n cap X1 Y1 rg i (by first | with_reducible assumption | omega) (by first | with_reducible assumption | omega) (by first | with_reducible assumption | omega)) (csV_13 hts rfl rfl ⟨Nat.le_of_ble_eq_true rfl, Nat.le_of_ble_eq_true rfl⟩) (zPV2 (q0 := 0) (ci := 6) hPc hDc hK hXN rfl rfl) rfl rfl hl.1 rfl (lv_room (Nat.le_of_ble_eq_true rfl)) dX7_pull_62 ⟨Nat.le_of_ble_eq_true rfl, Nat.le_of_ble_eq_true rfl⟩) hS hFc hFc rfl (fun t H locs ht hB hk1 hS => ?_)
            obtain ⟨hP1, hD1⟩ := hB
            rw [ht] at hP1
            replace hP := z0 hP hD hk1 hP1 hI1
            clear hk1 hPc hDc hFc hP1 hD1 ht hI1
            refine lv_if_ne (tgt := 108) hx hb dX7_pull_65 rfl (fun c_10 => ?_) (fun c_10 => ?_)
            · have c_10 : rg.toInt = 0 ∧ (i = 0 ∨ i = n - 1) := zp_1 c_10
              refine lv_iinc (v := nI (i + 1)) (lv' := [(6, .int (nI (i + 1))), (7, .int (nI (Int.natAbs (((i : Nat) : Int) - ((kk : Nat) : Int))))), (5, .int (nI (rr + 1))), (0, .ref r), (1, .int (nI kk)), (2, .int dx), (3, .int dy), (4, .int (nI rr))]) hx hb dX7_pull_108 hl (k := 1) rfl (nI_add i 1) (Nat.le_of_ble_eq_true rfl) rfl (fun ls hl => ?_)
              refine lv_goto (tgt := 13) hx hb dX7_pull_111 rfl ?_
              exact ih_13 (i + 1) X1 Y1 H locs ls (by first | with_reducible assumption | omega) (by first | with_reducible assumption | omega) (by intro j hj; rcases Nat.lt_or_ge j i with h | h; (first | exact hlo j h | (simp only [upd, if_neg (show j ≠ i by omega)]; exact hlo j h)); rw [show j = i by omega]; first | (simp only [upd, if_true]; rw [(hhi i (Nat.le_refl _)).1, (hhi i (Nat.le_refl _)).2]; exact ⟨shV_f hst9, shV_f hst9⟩) | (rw [(hhi i (Nat.le_refl _)).1, (hhi i (Nat.le_refl _)).2]; have h9 : rr < wyR kf n kk i ∨ (¬ 5 ≤ kf ∧ (i = 0 ∨ i = n - 1)) := (by first | exact Or.inl (by first | with_reducible assumption | omega) | exact Or.inr ⟨by omega, by omega⟩); exact ⟨shV_t h9, shV_t h9⟩)) (by intro j hj; first | exact hhi j (by first | with_reducible assumption | omega) | (simp only [upd, if_neg (show j ≠ i by omega)]; exact hhi j (by first | with_reducible assumption | omega))) hP hD hS (lv_sub hl [0, 2, 3, 4, 5, 6, 7] rfl)
            · have c_10 : ¬ (rg.toInt = 0 ∧ (i = 0 ∨ i = n - 1)) := zp_0 c_10
              have hst9 : ¬ (rr < wyR kf n kk i ∨ (¬ 5 ≤ kf ∧ (i = 0 ∨ i = n - 1))) := (by omega)
              refine lv_aload_n hx hb dX7_pull_68 rfl (lv_at hl 3 rfl) ?_
              refine va_get (D := (dC, dI)) (ci := 6) (v := .ref rx) (C := RX7) (T := TX7) (N := 4) hx hb hts inX7 hown hK hP 0 rfl rfl 0 (Nat.le_of_ble_eq_true rfl) (hts _ mw_161) (fun _ h9 => h9) rfl dX7_pull_69 ?_
              refine lv_iload hx hb dX7_pull_72 (lv_at hl 1 rfl) ?_
              refine lv_dup2_11 hx hb dX7_pull_74 rfl rfl ?_
              have b9_11 : i < cap := by omega
              have b9_12 : zlt (cap) := show cap < 2147483648 by omega
              refine z_iald hx hb hK hP 1 0 rfl rfl (e := i) rfl b9_11 b9_12 dX7_pull_75 ?_
              refine lv_iload_n hx hb dX7_pull_76 rfl (lv_at hl 5 rfl) ?_
              refine lv_iload hx hb dX7_pull_77 (lv_at hl 2 rfl) ?_
              refine lv_iload hx hb dX7_pull_79 (lv_at hl 0 rfl) ?_
              refine zz_i (v := nI (wyR kf n kk i)) (zn_eq (by unfold wyR; first | (rw [if_pos (by omega)]) | (rw [if_neg (by omega)]))) ?_
              refine lv_isub hx hb dX7_pull_81 ?_
              refine zz_i (v := nI ((rr + 1) - (wyR kf n kk i))) (pk_sub (a := rr + 1) (b := wyR kf n kk i) (by omega)) ?_
              refine lv_imul hx hb dX7_pull_82 ?_
              refine lv_iload hx hb dX7_pull_83 (lv_at hl 2 rfl) ?_
              refine lv_idiv hx hb dX7_pull_85 (nI_ne0 (by omega) (by omega)) ?_
              refine lv_iadd hx hb dX7_pull_86 ?_
              refine z_iast hx hb hK hP hD hS 1 0 rfl rfl (e := i) (x := (X1 i) + ((dx * (nI ((rr + 1) - (wyR kf n kk i)))) / (nI (rr + 1)))) rfl b9_11 b9_12 dX7_pull_87 (fun H locs hP hD hS => ?_)
              obtain ⟨hP, hD⟩ := zre (W2 := [_, (oa rx cI cap (upd X1 i ((X1 i) + ((dx * (nI ((rr + 1) - (wyR kf n kk i)))) / (nI (rr + 1)))))), _]) hP hD rfl
              refine lv_aload_n hx hb dX7_pull_88 rfl (lv_at hl 3 rfl) ?_
              refine va_get (D := (dC, dI)) (ci := 6) (v := .ref ry) (C := RX7) (T := TX7) (N := 4) hx hb hts inX7 hown hK hP 0 rfl rfl 1 (Nat.le_of_ble_eq_true rfl) (hts _ mw_168) (fun _ h9 => h9) rfl dX7_pull_89 ?_
              refine lv_iload hx hb dX7_pull_92 (lv_at hl 1 rfl) ?_
              refine lv_dup2_11 hx hb dX7_pull_94 rfl rfl ?_
              refine z_iald hx hb hK hP 2 0 rfl rfl (e := i) rfl b9_11 b9_12 dX7_pull_95 ?_
              refine lv_iload_n hx hb dX7_pull_96 rfl (lv_at hl 6 rfl) ?_
              refine lv_iload hx hb dX7_pull_97 (lv_at hl 2 rfl) ?_
              refine lv_iload hx hb dX7_pull_99 (lv_at hl 0 rfl) ?_
              refine zz_i (v := nI (wyR kf n kk i)) (zn_eq (by unfold wyR; first | (rw [if_pos (by omega)]) | (rw [if_neg (by omega)]))) ?_
              refine lv_isub hx hb dX7_pull_101 ?_
              refine zz_i (v := nI ((rr + 1) - (wyR kf n kk i))) (pk_sub (a := rr + 1) (b := wyR kf n kk i) (by omega)) ?_
              refine lv_imul hx hb dX7_pull_102 ?_
              refine lv_iload hx hb dX7_pull_103 (lv_at hl 2 rfl) ?_
              refine lv_idiv hx hb dX7_pull_105 (nI_ne0 (by omega) (by omega)) ?_
              refine lv_iadd hx hb dX7_pull_106 ?_
              refine z_iast hx hb hK hP hD hS 2 0 rfl rfl (e := i) (x := (Y1 i) + ((dy * (nI ((rr + 1) - (wyR kf n kk i)))) / (nI (rr + 1)))) rfl b9_11 b9_12 dX7_pull_107 (fun H locs hP hD hS => ?_)
              obtain ⟨hP, hD⟩ := zre (W2 := [_, _, (oa ry cI cap (upd Y1 i ((Y1 i) + ((dy * (nI ((rr + 1) - (wyR kf n kk i)))) / (nI (rr + 1))))))]) hP hD rfl
              refine lv_iinc (v := nI (i + 1)) (lv' := [(6, .int (nI (i + 1))), (7, .int (nI (Int.natAbs (((i : Nat) : Int) - ((kk : Nat) : Int))))), (5, .int (nI (rr + 1))), (0, .ref r), (1, .int (nI kk)), (2, .int dx), (3, .int dy), (4, .int (nI rr))]) hx hb dX7_pull_108 hl (k := 1) rfl (nI_add i 1) (Nat.le_of_ble_eq_true rfl) rfl (fun ls hl => ?_)
              refine lv_goto (tgt := 13) hx hb dX7_pull_111 rfl ?_
              exact ih_13 (i + 1) (upd X1 i ((X1 i) + ((dx * (nI ((rr + 1) - (wyR kf n kk i)))) / (nI (rr + 1))))) (upd Y1 i ((Y1 i) + ((dy * (nI ((rr + 1) - (wyR kf n kk i)))) / (nI (rr + 1))))) H locs ls (by first | with_reducible assumption | omega) (by first | with_reducible assumption | omega) (by intro j hj; rcases Nat.lt_or_ge j i with h | h; (first | exact hlo j h | (simp only [upd, if_neg (show j ≠ i by omega)]; exact hlo j h)); rw [show j = i by omega]; first | (simp only [upd, if_true]; rw [(hhi i (Nat.le_refl _)).1, (hhi i (Nat.le_refl _)).2]; exact ⟨shV_f hst9, shV_f hst9⟩) | (rw [(hhi i (Nat.le_refl _)).1, (hhi i (Nat.le_refl _)).2]; have h9 : rr < wyR kf n kk i ∨ (¬ 5 ≤ kf ∧ (i = 0 ∨ i = n - 1)) := (by first | exact Or.inl (by first | with_reducible assumption | omega) | exact Or.inr ⟨by omega, by omega⟩); exact ⟨shV_t h9, shV_t h9⟩)) (by intro j hj; first | exact hhi j (by first | with_reducible assumption | omega) | (simp only [upd, if_neg (show j ≠ i by omega)]; exact hhi j (by first | with_reducible assumption | omega))) hP hD hS (lv_sub hl [0, 2, 3, 4, 5, 6, 7] rfl)
        · have c_6 : ¬ rg.toInt = 0 := zc_ne rfl rfl c_6
          refine lv_iload hx hb dX7_pull_38 (lv_at hl 0 rfl) ?_
          refine lv_aload_n hx hb dX7_pull_40 rfl (lv_at hl 3 rfl) ?_
          refine va_get (D := (dC, dI)) (ci := 6) (v := .int (nI n)) (C := RX7) (T := TX7) (N := 4) hx hb hts inX7 hown hK hP 0 rfl rfl 2 (Nat.le_of_ble_eq_true rfl) (hts _ mw_175) (fun _ h9 => h9) rfl dX7_pull_41 ?_
          refine lv_iload hx hb dX7_pull_44 (lv_at hl 0 rfl) ?_
          refine lv_isub hx hb dX7_pull_46 ?_
          refine zz_i (v := nI (n - (Int.natAbs (((i : Nat) : Int) - ((kk : Nat) : Int))))) (pk_sub (a := n) (b := Int.natAbs (((i : Nat) : Int) - ((kk : Nat) : Int))) (by omega)) ?_
          refine va_mmin hx hb (by rw [hml]; exact hl.1.symm) hown (hts _ mw_895) (hts _ mw_858) (hts _ mw_103) (hts _ mw_mincode) (Nat.le_of_ble_eq_true rfl) (Nat.le_of_ble_eq_true rfl) (Nat.le_of_ble_eq_true rfl) (Nat.le_of_ble_eq_true rfl) dX7_pull_47 ?_
          have b9_13 : zlt ((Int.natAbs (((i : Nat) : Int) - ((kk : Nat) : Int)))) := show (Int.natAbs (((i : Nat) : Int) - ((kk : Nat) : Int))) < 2147483648 by omega
          have b9_14 : zlt ((n - (Int.natAbs (((i : Nat) : Int) - ((kk : Nat) : Int))))) := show (n - (Int.natAbs (((i : Nat) : Int) - ((kk : Nat) : Int)))) < 2147483648 by omega
          refine lv_topi (fun v_15 ev_15 => ?_)
          have hv_15 : v_15.toInt = min ((Int.natAbs (((i : Nat) : Int) - ((kk : Nat) : Int)) : Nat) : Int) ((n - (Int.natAbs (((i : Nat) : Int) - ((kk : Nat) : Int))) : Nat) : Int) := zmin (nI_toInt b9_13) (nI_toInt b9_14) ev_15
          refine zz_i (v := nI (min (Int.natAbs (((i : Nat) : Int) - ((kk : Nat) : Int))) (n - Int.natAbs (((i : Nat) : Int) - ((kk : Nat) : Int))))) (Int32.toInt_inj.mp (by rw [hv_15, nI_toInt (by omega)]; omega)) ?_
          refine lv_istore (lv' := [(7, .int (nI (min (Int.natAbs (((i : Nat) : Int) - ((kk : Nat) : Int))) (n - Int.natAbs (((i : Nat) : Int) - ((kk : Nat) : Int)))))), (6, .int (nI i)), (5, .int (nI (rr + 1))), (0, .ref r), (1, .int (nI kk)), (2, .int dx), (3, .int dy), (4, .int (nI rr))]) hx hb dX7_pull_50 hl (Nat.le_of_ble_eq_true rfl) rfl (fun ls hl => ?_)
          refine lv_iload hx hb dX7_pull_52 (lv_at hl 0 rfl) ?_
          refine zz_i (v := nI (wyR kf n kk i)) (zn_eq (by unfold wyR; first | (rw [if_pos (by omega)]) | (rw [if_neg (by omega)]))) ?_
          refine lv_iload hx hb dX7_pull_54 (lv_at hl 2 rfl) ?_
          have b9_17 : zlt ((wyR kf n kk i)) := show (wyR kf n kk i) < 2147483648 by omega
          have b9_18 : zlt ((rr + 1)) := show (rr + 1) < 2147483648 by omega
          refine lv_icmp_ge (tgt := 108) hx hb dX7_pull_56 rfl (fun c_16 => ?_) (fun c_16 => ?_)
          · have c_16 : ((rr + 1 : Nat) : Int) ≤ ((wyR kf n kk i : Nat) : Int) := zc_le (nI_toInt b9_18) (nI_toInt b9_17) c_16
            refine lv_iinc (v := nI (i + 1)) (lv' := [(6, .int (nI (i + 1))), (7, .int (nI (min (Int.natAbs (((i : Nat) : Int) - ((kk : Nat) : Int))) (n - Int.natAbs (((i : Nat) : Int) - ((kk : Nat) : Int)))))), (5, .int (nI (rr + 1))), (0, .ref r), (1, .int (nI kk)), (2, .int dx), (3, .int dy), (4, .int (nI rr))]) hx hb dX7_pull_108 hl (k := 1) rfl (nI_add i 1) (Nat.le_of_ble_eq_true rfl) rfl (fun ls hl => ?_)
            refine lv_goto (tgt := 13) hx hb dX7_pull_111 rfl ?_
            exact ih_13 (i + 1) X1 Y1 H locs ls (by first | with_reducible assumption | omega) (by first | with_reducible assumption | omega) (by intro j hj; rcases Nat.lt_or_ge j i with h | h; (first | exact hlo j h | (simp only [upd, if_neg (show j ≠ i by omega)]; exact hlo j h)); rw [show j = i by omega]; first | (simp only [upd, if_true]; rw [(hhi i (Nat.le_refl _)).1, (hhi i (Nat.le_refl _)).2]; exact ⟨shV_f hst9, shV_f hst9⟩) | (rw [(hhi i (Nat.le_refl _)).1, (hhi i (Nat.le_refl _)).2]; have h9 : rr < wyR kf n kk i ∨ (¬ 5 ≤ kf ∧ (i = 0 ∨ i = n - 1)) := (by first | exact Or.inl (by first | with_reducible assumption | omega) | exact Or.inr ⟨by omega, by omega⟩); exact ⟨shV_t h9, shV_t h9⟩)) (by intro j hj; first | exact hhi j (by first | with_reducible assumption | omega) | (simp only [upd, if_neg (show j ≠ i by omega)]; exact hhi j (by first | with_reducible assumption | omega))) hP hD hS (lv_sub hl [0, 2, 3, 4, 5, 6, 7] rfl)
          · have c_16 : ((wyR kf n kk i : Nat) : Int) < ((rr + 1 : Nat) : Int) := zc_nle (nI_toInt b9_18) (nI_toInt b9_17) c_16
            refine lv_aload_n hx hb dX7_pull_59 rfl (lv_at hl 3 rfl) ?_
            refine lv_iload hx hb dX7_pull_60 (lv_at hl 1 rfl) ?_
            obtain ⟨hPc, hDc, hFc, hI1⟩ := zi_sub (wc := [_, _, _]) hP hD hS hA [0, 1, 2] rfl rfl
            refine zcall (st1 := [.int (pI (rg.toInt = 0 ∧ (i = 0 ∨ i = n - 1)))]) (va_runV (As := [.int (nI i)]) (rest := []) ⟨hx, hb, hml, hown, hts⟩ (k_Row_isEnd l dC dI cI cZ cF H.size r rx ry n cap X1 Y1 rg i (by first | with_reducible assumption | omega) (by first | with_reducible assumption | omega) (by first | with_reducible assumption | omega)) (csV_13 hts rfl rfl ⟨Nat.le_of_ble_eq_true rfl, Nat.le_of_ble_eq_true rfl⟩) (zPV2 (q0 := 0) (ci := 6) hPc hDc hK hXN rfl rfl) rfl rfl hl.1 rfl (lv_room (Nat.le_of_ble_eq_true rfl)) dX7_pull_62 ⟨Nat.le_of_ble_eq_true rfl, Nat.le_of_ble_eq_true rfl⟩) hS hFc hFc rfl (fun t H locs ht hB hk1 hS => ?_)
            obtain ⟨hP1, hD1⟩ := hB
            rw [ht] at hP1
            replace hP := z0 hP hD hk1 hP1 hI1
            clear hk1 hPc hDc hFc hP1 hD1 ht hI1
            refine lv_if_ne (tgt := 108) hx hb dX7_pull_65 rfl (fun c_19 => ?_) (fun c_19 => ?_)
            · have c_19 : rg.toInt = 0 ∧ (i = 0 ∨ i = n - 1) := zp_1 c_19
              refine lv_iinc (v := nI (i + 1)) (lv' := [(6, .int (nI (i + 1))), (7, .int (nI (min (Int.natAbs (((i : Nat) : Int) - ((kk : Nat) : Int))) (n - Int.natAbs (((i : Nat) : Int) - ((kk : Nat) : Int)))))), (5, .int (nI (rr + 1))), (0, .ref r), (1, .int (nI kk)), (2, .int dx), (3, .int dy), (4, .int (nI rr))]) hx hb dX7_pull_108 hl (k := 1) rfl (nI_add i 1) (Nat.le_of_ble_eq_true rfl) rfl (fun ls hl => ?_)
              refine lv_goto (tgt := 13) hx hb dX7_pull_111 rfl ?_
              exact ih_13 (i + 1) X1 Y1 H locs ls (by first | with_reducible assumption | omega) (by first | with_reducible assumption | omega) (by intro j hj; rcases Nat.lt_or_ge j i with h | h; (first | exact hlo j h | (simp only [upd, if_neg (show j ≠ i by omega)]; exact hlo j h)); rw [show j = i by omega]; first | (simp only [upd, if_true]; rw [(hhi i (Nat.le_refl _)).1, (hhi i (Nat.le_refl _)).2]; exact ⟨shV_f hst9, shV_f hst9⟩) | (rw [(hhi i (Nat.le_refl _)).1, (hhi i (Nat.le_refl _)).2]; have h9 : rr < wyR kf n kk i ∨ (¬ 5 ≤ kf ∧ (i = 0 ∨ i = n - 1)) := (by first | exact Or.inl (by first | with_reducible assumption | omega) | exact Or.inr ⟨by omega, by omega⟩); exact ⟨shV_t h9, shV_t h9⟩)) (by intro j hj; first | exact hhi j (by first | with_reducible assumption | omega) | (simp only [upd, if_neg (show j ≠ i by omega)]; exact hhi j (by first | with_reducible assumption | omega))) hP hD hS (lv_sub hl [0, 2, 3, 4, 5, 6, 7] rfl)
            · have c_19 : ¬ (rg.toInt = 0 ∧ (i = 0 ∨ i = n - 1)) := zp_0 c_19
              have hst9 : ¬ (rr < wyR kf n kk i ∨ (¬ 5 ≤ kf ∧ (i = 0 ∨ i = n - 1))) := (by omega)
              refine lv_aload_n hx hb dX7_pull_68 rfl (lv_at hl 3 rfl) ?_
              refine va_get (D := (dC, dI)) (ci := 6) (v := .ref rx) (C := RX7) (T := TX7) (N := 4) hx hb hts inX7 hown hK hP 0 rfl rfl 0 (Nat.le_of_ble_eq_true rfl) (hts _ mw_161) (fun _ h9 => h9) rfl dX7_pull_69 ?_
              refine lv_iload hx hb dX7_pull_72 (lv_at hl 1 rfl) ?_
              refine lv_dup2_11 hx hb dX7_pull_74 rfl rfl ?_
              have b9_20 : i < cap := by omega
              have b9_21 : zlt (cap) := show cap < 2147483648 by omega
              refine z_iald hx hb hK hP 1 0 rfl rfl (e := i) rfl b9_20 b9_21 dX7_pull_75 ?_
              refine lv_iload_n hx hb dX7_pull_76 rfl (lv_at hl 5 rfl) ?_
              refine lv_iload hx hb dX7_pull_77 (lv_at hl 2 rfl) ?_
              refine lv_iload hx hb dX7_pull_79 (lv_at hl 0 rfl) ?_
              refine zz_i (v := nI (wyR kf n kk i)) (zn_eq (by unfold wyR; first | (rw [if_pos (by omega)]) | (rw [if_neg (by omega)]))) ?_
              refine lv_isub hx hb dX7_pull_81 ?_
              refine zz_i (v := nI ((rr + 1) - (wyR kf n kk i))) (pk_sub (a := rr + 1) (b := wyR kf n kk i) (by omega)) ?_
              refine lv_imul hx hb dX7_pull_82 ?_
              refine lv_iload hx hb dX7_pull_83 (lv_at hl 2 rfl) ?_
              refine lv_idiv hx hb dX7_pull_85 (nI_ne0 (by omega) (by omega)) ?_
              refine lv_iadd hx hb dX7_pull_86 ?_
              refine z_iast hx hb hK hP hD hS 1 0 rfl rfl (e := i) (x := (X1 i) + ((dx * (nI ((rr + 1) - (wyR kf n kk i)))) / (nI (rr + 1)))) rfl b9_20 b9_21 dX7_pull_87 (fun H locs hP hD hS => ?_)
              obtain ⟨hP, hD⟩ := zre (W2 := [_, (oa rx cI cap (upd X1 i ((X1 i) + ((dx * (nI ((rr + 1) - (wyR kf n kk i)))) / (nI (rr + 1)))))), _]) hP hD rfl
              refine lv_aload_n hx hb dX7_pull_88 rfl (lv_at hl 3 rfl) ?_
              refine va_get (D := (dC, dI)) (ci := 6) (v := .ref ry) (C := RX7) (T := TX7) (N := 4) hx hb hts inX7 hown hK hP 0 rfl rfl 1 (Nat.le_of_ble_eq_true rfl) (hts _ mw_168) (fun _ h9 => h9) rfl dX7_pull_89 ?_
              refine lv_iload hx hb dX7_pull_92 (lv_at hl 1 rfl) ?_
              refine lv_dup2_11 hx hb dX7_pull_94 rfl rfl ?_
              refine z_iald hx hb hK hP 2 0 rfl rfl (e := i) rfl b9_20 b9_21 dX7_pull_95 ?_
              refine lv_iload_n hx hb dX7_pull_96 rfl (lv_at hl 6 rfl) ?_
              refine lv_iload hx hb dX7_pull_97 (lv_at hl 2 rfl) ?_
              refine lv_iload hx hb dX7_pull_99 (lv_at hl 0 rfl) ?_
              refine zz_i (v := nI (wyR kf n kk i)) (zn_eq (by unfold wyR; first | (rw [if_pos (by omega)]) | (rw [if_neg (by omega)]))) ?_
              refine lv_isub hx hb dX7_pull_101 ?_
              refine zz_i (v := nI ((rr + 1) - (wyR kf n kk i))) (pk_sub (a := rr + 1) (b := wyR kf n kk i) (by omega)) ?_
              refine lv_imul hx hb dX7_pull_102 ?_
              refine lv_iload hx hb dX7_pull_103 (lv_at hl 2 rfl) ?_
              refine lv_idiv hx hb dX7_pull_105 (nI_ne0 (by omega) (by omega)) ?_
              refine lv_iadd hx hb dX7_pull_106 ?_
              refine z_iast hx hb hK hP hD hS 2 0 rfl rfl (e := i) (x := (Y1 i) + ((dy * (nI ((rr + 1) - (wyR kf n kk i)))) / (nI (rr + 1)))) rfl b9_20 b9_21 dX7_pull_107 (fun H locs hP hD hS => ?_)
              obtain ⟨hP, hD⟩ := zre (W2 := [_, _, (oa ry cI cap (upd Y1 i ((Y1 i) + ((dy * (nI ((rr + 1) - (wyR kf n kk i)))) / (nI (rr + 1))))))]) hP hD rfl
              refine lv_iinc (v := nI (i + 1)) (lv' := [(6, .int (nI (i + 1))), (7, .int (nI (min (Int.natAbs (((i : Nat) : Int) - ((kk : Nat) : Int))) (n - Int.natAbs (((i : Nat) : Int) - ((kk : Nat) : Int)))))), (5, .int (nI (rr + 1))), (0, .ref r), (1, .int (nI kk)), (2, .int dx), (3, .int dy), (4, .int (nI rr))]) hx hb dX7_pull_108 hl (k := 1) rfl (nI_add i 1) (Nat.le_of_ble_eq_true rfl) rfl (fun ls hl => ?_)
              refine lv_goto (tgt := 13) hx hb dX7_pull_111 rfl ?_
              exact ih_13 (i + 1) (upd X1 i ((X1 i) + ((dx * (nI ((rr + 1) - (wyR kf n kk i)))) / (nI (rr + 1))))) (upd Y1 i ((Y1 i) + ((dy * (nI ((rr + 1) - (wyR kf n kk i)))) / (nI (rr + 1))))) H locs ls (by first | with_reducible assumption | omega) (by first | with_reducible assumption | omega) (by intro j hj; rcases Nat.lt_or_ge j i with h | h; (first | exact hlo j h | (simp only [upd, if_neg (show j ≠ i by omega)]; exact hlo j h)); rw [show j = i by omega]; first | (simp only [upd, if_true]; rw [(hhi i (Nat.le_refl _)).1, (hhi i (Nat.le_refl _)).2]; exact ⟨shV_f hst9, shV_f hst9⟩) | (rw [(hhi i (Nat.le_refl _)).1, (hhi i (Nat.le_refl _)).2]; have h9 : rr < wyR kf n kk i ∨ (¬ 5 ≤ kf ∧ (i = 0 ∨ i = n - 1)) := (by first | exact Or.inl (by first | with_reducible assumption | omega) | exact Or.inr ⟨by omega, by omega⟩); exact ⟨shV_t h9, shV_t h9⟩)) (by intro j hj; first | exact hhi j (by first | with_reducible assumption | omega) | (simp only [upd, if_neg (show j ≠ i by omega)]; exact hhi j (by first | with_reducible assumption | omega))) hP hD hS (lv_sub hl [0, 2, 3, 4, 5, 6, 7] rfl)
  exact hl_13 _ 0 X Y s.heap [] ls (Nat.lt_succ_self _) (by first | with_reducible assumption | omega) (by intro j hj; omega) (by intro j hj; exact ⟨rfl, rfl⟩) hP hD hS (lv_sub hl [0, 1, 2, 3, 4, 5, 6] rfl)
end
section
set_option maxHeartbeats 4000000 in
set_option maxRecDepth 100000 in
theorem k_Fr_become (l : Launch) (dC : Nat → ClassId) (dI : Nat → Nat → Nat) (cI cZ cF : ClassId) (sz : Nat) (fr : Nat) (y1 : Int64) (y2 : Int64) (z1 : Int64) (z2 : Int64) : zM l yX3_become cX3_become 5 none ({ frames := 0, cells := 0, slots := 0, locals := 0 } : Room) [.ref fr, .long z1, .long z2] (dC, dI) (zTy cI cZ cF) [(oc2 fr y1 y2)] sz none (fun A t => zPD (dC, dI) classes A [(oc2 fr z1 z2)] t.heap) 0 0 := by
  refine zIn (own := "ScaleShop$Fraction") (loc := [(0, .ref fr), (1, .long z1), (3, .long z2)]) rfl rfl rfl rfl (fun p e s m below meth c hx hb hr hts hown hlocks hml hnm9 A hA hS hP hD hK hXN Q9 hQ9 ls hl => ?_)
  refine lv_aload_n hx hb dX3_become_0 rfl (lv_at hl 0 rfl) ?_
  refine lv_lload_n hx hb dX3_become_1 rfl (lv_at hl 1 rfl) ?_
  refine va_put (D := (dC, dI)) (ci := 2) (v := .long z1) (ty := .long) (C := RX3) (T := TX3) (N := 2) hx hb hts inX3 tyX3 tyX3_ok nmX3 hown hK hP hD hS 0 rfl rfl 0 (by decide) (hts _ mw_273) (fun _ h9 => h9) rfl (by decide +kernel) rfl rfl (Nat.le_of_ble_eq_true rfl) dX3_become_2 (fun H locs hP hD hS => ?_)
  obtain ⟨hP, hD⟩ := zre (W2 := [(oc2 fr z1 y2)]) hP hD rfl
  refine lv_aload_n hx hb dX3_become_5 rfl (lv_at hl 0 rfl) ?_
  refine lv_lload_n hx hb dX3_become_6 rfl (lv_at hl 2 rfl) ?_
  refine va_put (D := (dC, dI)) (ci := 2) (v := .long z2) (ty := .long) (C := RX3) (T := TX3) (N := 2) hx hb hts inX3 tyX3 tyX3_ok nmX3 hown hK hP hD hS 0 rfl rfl 1 (by decide) (hts _ mw_275) (fun _ h9 => h9) rfl (by decide +kernel) rfl rfl (Nat.le_of_ble_eq_true rfl) dX3_become_7 (fun H locs hP hD hS => ?_)
  obtain ⟨hP, hD⟩ := zre (W2 := [(oc2 fr z1 z2)]) hP hD rfl
  obtain ⟨hP9, hD9⟩ := zu_sub (wc := [_]) hP hD [true] rfl rfl
  rw [hQ9]
  exact W.vret hx hb hr (fun t ht hW => ⟨⟨rfl, by rw [ht]; exact hP9, hD9⟩, hS.F ht⟩) hS.2.2 dX3_become_10
set_option maxHeartbeats 4000000 in
set_option maxRecDepth 100000 in
theorem k_Fr_clear (l : Launch) (dC : Nat → ClassId) (dI : Nat → Nat → Nat) (cI cZ cF : ClassId) (sz : Nat) (fr : Nat) (y1 : Int64) (y2 : Int64) : zM l yX3_clear cX3_clear 1 none ({ frames := 1, cells := 0, slots := 0, locals := 24 } : Room) [.ref fr] (dC, dI) (zTy cI cZ cF) [(oc2 fr y1 y2)] sz none (fun A t => zPD (dC, dI) classes A [(oc2 fr 0 0)] t.heap) 0 0 := by
  refine zIn (own := "ScaleShop$Fraction") (loc := [(0, .ref fr)]) rfl rfl rfl rfl (fun p e s m below meth c hx hb hr hts hown hlocks hml hnm9 A hA hS hP hD hK hXN Q9 hQ9 ls hl => ?_)
  refine lv_aload_n hx hb dX3_clear_0 rfl (lv_at hl 0 rfl) ?_
  refine lv_lconst (v := 0) hx hb dX3_clear_1 rfl ?_
  refine lv_lconst (v := 0) hx hb dX3_clear_2 rfl ?_
  obtain ⟨hPc, hDc, hFc⟩ := zo_sub (wc := [_]) hP hD hS hA [0] rfl rfl
  refine zcall (st1 := []) (va_runV (As := [.long 0, .long 0]) (rest := []) ⟨hx, hb, hml, hown, hts⟩ (k_Fr_become l dC dI cI cZ cF s.heap.size fr y1 y2 0 0 ) (csV_19 hts rfl rfl ⟨Nat.le_of_ble_eq_true rfl, Nat.le_of_ble_eq_true rfl⟩) (zPV2 (q0 := 0) (ci := 2) hPc hDc hK hXN rfl rfl) rfl rfl hl.1 rfl (lv_room (Nat.le_of_ble_eq_true rfl)) dX3_clear_3 ⟨Nat.le_of_ble_eq_true rfl, Nat.le_of_ble_eq_true rfl⟩) hS hFc hFc rfl (fun t H locs ht hB hk1 hS => ?_)
  obtain ⟨hP1, hD1⟩ := hB
  rw [ht] at hP1
  obtain ⟨hP, hD⟩ := zn (W2 := [(oc2 fr 0 0)]) hP hD hk1 hFc hP1 hD1 [0] [] [false] [0] (by decide +kernel) rfl rfl rfl rfl rfl
  clear hk1 hPc hDc hFc hP1 hD1 ht
  obtain ⟨hP9, hD9⟩ := zu_sub (wc := [_]) hP hD [true] rfl rfl
  rw [hQ9]
  exact W.vret hx hb hr (fun t ht hW => ⟨⟨rfl, by rw [ht]; exact hP9, hD9⟩, hS.F ht⟩) hS.2.2 dX3_clear_6
set_option maxHeartbeats 4000000 in
set_option maxRecDepth 100000 in
theorem k_Fr_offer (l : Launch) (dC : Nat → ClassId) (dI : Nat → Nat → Nat) (cI cZ cF : ClassId) (sz : Nat) (fr : Nat) (o9 : Int) (d9 : Int) (u9 : Int) (e9 : Int) (ho : 0 ≤ o9 ∧ o9 ≤ 4000000000000) (hd : 0 ≤ d9 ∧ d9 ≤ 2000000) (hu : 0 ≤ u9 ∧ u9 ≤ 4000000000000) (he : 1 ≤ e9 ∧ e9 ≤ 2000000) : zM l yX3_offer cX3_offer 5 none ({ frames := 0, cells := 0, slots := 0, locals := 0 } : Room) [.ref fr, .long (jI u9), .long (jI e9)] (dC, dI) (zTy cI cZ cF) [(oc2 fr (jI o9) (jI d9))] sz none (fun A t => ∃ (zu : Int), ∃ (zd : Int), (ndP o9 d9 u9 e9 zu zd) ∧ zPD (dC, dI) classes A [(oc2 fr (jI zu) (jI zd))] t.heap) 0 0 := by
  refine zIn (own := "ScaleShop$Fraction") (loc := [(0, .ref fr), (1, .long (jI u9)), (3, .long (jI e9))]) rfl rfl rfl rfl (fun p e s m below meth c hx hb hr hts hown hlocks hml hnm9 A hA hS hP hD hK hXN Q9 hQ9 ls hl => ?_)
  have hp1 := prN hu hd
  have hp2 := prN ho ⟨by omega, he.2⟩
  refine lv_aload_n hx hb dX3_offer_0 rfl (lv_at hl 0 rfl) ?_
  refine va_get (D := (dC, dI)) (ci := 2) (v := .long (jI d9)) (C := RX3) (T := TX3) (N := 2) hx hb hts inX3 hown hK hP 0 rfl rfl 1 (Nat.le_of_ble_eq_true rfl) (hts _ mw_275) (fun _ h9 => h9) rfl dX3_offer_1 ?_
  refine lv_lconst (v := 0) hx hb dX3_offer_4 rfl ?_
  refine W.lcmp hx hb dX3_offer_5 ?_
  refine lv_if_eq (tgt := 25) hx hb dX3_offer_6 rfl (fun c_1 => ?_) (fun c_1 => ?_)
  · have c_1 : d9 = 0 := zl_eq (jI_toInt (by omega)) rfl c_1
    refine lv_aload_n hx hb dX3_offer_25 rfl (lv_at hl 0 rfl) ?_
    refine lv_lload_n hx hb dX3_offer_26 rfl (lv_at hl 1 rfl) ?_
    refine va_put (D := (dC, dI)) (ci := 2) (v := .long (jI u9)) (ty := .long) (C := RX3) (T := TX3) (N := 2) hx hb hts inX3 tyX3 tyX3_ok nmX3 hown hK hP hD hS 0 rfl rfl 0 (by decide) (hts _ mw_273) (fun _ h9 => h9) rfl (by decide +kernel) rfl rfl (Nat.le_of_ble_eq_true rfl) dX3_offer_27 (fun H locs hP hD hS => ?_)
    obtain ⟨hP, hD⟩ := zre (W2 := [(oc2 fr (jI u9) (jI d9))]) hP hD rfl
    refine lv_aload_n hx hb dX3_offer_30 rfl (lv_at hl 0 rfl) ?_
    refine lv_lload_n hx hb dX3_offer_31 rfl (lv_at hl 2 rfl) ?_
    refine va_put (D := (dC, dI)) (ci := 2) (v := .long (jI e9)) (ty := .long) (C := RX3) (T := TX3) (N := 2) hx hb hts inX3 tyX3 tyX3_ok nmX3 hown hK hP hD hS 0 rfl rfl 1 (by decide) (hts _ mw_275) (fun _ h9 => h9) rfl (by decide +kernel) rfl rfl (Nat.le_of_ble_eq_true rfl) dX3_offer_32 (fun H locs hP hD hS => ?_)
    obtain ⟨hP, hD⟩ := zre (W2 := [(oc2 fr (jI u9) (jI e9))]) hP hD rfl
    obtain ⟨hP9, hD9⟩ := zu_sub (wc := [_]) hP hD [true] rfl rfl
    rw [hQ9]
    exact W.vret hx hb hr (fun t ht hW => ⟨⟨rfl, u9, e9, (by unfold ndP; first | exact Or.inl ⟨Or.inl (by omega), rfl, rfl⟩ | exact Or.inl ⟨Or.inr (by omega), rfl, rfl⟩ | exact Or.inr ⟨fun h => by omega, rfl, rfl⟩), by rw [ht]; exact hP9, hD9⟩, hS.F ht⟩) hS.2.2 dX3_offer_35
  · have c_1 : ¬ d9 = 0 := zl_ne (jI_toInt (by omega)) rfl c_1
    refine lv_lload_n hx hb dX3_offer_9 rfl (lv_at hl 1 rfl) ?_
    refine lv_aload_n hx hb dX3_offer_10 rfl (lv_at hl 0 rfl) ?_
    refine va_get (D := (dC, dI)) (ci := 2) (v := .long (jI d9)) (C := RX3) (T := TX3) (N := 2) hx hb hts inX3 hown hK hP 0 rfl rfl 1 (Nat.le_of_ble_eq_true rfl) (hts _ mw_275) (fun _ h9 => h9) rfl dX3_offer_11 ?_
    refine lv_lmul hx hb dX3_offer_14 ?_
    refine zz_l (v := jI (u9 * d9)) (jI_mul (by omega) (by omega) (by omega)) ?_
    refine lv_aload_n hx hb dX3_offer_15 rfl (lv_at hl 0 rfl) ?_
    refine va_get (D := (dC, dI)) (ci := 2) (v := .long (jI o9)) (C := RX3) (T := TX3) (N := 2) hx hb hts inX3 hown hK hP 0 rfl rfl 0 (Nat.le_of_ble_eq_true rfl) (hts _ mw_273) (fun _ h9 => h9) rfl dX3_offer_16 ?_
    refine lv_lload_n hx hb dX3_offer_19 rfl (lv_at hl 2 rfl) ?_
    refine lv_lmul hx hb dX3_offer_20 ?_
    refine zz_l (v := jI (o9 * e9)) (jI_mul (by omega) (by omega) (by omega)) ?_
    refine W.lcmp hx hb dX3_offer_21 ?_
    refine lv_if_ge (tgt := 35) hx hb dX3_offer_22 rfl (fun c_2 => ?_) (fun c_2 => ?_)
    · have c_2 : (o9 * e9) ≤ (u9 * d9) := zl_ge (jI_toInt (by omega)) (jI_toInt (by omega)) c_2
      obtain ⟨hP9, hD9⟩ := zu_sub (wc := [_]) hP hD [true] rfl rfl
      rw [hQ9]
      exact W.vret hx hb hr (fun t ht hW => ⟨⟨rfl, o9, d9, (by unfold ndP; first | exact Or.inl ⟨Or.inl (by omega), rfl, rfl⟩ | exact Or.inl ⟨Or.inr (by omega), rfl, rfl⟩ | exact Or.inr ⟨fun h => by omega, rfl, rfl⟩), by rw [ht]; exact hP9, hD9⟩, hS.F ht⟩) hS.2.2 dX3_offer_35
    · have c_2 : (u9 * d9) < (o9 * e9) := zl_nge (jI_toInt (by omega)) (jI_toInt (by omega)) c_2
      refine lv_aload_n hx hb dX3_offer_25 rfl (lv_at hl 0 rfl) ?_
      refine lv_lload_n hx hb dX3_offer_26 rfl (lv_at hl 1 rfl) ?_
      refine va_put (D := (dC, dI)) (ci := 2) (v := .long (jI u9)) (ty := .long) (C := RX3) (T := TX3) (N := 2) hx hb hts inX3 tyX3 tyX3_ok nmX3 hown hK hP hD hS 0 rfl rfl 0 (by decide) (hts _ mw_273) (fun _ h9 => h9) rfl (by decide +kernel) rfl rfl (Nat.le_of_ble_eq_true rfl) dX3_offer_27 (fun H locs hP hD hS => ?_)
      obtain ⟨hP, hD⟩ := zre (W2 := [(oc2 fr (jI u9) (jI d9))]) hP hD rfl
      refine lv_aload_n hx hb dX3_offer_30 rfl (lv_at hl 0 rfl) ?_
      refine lv_lload_n hx hb dX3_offer_31 rfl (lv_at hl 2 rfl) ?_
      refine va_put (D := (dC, dI)) (ci := 2) (v := .long (jI e9)) (ty := .long) (C := RX3) (T := TX3) (N := 2) hx hb hts inX3 tyX3 tyX3_ok nmX3 hown hK hP hD hS 0 rfl rfl 1 (by decide) (hts _ mw_275) (fun _ h9 => h9) rfl (by decide +kernel) rfl rfl (Nat.le_of_ble_eq_true rfl) dX3_offer_32 (fun H locs hP hD hS => ?_)
      obtain ⟨hP, hD⟩ := zre (W2 := [(oc2 fr (jI u9) (jI e9))]) hP hD rfl
      obtain ⟨hP9, hD9⟩ := zu_sub (wc := [_]) hP hD [true] rfl rfl
      rw [hQ9]
      exact W.vret hx hb hr (fun t ht hW => ⟨⟨rfl, u9, e9, (by unfold ndP; first | exact Or.inl ⟨Or.inl (by omega), rfl, rfl⟩ | exact Or.inl ⟨Or.inr (by omega), rfl, rfl⟩ | exact Or.inr ⟨fun h => by omega, rfl, rfl⟩), by rw [ht]; exact hP9, hD9⟩, hS.F ht⟩) hS.2.2 dX3_offer_35
set_option maxHeartbeats 4000000 in
set_option maxRecDepth 100000 in
theorem k_Fr_isBelow (l : Launch) (dC : Nat → ClassId) (dI : Nat → Nat → Nat) (cI cZ cF : ClassId) (sz : Nat) (fr : Nat) (o9 : Int) (d9 : Int) (f2 : Nat) (p9 : Int) (q9 : Int) (ho : 0 ≤ o9 ∧ o9 ≤ 4000000000000) (hd : 0 ≤ d9 ∧ d9 ≤ 2000000) (hp : 0 ≤ p9 ∧ p9 ≤ 4000000000000) (hq : 0 ≤ q9 ∧ q9 ≤ 2000000) : zM l yX3_isBelow cX3_isBelow 2 (some .boolean) ({ frames := 0, cells := 0, slots := 0, locals := 0 } : Room) [.ref fr, .ref f2] (dC, dI) (zTy cI cZ cF) [(oc2 fr (jI o9) (jI d9)), (oc2 f2 (jI p9) (jI q9))] sz (some (.int (pI (o9 * q9 < p9 * d9)))) (fun A t => zPD (dC, dI) classes A [(oc2 fr (jI o9) (jI d9)), (oc2 f2 (jI p9) (jI q9))] t.heap) 0 0 := by
  refine zIn (own := "ScaleShop$Fraction") (loc := [(0, .ref fr), (1, .ref f2)]) rfl rfl rfl rfl (fun p e s m below meth c hx hb hr hts hown hlocks hml hnm9 A hA hS hP hD hK hXN Q9 hQ9 ls hl => ?_)
  have hp1 := prN ho hq
  have hp2 := prN hp hd
  refine lv_aload_n hx hb dX3_isBelow_0 rfl (lv_at hl 0 rfl) ?_
  refine va_get (D := (dC, dI)) (ci := 2) (v := .long (jI o9)) (C := RX3) (T := TX3) (N := 2) hx hb hts inX3 hown hK hP 0 rfl rfl 0 (Nat.le_of_ble_eq_true rfl) (hts _ mw_273) (fun _ h9 => h9) rfl dX3_isBelow_1 ?_
  refine lv_aload_n hx hb dX3_isBelow_4 rfl (lv_at hl 1 rfl) ?_
  refine va_get (D := (dC, dI)) (ci := 2) (v := .long (jI q9)) (C := RX3) (T := TX3) (N := 2) hx hb hts inX3 hown hK hP 1 rfl rfl 1 (Nat.le_of_ble_eq_true rfl) (hts _ mw_275) (fun _ h9 => h9) rfl dX3_isBelow_5 ?_
  refine lv_lmul hx hb dX3_isBelow_8 ?_
  refine zz_l (v := jI (o9 * q9)) (jI_mul (by omega) (by omega) (by omega)) ?_
  refine lv_aload_n hx hb dX3_isBelow_9 rfl (lv_at hl 1 rfl) ?_
  refine va_get (D := (dC, dI)) (ci := 2) (v := .long (jI p9)) (C := RX3) (T := TX3) (N := 2) hx hb hts inX3 hown hK hP 1 rfl rfl 0 (Nat.le_of_ble_eq_true rfl) (hts _ mw_273) (fun _ h9 => h9) rfl dX3_isBelow_10 ?_
  refine lv_aload_n hx hb dX3_isBelow_13 rfl (lv_at hl 0 rfl) ?_
  refine va_get (D := (dC, dI)) (ci := 2) (v := .long (jI d9)) (C := RX3) (T := TX3) (N := 2) hx hb hts inX3 hown hK hP 0 rfl rfl 1 (Nat.le_of_ble_eq_true rfl) (hts _ mw_275) (fun _ h9 => h9) rfl dX3_isBelow_14 ?_
  refine lv_lmul hx hb dX3_isBelow_17 ?_
  refine zz_l (v := jI (p9 * d9)) (jI_mul (by omega) (by omega) (by omega)) ?_
  refine W.lcmp hx hb dX3_isBelow_18 ?_
  refine lv_if_ge (tgt := 26) hx hb dX3_isBelow_19 rfl (fun c_1 => ?_) (fun c_1 => ?_)
  · have c_1 : (p9 * d9) ≤ (o9 * q9) := zl_ge (jI_toInt (by omega)) (jI_toInt (by omega)) c_1
    refine lv_iconst (v := 0) hx hb dX3_isBelow_26 rfl ?_
    obtain ⟨hP9, hD9⟩ := zu_sub (wc := [_, _]) hP hD [true, true] rfl rfl
    rw [hQ9]
    exact W.zret (ty := .boolean) (v := 0) hx hb hr (rfl) (fun t ht hW => ⟨⟨congrArg (fun z => Outcome.returned (some (Value.int z))) (show (0 : Int32) = pI (o9 * q9 < p9 * d9) from (zp_f (by omega)).symm), by rw [ht]; exact hP9, hD9⟩, hS.F ht⟩) hS.2.2 dX3_isBelow_27
  · have c_1 : (o9 * q9) < (p9 * d9) := zl_nge (jI_toInt (by omega)) (jI_toInt (by omega)) c_1
    refine lv_iconst (v := 1) hx hb dX3_isBelow_22 rfl ?_
    refine lv_goto (tgt := 27) hx hb dX3_isBelow_23 rfl ?_
    obtain ⟨hP9, hD9⟩ := zu_sub (wc := [_, _]) hP hD [true, true] rfl rfl
    rw [hQ9]
    exact W.zret (ty := .boolean) (v := 1) hx hb hr (rfl) (fun t ht hW => ⟨⟨congrArg (fun z => Outcome.returned (some (Value.int z))) (show (1 : Int32) = pI (o9 * q9 < p9 * d9) from (zp_t (by omega)).symm), by rw [ht]; exact hP9, hD9⟩, hS.F ht⟩) hS.2.2 dX3_isBelow_27
end
section
/-! JOIN: the box of two rows, and who is free of it -/
def jlo (C : Nat → Int32) (f n g m : Nat) : Int32 := iI (mnI (mnI (cF40 C f 0).toInt (cF40 C f) n) (cF40 C g) m)
def jhi (C : Nat → Int32) (f n g m : Nat) : Int32 := iI (mxI (mxI (cF40 C f 0).toInt (cF40 C f) n) (cF40 C g) m)
theorem jlo_e {C : Nat → Int32} {f n g m : Nat} {x y : Int32} {z : Int} (ez : z = mnI (cF40 C f 0).toInt (cF40 C f) n) (ha : y = iI z) (hz : 0 ≤ z ∧ z ≤ 1000) (hx : x.toInt = mnI y.toInt (cF40 C g) m) : x = jlo C f n g m := by
  subst ha; rw [iI_toInt (by omega)] at hx; subst ez; exact iI_of hx
theorem jhi_e {C : Nat → Int32} {f n g m : Nat} {x y : Int32} {z : Int} (ez : z = mxI (cF40 C f 0).toInt (cF40 C f) n) (ha : y = iI z) (hz : 0 ≤ z ∧ z ≤ 1000) (hx : x.toInt = mxI y.toInt (cF40 C g) m) : x = jhi C f n g m := by
  subst ha; rw [iI_toInt (by omega)] at hx; subst ez; exact iI_of hx
theorem jpl {cx cy : Nat → Int32} {f n g m : Nat} (hf : pls n (cF40 cx f) (cF40 cy f)) (hn : 1 ≤ n) (hg : pls m (cF40 cx g) (cF40 cy g)) : pl (jlo cx f n g m) ∧ pl (jhi cx f n g m) ∧ pl (jlo cy f n g m) ∧ pl (jhi cy f n g m) := by
  have h0 := hf 0 (by omega); unfold pl at h0
  have a := mnP h0.1 hf n (Nat.le_refl _)
  have b := mnP h0.2 hf n (Nat.le_refl _)
  have c1 := (mnP a.1 hg m (Nat.le_refl _)).1
  have c2 := (mnP a.2.2.1 hg m (Nat.le_refl _)).2.2.1
  have c3 := (mnP b.2.1 hg m (Nat.le_refl _)).2.1
  have c4 := (mnP b.2.2.2 hg m (Nat.le_refl _)).2.2.2
  unfold jlo jhi pl
  rw [iI_toInt (by omega), iI_toInt (by omega), iI_toInt (by omega), iI_toInt (by omega)]
  exact ⟨c1, c2, c3, c4⟩
theorem bx_pls {f : Nat} {a b c d : Int32} {cx cy : Nat → Int32} (ha : pl a) (hb : pl b) (hc : pl c) (hd : pl d) : pls 4 (cF40 (bxX f a b 4 cx) f) (cF40 (bxY f c d 4 cy) f) := by
  intro j hj
  constructor
  · show pl (bxX f a b 4 cx (40 * f + j)); unfold bxX; rw [if_pos (by omega)]; split <;> assumption
  · show pl (bxY f c d 4 cy (40 * f + j)); unfold bxY; rw [if_pos (by omega)]; split <;> assumption
/-- nobody but two among the first k meets the box that lies at 200, or begins inside it -/
def jFr (ft : Nat) (st tn kd mn cx cy : Nat → Int32) (f g k : Nat) : Prop := ∀ q, q < k → ¬ q = f → ¬ q = g → lvF ft st tn q → ¬ mtF (kd 200).toInt 4 (cF40 cx 200) (cF40 cy 200) (kd q).toInt (nN (mn q)) (cF40 cx q) (cF40 cy q) ∧ ¬ inF (kd 200).toInt 4 (cF40 cx 200) (cF40 cy 200) (cx (40 * q)).toInt (cy (40 * q)).toInt
section
variable {ft : Nat} {st tn kd mn cx cy : Nat → Int32} {f g k : Nat}
theorem jF_0 : jFr ft st tn kd mn cx cy f g 0 := fun q h => absurd h (Nat.not_lt_zero _)
theorem jF_y (h : ¬ k = f → ¬ k = g → lvF ft st tn k → ¬ mtF (kd 200).toInt 4 (cF40 cx 200) (cF40 cy 200) (kd k).toInt (nN (mn k)) (cF40 cx k) (cF40 cy k) ∧ ¬ inF (kd 200).toInt 4 (cF40 cx 200) (cF40 cy 200) (cx (40 * k)).toInt (cy (40 * k)).toInt) : jFr ft st tn kd mn cx cy f g (k + 1) ↔ jFr ft st tn kd mn cx cy f g k := by
  constructor
  · intro a q hq; exact a q (by omega)
  · intro a q hq
    rcases Nat.lt_or_ge q k with h1 | h1
    · exact a q h1
    · obtain rfl : q = k := by omega
      exact h
theorem jF_n (h1 : ¬ k = f) (h2 : ¬ k = g) (h3 : lvF ft st tn k) (h : mtF (kd 200).toInt 4 (cF40 cx 200) (cF40 cy 200) (kd k).toInt (nN (mn k)) (cF40 cx k) (cF40 cy k) ∨ inF (kd 200).toInt 4 (cF40 cx 200) (cF40 cy 200) (cx (40 * k)).toInt (cy (40 * k)).toInt) : ¬ jFr ft st tn kd mn cx cy f g (k + 1) := fun a => by
  have b := a k (by omega) h1 h2 h3
  rcases h with h | h
  · exact b.1 h
  · exact b.2 h
end
theorem psN_cg {nn mm : Nat → Nat} {ft w0 : Nat} (h : ∀ g, g < ft → nn g = mm g) : ∀ g, g ≤ ft → psN nn w0 g = psN mm w0 g := by
  intro g
  induction g with
  | zero => intro _; rfl
  | succ g ih => intro hg; show psN nn w0 g + (10 + 2 * nn g) = psN mm w0 g + (10 + 2 * mm g); rw [ih (by omega), h g (by omega)]
theorem nn200 {st tn mn : Nat → Int32} {g : Nat} {x : Int32} (h : g < 200) : nnF st tn (upd mn 200 x) g = nnF st tn mn g := by
  unfold nnF; rw [show upd mn 200 x g = mn g from if_neg (by omega)]
theorem sh200 {kd st gb it pa pb rk wd tw : Nat → Int32} {nn mm : Nat → Nat} {cx cy : Nat → Int32} {g j : Nat} {a b c d x : Int32} (h : g < 200) (hn : nn g = mm g) (h40 : mm g ≤ 40) (hj : j < 10 + 2 * mm g) : shD (upd kd 200 x) st gb it pa pb rk wd tw nn (bxX 200 a b 4 cx) (bxY 200 c d 4 cy) g j = shD kd st gb it pa pb rk wd tw mm cx cy g j := by
  rcases Nat.lt_or_ge j 10 with q | q
  · rcases (show j = 0 ∨ j = 1 ∨ j = 2 ∨ j = 3 ∨ j = 4 ∨ j = 5 ∨ j = 6 ∨ j = 7 ∨ j = 8 ∨ j = 9 by omega) with rfl | rfl | rfl | rfl | rfl | rfl | rfl | rfl | rfl | rfl
    · exact if_neg (by omega)
    all_goals first | rfl | (show nI (nn g) = nI (mm g); rw [hn])
  · rcases Nat.mod_two_eq_zero_or_one j with q2 | q2
    · rw [shD_x (k := (j - 10) / 2) (by omega), shD_x (k := (j - 10) / 2) (by omega)]; exact bxX_o (by omega)
    · rw [shD_y (k := (j - 11) / 2) (by omega), shD_y (k := (j - 11) / 2) (by omega)]; exact bxY_o (by omega)
theorem upd2 {m : Nat → Int32} {f : Nat} {x y : Int32} : upd (upd m f x) f y = upd m f y := by
  funext j; unfold upd; by_cases h : j = f
  · rw [if_pos h, if_pos h]
  · rw [if_neg h, if_neg h, if_neg h]
end
section
/-! CHOOSE: which places roads join -/
/-- two places are joined by edges of a set: every way of joining that holds all edges joins them -/
def chE (D : Nat → Prop) (b e : Nat → Int32 × Int32) (p r : Int32 × Int32) : Prop :=
  ∀ R : Int32 × Int32 → Int32 × Int32 → Prop, (∀ x, R x x) → (∀ q, D q → R (b q) (e q)) → (∀ x y, R x y → R y x) → (∀ x y z, R x y → R y z → R x z) → R p r
theorem chE.rf {D : Nat → Prop} {b e : Nat → Int32 × Int32} (p : Int32 × Int32) : chE D b e p p := fun _ h _ _ _ => h p
theorem chE.ed {D : Nat → Prop} {b e : Nat → Int32 × Int32} (q : Nat) (h : D q) : chE D b e (b q) (e q) := fun _ _ h2 _ _ => h2 q h
theorem chE.sy {D : Nat → Prop} {b e : Nat → Int32 × Int32} {p r : Int32 × Int32} (h : chE D b e p r) : chE D b e r p := fun R h1 h2 h3 h4 => h3 _ _ (h R h1 h2 h3 h4)
theorem chE.tr {D : Nat → Prop} {b e : Nat → Int32 × Int32} {p r s : Int32 × Int32} (h : chE D b e p r) (g : chE D b e r s) : chE D b e p s := fun R h1 h2 h3 h4 => h4 _ _ _ (h R h1 h2 h3 h4) (g R h1 h2 h3 h4)
theorem chE_mono {D E : Nat → Prop} {b e : Nat → Int32 × Int32} (h : ∀ q, D q → E q) {p r : Int32 × Int32} (a : chE D b e p r) : chE E b e p r := fun R h1 h2 h3 h4 => a R h1 (fun q hq => h2 q (h q hq)) h3 h4
/-- the groups of the places that are known -/
def chI (D : Nat → Prop) (b e : Nat → Int32 × Int32) (P : Nat → Int32 × Int32) (gr : Nat → Int32) (pc : Nat) : Prop :=
  (∀ i, i < pc → ∀ j, j < pc → (gr i = gr j ↔ chE D b e (P i) (P j))) ∧ (∀ i, i < pc → ∃ k, k < pc ∧ gr i = nI k) ∧ (∀ q, D q → (∃ i, i < pc ∧ P i = b q) ∧ ∃ i, i < pc ∧ P i = e q)
theorem chE_only {D : Nat → Prop} {b e : Nat → Int32 × Int32} {x : Int32 × Int32} (h : ∀ q, D q → b q ≠ x ∧ e q ≠ x) {p r : Int32 × Int32} (a : chE D b e p r) : p = x ↔ r = x :=
  a (fun p r => p = x ↔ r = x) (fun _ => Iff.rfl) (fun q hq => ⟨fun g => absurd g (h q hq).1, fun g => absurd g (h q hq).2⟩) (fun _ _ g => g.symm) (fun _ _ _ g1 g2 => g1.trans g2)
theorem chI_0 (b e P : Nat → Int32 × Int32) (gr : Nat → Int32) : chI (fun _ => False) b e P gr 0 := ⟨fun i hi => absurd hi (Nat.not_lt_zero _), fun i hi => absurd hi (Nat.not_lt_zero _), fun q h => h.elim⟩
theorem chI_cg {D E : Nat → Prop} {b e P Q : Nat → Int32 × Int32} {gr gs : Nat → Int32} {pc : Nat} (h : chI D b e P gr pc) (hD : ∀ q, E q ↔ D q) (hP : ∀ i, i < pc → Q i = P i ∧ gs i = gr i) : chI E b e Q gs pc := by
  obtain rfl : E = D := funext fun q => propext (hD q)
  refine ⟨fun i hi j hj => ?_, fun i hi => ?_, fun q hq => ?_⟩
  · rw [(hP i hi).1, (hP i hi).2, (hP j hj).1, (hP j hj).2]; exact h.1 i hi j hj
  · rw [(hP i hi).2]; exact h.2.1 i hi
  · obtain ⟨⟨i, hi, e1⟩, k, hk, e2⟩ := h.2.2 q hq
    exact ⟨⟨i, hi, by rw [(hP i hi).1]; exact e1⟩, k, hk, by rw [(hP k hk).1]; exact e2⟩
theorem nI_ij {a b : Nat} (ha : a < 1000000) (hb : b < 1000000) (h : nI a = nI b) : a = b := by
  have h1 := nI_toInt (n := a) (by omega); have h2 := nI_toInt (n := b) (by omega); rw [h] at h1; omega
theorem chI_new {D : Nat → Prop} {b e P Q : Nat → Int32 × Int32} {gr gs : Nat → Int32} {pc : Nat} (h : chI D b e P gr pc) (hpc : pc < 1000) (hP : ∀ i, i < pc → Q i = P i ∧ gs i = gr i) (hg : gs pc = nI pc) (hn : ∀ i, i < pc → ¬ P i = Q pc) : chI D b e Q gs (pc + 1) := by
  have ho : ∀ q, D q → b q ≠ Q pc ∧ e q ≠ Q pc := fun q hq => by
    obtain ⟨⟨i, hi, e1⟩, k, hk, e2⟩ := h.2.2 q hq
    exact ⟨fun g => hn i hi (e1.trans g), fun g => hn k hk (e2.trans g)⟩
  have hv : ∀ i, i < pc → ¬ gs i = gs pc := fun i hi g => by
    obtain ⟨k, hk, e1⟩ := h.2.1 i hi
    rw [(hP i hi).2, e1, hg] at g
    have := nI_ij (by omega) (by omega) g; omega
  refine ⟨fun i hi j hj => ?_, fun i hi => ?_, fun q hq => ?_⟩
  · rcases Nat.lt_or_ge i pc with a | a
    · rcases Nat.lt_or_ge j pc with c | c
      · rw [(hP i a).1, (hP i a).2, (hP j c).1, (hP j c).2]; exact h.1 i a j c
      · obtain rfl : j = pc := by omega
        exact ⟨fun g => absurd g (hv i a), fun g => absurd ((hP i a).1.symm.trans ((chE_only ho g).mpr rfl)) (hn i a)⟩
    · obtain rfl : i = pc := by omega
      rcases Nat.lt_or_ge j i with c | c
      · exact ⟨fun g => absurd g.symm (hv j c), fun g => absurd ((hP j c).1.symm.trans ((chE_only ho g).mp rfl)) (hn j c)⟩
      · obtain rfl : j = i := by omega
        exact ⟨fun _ => .rf _, fun _ => rfl⟩
  · rcases Nat.lt_or_ge i pc with a | a
    · obtain ⟨k, hk, e1⟩ := h.2.1 i a
      exact ⟨k, by omega, by rw [(hP i a).2]; exact e1⟩
    · obtain rfl : i = pc := by omega
      exact ⟨i, by omega, hg⟩
  · obtain ⟨⟨i, hi, e1⟩, k, hk, e2⟩ := h.2.2 q hq
    exact ⟨⟨i, by omega, by rw [(hP i hi).1]; exact e1⟩, k, by omega, by rw [(hP k hk).1]; exact e2⟩
/-- two groups become one -/
theorem chI_un {D : Nat → Prop} {b e P : Nat → Int32 × Int32} {gr gs : Nat → Int32} {pc t i0 j0 : Nat} (h : chI D b e P gr pc) (h0 : i0 < pc) (h1 : j0 < pc) (e0 : P i0 = b t) (e1 : P j0 = e t) (hs : ∀ k, k < pc → gs k = if gr k = gr j0 then gr i0 else gr k) : chI (fun q => D q ∨ q = t) b e P gs pc := by
  have sm : ∀ i, i < pc → ∀ j, j < pc → gr i = gr j → gs i = gs j := fun i hi j hj g => by rw [hs i hi, hs j hj, g]
  have s0 : gs i0 = gs j0 := by rw [hs i0 h0, hs j0 h1, if_pos rfl]; split <;> rfl
  have ab : chE (fun q => D q ∨ q = t) b e (P i0) (P j0) := by rw [e0, e1]; exact .ed t (Or.inr rfl)
  have up : ∀ i, i < pc → ∀ j, j < pc → gr i = gr j → chE (fun q => D q ∨ q = t) b e (P i) (P j) := fun i hi j hj g => chE_mono (fun q => Or.inl) ((h.1 i hi j hj).mp g)
  have R : ∀ {p r : Int32 × Int32}, chE (fun q => D q ∨ q = t) b e p r → p = r ∨ ∃ i j, i < pc ∧ j < pc ∧ p = P i ∧ r = P j ∧ gs i = gs j := by
    intro p r a
    refine a (fun p r => p = r ∨ ∃ i j, i < pc ∧ j < pc ∧ p = P i ∧ r = P j ∧ gs i = gs j) (fun _ => Or.inl rfl) (fun q hq => ?_) (fun x y ih => ?_) (fun x y z ih ih2 => ?_)
    · rcases hq with hq | hq
      · obtain ⟨⟨i, hi, g1⟩, k, hk, g2⟩ := h.2.2 q hq
        exact Or.inr ⟨i, k, hi, hk, g1.symm, g2.symm, sm i hi k hk ((h.1 i hi k hk).mpr (by rw [g1, g2]; exact .ed q hq))⟩
      · subst hq; exact Or.inr ⟨i0, j0, h0, h1, e0.symm, e1.symm, s0⟩
    · rcases ih with ih | ⟨i, j, a1, a2, a3, a4, a5⟩
      · exact Or.inl ih.symm
      · exact Or.inr ⟨j, i, a2, a1, a4, a3, a5.symm⟩
    · rcases ih with ih | ⟨i, j, a1, a2, a3, a4, a5⟩
      · rw [ih]; exact ih2
      · rcases ih2 with ih2 | ⟨k, l, b1, b2, b3, b4, b5⟩
        · rw [← ih2]; exact Or.inr ⟨i, j, a1, a2, a3, a4, a5⟩
        · exact Or.inr ⟨i, l, a1, b2, a3, b4, a5.trans ((sm j a2 k b1 ((h.1 j a2 k b1).mpr (by rw [← a4, ← b3]; exact .rf _))).trans b5)⟩
  refine ⟨fun i hi j hj => ⟨fun g => ?_, fun g => ?_⟩, fun i hi => ?_, fun q hq => ?_⟩
  · rw [hs i hi, hs j hj] at g
    by_cases gi : gr i = gr j0
    · rw [if_pos gi] at g
      by_cases gj : gr j = gr j0
      · exact up i hi j hj (gi.trans gj.symm)
      · rw [if_neg gj] at g; exact .tr (up i hi j0 h1 gi) (.tr (.sy ab) (up i0 h0 j hj g))
    · rw [if_neg gi] at g
      by_cases gj : gr j = gr j0
      · rw [if_pos gj] at g; exact .tr (up i hi i0 h0 g) (.tr ab (up j0 h1 j hj gj.symm))
      · rw [if_neg gj] at g; exact up i hi j hj g
  · rcases R g with g | ⟨k, l, a1, a2, a3, a4, a5⟩
    · exact sm i hi j hj ((h.1 i hi j hj).mpr (by rw [g]; exact .rf _))
    · exact (sm i hi k a1 ((h.1 i hi k a1).mpr (by rw [a3]; exact .rf _))).trans (a5.trans (sm l a2 j hj ((h.1 l a2 j hj).mpr (by rw [a4]; exact .rf _))))
  · rw [hs i hi]; split
    · exact h.2.1 i0 h0
    · exact h.2.1 i hi
  · rcases hq with hq | hq
    · exact h.2.2 q hq
    · subst hq; exact ⟨⟨i0, h0, e0⟩, j0, h1, e1⟩
/-- before another: lighter, or as heavy and of a lower number -/
def bef (T : Nat → Nat) (q f : Nat) : Prop := T q < T f ∨ (T q = T f ∧ q < f)
/-- a road's ends are joined by those before it -/
def chM (R : Nat → Prop) (T : Nat → Nat) (b e : Nat → Int32 × Int32) (f : Nat) : Prop := R f ∧ chE (fun q => R q ∧ bef T q f) b e (b f) (e f)
/-- those that were looked at stand before all others -/
def chD (R : Nat → Prop) (T : Nat → Nat) (D : Nat → Prop) : Prop := (∀ q, D q → R q) ∧ ∀ q p, D q → R p → ¬ D p → bef T q p
theorem chD_0 (R : Nat → Prop) (T : Nat → Nat) : chD R T (fun _ => False) := ⟨fun _ h => h.elim, fun _ _ h => h.elim⟩
theorem chD_s {R D : Nat → Prop} {T : Nat → Nat} {a ft : Nat} (h : chD R T D) (hR : ∀ q, R q → q < ft) (h1 : R a) (h2 : ¬ D a) (h3 : ∀ j, j < ft → R j → ¬ D j → T a < T j ∨ (T a = T j ∧ a ≤ j)) : chD R T (fun q => D q ∨ q = a) ∧ ∀ q, D q ↔ (R q ∧ bef T q a) := by
  refine ⟨⟨fun q hq => hq.elim (h.1 q) (fun g => by rw [g]; exact h1), fun q p hq hp hn => ?_⟩, fun q => ⟨fun hq => ⟨h.1 q hq, h.2 q a hq h1 h2⟩, fun hq => ?_⟩⟩
  · rcases hq with hq | hq
    · exact h.2 q p hq hp (fun g => hn (Or.inl g))
    · subst hq
      have := h3 p (hR p hp) hp (fun g => hn (Or.inl g))
      have hne : p ≠ q := fun g => hn (Or.inr g)
      unfold bef; omega
  · apply Classical.byContradiction
    intro hn
    have := h3 q (hR q hq.1) hq.1 hn
    have := hq.2
    unfold bef at this; omega
theorem chM_at {R D : Nat → Prop} {T : Nat → Nat} {b e : Nat → Int32 × Int32} {a : Nat} (h1 : R a) (h : ∀ q, D q ↔ (R q ∧ bef T q a)) : chM R T b e a ↔ chE D b e (b a) (e a) := by
  obtain rfl : D = fun q => R q ∧ bef T q a := funext fun q => propext (h q)
  exact ⟨fun g => g.2, fun g => ⟨h1, g⟩⟩
theorem cntP_all {P : Nat → Prop} : ∀ {n : Nat}, n ≤ cntP P n → ∀ q, q < n → P q := by
  intro n
  induction n with
  | zero => intro _ q hq; exact absurd hq (Nat.not_lt_zero _)
  | succ n ih =>
    intro h q hq
    have hb := cntP_b P n
    by_cases hn : P n
    · rw [cntP_y hn] at h
      rcases Nat.lt_or_ge q n with a | a
      · exact ih (by omega) q a
      · rw [show q = n by omega]; exact hn
    · rw [cntP_n hn] at h; omega
/-- a road's weight -/
def chW (rk mn cx cy : Nat → Int32) (f : Nat) : Nat := ((rk f).toInt.toNat + 1) * ln2 (cF40 cx f) (cF40 cy f) (nN (mn f) - 1)
theorem chW_e {rk mn cx cy : Nat → Int32} {f : Nat} (h : 0 ≤ (rk f).toInt ∧ (rk f).toInt ≤ 9) : jI (((rk f).toInt + 1) * ((ln2 (cF40 cx f) (cF40 cy f) (nN (mn f) - 1) : Nat) : Int)) = jI ((chW rk mn cx cy f : Nat) : Int) := by
  unfold chW; rw [Int.natCast_mul]; congr 2; omega
theorem chW_b {rk mn cx cy : Nat → Int32} {f : Nat} (h : 0 ≤ (rk f).toInt ∧ (rk f).toInt ≤ 9) (hw : wfM mn cx cy f) : chW rk mn cx cy f ≤ 780000 := by
  have h2 := ln2B hw.2.2 (nN (mn f) - 1) (by have := hw.2.1; omega)
  have h3 : (rk f).toInt.toNat + 1 ≤ 10 := by omega
  unfold chW
  have h4 : ln2 (cF40 cx f) (cF40 cy f) (nN (mn f) - 1) ≤ 78000 := by have := hw.2.1; omega
  calc _ ≤ 10 * 78000 := Nat.mul_le_mul h3 h4
    _ = 780000 := rfl
abbrev chB (cx cy : Nat → Int32) (f : Nat) : Int32 × Int32 := (cx (40 * f), cy (40 * f))
abbrev chL (mn cx cy : Nat → Int32) (f : Nat) : Int32 × Int32 := (cx (40 * f + nN (mn f) - 1), cy (40 * f + nN (mn f) - 1))
theorem ptE {a b c d : Int32} (h1 : a.toInt = c.toInt) (h2 : b.toInt = d.toInt) : (a, b) = (c, d) := by rw [Int32.toInt_inj.mp h1, Int32.toInt_inj.mp h2]
abbrev rdF (ft : Nat) (st tn kd : Nat → Int32) (q : Nat) : Prop := lvF ft st tn q ∧ (kd q).toInt = 3
theorem chI_ad {D : Nat → Prop} {b e : Nat → Int32 × Int32} {jx jy gr jx1 jy1 gr1 : Nat → Int32} {pc pc1 b9 : Nat} {px py : Int32} (h : chI D b e (fun i => (jx i, jy i)) gr pc) (hpc : pc < 1000) (h2 : (jx1 b9, jy1 b9) = (px, py)) (h3 : ∀ j, j < pc → jx1 j = jx j ∧ jy1 j = jy j ∧ gr1 j = gr j)
    (h4 : pc1 = pc ∨ (pc1 = pc + 1 ∧ b9 = pc ∧ gr1 pc = nI pc ∧ ∀ j, j < pc → ¬ ((jx j).toInt = px.toInt ∧ (jy j).toInt = py.toInt))) : chI D b e (fun i => (jx1 i, jy1 i)) gr1 pc1 := by
  have hP : ∀ i, i < pc → (fun i => (jx1 i, jy1 i)) i = (fun i => (jx i, jy i)) i ∧ gr1 i = gr i := fun i hi => ⟨by show (jx1 i, jy1 i) = (jx i, jy i); rw [(h3 i hi).1, (h3 i hi).2.1], (h3 i hi).2.2⟩
  rcases h4 with g | ⟨g1, g2, g3, g4⟩
  · subst g; exact chI_cg h (fun _ => Iff.rfl) hP
  · subst g1 g2
    refine chI_new h hpc hP g3 (fun i hi q => g4 i hi ?_)
    have q : (jx i, jy i) = (px, py) := q.trans h2
    rw [(Prod.mk.inj q).1, (Prod.mk.inj q).2]; exact ⟨rfl, rfl⟩
theorem chQ {D R : Nat → Prop} {T : Nat → Nat} {b e P : Nat → Int32 × Int32} {gr : Nat → Int32} {pc a i j : Nat} (hM : R a) (hd : ∀ q, D q ↔ (R q ∧ bef T q a)) (hc : chI D b e P gr pc) (hi : i < pc) (hj : j < pc) (ei : P i = b a) (ej : P j = e a) : chM R T b e a ↔ (gr i).toInt = (gr j).toInt := by
  rw [chM_at hM hd, ← ei, ← ej, ← hc.1 i hi j hj]; exact Int32.toInt_inj.symm
theorem chG_s {g2 gb : Nat → Int32} {A B x : Int32} {k : Nat} (h : ∀ j, j < k → g2 j = if gb j = B then A else gb j) (h2 : g2 k = gb k) (hx : ((g2 k).toInt = B.toInt ∧ x = A) ∨ (¬ (g2 k).toInt = B.toInt ∧ x = g2 k)) : ∀ j, j < k + 1 → upd g2 k x j = if gb j = B then A else gb j := by
  intro j hj
  rcases Nat.lt_or_ge j k with q | q
  · rw [show upd g2 k x j = g2 j from if_neg (by omega)]; exact h j q
  · obtain rfl : j = k := by omega
    rw [up_at]
    rcases hx with ⟨a, c⟩ | ⟨a, c⟩
    · rw [if_pos (by rw [← h2]; exact Int32.toInt_inj.mp a)]; exact c
    · rw [if_neg (by rw [← h2]; exact fun g => a (by rw [g])), c, h2]
theorem chT_s {R D : Nat → Prop} {m : Nat → Int32} {a ft : Nat} (h : ∀ j, j < ft → m j = pI (¬ R j ∨ D j)) : ∀ j, j < ft → upd m a 1 j = pI (¬ R j ∨ (D j ∨ j = a)) := by
  intro j hj
  by_cases e : j = a
  · rw [e, up_at]; exact (zp_t (Or.inr (Or.inr rfl))).symm
  · rw [show upd m a 1 j = m j from if_neg e, h j hj]; exact zp_iff ⟨fun g => g.elim Or.inl (fun g => Or.inr (Or.inl g)), fun g => g.elim Or.inl (fun g => g.elim Or.inr (fun g => absurd g e))⟩
theorem chK_s {M D : Nat → Prop} {m : Nat → Int32} {a ft : Nat} (h : ∀ j, j < ft → m j = pI (D j ∧ M j)) : ∀ j, j < ft → upd m a (pI (M a)) j = pI ((D j ∨ j = a) ∧ M j) := by
  intro j hj
  by_cases e : j = a
  · rw [e, up_at]; exact zp_iff ⟨fun g => ⟨Or.inr rfl, g⟩, fun g => g.2⟩
  · rw [show upd m a (pI (M a)) j = m j from if_neg e, h j hj]; exact zp_iff ⟨fun g => ⟨Or.inl g.1, g.2⟩, fun g => ⟨g.1.elim id (fun g => absurd g e), g.2⟩⟩
end
section
/-! CLASHES -/
theorem im_eq {P : Int → Int → Prop} {u d v e : Int} (h1 : IM P u d) (h2 : IM P v e) (hd : 1 ≤ d) (he : 1 ≤ e) : u * e = v * d := by
  rcases h1 with h1 | h1
  · omega
  · rcases h2 with h2 | h2
    · omega
    · have a := h1.2.2 v e h2.2.1
      have b := h2.2.2 u d h1.2.1
      omega
theorem im_gt {P : Int → Int → Prop} {u d v e c : Int} (h1 : IM P u d) (h2 : IM P v e) (hd : 1 ≤ d) (he : 1 ≤ e) (h : 4 * u < c * d) : 4 * v < c * e := by
  have q := im_eq h1 h2 hd he
  have a : 4 * u * e < c * d * e := Int.mul_lt_mul_of_pos_right h (by omega)
  have b : 4 * v * d < c * e * d := by
    rw [show 4 * v * d = 4 * (v * d) from Int.mul_assoc 4 v d, ← q, ← Int.mul_assoc, show c * e * d = c * d * e from by rw [Int.mul_assoc, Int.mul_comm e d, ← Int.mul_assoc]]; exact a
  exact Int.lt_of_mul_lt_mul_right b (by omega)
theorem rd_gt {c : Int} {u d : Nat} (hd : 1 ≤ d) : 4 * ((u / Nat.gcd u d : Nat) : Int) < c * ((d / Nat.gcd u d : Nat) : Int) ↔ 4 * ((u : Nat) : Int) < c * ((d : Nat) : Int) := by
  have hg : 0 < Nat.gcd u d := Nat.gcd_pos_of_pos_right u (by omega)
  have hg2 : (0 : Int) < ((Nat.gcd u d : Nat) : Int) := by omega
  have e1 : ((u : Nat) : Int) = ((u / Nat.gcd u d : Nat) : Int) * ((Nat.gcd u d : Nat) : Int) := by rw [← Int.natCast_mul, Nat.div_mul_cancel (Nat.gcd_dvd_left u d)]
  have e2 : ((d : Nat) : Int) = ((d / Nat.gcd u d : Nat) : Int) * ((Nat.gcd u d : Nat) : Int) := by rw [← Int.natCast_mul, Nat.div_mul_cancel (Nat.gcd_dvd_right u d)]
  generalize ((u / Nat.gcd u d : Nat) : Int) = a at *
  generalize ((d / Nat.gcd u d : Nat) : Int) = b at *
  generalize ((Nat.gcd u d : Nat) : Int) = z at *
  rw [e1, e2, ← Int.mul_assoc, ← Int.mul_assoc]
  exact ⟨fun h => Int.mul_lt_mul_of_pos_right h hg2, fun h => Int.lt_of_mul_lt_mul_right h (by omega)⟩
def clP (ft : Nat) (st tn kd mn cx cy wd : Nat → Int32) (gp : Int32) (f g : Nat) : Prop :=
  lvF ft st tn f ∧ lvF ft st tn g ∧ ¬ mtF (kd f).toInt (nN (mn f)) (cF40 cx f) (cF40 cy f) (kd g).toInt (nN (mn g)) (cF40 cx g) (cF40 cy g) ∧
  ∀ u d : Nat, 1 ≤ d → IM (dcP (nN (mn f)) (cF40 cx f) (cF40 cy f) (nN (mn g)) (cF40 cx g) (cF40 cy g) (eO (kd g).toInt (nN (mn g))) (eO (kd f).toInt (nN (mn f))) 0) ((u : Nat) : Int) ((d : Nat) : Int) → 4 * ((u : Nat) : Int) < ((wd f).toInt + (wd g).toInt + 2 * gp.toInt) * ((wd f).toInt + (wd g).toInt + 2 * gp.toInt) * ((d : Nat) : Int)
theorem clL {a b g : Int32} (h1 : 0 ≤ a.toInt ∧ a.toInt ≤ 100) (h2 : 0 ≤ b.toInt ∧ b.toInt ≤ 100) (h3 : 0 ≤ g.toInt ∧ g.toInt ≤ 200) : (a + b).toInt64 + 2 * g.toInt64 = jI (a.toInt + b.toInt + 2 * g.toInt) := by
  have e1 : (a + b).toInt64 = jI (a.toInt + b.toInt) := jI_of (by rw [i64]; exact fb_addI (by omega) (by omega))
  have e2 : g.toInt64 = jI g.toInt := jI_of (i64 _)
  rw [e1, e2, show (2 : Int64) = jI 2 from rfl, jI_mul (by omega) (by omega) (by omega), jI_add (by omega) (by omega)]
theorem clB {c : Int} {D : Nat} (hc : 0 ≤ c ∧ c ≤ 600) (hD : D ≤ 2000000) : (0 ≤ c * c ∧ c * c ≤ 360000) ∧ 0 ≤ c * c * ((D : Nat) : Int) ∧ c * c * ((D : Nat) : Int) ≤ 720000000000 := by
  have a := sqZ (u := c)
  have b : c * c ≤ 600 * 600 := Int.mul_le_mul hc.2 hc.2 hc.1 (by omega)
  have d := Int.mul_nonneg a (show 0 ≤ ((D : Nat) : Int) by omega)
  have e : c * c * ((D : Nat) : Int) ≤ 360000 * ((D : Nat) : Int) := Int.mul_le_mul_of_nonneg_right (by omega) (by omega)
  exact ⟨⟨a, by omega⟩, d, by omega⟩
/-- how many pairs clash ahead of a number's -/
noncomputable def clT (P : Nat → Nat → Prop) (ft : Nat) : Nat → Nat
  | 0 => 0
  | a + 1 => clT P ft a + cntP (fun b => a < b ∧ P a b) ft
theorem clT_b (P : Nat → Nat → Prop) {ft : Nat} : ∀ a, clT P ft a ≤ ft * a
  | 0 => Nat.le_refl _
  | a + 1 => by
    have h1 := clT_b P (ft := ft) a
    have h2 := cntP_b (fun b => a < b ∧ P a b) ft
    show clT P ft a + cntP (fun b => a < b ∧ P a b) ft ≤ ft * (a + 1)
    rw [Nat.mul_succ]; omega
theorem cl_0 (P : Nat → Nat → Prop) (a : Nat) : ∀ b, b ≤ a + 1 → cntP (fun b => a < b ∧ P a b) b = 0
  | 0, _ => rfl
  | b + 1, h => by rw [cntP_n (by intro g; omega)]; exact cl_0 P a b (by omega)
theorem clT_200 (P : Nat → Nat → Prop) {ft a : Nat} (h : ft ≤ 200) (ha : a ≤ ft) : clT P ft a ≤ 40000 := by
  have h1 := clT_b P (ft := ft) a
  have h2 := Nat.mul_le_mul h (show a ≤ 200 by omega)
  omega
/-- the place of a pair among all that clash -/
def clI (P : Nat → Nat → Prop) (ft a b i : Nat) : Prop := a < b ∧ b < ft ∧ P a b ∧ clT P ft a + cntP (fun b => a < b ∧ P a b) b = i
theorem cntP_mono (P : Nat → Prop) {a b : Nat} (h : a ≤ b) : cntP P a ≤ cntP P b := by
  induction b with
  | zero => rw [show a = 0 by omega]; exact Nat.le_refl _
  | succ b ih =>
    rcases Nat.lt_or_ge b a with q | q
    · rw [show a = b + 1 by omega]; exact Nat.le_refl _
    · have := ih q; show cntP P a ≤ cntP P b + _; omega
theorem clT_mono (P : Nat → Nat → Prop) (ft : Nat) {a b : Nat} (h : a ≤ b) : clT P ft a ≤ clT P ft b := by
  induction b with
  | zero => rw [show a = 0 by omega]; exact Nat.le_refl _
  | succ b ih =>
    rcases Nat.lt_or_ge b a with q | q
    · rw [show a = b + 1 by omega]; exact Nat.le_refl _
    · have := ih q; show clT P ft a ≤ clT P ft b + _; omega
theorem clI_lt {P : Nat → Nat → Prop} {ft a b i j : Nat} (h : clI P ft a b i) {a2 b2 : Nat} (h2 : clI P ft a2 b2 j) (hl : a < a2 ∨ (a = a2 ∧ b < b2)) : i < j := by
  obtain ⟨p1, p2, p3, p4⟩ := h
  obtain ⟨q1, q2, q3, q4⟩ := h2
  have y : cntP (fun b => a < b ∧ P a b) (b + 1) = cntP (fun b => a < b ∧ P a b) b + 1 := cntP_y (P := fun b => a < b ∧ P a b) ⟨p1, p3⟩
  rcases hl with hl | ⟨rfl, hl⟩
  · have m1 := cntP_mono (fun b => a < b ∧ P a b) (show b + 1 ≤ ft by omega)
    have m2 := clT_mono P ft (show a + 1 ≤ a2 by omega)
    have m3 : clT P ft (a + 1) = clT P ft a + cntP (fun b => a < b ∧ P a b) ft := rfl
    omega
  · have m1 := cntP_mono (fun b => a < b ∧ P a b) (show b + 1 ≤ b2 by omega)
    omega
theorem clI_u {P : Nat → Nat → Prop} {ft a b i a2 b2 : Nat} (h : clI P ft a b i) (h2 : clI P ft a2 b2 i) : a = a2 ∧ b = b2 := by
  rcases Nat.lt_trichotomy a a2 with q | q | q
  · have := clI_lt h h2 (Or.inl q); omega
  · rcases Nat.lt_trichotomy b b2 with r | r | r
    · have := clI_lt h h2 (Or.inr ⟨q, r⟩); omega
    · exact ⟨q, r⟩
    · have := clI_lt h2 h (Or.inr ⟨q.symm, r⟩); omega
  · have := clI_lt h2 h (Or.inl q); omega
end
section
/-! the class's fractions -/
theorem iI_ml {y z : Int} (h1 : -2147483648 ≤ y ∧ y < 2147483648) (h2 : -2147483648 ≤ z ∧ z < 2147483648) (h3 : -2147483648 ≤ y * z ∧ y * z < 2147483648) : iI y * iI z = iI (y * z) := by
  refine iI_of ?_
  rw [Int32.toInt_mul, iI_toInt h1, iI_toInt h2]
  exact Int.bmod_eq_of_le (by omega) (by omega)
theorem im2 {u v w z : Int} (h1 : -2000 ≤ u ∧ u ≤ 2000) (h2 : -2000 ≤ v ∧ v ≤ 2000) (h3 : -2000 ≤ w ∧ w ≤ 2000) (h4 : -2000 ≤ z ∧ z ≤ 2000) : iI u * iI v + iI w * iI z = iI (u * v + w * z) := by
  have a := mulC h1 h2; have b := mulC h3 h4
  rw [iI_ml (by omega) (by omega) (by omega), iI_ml (by omega) (by omega) (by omega), iI_add (by omega) (by omega)]
theorem in_len {a1 a2 b1 b2 : Int32} (h1 : pl a1) (h2 : pl a2) (h3 : pl b1) (h4 : pl b2) : (b1 - a1) * (b1 - a1) + (b2 - a2) * (b2 - a2) = iI (nrL a1.toInt a2.toInt b1.toInt b2.toInt) := by
  have p := sB h3 h1; have q := sB h4 h2
  rw [sub_pl h3 h1, sub_pl h4 h2, im2 (by omega) (by omega) (by omega) (by omega)]; rfl
theorem in_dot {a1 a2 b1 b2 x y : Int32} (h1 : pl a1) (h2 : pl a2) (h3 : pl b1) (h4 : pl b2) (h5 : pl x) (h6 : pl y) : (b1 - a1) * (x - a1) + (b2 - a2) * (y - a2) = iI (nrT a1.toInt a2.toInt b1.toInt b2.toInt x.toInt y.toInt) := by
  have p := sB h3 h1; have q := sB h4 h2; have r := sB h5 h1; have t := sB h6 h2
  rw [sub_pl h3 h1, sub_pl h4 h2, sub_pl h5 h1, sub_pl h6 h2, im2 (by omega) (by omega) (by omega) (by omega)]; rfl
theorem in_u0 {a1 a2 b1 b2 x y : Int32} (h1 : pl a1) (h2 : pl a2) (h5 : pl x) (h6 : pl y) (h : nrT a1.toInt a2.toInt b1.toInt b2.toInt x.toInt y.toInt ≤ 0) : ((x - a1) * (x - a1) + (y - a2) * (y - a2)).toInt64 = jI (nrU a1.toInt a2.toInt b1.toInt b2.toInt x.toInt y.toInt) := by
  have r := sB h5 h1; have t := sB h6 h2
  have a := sqN (u := x.toInt - a1.toInt) (by omega); have b := sqN (u := y.toInt - a2.toInt) (by omega)
  rw [sub_pl h5 h1, sub_pl h6 h2, im2 (by omega) (by omega) (by omega) (by omega), iI_64 (by omega)]; unfold nrU; rw [if_pos h]
theorem in_u1 {a1 a2 b1 b2 x y : Int32} (h1 : pl a1) (h2 : pl a2) (h3 : pl b1) (h4 : pl b2) (h5 : pl x) (h6 : pl y) (h : ¬ nrT a1.toInt a2.toInt b1.toInt b2.toInt x.toInt y.toInt ≤ 0) (hh : nrL a1.toInt a2.toInt b1.toInt b2.toInt ≤ nrT a1.toInt a2.toInt b1.toInt b2.toInt x.toInt y.toInt) : (((x - a1) - (b1 - a1)) * ((x - a1) - (b1 - a1)) + ((y - a2) - (b2 - a2)) * ((y - a2) - (b2 - a2))).toInt64 = jI (nrU a1.toInt a2.toInt b1.toInt b2.toInt x.toInt y.toInt) := by
  have p := sB h3 h1; have q := sB h4 h2; have r := sB h5 h1; have t := sB h6 h2
  have a := sqN (u := x.toInt - a1.toInt - (b1.toInt - a1.toInt)) (by omega); have b := sqN (u := y.toInt - a2.toInt - (b2.toInt - a2.toInt)) (by omega)
  rw [sub_pl h3 h1, sub_pl h4 h2, sub_pl h5 h1, sub_pl h6 h2, iI_sub (by omega) (by omega), iI_sub (by omega) (by omega), im2 (by omega) (by omega) (by omega) (by omega), iI_64 (by omega)]; unfold nrU; rw [if_neg h, if_pos hh]
theorem in_u2 {a1 a2 b1 b2 x y : Int32} (h1 : pl a1) (h2 : pl a2) (h3 : pl b1) (h4 : pl b2) (h5 : pl x) (h6 : pl y) (h : ¬ nrT a1.toInt a2.toInt b1.toInt b2.toInt x.toInt y.toInt ≤ 0) (hh : ¬ nrL a1.toInt a2.toInt b1.toInt b2.toInt ≤ nrT a1.toInt a2.toInt b1.toInt b2.toInt x.toInt y.toInt) : (iI (cr a1.toInt a2.toInt b1.toInt b2.toInt x.toInt y.toInt)).toInt64 * (iI (cr a1.toInt a2.toInt b1.toInt b2.toInt x.toInt y.toInt)).toInt64 = jI (nrU a1.toInt a2.toInt b1.toInt b2.toInt x.toInt y.toInt) := by
  have c := crBp h1 h2 h3 h4 h5 h6
  have d := sqM c
  rw [iI_64 (by omega), jI_mul (by omega) (by omega) (by omega)]; unfold nrU; rw [if_neg h, if_neg hh]
/-- the distances of a place from the first parts of a row -/
def ofP (P : Int → Int → Prop) (n : Nat) (X Y : Nat → Int32) (x y : Int) (i : Nat) (A B : Int) : Prop := P A B ∨ ∃ k, k < i ∧ A = nrU (X k).toInt (Y k).toInt (X (nxt n k)).toInt (Y (nxt n k)).toInt x y ∧ B = nrD (X k).toInt (Y k).toInt (X (nxt n k)).toInt (Y (nxt n k)).toInt x y
theorem ofP_0 {P : Int → Int → Prop} {n : Nat} {X Y : Nat → Int32} {x y u d : Int} (h : IM P u d) : IM (ofP P n X Y x y 0) u d := IM_cg (fun A B => ⟨Or.inl, fun g => g.elim id (fun ⟨k, hk, _⟩ => absurd hk (Nat.not_lt_zero _))⟩) h
theorem ofP_b {P : Int → Int → Prop} {n : Nat} {X Y : Nat → Int32} {x y : Int32} {i : Nat} (hP : ∀ A B, P A B → 1 ≤ B) (hp : pls n X Y) (hx : pl x) (hy : pl y) (hi : i ≤ n) : ∀ A B, ofP P n X Y x.toInt y.toInt i A B → 1 ≤ B := by
  intro A B h
  rcases h with h | ⟨k, hk, rfl, rfl⟩
  · exact hP A B h
  · have hk2 := nxt_lt (n := n) (i := k) (by omega)
    exact (nrU_b (hp k (by omega)).1 (hp k (by omega)).2 (hp _ hk2).1 (hp _ hk2).2 hx hy).2.1
theorem ofP_s {P : Int → Int → Prop} {n : Nat} {X Y : Nat → Int32} {x y : Int32} {i : Nat} {u d zu zd : Int} (hP : ∀ A B, P A B → 1 ≤ B) (hp : pls n X Y) (hx : pl x) (hy : pl y) (hi : i < n) (h : IM (ofP P n X Y x.toInt y.toInt i) u d)
    (hn : ndP u d (nrU (X i).toInt (Y i).toInt (X (nxt n i)).toInt (Y (nxt n i)).toInt x.toInt y.toInt) (nrD (X i).toInt (Y i).toInt (X (nxt n i)).toInt (Y (nxt n i)).toInt x.toInt y.toInt) zu zd) : IM (ofP P n X Y x.toInt y.toInt (i + 1)) zu zd := by
  have hk2 := nxt_lt (n := n) (i := i) (by omega)
  refine IM_cg (fun A B => ⟨fun g => ?_, fun g => ?_⟩) (IM_s h (ofP_b hP hp hx hy (by omega)) (nrU_b (hp i hi).1 (hp i hi).2 (hp _ hk2).1 (hp _ hk2).2 hx hy).2.1 hn)
  · rcases g with (g | ⟨k, hk, g⟩) | g
    · exact Or.inl g
    · exact Or.inr ⟨k, by omega, g⟩
    · exact Or.inr ⟨i, by omega, g⟩
  · rcases g with g | ⟨k, hk, g⟩
    · exact Or.inl (Or.inl g)
    · rcases Nat.lt_or_ge k i with q | q
      · exact Or.inl (Or.inr ⟨k, q, g⟩)
      · rw [show k = i by omega] at g; exact Or.inr g
/-- the distances of a row's first corners from all parts of another -/
def ffP (P : Int → Int → Prop) (n : Nat) (X Y : Nat → Int32) (e : Nat) (U V : Nat → Int32) (i : Nat) (A B : Int) : Prop := P A B ∨ ∃ j, j < i ∧ ∃ k, k < e ∧ A = nrU (X k).toInt (Y k).toInt (X (nxt n k)).toInt (Y (nxt n k)).toInt (U j).toInt (V j).toInt ∧ B = nrD (X k).toInt (Y k).toInt (X (nxt n k)).toInt (Y (nxt n k)).toInt (U j).toInt (V j).toInt
theorem ffP_0 {P : Int → Int → Prop} {n e : Nat} {X Y U V : Nat → Int32} {u d : Int} (h : IM P u d) : IM (ffP P n X Y e U V 0) u d := IM_cg (fun A B => ⟨Or.inl, fun g => g.elim id (fun ⟨k, hk, _⟩ => absurd hk (Nat.not_lt_zero _))⟩) h
theorem ffP_b {P : Int → Int → Prop} {n e m : Nat} {X Y U V : Nat → Int32} {i : Nat} (hP : ∀ A B, P A B → 1 ≤ B) (hp : pls n X Y) (hq : pls m U V) (he : e ≤ n) (hi : i ≤ m) : ∀ A B, ffP P n X Y e U V i A B → 1 ≤ B := by
  intro A B h
  rcases h with h | ⟨j, hj, k, hk, rfl, rfl⟩
  · exact hP A B h
  · have hk2 := nxt_lt (n := n) (i := k) (by omega)
    exact (nrU_b (hp k (by omega)).1 (hp k (by omega)).2 (hp _ hk2).1 (hp _ hk2).2 (hq j (by omega)).1 (hq j (by omega)).2).2.1
theorem ffP_s {P : Int → Int → Prop} {n e : Nat} {X Y U V : Nat → Int32} {i : Nat} {u d : Int} (h : IM (ofP (ffP P n X Y e U V i) n X Y (U i).toInt (V i).toInt e) u d) : IM (ffP P n X Y e U V (i + 1)) u d := by
  refine IM_cg (fun A B => ⟨fun g => ?_, fun g => ?_⟩) h
  · rcases g with (g | ⟨j, hj, g⟩) | ⟨k, hk, g⟩
    · exact Or.inl g
    · exact Or.inr ⟨j, by omega, g⟩
    · exact Or.inr ⟨i, by omega, k, hk, g⟩
  · rcases g with g | ⟨j, hj, k, hk, g⟩
    · exact Or.inl (Or.inl g)
    · rcases Nat.lt_or_ge j i with q | q
      · exact Or.inl (Or.inr ⟨j, q, k, hk, g⟩)
      · rw [show j = i by omega] at g; exact Or.inr ⟨k, hk, g⟩
/-- the candidates of two rows that do not meet -/
def btP (n : Nat) (X Y : Nat → Int32) (e1 : Nat) (m : Nat) (U V : Nat → Int32) (e2 : Nat) : Int → Int → Prop := ffP (ffP (fun _ _ => False) m U V e2 X Y n) n X Y e1 U V m
theorem IM_no : IM (fun _ _ => False) 0 0 := Or.inl ⟨rfl, rfl, fun _ _ h => h⟩
theorem IM_pos {P : Int → Int → Prop} {u d : Int} (h : IM P u d) {A B : Int} (hP : P A B) : 1 ≤ d := by
  rcases h with ⟨_, _, h⟩ | h
  · exact absurd hP (h A B)
  · exact h.1
theorem fgB {g : Int32} {D : Int} (hg : 0 ≤ g.toInt ∧ g.toInt ≤ 1000) (hD : 0 ≤ D ∧ D ≤ 2000000) : (0 ≤ g.toInt * g.toInt ∧ g.toInt * g.toInt ≤ 1000000) ∧ 0 ≤ g.toInt * g.toInt * D ∧ g.toInt * g.toInt * D ≤ 2000000000000 := by
  have h := gpB9 (g := g) (D := D.toNat) hg (by omega)
  rw [show ((D.toNat : Nat) : Int) = D by omega] at h; exact h
theorem fgL {g : Int32} {D : Int} (hg : 0 ≤ g.toInt ∧ g.toInt ≤ 1000) (hD : 0 ≤ D ∧ D ≤ 2000000) : g.toInt64 * g.toInt64 * jI D = jI (g.toInt * g.toInt * D) := by
  have h := gpL (g := g) (D := D.toNat) hg (by omega)
  rw [show ((D.toNat : Nat) : Int) = D by omega] at h; exact h
theorem eu_s {a b j C : Nat} (hb : b < a) (h0 : 0 < b) (h : a * b * 2 ^ j ≤ C) : b * (a % b) * 2 ^ (j + 1) ≤ C := by
  have h2 : 2 * (a % b) ≤ a := by
    have h3 := Nat.mod_lt a h0
    have h4 : b + a % b ≤ a := by
      have e := Nat.div_add_mod a b
      have : 1 ≤ a / b := (Nat.one_le_div_iff h0).mpr (by omega)
      have := Nat.mul_le_mul_left b this
      omega
    omega
  have h5 : b * (a % b) * 2 ^ (j + 1) = b * (2 * (a % b)) * 2 ^ j := by
    rw [Nat.pow_succ, Nat.mul_comm (2 ^ j) 2, ← Nat.mul_assoc, Nat.mul_assoc b, Nat.mul_comm (a % b) 2]
  rw [h5]
  refine Nat.le_trans (Nat.mul_le_mul_right _ ?_) h
  rw [Nat.mul_comm a b]; exact Nat.mul_le_mul_left b h2
/-- Euclid's way: how far it can go -/
def euI (a b i : Nat) : Prop := i = 0 ∨ (b < a ∧ a * b * 2 ^ (i - 1) ≤ 4000000000000)
theorem euI_s {a b i : Nat} (h0 : 0 < b) (hb : b ≤ 2000000) (h : euI a b i) : euI b (a % b) (i + 1) := by
  refine Or.inr ⟨Nat.mod_lt a h0, ?_⟩
  rcases h with h | ⟨h1, h2⟩
  · subst h
    have := Nat.mod_lt a h0
    have := Nat.mul_le_mul hb (show a % b ≤ 2000000 by omega)
    simpa using this
  · rcases Nat.eq_zero_or_pos i with e | e
    · subst e
      have := Nat.mod_lt a h0
      have := Nat.mul_le_mul hb (show a % b ≤ 2000000 by omega)
      simpa using this
    · have := eu_s h1 h0 h2
      rw [show i - 1 + 1 = i by omega] at this; exact this
theorem euI_e {a b : Nat} (h : euI a b 200) : b = 0 := by
  rcases h with h | ⟨h1, h2⟩
  · omega
  · rcases Nat.eq_zero_or_pos b with e | e
    · exact e
    · have h3 : 1 * 2 ^ 199 ≤ a * b * 2 ^ 199 := Nat.mul_le_mul_right _ (Nat.mul_pos (by omega) e)
      have h4 : (2 : Nat) ^ 199 ≤ 4000000000000 := by simpa using Nat.le_trans h3 h2
      exact absurd h4 (by decide)
end
section
set_option maxHeartbeats 4000000 in
set_option maxRecDepth 100000 in
theorem k_Fr_offerPart (l : Launch) (dC : Nat → ClassId) (dI : Nat → Nat → Nat) (cI cZ cF : ClassId) (sz : Nat) (fr : Nat) (o9 : Int) (d9 : Int) (r : Nat) (rx : Nat) (ry : Nat) (n : Nat) (cap : Nat) (X : Nat → Int32) (Y : Nat → Int32) (rg : Int32) (i : Nat) (px : Int32) (py : Int32) (ho : 0 ≤ o9 ∧ o9 ≤ 4000000000000) (hd : 0 ≤ d9 ∧ d9 ≤ 2000000) (hn : n ≤ cap) (hcap : cap ≤ 1000) (hp : pls n X Y) (hpx : pl px) (hpy : pl py) (hi : i < n) : zM l yX3_offerPart cX3_offerPart 14 none ({ frames := 1, cells := 0, slots := 0, locals := 24 } : Room) [.ref fr, .int px, .int py, .ref r, .int (nI i)] (dC, dI) (zTy cI cZ cF) [(oc2 fr (jI o9) (jI d9)), (oc6 r (.ref rx) (.ref ry) (nI n) rg), (oa rx cI cap X), (oa ry cI cap Y)] sz none (fun A t => ∃ (zu : Int), ∃ (zd : Int), (ndP o9 d9 (nrU (X i).toInt (Y i).toInt (X (nxt n i)).toInt (Y (nxt n i)).toInt px.toInt py.toInt) (nrD (X i).toInt (Y i).toInt (X (nxt n i)).toInt (Y (nxt n i)).toInt px.toInt py.toInt) zu zd) ∧ zPD (dC, dI) classes A [(oc2 fr (jI zu) (jI zd)), (oc6 r (.ref rx) (.ref ry) (nI n) rg), (oa rx cI cap X), (oa ry cI cap Y)] t.heap) 0 0 := by
  refine zIn (own := "ScaleShop$Fraction") (loc := [(0, .ref fr), (1, .int px), (2, .int py), (3, .ref r), (4, .int (nI i))]) rfl rfl rfl rfl (fun p e s m below meth c hx hb hr hts hown hlocks hml hnm9 A hA hS hP hD hK hXN Q9 hQ9 ls hl => ?_)
  have hnx := nxt_lt (n := n) (i := i) (by omega)
  have hLb := nrL_b (hp i hi).1 (hp i hi).2 (hp _ hnx).1 (hp _ hnx).2
  have hTb := nrT_b (hp i hi).1 (hp i hi).2 (hp _ hnx).1 (hp _ hnx).2 hpx hpy
  have hUb := nrU_b (hp i hi).1 (hp i hi).2 (hp _ hnx).1 (hp _ hnx).2 hpx hpy
  refine lv_aload_n hx hb dX3_offerPart_0 rfl (lv_at hl 3 rfl) ?_
  refine lv_iload hx hb dX3_offerPart_1 (lv_at hl 4 rfl) ?_
  obtain ⟨hPc, hDc, hFc, hI1⟩ := zi_sub (wc := [_, _, _]) hP hD hS hA [1, 2, 3] rfl rfl
  refine zcall (st1 := [.int (nI (nxt n i))]) (va_runV (As := [.int (nI i)]) (rest := []) ⟨hx, hb, hml, hown, hts⟩ (k_Row_next l dC dI cI cZ cF s.heap.size r rx ry n cap X Y rg i (by first | with_reducible assumption | omega) (by first | with_reducible assumption | omega) (by first | with_reducible assumption | omega)) (csV_20 hts rfl rfl ⟨Nat.le_of_ble_eq_true rfl, Nat.le_of_ble_eq_true rfl⟩) (zPV2 (q0 := 0) (ci := 6) hPc hDc hK hXN rfl rfl) rfl rfl hl.1 rfl (lv_room (Nat.le_of_ble_eq_true rfl)) dX3_offerPart_3 ⟨Nat.le_of_ble_eq_true rfl, Nat.le_of_ble_eq_true rfl⟩) hS hFc hFc rfl (fun t H locs ht hB hk1 hS => ?_)
  obtain ⟨hP1, hD1⟩ := hB
  rw [ht] at hP1
  replace hP := z0 hP hD hk1 hP1 hI1
  clear hk1 hPc hDc hFc hP1 hD1 ht hI1
  refine lv_istore (lv' := [(5, .int (nI (nxt n i))), (0, .ref fr), (1, .int px), (2, .int py), (3, .ref r), (4, .int (nI i))]) hx hb dX3_offerPart_6 hl (Nat.le_of_ble_eq_true rfl) rfl (fun ls hl => ?_)
  refine lv_aload_n hx hb dX3_offerPart_8 rfl (lv_at hl 4 rfl) ?_
  refine va_get (D := (dC, dI)) (ci := 6) (v := .ref rx) (C := RX7) (T := TX7) (N := 4) hx hb hts inX7 hown hK hP 1 rfl rfl 0 (Nat.le_of_ble_eq_true rfl) (hts _ mw_166) (fun _ h9 => h9) rfl dX3_offerPart_9 ?_
  refine lv_iload hx hb dX3_offerPart_12 (lv_at hl 0 rfl) ?_
  have b9_1 : nxt n i < cap := by omega
  have b9_2 : zlt (cap) := show cap < 2147483648 by omega
  refine z_iald hx hb hK hP 2 0 rfl rfl (e := nxt n i) rfl b9_1 b9_2 dX3_offerPart_14 ?_
  refine lv_aload_n hx hb dX3_offerPart_15 rfl (lv_at hl 4 rfl) ?_
  refine va_get (D := (dC, dI)) (ci := 6) (v := .ref rx) (C := RX7) (T := TX7) (N := 4) hx hb hts inX7 hown hK hP 1 rfl rfl 0 (Nat.le_of_ble_eq_true rfl) (hts _ mw_166) (fun _ h9 => h9) rfl dX3_offerPart_16 ?_
  refine lv_iload hx hb dX3_offerPart_19 (lv_at hl 5 rfl) ?_
  have b9_3 : i < cap := by omega
  refine z_iald hx hb hK hP 2 0 rfl rfl (e := i) rfl b9_3 b9_2 dX3_offerPart_21 ?_
  refine lv_isub hx hb dX3_offerPart_22 ?_
  refine lv_istore (lv' := [(6, .int ((X (nxt n i)) - (X i))), (5, .int (nI (nxt n i))), (0, .ref fr), (1, .int px), (2, .int py), (3, .ref r), (4, .int (nI i))]) hx hb dX3_offerPart_23 hl (Nat.le_of_ble_eq_true rfl) rfl (fun ls hl => ?_)
  refine lv_aload_n hx hb dX3_offerPart_25 rfl (lv_at hl 5 rfl) ?_
  refine va_get (D := (dC, dI)) (ci := 6) (v := .ref ry) (C := RX7) (T := TX7) (N := 4) hx hb hts inX7 hown hK hP 1 rfl rfl 1 (Nat.le_of_ble_eq_true rfl) (hts _ mw_173) (fun _ h9 => h9) rfl dX3_offerPart_26 ?_
  refine lv_iload hx hb dX3_offerPart_29 (lv_at hl 1 rfl) ?_
  refine z_iald hx hb hK hP 3 0 rfl rfl (e := nxt n i) rfl b9_1 b9_2 dX3_offerPart_31 ?_
  refine lv_aload_n hx hb dX3_offerPart_32 rfl (lv_at hl 5 rfl) ?_
  refine va_get (D := (dC, dI)) (ci := 6) (v := .ref ry) (C := RX7) (T := TX7) (N := 4) hx hb hts inX7 hown hK hP 1 rfl rfl 1 (Nat.le_of_ble_eq_true rfl) (hts _ mw_173) (fun _ h9 => h9) rfl dX3_offerPart_33 ?_
  refine lv_iload hx hb dX3_offerPart_36 (lv_at hl 6 rfl) ?_
  refine z_iald hx hb hK hP 3 0 rfl rfl (e := i) rfl b9_3 b9_2 dX3_offerPart_38 ?_
  refine lv_isub hx hb dX3_offerPart_39 ?_
  refine lv_istore (lv' := [(7, .int ((Y (nxt n i)) - (Y i))), (6, .int ((X (nxt n i)) - (X i))), (5, .int (nI (nxt n i))), (0, .ref fr), (1, .int px), (2, .int py), (3, .ref r), (4, .int (nI i))]) hx hb dX3_offerPart_40 hl (Nat.le_of_ble_eq_true rfl) rfl (fun ls hl => ?_)
  refine lv_iload_n hx hb dX3_offerPart_42 rfl (lv_at hl 4 rfl) ?_
  refine lv_aload_n hx hb dX3_offerPart_43 rfl (lv_at hl 6 rfl) ?_
  refine va_get (D := (dC, dI)) (ci := 6) (v := .ref rx) (C := RX7) (T := TX7) (N := 4) hx hb hts inX7 hown hK hP 1 rfl rfl 0 (Nat.le_of_ble_eq_true rfl) (hts _ mw_166) (fun _ h9 => h9) rfl dX3_offerPart_44 ?_
  refine lv_iload hx hb dX3_offerPart_47 (lv_at hl 7 rfl) ?_
  refine z_iald hx hb hK hP 2 0 rfl rfl (e := i) rfl b9_3 b9_2 dX3_offerPart_49 ?_
  refine lv_isub hx hb dX3_offerPart_50 ?_
  refine lv_istore (lv' := [(8, .int (px - (X i))), (7, .int ((Y (nxt n i)) - (Y i))), (6, .int ((X (nxt n i)) - (X i))), (5, .int (nI (nxt n i))), (0, .ref fr), (1, .int px), (2, .int py), (3, .ref r), (4, .int (nI i))]) hx hb dX3_offerPart_51 hl (Nat.le_of_ble_eq_true rfl) rfl (fun ls hl => ?_)
  refine lv_iload_n hx hb dX3_offerPart_53 rfl (lv_at hl 6 rfl) ?_
  refine lv_aload_n hx hb dX3_offerPart_54 rfl (lv_at hl 7 rfl) ?_
  refine va_get (D := (dC, dI)) (ci := 6) (v := .ref ry) (C := RX7) (T := TX7) (N := 4) hx hb hts inX7 hown hK hP 1 rfl rfl 1 (Nat.le_of_ble_eq_true rfl) (hts _ mw_173) (fun _ h9 => h9) rfl dX3_offerPart_55 ?_
  refine lv_iload hx hb dX3_offerPart_58 (lv_at hl 8 rfl) ?_
  refine z_iald hx hb hK hP 3 0 rfl rfl (e := i) rfl b9_3 b9_2 dX3_offerPart_60 ?_
  refine lv_isub hx hb dX3_offerPart_61 ?_
  refine lv_istore (lv' := [(9, .int (py - (Y i))), (8, .int (px - (X i))), (7, .int ((Y (nxt n i)) - (Y i))), (6, .int ((X (nxt n i)) - (X i))), (5, .int (nI (nxt n i))), (0, .ref fr), (1, .int px), (2, .int py), (3, .ref r), (4, .int (nI i))]) hx hb dX3_offerPart_62 hl (Nat.le_of_ble_eq_true rfl) rfl (fun ls hl => ?_)
  refine lv_iload hx hb dX3_offerPart_64 (lv_at hl 3 rfl) ?_
  refine lv_iload hx hb dX3_offerPart_66 (lv_at hl 3 rfl) ?_
  refine lv_imul hx hb dX3_offerPart_68 ?_
  refine lv_iload hx hb dX3_offerPart_69 (lv_at hl 2 rfl) ?_
  refine lv_iload hx hb dX3_offerPart_71 (lv_at hl 2 rfl) ?_
  refine lv_imul hx hb dX3_offerPart_73 ?_
  refine lv_iadd hx hb dX3_offerPart_74 ?_
  refine zz_i (v := iI (nrL (X i).toInt (Y i).toInt (X (nxt n i)).toInt (Y (nxt n i)).toInt)) (in_len (hp i hi).1 (hp i hi).2 (hp _ hnx).1 (hp _ hnx).2) ?_
  refine lv_istore (lv' := [(10, .int (iI (nrL (X i).toInt (Y i).toInt (X (nxt n i)).toInt (Y (nxt n i)).toInt))), (9, .int (py - (Y i))), (8, .int (px - (X i))), (7, .int ((Y (nxt n i)) - (Y i))), (6, .int ((X (nxt n i)) - (X i))), (5, .int (nI (nxt n i))), (0, .ref fr), (1, .int px), (2, .int py), (3, .ref r), (4, .int (nI i))]) hx hb dX3_offerPart_75 hl (Nat.le_of_ble_eq_true rfl) rfl (fun ls hl => ?_)
  refine lv_iload hx hb dX3_offerPart_77 (lv_at hl 4 rfl) ?_
  refine lv_iload hx hb dX3_offerPart_79 (lv_at hl 2 rfl) ?_
  refine lv_imul hx hb dX3_offerPart_81 ?_
  refine lv_iload hx hb dX3_offerPart_82 (lv_at hl 3 rfl) ?_
  refine lv_iload hx hb dX3_offerPart_84 (lv_at hl 1 rfl) ?_
  refine lv_imul hx hb dX3_offerPart_86 ?_
  refine lv_iadd hx hb dX3_offerPart_87 ?_
  refine zz_i (v := iI (nrT (X i).toInt (Y i).toInt (X (nxt n i)).toInt (Y (nxt n i)).toInt px.toInt py.toInt)) (in_dot (hp i hi).1 (hp i hi).2 (hp _ hnx).1 (hp _ hnx).2 hpx hpy) ?_
  refine lv_istore (lv' := [(11, .int (iI (nrT (X i).toInt (Y i).toInt (X (nxt n i)).toInt (Y (nxt n i)).toInt px.toInt py.toInt))), (10, .int (iI (nrL (X i).toInt (Y i).toInt (X (nxt n i)).toInt (Y (nxt n i)).toInt))), (9, .int (py - (Y i))), (8, .int (px - (X i))), (7, .int ((Y (nxt n i)) - (Y i))), (6, .int ((X (nxt n i)) - (X i))), (5, .int (nI (nxt n i))), (0, .ref fr), (1, .int px), (2, .int py), (3, .ref r), (4, .int (nI i))]) hx hb dX3_offerPart_88 hl (Nat.le_of_ble_eq_true rfl) rfl (fun ls hl => ?_)
  refine lv_iload hx hb dX3_offerPart_90 (lv_at hl 0 rfl) ?_
  refine lv_if_gt (tgt := 115) hx hb dX3_offerPart_92 rfl (fun c_4 => ?_) (fun c_4 => ?_)
  · have c_4 : 0 < (nrT (X i).toInt (Y i).toInt (X (nxt n i)).toInt (Y (nxt n i)).toInt px.toInt py.toInt) := zc_lt rfl (iI_toInt (by omega)) c_4
    refine lv_iload hx hb dX3_offerPart_115 (lv_at hl 0 rfl) ?_
    refine lv_iload hx hb dX3_offerPart_117 (lv_at hl 1 rfl) ?_
    refine lv_icmp_lt (tgt := 154) hx hb dX3_offerPart_119 rfl (fun c_5 => ?_) (fun c_5 => ?_)
    · have c_5 : (nrT (X i).toInt (Y i).toInt (X (nxt n i)).toInt (Y (nxt n i)).toInt px.toInt py.toInt) < (nrL (X i).toInt (Y i).toInt (X (nxt n i)).toInt (Y (nxt n i)).toInt) := zc_lt (iI_toInt (by omega)) (iI_toInt (by omega)) c_5
      refine lv_aload_n hx hb dX3_offerPart_154 rfl (lv_at hl 10 rfl) ?_
      refine lv_iload hx hb dX3_offerPart_155 (lv_at hl 11 rfl) ?_
      refine lv_iload_n hx hb dX3_offerPart_157 rfl (lv_at hl 8 rfl) ?_
      refine lv_iload_n hx hb dX3_offerPart_158 rfl (lv_at hl 9 rfl) ?_
      obtain ⟨hPc, hDc, hFc, hI1⟩ := zi_sub (wc := [_, _, _]) hP hD hS hA [1, 2, 3] rfl rfl
      refine zcall (st1 := [.int (iI (eCr n X Y i px.toInt py.toInt))]) (va_runV (As := [.int (nI i), .int px, .int py]) (rest := []) ⟨hx, hb, hml, hown, hts⟩ (k_Row_turn l dC dI cI cZ cF H.size r rx ry n cap X Y rg i px py (by first | with_reducible assumption | omega) (by first | with_reducible assumption | omega) (by first | with_reducible assumption | assumption) (by first | with_reducible assumption | omega) (by first | with_reducible assumption | assumption) (by first | with_reducible assumption | assumption)) (csV_21 hts rfl rfl ⟨Nat.le_of_ble_eq_true rfl, Nat.le_of_ble_eq_true rfl⟩) (zPV2 (q0 := 0) (ci := 6) hPc hDc hK hXN rfl rfl) rfl rfl hl.1 rfl (lv_room (Nat.le_of_ble_eq_true rfl)) dX3_offerPart_159 ⟨Nat.le_of_ble_eq_true rfl, Nat.le_of_ble_eq_true rfl⟩) hS hFc hFc rfl (fun t H locs ht hB hk1 hS => ?_)
      obtain ⟨hP1, hD1⟩ := hB
      rw [ht] at hP1
      replace hP := z0 hP hD hk1 hP1 hI1
      clear hk1 hPc hDc hFc hP1 hD1 ht hI1
      refine lv_i2l (v := (iI (eCr n X Y i px.toInt py.toInt)).toInt64) hx hb dX3_offerPart_162 (rfl) ?_
      refine lv_lstore (lv' := [(12, .long ((iI (eCr n X Y i px.toInt py.toInt)).toInt64)), (11, .int (iI (nrT (X i).toInt (Y i).toInt (X (nxt n i)).toInt (Y (nxt n i)).toInt px.toInt py.toInt))), (10, .int (iI (nrL (X i).toInt (Y i).toInt (X (nxt n i)).toInt (Y (nxt n i)).toInt))), (9, .int (py - (Y i))), (8, .int (px - (X i))), (7, .int ((Y (nxt n i)) - (Y i))), (6, .int ((X (nxt n i)) - (X i))), (5, .int (nI (nxt n i))), (0, .ref fr), (1, .int px), (2, .int py), (3, .ref r), (4, .int (nI i))]) hx hb dX3_offerPart_163 hl (Nat.le_of_ble_eq_true rfl) rfl (fun ls hl => ?_)
      refine lv_aload_n hx hb dX3_offerPart_165 rfl (lv_at hl 8 rfl) ?_
      refine lv_lload hx hb dX3_offerPart_166 (lv_at hl 0 rfl) ?_
      refine lv_lload hx hb dX3_offerPart_168 (lv_at hl 0 rfl) ?_
      refine lv_lmul hx hb dX3_offerPart_170 ?_
      refine zz_l (v := jI (nrU (X i).toInt (Y i).toInt (X (nxt n i)).toInt (Y (nxt n i)).toInt px.toInt py.toInt)) (in_u2 (hp i hi).1 (hp i hi).2 (hp _ hnx).1 (hp _ hnx).2 hpx hpy (by omega) (by omega)) ?_
      refine lv_iload hx hb dX3_offerPart_171 (lv_at hl 2 rfl) ?_
      refine lv_i2l (v := (iI (nrL (X i).toInt (Y i).toInt (X (nxt n i)).toInt (Y (nxt n i)).toInt)).toInt64) hx hb dX3_offerPart_173 (rfl) ?_
      refine zz_l (v := jI (nrD (X i).toInt (Y i).toInt (X (nxt n i)).toInt (Y (nxt n i)).toInt px.toInt py.toInt)) (by rw [nrD_2 (by omega) (by omega)]; exact iI_64 (by omega)) ?_
      obtain ⟨hPc, hDc, hFc⟩ := zo_sub (wc := [_]) hP hD hS hA [0] rfl rfl
      refine zcall (st1 := []) (va_runV (As := [.long (jI (nrU (X i).toInt (Y i).toInt (X (nxt n i)).toInt (Y (nxt n i)).toInt px.toInt py.toInt)), .long (jI (nrD (X i).toInt (Y i).toInt (X (nxt n i)).toInt (Y (nxt n i)).toInt px.toInt py.toInt))]) (rest := []) ⟨hx, hb, hml, hown, hts⟩ (k_Fr_offer l dC dI cI cZ cF H.size fr o9 d9 (nrU (X i).toInt (Y i).toInt (X (nxt n i)).toInt (Y (nxt n i)).toInt px.toInt py.toInt) (nrD (X i).toInt (Y i).toInt (X (nxt n i)).toInt (Y (nxt n i)).toInt px.toInt py.toInt) (by first | with_reducible assumption | assumption) (by first | with_reducible assumption | assumption) (hUb.1) (hUb.2)) (csV_22 hts rfl rfl ⟨Nat.le_of_ble_eq_true rfl, Nat.le_of_ble_eq_true rfl⟩) (zPV2 (q0 := 0) (ci := 2) hPc hDc hK hXN rfl rfl) rfl rfl hl.1 rfl (lv_room (Nat.le_of_ble_eq_true rfl)) dX3_offerPart_174 ⟨Nat.le_of_ble_eq_true rfl, Nat.le_of_ble_eq_true rfl⟩) hS hFc hFc rfl (fun t H locs ht hB hk1 hS => ?_)
      obtain ⟨zu, zd, hnd, hP1, hD1⟩ := hB
      rw [ht] at hP1
      obtain ⟨hP, hD⟩ := zn (W2 := [(oc2 fr (jI zu) (jI zd)), _, _, _]) hP hD hk1 hFc hP1 hD1 [0] [false, true, true, true] [false, true, true, true] [0] (by decide +kernel) rfl rfl rfl rfl rfl
      clear hk1 hPc hDc hFc hP1 hD1 ht
      obtain ⟨hP9, hD9⟩ := zu_sub (wc := [_, _, _, _]) hP hD [true, true, true, true] rfl rfl
      rw [hQ9]
      exact W.vret hx hb hr (fun t ht hW => ⟨⟨rfl, zu, zd, (hnd), by rw [ht]; exact hP9, hD9⟩, hS.F ht⟩) hS.2.2 dX3_offerPart_177
    · have c_5 : (nrL (X i).toInt (Y i).toInt (X (nxt n i)).toInt (Y (nxt n i)).toInt) ≤ (nrT (X i).toInt (Y i).toInt (X (nxt n i)).toInt (Y (nxt n i)).toInt px.toInt py.toInt) := zc_nlt (iI_toInt (by omega)) (iI_toInt (by omega)) c_5
      refine lv_aload_n hx hb dX3_offerPart_122 rfl (lv_at hl 7 rfl) ?_
      refine lv_iload hx hb dX3_offerPart_123 (lv_at hl 3 rfl) ?_
      refine lv_iload hx hb dX3_offerPart_125 (lv_at hl 5 rfl) ?_
      refine lv_isub hx hb dX3_offerPart_127 ?_
      refine lv_iload hx hb dX3_offerPart_128 (lv_at hl 3 rfl) ?_
      refine lv_iload hx hb dX3_offerPart_130 (lv_at hl 5 rfl) ?_
      refine lv_isub hx hb dX3_offerPart_132 ?_
      refine lv_imul hx hb dX3_offerPart_133 ?_
      refine lv_iload hx hb dX3_offerPart_134 (lv_at hl 2 rfl) ?_
      refine lv_iload hx hb dX3_offerPart_136 (lv_at hl 4 rfl) ?_
      refine lv_isub hx hb dX3_offerPart_138 ?_
      refine lv_iload hx hb dX3_offerPart_139 (lv_at hl 2 rfl) ?_
      refine lv_iload hx hb dX3_offerPart_141 (lv_at hl 4 rfl) ?_
      refine lv_isub hx hb dX3_offerPart_143 ?_
      refine lv_imul hx hb dX3_offerPart_144 ?_
      refine lv_iadd hx hb dX3_offerPart_145 ?_
      refine lv_i2l (v := ((((px - (X i)) - ((X (nxt n i)) - (X i))) * ((px - (X i)) - ((X (nxt n i)) - (X i)))) + (((py - (Y i)) - ((Y (nxt n i)) - (Y i))) * ((py - (Y i)) - ((Y (nxt n i)) - (Y i))))).toInt64) hx hb dX3_offerPart_146 (rfl) ?_
      refine zz_l (v := jI (nrU (X i).toInt (Y i).toInt (X (nxt n i)).toInt (Y (nxt n i)).toInt px.toInt py.toInt)) (in_u1 (hp i hi).1 (hp i hi).2 (hp _ hnx).1 (hp _ hnx).2 hpx hpy (by omega) (by omega)) ?_
      refine lv_lconst (v := 1) hx hb dX3_offerPart_147 rfl ?_
      refine zz_l (v := jI (nrD (X i).toInt (Y i).toInt (X (nxt n i)).toInt (Y (nxt n i)).toInt px.toInt py.toInt)) (by rw [nrD_1 (by omega) (by omega)]; exact jI_1) ?_
      obtain ⟨hPc, hDc, hFc⟩ := zo_sub (wc := [_]) hP hD hS hA [0] rfl rfl
      refine zcall (st1 := []) (va_runV (As := [.long (jI (nrU (X i).toInt (Y i).toInt (X (nxt n i)).toInt (Y (nxt n i)).toInt px.toInt py.toInt)), .long (jI (nrD (X i).toInt (Y i).toInt (X (nxt n i)).toInt (Y (nxt n i)).toInt px.toInt py.toInt))]) (rest := []) ⟨hx, hb, hml, hown, hts⟩ (k_Fr_offer l dC dI cI cZ cF H.size fr o9 d9 (nrU (X i).toInt (Y i).toInt (X (nxt n i)).toInt (Y (nxt n i)).toInt px.toInt py.toInt) (nrD (X i).toInt (Y i).toInt (X (nxt n i)).toInt (Y (nxt n i)).toInt px.toInt py.toInt) (by first | with_reducible assumption | assumption) (by first | with_reducible assumption | assumption) (hUb.1) (hUb.2)) (csV_22 hts rfl rfl ⟨Nat.le_of_ble_eq_true rfl, Nat.le_of_ble_eq_true rfl⟩) (zPV2 (q0 := 0) (ci := 2) hPc hDc hK hXN rfl rfl) rfl rfl hl.1 rfl (lv_room (Nat.le_of_ble_eq_true rfl)) dX3_offerPart_148 ⟨Nat.le_of_ble_eq_true rfl, Nat.le_of_ble_eq_true rfl⟩) hS hFc hFc rfl (fun t H locs ht hB hk1 hS => ?_)
      obtain ⟨zu, zd, hnd, hP1, hD1⟩ := hB
      rw [ht] at hP1
      obtain ⟨hP, hD⟩ := zn (W2 := [(oc2 fr (jI zu) (jI zd)), _, _, _]) hP hD hk1 hFc hP1 hD1 [0] [false, true, true, true] [false, true, true, true] [0] (by decide +kernel) rfl rfl rfl rfl rfl
      clear hk1 hPc hDc hFc hP1 hD1 ht
      refine lv_goto (tgt := 177) hx hb dX3_offerPart_151 rfl ?_
      obtain ⟨hP9, hD9⟩ := zu_sub (wc := [_, _, _, _]) hP hD [true, true, true, true] rfl rfl
      rw [hQ9]
      exact W.vret hx hb hr (fun t ht hW => ⟨⟨rfl, zu, zd, (hnd), by rw [ht]; exact hP9, hD9⟩, hS.F ht⟩) hS.2.2 dX3_offerPart_177
  · have c_4 : (nrT (X i).toInt (Y i).toInt (X (nxt n i)).toInt (Y (nxt n i)).toInt px.toInt py.toInt) ≤ 0 := zc_nlt rfl (iI_toInt (by omega)) c_4
    refine lv_aload_n hx hb dX3_offerPart_95 rfl (lv_at hl 7 rfl) ?_
    refine lv_iload hx hb dX3_offerPart_96 (lv_at hl 3 rfl) ?_
    refine lv_iload hx hb dX3_offerPart_98 (lv_at hl 3 rfl) ?_
    refine lv_imul hx hb dX3_offerPart_100 ?_
    refine lv_iload hx hb dX3_offerPart_101 (lv_at hl 2 rfl) ?_
    refine lv_iload hx hb dX3_offerPart_103 (lv_at hl 2 rfl) ?_
    refine lv_imul hx hb dX3_offerPart_105 ?_
    refine lv_iadd hx hb dX3_offerPart_106 ?_
    refine lv_i2l (v := (((px - (X i)) * (px - (X i))) + ((py - (Y i)) * (py - (Y i)))).toInt64) hx hb dX3_offerPart_107 (rfl) ?_
    refine zz_l (v := jI (nrU (X i).toInt (Y i).toInt (X (nxt n i)).toInt (Y (nxt n i)).toInt px.toInt py.toInt)) (in_u0 (hp i hi).1 (hp i hi).2 hpx hpy (by omega)) ?_
    refine lv_lconst (v := 1) hx hb dX3_offerPart_108 rfl ?_
    refine zz_l (v := jI (nrD (X i).toInt (Y i).toInt (X (nxt n i)).toInt (Y (nxt n i)).toInt px.toInt py.toInt)) (by rw [nrD_0 (by omega)]; exact jI_1) ?_
    obtain ⟨hPc, hDc, hFc⟩ := zo_sub (wc := [_]) hP hD hS hA [0] rfl rfl
    refine zcall (st1 := []) (va_runV (As := [.long (jI (nrU (X i).toInt (Y i).toInt (X (nxt n i)).toInt (Y (nxt n i)).toInt px.toInt py.toInt)), .long (jI (nrD (X i).toInt (Y i).toInt (X (nxt n i)).toInt (Y (nxt n i)).toInt px.toInt py.toInt))]) (rest := []) ⟨hx, hb, hml, hown, hts⟩ (k_Fr_offer l dC dI cI cZ cF H.size fr o9 d9 (nrU (X i).toInt (Y i).toInt (X (nxt n i)).toInt (Y (nxt n i)).toInt px.toInt py.toInt) (nrD (X i).toInt (Y i).toInt (X (nxt n i)).toInt (Y (nxt n i)).toInt px.toInt py.toInt) (by first | with_reducible assumption | assumption) (by first | with_reducible assumption | assumption) (hUb.1) (hUb.2)) (csV_22 hts rfl rfl ⟨Nat.le_of_ble_eq_true rfl, Nat.le_of_ble_eq_true rfl⟩) (zPV2 (q0 := 0) (ci := 2) hPc hDc hK hXN rfl rfl) rfl rfl hl.1 rfl (lv_room (Nat.le_of_ble_eq_true rfl)) dX3_offerPart_109 ⟨Nat.le_of_ble_eq_true rfl, Nat.le_of_ble_eq_true rfl⟩) hS hFc hFc rfl (fun t H locs ht hB hk1 hS => ?_)
    obtain ⟨zu, zd, hnd, hP1, hD1⟩ := hB
    rw [ht] at hP1
    obtain ⟨hP, hD⟩ := zn (W2 := [(oc2 fr (jI zu) (jI zd)), _, _, _]) hP hD hk1 hFc hP1 hD1 [0] [false, true, true, true] [false, true, true, true] [0] (by decide +kernel) rfl rfl rfl rfl rfl
    clear hk1 hPc hDc hFc hP1 hD1 ht
    refine lv_goto (tgt := 177) hx hb dX3_offerPart_112 rfl ?_
    obtain ⟨hP9, hD9⟩ := zu_sub (wc := [_, _, _, _]) hP hD [true, true, true, true] rfl rfl
    rw [hQ9]
    exact W.vret hx hb hr (fun t ht hW => ⟨⟨rfl, zu, zd, (hnd), by rw [ht]; exact hP9, hD9⟩, hS.F ht⟩) hS.2.2 dX3_offerPart_177
set_option maxHeartbeats 4000000 in
set_option maxRecDepth 100000 in
theorem k_Fr_offerFrom (l : Launch) (dC : Nat → ClassId) (dI : Nat → Nat → Nat) (cI cZ cF : ClassId) (sz : Nat) (fr : Nat) (o9 : Int) (d9 : Int) (r : Nat) (rx : Nat) (ry : Nat) (n : Nat) (cap : Nat) (X : Nat → Int32) (Y : Nat → Int32) (rg : Int32) (px : Int32) (py : Int32) (P9 : Int → Int → Prop) (ho : 0 ≤ o9 ∧ o9 ≤ 4000000000000) (hd : 0 ≤ d9 ∧ d9 ≤ 2000000) (hn : n ≤ cap) (hcap : cap ≤ 1000) (hp : pls n X Y) (hpx : pl px) (hpy : pl py) (hP9 : ∀ A B, P9 A B → 1 ≤ B) (hI9 : IM P9 o9 d9) : zM l yX3_offerFrom cX3_offerFrom 5 none ({ frames := 2, cells := 0, slots := 0, locals := 57 } : Room) [.ref fr, .int px, .int py, .ref r] (dC, dI) (zTy cI cZ cF) [(oc2 fr (jI o9) (jI d9)), (oc6 r (.ref rx) (.ref ry) (nI n) rg), (oa rx cI cap X), (oa ry cI cap Y)] sz none (fun A t => ∃ (zu : Int), ∃ (zd : Int), (IM (ofP P9 n X Y px.toInt py.toInt (prt n rg)) zu zd) ∧ ((0 ≤ zu ∧ zu ≤ 4000000000000) ∧ (0 ≤ zd ∧ zd ≤ 2000000)) ∧ zPD (dC, dI) classes A [(oc2 fr (jI zu) (jI zd)), (oc6 r (.ref rx) (.ref ry) (nI n) rg), (oa rx cI cap X), (oa ry cI cap Y)] t.heap) 0 0 := by
  refine zIn (own := "ScaleShop$Fraction") (loc := [(0, .ref fr), (1, .int px), (2, .int py), (3, .ref r)]) rfl rfl rfl rfl (fun p e s m below meth c hx hb hr hts hown hlocks hml hnm9 A hA hS hP hD hK hXN Q9 hQ9 ls hl => ?_)
  have hpr := prt_le n rg
  refine lv_iconst (v := 0) hx hb dX3_offerFrom_0 rfl ?_
  refine lv_istore (lv' := [(4, .int 0), (0, .ref fr), (1, .int px), (2, .int py), (3, .ref r)]) hx hb dX3_offerFrom_1 hl (Nat.le_of_ble_eq_true rfl) rfl (fun ls hl => ?_)
  have hl_3 : ∀ (n9 : Nat) (i : Nat) (u : Int) (d : Int) (H : Heap) (locs : List Loc) (ls : Array Slot), prt n rg - i < n9 → (i ≤ prt n rg) → (IM (ofP P9 n X Y px.toInt py.toInt i) u d) → ((0 ≤ u ∧ u ≤ 4000000000000) ∧ (0 ≤ d ∧ d ≤ 2000000)) → va_P (dC, dI) classes [(oc2 fr (jI u) (jI d)), (oc6 r (.ref rx) (.ref ry) (nI n) rg), (oa rx cI cap X), (oa ry cI cap Y)] H → va_D A [(oc2 fr (jI u) (jI d)), (oc6 r (.ref rx) (.ref ry) (nI n) rg), (oa rx cI cap X), (oa ry cI cap Y)] → va_S A s.heap H locs → lv_has ls 5 [(4, .int (nI i)), (0, .ref fr), (1, .int px), (2, .int py), (3, .ref r)] → W p l e ({ frames := 2, cells := 0, slots := 0, locals := 57 } : Room) s m ([.ref fr, .int px, .int py, .ref r] : List Value).toArray below meth c H locs 0 0 Q9 (F0 m 3 ls []) := by
    intro n9
    induction n9 with
    | zero => intro i u d H locs ls hm; exact absurd hm (Nat.not_lt_zero _)
    | succ n9 ih_3 =>
      intro i u d H locs ls hm hi him hud hP hD hS hl
      refine lv_iload hx hb dX3_offerFrom_3 (lv_at hl 0 rfl) ?_
      refine lv_aload_n hx hb dX3_offerFrom_5 rfl (lv_at hl 4 rfl) ?_
      obtain ⟨hPc, hDc, hFc, hI1⟩ := zi_sub (wc := [_, _, _]) hP hD hS hA [1, 2, 3] rfl rfl
      refine zcall (st1 := [.int (nI (prt n rg)), .int (nI i)]) (va_runV (As := []) (rest := [.int (nI i)]) ⟨hx, hb, hml, hown, hts⟩ (k_Row_parts l dC dI cI cZ cF H.size r rx ry n cap X Y rg (by first | with_reducible assumption | omega) (by first | with_reducible assumption | omega)) (csV_23 hts rfl rfl ⟨Nat.le_of_ble_eq_true rfl, Nat.le_of_ble_eq_true rfl⟩) (zPV2 (q0 := 0) (ci := 6) hPc hDc hK hXN rfl rfl) rfl rfl hl.1 rfl (lv_room (Nat.le_of_ble_eq_true rfl)) dX3_offerFrom_6 ⟨Nat.le_of_ble_eq_true rfl, Nat.le_of_ble_eq_true rfl⟩) hS hFc hFc rfl (fun t H locs ht hB hk1 hS => ?_)
      obtain ⟨hP1, hD1⟩ := hB
      rw [ht] at hP1
      replace hP := z0 hP hD hk1 hP1 hI1
      clear hk1 hPc hDc hFc hP1 hD1 ht hI1
      have b9_2 : zlt (i) := show i < 2147483648 by omega
      have b9_3 : zlt ((prt n rg)) := show (prt n rg) < 2147483648 by omega
      refine lv_icmp_ge (tgt := 27) hx hb dX3_offerFrom_9 rfl (fun c_1 => ?_) (fun c_1 => ?_)
      · have c_1 : ((prt n rg : Nat) : Int) ≤ ((i : Nat) : Int) := zc_le (nI_toInt b9_3) (nI_toInt b9_2) c_1
        have hie : i = prt n rg := (by omega)
        rw [hie] at him
        obtain ⟨hP9, hD9⟩ := zu_sub (wc := [_, _, _, _]) hP hD [true, true, true, true] rfl rfl
        rw [hQ9]
        exact W.vret hx hb hr (fun t ht hW => ⟨⟨rfl, u, d, (him), (hud), by rw [ht]; exact hP9, hD9⟩, hS.F ht⟩) hS.2.2 dX3_offerFrom_27
      · have c_1 : ((i : Nat) : Int) < ((prt n rg : Nat) : Int) := zc_nle (nI_toInt b9_3) (nI_toInt b9_2) c_1
        refine lv_aload_n hx hb dX3_offerFrom_12 rfl (lv_at hl 1 rfl) ?_
        refine lv_iload_n hx hb dX3_offerFrom_13 rfl (lv_at hl 2 rfl) ?_
        refine lv_iload_n hx hb dX3_offerFrom_14 rfl (lv_at hl 3 rfl) ?_
        refine lv_aload_n hx hb dX3_offerFrom_15 rfl (lv_at hl 4 rfl) ?_
        refine lv_iload hx hb dX3_offerFrom_16 (lv_at hl 0 rfl) ?_
        obtain ⟨hPc, hDc, hFc⟩ := zo_sub (wc := [_, _, _, _]) hP hD hS hA [0, 1, 2, 3] (by decide +kernel) rfl
        refine zcall (st1 := []) (va_runV (As := [.int px, .int py, .ref r, .int (nI i)]) (rest := []) ⟨hx, hb, hml, hown, hts⟩ (k_Fr_offerPart l dC dI cI cZ cF H.size fr u d r rx ry n cap X Y rg i px py (hud.1) (hud.2) (by first | with_reducible assumption | omega) (by first | with_reducible assumption | omega) (by first | with_reducible assumption | assumption) (by first | with_reducible assumption | assumption) (by first | with_reducible assumption | assumption) (by first | with_reducible assumption | omega)) (csV_24 hts rfl rfl ⟨Nat.le_of_ble_eq_true rfl, Nat.le_of_ble_eq_true rfl⟩) (zPV2 (q0 := 0) (ci := 2) hPc hDc hK hXN rfl rfl) rfl rfl hl.1 rfl (lv_room (Nat.le_of_ble_eq_true rfl)) dX3_offerFrom_18 ⟨Nat.le_of_ble_eq_true rfl, Nat.le_of_ble_eq_true rfl⟩) hS hFc hFc rfl (fun t H locs ht hB hk1 hS => ?_)
        obtain ⟨zu9, zd9, hnd9, hP1, hD1⟩ := hB
        rw [ht] at hP1
        obtain ⟨hP, hD⟩ := zn (W2 := [(oc2 fr (jI zu9) (jI zd9)), _, _, _]) hP hD hk1 hFc hP1 hD1 [0, 1, 2, 3] [] [false, false, false, false] [0, 1, 2, 3] (by decide +kernel) rfl rfl rfl rfl rfl
        clear hk1 hPc hDc hFc hP1 hD1 ht
        refine lv_iinc (v := nI (i + 1)) (lv' := [(4, .int (nI (i + 1))), (0, .ref fr), (1, .int px), (2, .int py), (3, .ref r)]) hx hb dX3_offerFrom_21 hl (k := 0) rfl (nI_add i 1) (Nat.le_of_ble_eq_true rfl) rfl (fun ls hl => ?_)
        refine lv_goto (tgt := 3) hx hb dX3_offerFrom_24 rfl ?_
        exact ih_3 (i + 1) zu9 zd9 H locs ls (by first | with_reducible assumption | omega) (by first | with_reducible assumption | omega) (ofP_s hP9 hp hpx hpy (by first | with_reducible assumption | omega) him hnd9) (ndP_b hud.1 hud.2 (nrU_b (hp i (by first | with_reducible assumption | omega)).1 (hp i (by first | with_reducible assumption | omega)).2 (hp _ (nxt_lt (n := n) (i := i) (by first | with_reducible assumption | omega))).1 (hp _ (nxt_lt (n := n) (i := i) (by first | with_reducible assumption | omega))).2 hpx hpy) hnd9) hP hD hS (lv_sub hl [0, 1, 2, 3, 4] rfl)
  exact hl_3 _ 0 o9 d9 s.heap [] ls (Nat.lt_succ_self _) (by first | with_reducible assumption | omega) (ofP_0 hI9) (⟨ho, hd⟩) hP hD hS (lv_sub hl [0, 1, 2, 3, 4] rfl)
set_option maxHeartbeats 4000000 in
set_option maxRecDepth 100000 in
theorem k_Fr_between_m (l : Launch) (dC : Nat → ClassId) (dI : Nat → Nat → Nat) (cI cZ cF : ClassId) (sz : Nat) (fr : Nat) (y1 : Int64) (y2 : Int64) (r : Nat) (rx : Nat) (ry : Nat) (n : Nat) (cap : Nat) (X : Nat → Int32) (Y : Nat → Int32) (rg : Int32) (u : Nat) (ux : Nat) (uy : Nat) (m2 : Nat) (cap2 : Nat) (U : Nat → Int32) (V : Nat → Int32) (rh : Int32) (hn : n ≤ cap) (hcap : cap ≤ 1000) (hp : pls n X Y) (hm : m2 ≤ cap2) (hcap2 : cap2 ≤ 1000) (hq : pls m2 U V) (htc : ∃ i, i < prt n rg ∧ ∃ j, j < prt m2 rh ∧ eMt n X Y i m2 U V j) : zM l yX3_between cX3_between 4 none ({ frames := 3, cells := 0, slots := 0, locals := 65 } : Room) [.ref fr, .ref r, .ref u] (dC, dI) (zTy cI cZ cF) [(oc2 fr y1 y2), (oc6 r (.ref rx) (.ref ry) (nI n) rg), (oa rx cI cap X), (oa ry cI cap Y), (oc6 u (.ref ux) (.ref uy) (nI m2) rh), (oa ux cI cap2 U), (oa uy cI cap2 V)] sz none (fun A t => zPD (dC, dI) classes A [(oc2 fr (jI 0) (jI 1)), (oc6 r (.ref rx) (.ref ry) (nI n) rg), (oa rx cI cap X), (oa ry cI cap Y), (oc6 u (.ref ux) (.ref uy) (nI m2) rh), (oa ux cI cap2 U), (oa uy cI cap2 V)] t.heap) 0 0 := by
  refine zIn (own := "ScaleShop$Fraction") (loc := [(0, .ref fr), (1, .ref r), (2, .ref u)]) rfl rfl rfl rfl (fun p e s m below meth c hx hb hr hts hown hlocks hml hnm9 A hA hS hP hD hK hXN Q9 hQ9 ls hl => ?_)
  refine lv_aload_n hx hb dX3_between_0 rfl (lv_at hl 1 rfl) ?_
  refine lv_aload_n hx hb dX3_between_1 rfl (lv_at hl 2 rfl) ?_
  obtain ⟨hPc, hDc, hFc, hI1⟩ := zi_sub (wc := [_, _, _, _, _, _]) hP hD hS hA [1, 2, 3, 4, 5, 6] (by decide +kernel) rfl
  refine zcall (st1 := [.int (pI (∃ i, i < prt n rg ∧ ∃ j, j < prt m2 rh ∧ eMt n X Y i m2 U V j))]) (va_runV (As := [.ref u]) (rest := []) ⟨hx, hb, hml, hown, hts⟩ (k_Row_touches l dC dI cI cZ cF s.heap.size r rx ry n cap X Y rg u ux uy m2 cap2 U V rh (by first | with_reducible assumption | omega) (by first | with_reducible assumption | omega) (by first | with_reducible assumption | assumption) (by first | with_reducible assumption | omega) (by first | with_reducible assumption | omega) (by first | with_reducible assumption | assumption)) (csV_25 hts rfl rfl ⟨Nat.le_of_ble_eq_true rfl, Nat.le_of_ble_eq_true rfl⟩) (zPV2 (q0 := 0) (ci := 6) hPc hDc hK hXN rfl rfl) rfl rfl hl.1 rfl (lv_room (Nat.le_of_ble_eq_true rfl)) dX3_between_2 ⟨Nat.le_of_ble_eq_true rfl, Nat.le_of_ble_eq_true rfl⟩) hS hFc hFc rfl (fun t H locs ht hB hk1 hS => ?_)
  obtain ⟨hP1, hD1⟩ := hB
  rw [ht] at hP1
  replace hP := z0 hP hD hk1 hP1 hI1
  clear hk1 hPc hDc hFc hP1 hD1 ht hI1
  refine lv_if_eq (tgt := 15) hx hb dX3_between_5 rfl (fun c_1 => ?_) (fun c_1 => ?_)
  · have c_1 : ¬ (∃ i, i < prt n rg ∧ ∃ j, j < prt m2 rh ∧ eMt n X Y i m2 U V j) := zp_0 c_1
    exfalso; exact absurd htc (by first | with_reducible assumption | assumption)
  · have c_1 : ∃ i, i < prt n rg ∧ ∃ j, j < prt m2 rh ∧ eMt n X Y i m2 U V j := zp_1 c_1
    refine lv_aload_n hx hb dX3_between_8 rfl (lv_at hl 0 rfl) ?_
    refine lv_lconst (v := 0) hx hb dX3_between_9 rfl ?_
    refine zz_l (v := jI 0) (jI_0) ?_
    refine lv_lconst (v := 1) hx hb dX3_between_10 rfl ?_
    refine zz_l (v := jI 1) (jI_1) ?_
    obtain ⟨hPc, hDc, hFc⟩ := zo_sub (wc := [_]) hP hD hS hA [0] rfl rfl
    refine zcall (st1 := []) (va_runV (As := [.long (jI 0), .long (jI 1)]) (rest := []) ⟨hx, hb, hml, hown, hts⟩ (k_Fr_become l dC dI cI cZ cF H.size fr y1 y2 (jI 0) (jI 1) ) (csV_19 hts rfl rfl ⟨Nat.le_of_ble_eq_true rfl, Nat.le_of_ble_eq_true rfl⟩) (zPV2 (q0 := 0) (ci := 2) hPc hDc hK hXN rfl rfl) rfl rfl hl.1 rfl (lv_room (Nat.le_of_ble_eq_true rfl)) dX3_between_11 ⟨Nat.le_of_ble_eq_true rfl, Nat.le_of_ble_eq_true rfl⟩) hS hFc hFc rfl (fun t H locs ht hB hk1 hS => ?_)
    obtain ⟨hP1, hD1⟩ := hB
    rw [ht] at hP1
    obtain ⟨hP, hD⟩ := zn (W2 := [(oc2 fr (jI 0) (jI 1)), _, _, _, _, _, _]) hP hD hk1 hFc hP1 hD1 [0] [false, true, true, true, true, true, true] [false, true, true, true, true, true, true] [0] (by decide +kernel) rfl rfl rfl rfl rfl
    clear hk1 hPc hDc hFc hP1 hD1 ht
    obtain ⟨hP9, hD9⟩ := zu_sub (wc := [_, _, _, _, _, _, _]) hP hD [true, true, true, true, true, true, true] rfl rfl
    rw [hQ9]
    exact W.vret hx hb hr (fun t ht hW => ⟨⟨rfl, by rw [ht]; exact hP9, hD9⟩, hS.F ht⟩) hS.2.2 dX3_between_14
set_option maxHeartbeats 4000000 in
set_option maxRecDepth 100000 in
theorem k_Fr_between_n (l : Launch) (dC : Nat → ClassId) (dI : Nat → Nat → Nat) (cI cZ cF : ClassId) (sz : Nat) (fr : Nat) (y1 : Int64) (y2 : Int64) (r : Nat) (rx : Nat) (ry : Nat) (n : Nat) (cap : Nat) (X : Nat → Int32) (Y : Nat → Int32) (rg : Int32) (u : Nat) (ux : Nat) (uy : Nat) (m2 : Nat) (cap2 : Nat) (U : Nat → Int32) (V : Nat → Int32) (rh : Int32) (hn : n ≤ cap) (hcap : cap ≤ 1000) (hp : pls n X Y) (hm : m2 ≤ cap2) (hcap2 : cap2 ≤ 1000) (hq : pls m2 U V) (htc : ¬ (∃ i, i < prt n rg ∧ ∃ j, j < prt m2 rh ∧ eMt n X Y i m2 U V j)) (h1n : 1 ≤ n) (h1m : 1 ≤ m2) (hpn : 1 ≤ prt n rg) (hpm : 1 ≤ prt m2 rh) : zM l yX3_between cX3_between 4 none ({ frames := 3, cells := 0, slots := 0, locals := 81 } : Room) [.ref fr, .ref r, .ref u] (dC, dI) (zTy cI cZ cF) [(oc2 fr y1 y2), (oc6 r (.ref rx) (.ref ry) (nI n) rg), (oa rx cI cap X), (oa ry cI cap Y), (oc6 u (.ref ux) (.ref uy) (nI m2) rh), (oa ux cI cap2 U), (oa uy cI cap2 V)] sz none (fun A t => ∃ (zu : Int), ∃ (zd : Int), (IM (btP n X Y (prt n rg) m2 U V (prt m2 rh)) zu zd) ∧ ((0 ≤ zu ∧ zu ≤ 4000000000000) ∧ (1 ≤ zd ∧ zd ≤ 2000000)) ∧ zPD (dC, dI) classes A [(oc2 fr (jI zu) (jI zd)), (oc6 r (.ref rx) (.ref ry) (nI n) rg), (oa rx cI cap X), (oa ry cI cap Y), (oc6 u (.ref ux) (.ref uy) (nI m2) rh), (oa ux cI cap2 U), (oa uy cI cap2 V)] t.heap) 0 0 := by
  refine zIn (own := "ScaleShop$Fraction") (loc := [(0, .ref fr), (1, .ref r), (2, .ref u)]) rfl rfl rfl rfl (fun p e s m below meth c hx hb hr hts hown hlocks hml hnm9 A hA hS hP hD hK hXN Q9 hQ9 ls hl => ?_)
  have hpr := prt_le n rg
  have hpr2 := prt_le m2 rh
  refine lv_aload_n hx hb dX3_between_0 rfl (lv_at hl 1 rfl) ?_
  refine lv_aload_n hx hb dX3_between_1 rfl (lv_at hl 2 rfl) ?_
  obtain ⟨hPc, hDc, hFc, hI1⟩ := zi_sub (wc := [_, _, _, _, _, _]) hP hD hS hA [1, 2, 3, 4, 5, 6] (by decide +kernel) rfl
  refine zcall (st1 := [.int (pI (∃ i, i < prt n rg ∧ ∃ j, j < prt m2 rh ∧ eMt n X Y i m2 U V j))]) (va_runV (As := [.ref u]) (rest := []) ⟨hx, hb, hml, hown, hts⟩ (k_Row_touches l dC dI cI cZ cF s.heap.size r rx ry n cap X Y rg u ux uy m2 cap2 U V rh (by first | with_reducible assumption | omega) (by first | with_reducible assumption | omega) (by first | with_reducible assumption | assumption) (by first | with_reducible assumption | omega) (by first | with_reducible assumption | omega) (by first | with_reducible assumption | assumption)) (csV_25 hts rfl rfl ⟨Nat.le_of_ble_eq_true rfl, Nat.le_of_ble_eq_true rfl⟩) (zPV2 (q0 := 0) (ci := 6) hPc hDc hK hXN rfl rfl) rfl rfl hl.1 rfl (lv_room (Nat.le_of_ble_eq_true rfl)) dX3_between_2 ⟨Nat.le_of_ble_eq_true rfl, Nat.le_of_ble_eq_true rfl⟩) hS hFc hFc rfl (fun t H locs ht hB hk1 hS => ?_)
  obtain ⟨hP1, hD1⟩ := hB
  rw [ht] at hP1
  replace hP := z0 hP hD hk1 hP1 hI1
  clear hk1 hPc hDc hFc hP1 hD1 ht hI1
  refine lv_if_eq (tgt := 15) hx hb dX3_between_5 rfl (fun c_1 => ?_) (fun c_1 => ?_)
  · have c_1 : ¬ (∃ i, i < prt n rg ∧ ∃ j, j < prt m2 rh ∧ eMt n X Y i m2 U V j) := zp_0 c_1
    refine lv_aload_n hx hb dX3_between_15 rfl (lv_at hl 0 rfl) ?_
    obtain ⟨hPc, hDc, hFc⟩ := zo_sub (wc := [_]) hP hD hS hA [0] rfl rfl
    refine zcall (st1 := []) (va_runV (As := []) (rest := []) ⟨hx, hb, hml, hown, hts⟩ (k_Fr_clear l dC dI cI cZ cF H.size fr y1 y2 ) (csV_26 hts rfl rfl ⟨Nat.le_of_ble_eq_true rfl, Nat.le_of_ble_eq_true rfl⟩) (zPV2 (q0 := 0) (ci := 2) hPc hDc hK hXN rfl rfl) rfl rfl hl.1 rfl (lv_room (Nat.le_of_ble_eq_true rfl)) dX3_between_16 ⟨Nat.le_of_ble_eq_true rfl, Nat.le_of_ble_eq_true rfl⟩) hS hFc hFc rfl (fun t H locs ht hB hk1 hS => ?_)
    obtain ⟨hP1, hD1⟩ := hB
    rw [ht] at hP1
    obtain ⟨hP, hD⟩ := zn (W2 := [(oc2 fr 0 0), _, _, _, _, _, _]) hP hD hk1 hFc hP1 hD1 [0] [false, true, true, true, true, true, true] [false, true, true, true, true, true, true] [0] (by decide +kernel) rfl rfl rfl rfl rfl
    clear hk1 hPc hDc hFc hP1 hD1 ht
    rw [jI_0] at hP hD
    refine lv_iconst (v := 0) hx hb dX3_between_19 rfl ?_
    refine lv_istore_n (lv' := [(3, .int 0), (0, .ref fr), (1, .ref r), (2, .ref u)]) hx hb dX3_between_20 rfl hl (Nat.le_of_ble_eq_true rfl) rfl (fun ls hl => ?_)
    have hl_21 : ∀ (n9 : Nat) (i : Nat) (w1 : Int) (w2 : Int) (H : Heap) (locs : List Loc) (ls : Array Slot), n - i < n9 → (i ≤ n) → (IM (ffP (fun _ _ => False) m2 U V (prt m2 rh) X Y i) w1 w2) → ((0 ≤ w1 ∧ w1 ≤ 4000000000000) ∧ (0 ≤ w2 ∧ w2 ≤ 2000000)) → va_P (dC, dI) classes [(oc2 fr (jI w1) (jI w2)), (oc6 r (.ref rx) (.ref ry) (nI n) rg), (oa rx cI cap X), (oa ry cI cap Y), (oc6 u (.ref ux) (.ref uy) (nI m2) rh), (oa ux cI cap2 U), (oa uy cI cap2 V)] H → va_D A [(oc2 fr (jI w1) (jI w2)), (oc6 r (.ref rx) (.ref ry) (nI n) rg), (oa rx cI cap X), (oa ry cI cap Y), (oc6 u (.ref ux) (.ref uy) (nI m2) rh), (oa ux cI cap2 U), (oa uy cI cap2 V)] → va_S A s.heap H locs → lv_has ls 4 [(3, .int (nI i)), (0, .ref fr), (1, .ref r), (2, .ref u)] → W p l e ({ frames := 3, cells := 0, slots := 0, locals := 81 } : Room) s m ([.ref fr, .ref r, .ref u] : List Value).toArray below meth c H locs 0 0 Q9 (F0 m 21 ls []) := by
      intro n9
      induction n9 with
      | zero => intro i w1 w2 H locs ls hm; exact absurd hm (Nat.not_lt_zero _)
      | succ n9 ih_21 =>
        intro i w1 w2 H locs ls hm hi him hud hP hD hS hl
        refine lv_iload_n hx hb dX3_between_21 rfl (lv_at hl 0 rfl) ?_
        refine lv_aload_n hx hb dX3_between_22 rfl (lv_at hl 2 rfl) ?_
        refine va_get (D := (dC, dI)) (ci := 6) (v := .int (nI n)) (C := RX7) (T := TX7) (N := 4) hx hb hts inX7 hown hK hP 1 rfl rfl 2 (Nat.le_of_ble_eq_true rfl) (hts _ mw_181) (fun _ h9 => h9) rfl dX3_between_23 ?_
        have b9_3 : zlt (i) := show i < 2147483648 by omega
        have b9_4 : zlt (n) := show n < 2147483648 by omega
        refine lv_icmp_ge (tgt := 52) hx hb dX3_between_26 rfl (fun c_2 => ?_) (fun c_2 => ?_)
        · have c_2 : ((n : Nat) : Int) ≤ ((i : Nat) : Int) := zc_le (nI_toInt b9_4) (nI_toInt b9_3) c_2
          refine lv_iconst (v := 0) hx hb dX3_between_52 rfl ?_
          refine lv_istore_n (lv' := [(3, .int 0), (0, .ref fr), (1, .ref r), (2, .ref u)]) hx hb dX3_between_53 rfl hl (Nat.le_of_ble_eq_true rfl) rfl (fun ls hl => ?_)
          have hl_54 : ∀ (n9 : Nat) (i : Nat) (w1 : Int) (w2 : Int) (H : Heap) (locs : List Loc) (ls : Array Slot), m2 - i < n9 → (i ≤ m2) → (IM (ffP (ffP (fun _ _ => False) m2 U V (prt m2 rh) X Y n) n X Y (prt n rg) U V i) w1 w2) → ((0 ≤ w1 ∧ w1 ≤ 4000000000000) ∧ (0 ≤ w2 ∧ w2 ≤ 2000000)) → va_P (dC, dI) classes [(oc2 fr (jI w1) (jI w2)), (oc6 r (.ref rx) (.ref ry) (nI n) rg), (oa rx cI cap X), (oa ry cI cap Y), (oc6 u (.ref ux) (.ref uy) (nI m2) rh), (oa ux cI cap2 U), (oa uy cI cap2 V)] H → va_D A [(oc2 fr (jI w1) (jI w2)), (oc6 r (.ref rx) (.ref ry) (nI n) rg), (oa rx cI cap X), (oa ry cI cap Y), (oc6 u (.ref ux) (.ref uy) (nI m2) rh), (oa ux cI cap2 U), (oa uy cI cap2 V)] → va_S A s.heap H locs → lv_has ls 4 [(3, .int (nI i)), (0, .ref fr), (1, .ref r), (2, .ref u)] → W p l e ({ frames := 3, cells := 0, slots := 0, locals := 81 } : Room) s m ([.ref fr, .ref r, .ref u] : List Value).toArray below meth c H locs 0 0 Q9 (F0 m 54 ls []) := by
            intro n9
            induction n9 with
            | zero => intro i w1 w2 H locs ls hm; exact absurd hm (Nat.not_lt_zero _)
            | succ n9 ih_54 =>
              intro i w1 w2 H locs ls hm hi2 him2 hud2 hP hD hS hl
              refine lv_iload_n hx hb dX3_between_54 rfl (lv_at hl 0 rfl) ?_
              refine lv_aload_n hx hb dX3_between_55 rfl (lv_at hl 3 rfl) ?_
              refine va_get (D := (dC, dI)) (ci := 6) (v := .int (nI m2)) (C := RX7) (T := TX7) (N := 4) hx hb hts inX7 hown hK hP 4 rfl rfl 2 (Nat.le_of_ble_eq_true rfl) (hts _ mw_181) (fun _ h9 => h9) rfl dX3_between_56 ?_
              have b9_6 : zlt (i) := show i < 2147483648 by omega
              have b9_7 : zlt (m2) := show m2 < 2147483648 by omega
              refine lv_icmp_ge (tgt := 85) hx hb dX3_between_59 rfl (fun c_5 => ?_) (fun c_5 => ?_)
              · have c_5 : ((m2 : Nat) : Int) ≤ ((i : Nat) : Int) := zc_le (nI_toInt b9_7) (nI_toInt b9_6) c_5
                have hie : i = m2 := (by omega)
                rw [hie] at him2
                have hd1 := IM_pos him2 (Or.inr ⟨0, h1m, 0, hpn, rfl, rfl⟩)
                obtain ⟨hP9, hD9⟩ := zu_sub (wc := [_, _, _, _, _, _, _]) hP hD [true, true, true, true, true, true, true] rfl rfl
                rw [hQ9]
                exact W.vret hx hb hr (fun t ht hW => ⟨⟨rfl, w1, w2, (him2), (by omega), by rw [ht]; exact hP9, hD9⟩, hS.F ht⟩) hS.2.2 dX3_between_85
              · have c_5 : ((i : Nat) : Int) < ((m2 : Nat) : Int) := zc_nle (nI_toInt b9_7) (nI_toInt b9_6) c_5
                refine lv_aload_n hx hb dX3_between_62 rfl (lv_at hl 1 rfl) ?_
                refine lv_aload_n hx hb dX3_between_63 rfl (lv_at hl 3 rfl) ?_
                refine va_get (D := (dC, dI)) (ci := 6) (v := .ref ux) (C := RX7) (T := TX7) (N := 4) hx hb hts inX7 hown hK hP 4 rfl rfl 0 (Nat.le_of_ble_eq_true rfl) (hts _ mw_166) (fun _ h9 => h9) rfl dX3_between_64 ?_
                refine lv_iload_n hx hb dX3_between_67 rfl (lv_at hl 0 rfl) ?_
                have b9_8 : i < cap2 := by omega
                have b9_9 : zlt (cap2) := show cap2 < 2147483648 by omega
                refine z_iald hx hb hK hP 5 0 rfl rfl (e := i) rfl b9_8 b9_9 dX3_between_68 ?_
                refine lv_aload_n hx hb dX3_between_69 rfl (lv_at hl 3 rfl) ?_
                refine va_get (D := (dC, dI)) (ci := 6) (v := .ref uy) (C := RX7) (T := TX7) (N := 4) hx hb hts inX7 hown hK hP 4 rfl rfl 1 (Nat.le_of_ble_eq_true rfl) (hts _ mw_173) (fun _ h9 => h9) rfl dX3_between_70 ?_
                refine lv_iload_n hx hb dX3_between_73 rfl (lv_at hl 0 rfl) ?_
                refine z_iald hx hb hK hP 6 0 rfl rfl (e := i) rfl b9_8 b9_9 dX3_between_74 ?_
                refine lv_aload_n hx hb dX3_between_75 rfl (lv_at hl 2 rfl) ?_
                obtain ⟨hPc, hDc, hFc⟩ := zo_sub (wc := [_, _, _, _]) hP hD hS hA [0, 1, 2, 3] (by decide +kernel) rfl
                refine zcall (st1 := []) (va_runV (As := [.int (U i), .int (V i), .ref r]) (rest := []) ⟨hx, hb, hml, hown, hts⟩ (k_Fr_offerFrom l dC dI cI cZ cF H.size fr w1 w2 r rx ry n cap X Y rg (U i) (V i) (ffP (ffP (fun _ _ => False) m2 U V (prt m2 rh) X Y n) n X Y (prt n rg) U V i) (hud2.1) (hud2.2) (by first | with_reducible assumption | omega) (by first | with_reducible assumption | omega) (hp) ((hq i (by first | with_reducible assumption | omega)).1) ((hq i (by first | with_reducible assumption | omega)).2) (ffP_b (ffP_b (fun _ _ h => h.elim) hq hp hpr2 (Nat.le_refl _)) hp hq hpr hi2) (him2)) (csV_27 hts rfl rfl ⟨Nat.le_of_ble_eq_true rfl, Nat.le_of_ble_eq_true rfl⟩) (zPV2 (q0 := 0) (ci := 2) hPc hDc hK hXN rfl rfl) rfl rfl hl.1 rfl (lv_room (Nat.le_of_ble_eq_true rfl)) dX3_between_76 ⟨Nat.le_of_ble_eq_true rfl, Nat.le_of_ble_eq_true rfl⟩) hS hFc hFc rfl (fun t H locs ht hB hk1 hS => ?_)
                obtain ⟨zu9, zd9, him9, hzb9, hP1, hD1⟩ := hB
                rw [ht] at hP1
                obtain ⟨hP, hD⟩ := zn (W2 := [(oc2 fr (jI zu9) (jI zd9)), _, _, _, _, _, _]) hP hD hk1 hFc hP1 hD1 [0, 1, 2, 3] [false, false, false, false, true, true, true] [false, false, false, false, true, true, true] [0, 1, 2, 3] (by decide +kernel) rfl rfl rfl rfl rfl
                clear hk1 hPc hDc hFc hP1 hD1 ht
                refine lv_iinc (v := nI (i + 1)) (lv' := [(3, .int (nI (i + 1))), (0, .ref fr), (1, .ref r), (2, .ref u)]) hx hb dX3_between_79 hl (k := 0) rfl (nI_add i 1) (Nat.le_of_ble_eq_true rfl) rfl (fun ls hl => ?_)
                refine lv_goto (tgt := 54) hx hb dX3_between_82 rfl ?_
                exact ih_54 (i + 1) zu9 zd9 H locs ls (by first | with_reducible assumption | omega) (by first | with_reducible assumption | omega) (ffP_s him9) (hzb9) hP hD hS (lv_sub hl [0, 1, 2, 3] rfl)
          exact hl_54 _ 0 w1 w2 H locs ls (Nat.lt_succ_self _) (by first | with_reducible assumption | omega) (ffP_0 (by rw [show i = n by omega] at him; exact him)) (hud) hP hD hS (lv_sub hl [0, 1, 2, 3] rfl)
        · have c_2 : ((i : Nat) : Int) < ((n : Nat) : Int) := zc_nle (nI_toInt b9_4) (nI_toInt b9_3) c_2
          refine lv_aload_n hx hb dX3_between_29 rfl (lv_at hl 1 rfl) ?_
          refine lv_aload_n hx hb dX3_between_30 rfl (lv_at hl 2 rfl) ?_
          refine va_get (D := (dC, dI)) (ci := 6) (v := .ref rx) (C := RX7) (T := TX7) (N := 4) hx hb hts inX7 hown hK hP 1 rfl rfl 0 (Nat.le_of_ble_eq_true rfl) (hts _ mw_166) (fun _ h9 => h9) rfl dX3_between_31 ?_
          refine lv_iload_n hx hb dX3_between_34 rfl (lv_at hl 0 rfl) ?_
          have b9_10 : i < cap := by omega
          have b9_11 : zlt (cap) := show cap < 2147483648 by omega
          refine z_iald hx hb hK hP 2 0 rfl rfl (e := i) rfl b9_10 b9_11 dX3_between_35 ?_
          refine lv_aload_n hx hb dX3_between_36 rfl (lv_at hl 2 rfl) ?_
          refine va_get (D := (dC, dI)) (ci := 6) (v := .ref ry) (C := RX7) (T := TX7) (N := 4) hx hb hts inX7 hown hK hP 1 rfl rfl 1 (Nat.le_of_ble_eq_true rfl) (hts _ mw_173) (fun _ h9 => h9) rfl dX3_between_37 ?_
          refine lv_iload_n hx hb dX3_between_40 rfl (lv_at hl 0 rfl) ?_
          refine z_iald hx hb hK hP 3 0 rfl rfl (e := i) rfl b9_10 b9_11 dX3_between_41 ?_
          refine lv_aload_n hx hb dX3_between_42 rfl (lv_at hl 3 rfl) ?_
          obtain ⟨hPc, hDc, hFc⟩ := zo_sub (wc := [_, _, _, _]) hP hD hS hA [0, 4, 5, 6] (by decide +kernel) rfl
          refine zcall (st1 := []) (va_runV (As := [.int (X i), .int (Y i), .ref u]) (rest := []) ⟨hx, hb, hml, hown, hts⟩ (k_Fr_offerFrom l dC dI cI cZ cF H.size fr w1 w2 u ux uy m2 cap2 U V rh (X i) (Y i) (ffP (fun _ _ => False) m2 U V (prt m2 rh) X Y i) (hud.1) (hud.2) (by first | with_reducible assumption | omega) (by first | with_reducible assumption | omega) (hq) ((hp i (by first | with_reducible assumption | omega)).1) ((hp i (by first | with_reducible assumption | omega)).2) (ffP_b (fun _ _ h => h.elim) hq hp hpr2 hi) (him)) (csV_27 hts rfl rfl ⟨Nat.le_of_ble_eq_true rfl, Nat.le_of_ble_eq_true rfl⟩) (zPV2 (q0 := 0) (ci := 2) hPc hDc hK hXN rfl rfl) rfl rfl hl.1 rfl (lv_room (Nat.le_of_ble_eq_true rfl)) dX3_between_43 ⟨Nat.le_of_ble_eq_true rfl, Nat.le_of_ble_eq_true rfl⟩) hS hFc hFc rfl (fun t H locs ht hB hk1 hS => ?_)
          obtain ⟨zu9, zd9, him9, hzb9, hP1, hD1⟩ := hB
          rw [ht] at hP1
          obtain ⟨hP, hD⟩ := zn (W2 := [(oc2 fr (jI zu9) (jI zd9)), _, _, _, _, _, _]) hP hD hk1 hFc hP1 hD1 [0, 4, 5, 6] [false, true, true, true] [false, true, true, true, false, false, false] [0, 4, 5, 6] (by decide +kernel) rfl rfl rfl rfl rfl
          clear hk1 hPc hDc hFc hP1 hD1 ht
          refine lv_iinc (v := nI (i + 1)) (lv' := [(3, .int (nI (i + 1))), (0, .ref fr), (1, .ref r), (2, .ref u)]) hx hb dX3_between_46 hl (k := 0) rfl (nI_add i 1) (Nat.le_of_ble_eq_true rfl) rfl (fun ls hl => ?_)
          refine lv_goto (tgt := 21) hx hb dX3_between_49 rfl ?_
          exact ih_21 (i + 1) zu9 zd9 H locs ls (by first | with_reducible assumption | omega) (by first | with_reducible assumption | omega) (ffP_s him9) (hzb9) hP hD hS (lv_sub hl [0, 1, 2, 3] rfl)
    exact hl_21 _ 0 0 0 H locs ls (Nat.lt_succ_self _) (by first | with_reducible assumption | omega) (ffP_0 IM_no) (by first | with_reducible assumption | omega) hP hD hS (lv_sub hl [0, 1, 2, 3] rfl)
  · have c_1 : ∃ i, i < prt n rg ∧ ∃ j, j < prt m2 rh ∧ eMt n X Y i m2 U V j := zp_1 c_1
    exfalso; exact absurd (by first | with_reducible assumption | assumption) htc
set_option maxHeartbeats 4000000 in
set_option maxRecDepth 100000 in
theorem k_Fr_isOver (l : Launch) (dC : Nat → ClassId) (dI : Nat → Nat → Nat) (cI cZ cF : ClassId) (sz : Nat) (fr : Nat) (o9 : Int) (d9 : Int) (gp9 : Int32) (ho : 0 ≤ o9 ∧ o9 ≤ 4000000000000) (hd : 0 ≤ d9 ∧ d9 ≤ 2000000) (hgp : 0 ≤ gp9.toInt ∧ gp9.toInt ≤ 1000) : zM l yX3_isOver cX3_isOver 2 (some .boolean) ({ frames := 0, cells := 0, slots := 0, locals := 0 } : Room) [.ref fr, .int gp9] (dC, dI) (zTy cI cZ cF) [(oc2 fr (jI o9) (jI d9))] sz (some (.int (pI (gp9.toInt * gp9.toInt * d9 < o9)))) (fun A t => zPD (dC, dI) classes A [(oc2 fr (jI o9) (jI d9))] t.heap) 0 0 := by
  refine zIn (own := "ScaleShop$Fraction") (loc := [(0, .ref fr), (1, .int gp9)]) rfl rfl rfl rfl (fun p e s m below meth c hx hb hr hts hown hlocks hml hnm9 A hA hS hP hD hK hXN Q9 hQ9 ls hl => ?_)
  have hgb := fgB (D := d9) hgp hd
  refine lv_aload_n hx hb dX3_isOver_0 rfl (lv_at hl 0 rfl) ?_
  refine va_get (D := (dC, dI)) (ci := 2) (v := .long (jI o9)) (C := RX3) (T := TX3) (N := 2) hx hb hts inX3 hown hK hP 0 rfl rfl 0 (Nat.le_of_ble_eq_true rfl) (hts _ mw_273) (fun _ h9 => h9) rfl dX3_isOver_1 ?_
  refine lv_iload_n hx hb dX3_isOver_4 rfl (lv_at hl 1 rfl) ?_
  refine lv_i2l (v := gp9.toInt64) hx hb dX3_isOver_5 (rfl) ?_
  refine lv_iload_n hx hb dX3_isOver_6 rfl (lv_at hl 1 rfl) ?_
  refine lv_i2l (v := gp9.toInt64) hx hb dX3_isOver_7 (rfl) ?_
  refine lv_lmul hx hb dX3_isOver_8 ?_
  refine lv_aload_n hx hb dX3_isOver_9 rfl (lv_at hl 0 rfl) ?_
  refine va_get (D := (dC, dI)) (ci := 2) (v := .long (jI d9)) (C := RX3) (T := TX3) (N := 2) hx hb hts inX3 hown hK hP 0 rfl rfl 1 (Nat.le_of_ble_eq_true rfl) (hts _ mw_275) (fun _ h9 => h9) rfl dX3_isOver_10 ?_
  refine lv_lmul hx hb dX3_isOver_13 ?_
  refine zz_l (v := jI (gp9.toInt * gp9.toInt * d9)) (fgL hgp hd) ?_
  refine W.lcmp hx hb dX3_isOver_14 ?_
  refine lv_if_le (tgt := 22) hx hb dX3_isOver_15 rfl (fun c_1 => ?_) (fun c_1 => ?_)
  · have c_1 : o9 ≤ (gp9.toInt * gp9.toInt * d9) := zl_le (jI_toInt (by omega)) (jI_toInt (by omega)) c_1
    refine lv_iconst (v := 0) hx hb dX3_isOver_22 rfl ?_
    obtain ⟨hP9, hD9⟩ := zu_sub (wc := [_]) hP hD [true] rfl rfl
    rw [hQ9]
    exact W.zret (ty := .boolean) (v := 0) hx hb hr (rfl) (fun t ht hW => ⟨⟨congrArg (fun z => Outcome.returned (some (Value.int z))) (show (0 : Int32) = pI (gp9.toInt * gp9.toInt * d9 < o9) from (zp_f (by omega)).symm), by rw [ht]; exact hP9, hD9⟩, hS.F ht⟩) hS.2.2 dX3_isOver_23
  · have c_1 : (gp9.toInt * gp9.toInt * d9) < o9 := zl_nle (jI_toInt (by omega)) (jI_toInt (by omega)) c_1
    refine lv_iconst (v := 1) hx hb dX3_isOver_18 rfl ?_
    refine lv_goto (tgt := 23) hx hb dX3_isOver_19 rfl ?_
    obtain ⟨hP9, hD9⟩ := zu_sub (wc := [_]) hP hD [true] rfl rfl
    rw [hQ9]
    exact W.zret (ty := .boolean) (v := 1) hx hb hr (rfl) (fun t ht hW => ⟨⟨congrArg (fun z => Outcome.returned (some (Value.int z))) (show (1 : Int32) = pI (gp9.toInt * gp9.toInt * d9 < o9) from (zp_t (by omega)).symm), by rw [ht]; exact hP9, hD9⟩, hS.F ht⟩) hS.2.2 dX3_isOver_23
set_option maxHeartbeats 4000000 in
set_option maxRecDepth 100000 in
theorem k_Fr_reduced_0 (l : Launch) (dC : Nat → ClassId) (dI : Nat → Nat → Nat) (cI cZ cF : ClassId) (sz : Nat) (fr : Nat) (un : Nat) (dd : Nat) (hun : un ≤ 4000000000000) (hdd : 1 ≤ dd ∧ dd ≤ 2000000) : zM l yX3_reduced cX3_reduced 9 (some .long) ({ frames := 0, cells := 0, slots := 0, locals := 0 } : Room) [.ref fr, .int 0] (dC, dI) (zTy cI cZ cF) [(oc2 fr (jI ((un : Nat) : Int)) (jI ((dd : Nat) : Int)))] sz (some (.long (jI ((un / Nat.gcd un dd : Nat) : Int)))) (fun A t => zPD (dC, dI) classes A [(oc2 fr (jI ((un : Nat) : Int)) (jI ((dd : Nat) : Int)))] t.heap) 0 0 := by
  refine zIn (own := "ScaleShop$Fraction") (loc := [(0, .ref fr), (1, .int 0)]) rfl rfl rfl rfl (fun p e s m below meth c hx hb hr hts hown hlocks hml hnm9 A hA hS hP hD hK hXN Q9 hQ9 ls hl => ?_)
  refine lv_aload_n hx hb dX3_reduced_0 rfl (lv_at hl 0 rfl) ?_
  refine va_get (D := (dC, dI)) (ci := 2) (v := .long (jI ((un : Nat) : Int))) (C := RX3) (T := TX3) (N := 2) hx hb hts inX3 hown hK hP 0 rfl rfl 0 (Nat.le_of_ble_eq_true rfl) (hts _ mw_273) (fun _ h9 => h9) rfl dX3_reduced_1 ?_
  refine lv_lstore_n (lv' := [(2, .long (jI ((un : Nat) : Int))), (0, .ref fr), (1, .int 0)]) hx hb dX3_reduced_4 rfl hl (Nat.le_of_ble_eq_true rfl) rfl (fun ls hl => ?_)
  refine lv_aload_n hx hb dX3_reduced_5 rfl (lv_at hl 1 rfl) ?_
  refine va_get (D := (dC, dI)) (ci := 2) (v := .long (jI ((dd : Nat) : Int))) (C := RX3) (T := TX3) (N := 2) hx hb hts inX3 hown hK hP 0 rfl rfl 1 (Nat.le_of_ble_eq_true rfl) (hts _ mw_275) (fun _ h9 => h9) rfl dX3_reduced_6 ?_
  refine lv_lstore (lv' := [(4, .long (jI ((dd : Nat) : Int))), (2, .long (jI ((un : Nat) : Int))), (0, .ref fr), (1, .int 0)]) hx hb dX3_reduced_9 hl (Nat.le_of_ble_eq_true rfl) rfl (fun ls hl => ?_)
  refine lv_iconst (v := 0) hx hb dX3_reduced_11 rfl ?_
  refine lv_istore (lv' := [(6, .int 0), (4, .long (jI ((dd : Nat) : Int))), (2, .long (jI ((un : Nat) : Int))), (0, .ref fr), (1, .int 0)]) hx hb dX3_reduced_12 hl (Nat.le_of_ble_eq_true rfl) rfl (fun ls hl => ?_)
  have hl_14 : ∀ (n9 : Nat) (i : Nat) (aa : Nat) (bb : Nat) (H : Heap) (locs : List Loc) (ls : Array Slot), 200 - i < n9 → (i ≤ 200) → (aa ≤ 4000000000000 ∧ bb ≤ 2000000) → (Nat.gcd aa bb = Nat.gcd un dd) → (euI aa bb i) → va_P (dC, dI) classes [(oc2 fr (jI ((un : Nat) : Int)) (jI ((dd : Nat) : Int)))] H → va_D A [(oc2 fr (jI ((un : Nat) : Int)) (jI ((dd : Nat) : Int)))] → va_S A s.heap H locs → lv_has ls 9 [(6, .int (nI i)), (4, .long (jI ((bb : Nat) : Int))), (2, .long (jI ((aa : Nat) : Int))), (0, .ref fr), (1, .int 0)] → W p l e ({ frames := 0, cells := 0, slots := 0, locals := 0 } : Room) s m ([.ref fr, .int 0] : List Value).toArray below meth c H locs 0 0 Q9 (F0 m 14 ls []) := by
    intro n9
    induction n9 with
    | zero => intro i aa bb H locs ls hm; exact absurd hm (Nat.not_lt_zero _)
    | succ n9 ih_14 =>
      intro i aa bb H locs ls hm hi hab hgc heu hP hD hS hl
      refine lv_iload hx hb dX3_reduced_14 (lv_at hl 0 rfl) ?_
      refine lv_sipush (v := 200) hx hb dX3_reduced_16 rfl ?_
      have b9_2 : zlt (i) := show i < 2147483648 by omega
      refine lv_icmp_ge (tgt := 48) hx hb dX3_reduced_19 rfl (fun c_1 => ?_) (fun c_1 => ?_)
      · have c_1 : 200 ≤ ((i : Nat) : Int) := zc_le rfl (nI_toInt b9_2) c_1
        have hb0 : bb = 0 := (by first | omega | (rw [show i = 200 by omega] at heu; exact euI_e heu))
        have hag : aa = Nat.gcd un dd := (by rw [← hgc, hb0, Nat.gcd_zero_right])
        have hgp : 0 < Nat.gcd un dd := Nat.gcd_pos_of_pos_right un (by omega)
        refine lv_lload_n hx hb dX3_reduced_48 rfl (lv_at hl 2 rfl) ?_
        refine lv_lconst (v := 0) hx hb dX3_reduced_49 rfl ?_
        refine W.lcmp hx hb dX3_reduced_50 ?_
        refine lv_if_ne (tgt := 64) hx hb dX3_reduced_51 rfl (fun c_3 => ?_) (fun c_3 => ?_)
        · have c_3 : ¬ ((aa : Nat) : Int) = 0 := zl_ne (jI_toInt (by omega)) rfl c_3
          refine lv_iload_n hx hb dX3_reduced_64 rfl (lv_at hl 4 rfl) ?_
          refine lv_if_ne (tgt := 75) hx hb dX3_reduced_65 rfl (fun c_4 => ?_) (fun c_4 => ?_)
          · exact absurd (by decide) c_4
          · refine lv_aload_n hx hb dX3_reduced_68 rfl (lv_at hl 3 rfl) ?_
            refine va_get (D := (dC, dI)) (ci := 2) (v := .long (jI ((un : Nat) : Int))) (C := RX3) (T := TX3) (N := 2) hx hb hts inX3 hown hK hP 0 rfl rfl 0 (Nat.le_of_ble_eq_true rfl) (hts _ mw_273) (fun _ h9 => h9) rfl dX3_reduced_69 ?_
            refine lv_goto (tgt := 79) hx hb dX3_reduced_72 rfl ?_
            refine lv_lload_n hx hb dX3_reduced_79 rfl (lv_at hl 2 rfl) ?_
            refine lv_ldiv hx hb dX3_reduced_80 (jN_ne (by omega) (by omega)) ?_
            refine zz_l (v := jI ((un / Nat.gcd un dd : Nat) : Int)) (by rw [jN_div (by omega) (by omega) (by omega), hag]) ?_
            obtain ⟨hP9, hD9⟩ := zu_sub (wc := [_]) hP hD [true] rfl rfl
            rw [hQ9]
            exact W.lret (v := jI ((un / Nat.gcd un dd : Nat) : Int)) hx hb hr (fun t ht hW => ⟨⟨rfl, by rw [ht]; exact hP9, hD9⟩, hS.F ht⟩) hS.2.2 dX3_reduced_81
        · have c_3 : ((aa : Nat) : Int) = 0 := zl_eq (jI_toInt (by omega)) rfl c_3
          exfalso; omega
      · have c_1 : ((i : Nat) : Int) < 200 := zc_nle rfl (nI_toInt b9_2) c_1
        refine lv_lload hx hb dX3_reduced_22 (lv_at hl 1 rfl) ?_
        refine lv_lconst (v := 0) hx hb dX3_reduced_24 rfl ?_
        refine W.lcmp hx hb dX3_reduced_25 ?_
        refine lv_if_eq (tgt := 48) hx hb dX3_reduced_26 rfl (fun c_5 => ?_) (fun c_5 => ?_)
        · have c_5 : ((bb : Nat) : Int) = 0 := zl_eq (jI_toInt (by omega)) rfl c_5
          have hb0 : bb = 0 := (by first | omega | (rw [show i = 200 by omega] at heu; exact euI_e heu))
          have hag : aa = Nat.gcd un dd := (by rw [← hgc, hb0, Nat.gcd_zero_right])
          have hgp : 0 < Nat.gcd un dd := Nat.gcd_pos_of_pos_right un (by omega)
          refine lv_lload_n hx hb dX3_reduced_48 rfl (lv_at hl 2 rfl) ?_
          refine lv_lconst (v := 0) hx hb dX3_reduced_49 rfl ?_
          refine W.lcmp hx hb dX3_reduced_50 ?_
          refine lv_if_ne (tgt := 64) hx hb dX3_reduced_51 rfl (fun c_6 => ?_) (fun c_6 => ?_)
          · have c_6 : ¬ ((aa : Nat) : Int) = 0 := zl_ne (jI_toInt (by omega)) rfl c_6
            refine lv_iload_n hx hb dX3_reduced_64 rfl (lv_at hl 4 rfl) ?_
            refine lv_if_ne (tgt := 75) hx hb dX3_reduced_65 rfl (fun c_7 => ?_) (fun c_7 => ?_)
            · exact absurd (by decide) c_7
            · refine lv_aload_n hx hb dX3_reduced_68 rfl (lv_at hl 3 rfl) ?_
              refine va_get (D := (dC, dI)) (ci := 2) (v := .long (jI ((un : Nat) : Int))) (C := RX3) (T := TX3) (N := 2) hx hb hts inX3 hown hK hP 0 rfl rfl 0 (Nat.le_of_ble_eq_true rfl) (hts _ mw_273) (fun _ h9 => h9) rfl dX3_reduced_69 ?_
              refine lv_goto (tgt := 79) hx hb dX3_reduced_72 rfl ?_
              refine lv_lload_n hx hb dX3_reduced_79 rfl (lv_at hl 2 rfl) ?_
              refine lv_ldiv hx hb dX3_reduced_80 (jN_ne (by omega) (by omega)) ?_
              refine zz_l (v := jI ((un / Nat.gcd un dd : Nat) : Int)) (by rw [jN_div (by omega) (by omega) (by omega), hag]) ?_
              obtain ⟨hP9, hD9⟩ := zu_sub (wc := [_]) hP hD [true] rfl rfl
              rw [hQ9]
              exact W.lret (v := jI ((un / Nat.gcd un dd : Nat) : Int)) hx hb hr (fun t ht hW => ⟨⟨rfl, by rw [ht]; exact hP9, hD9⟩, hS.F ht⟩) hS.2.2 dX3_reduced_81
          · have c_6 : ((aa : Nat) : Int) = 0 := zl_eq (jI_toInt (by omega)) rfl c_6
            exfalso; omega
        · have c_5 : ¬ ((bb : Nat) : Int) = 0 := zl_ne (jI_toInt (by omega)) rfl c_5
          refine lv_lload_n hx hb dX3_reduced_29 rfl (lv_at hl 2 rfl) ?_
          refine lv_lload hx hb dX3_reduced_30 (lv_at hl 1 rfl) ?_
          refine lv_lrem hx hb dX3_reduced_32 (jN_ne (by omega) (by omega)) ?_
          refine zz_l (v := jI ((aa % bb : Nat) : Int)) (jN_rem (by omega) (by omega) (by omega)) ?_
          refine lv_lstore (lv' := [(7, .long (jI ((aa % bb : Nat) : Int))), (6, .int (nI i)), (4, .long (jI ((bb : Nat) : Int))), (2, .long (jI ((aa : Nat) : Int))), (0, .ref fr), (1, .int 0)]) hx hb dX3_reduced_33 hl (Nat.le_of_ble_eq_true rfl) rfl (fun ls hl => ?_)
          refine lv_lload hx hb dX3_reduced_35 (lv_at hl 2 rfl) ?_
          refine lv_lstore_n (lv' := [(2, .long (jI ((bb : Nat) : Int))), (7, .long (jI ((aa % bb : Nat) : Int))), (6, .int (nI i)), (4, .long (jI ((bb : Nat) : Int))), (0, .ref fr), (1, .int 0)]) hx hb dX3_reduced_37 rfl hl (Nat.le_of_ble_eq_true rfl) rfl (fun ls hl => ?_)
          refine lv_lload hx hb dX3_reduced_38 (lv_at hl 1 rfl) ?_
          refine lv_lstore (lv' := [(4, .long (jI ((aa % bb : Nat) : Int))), (2, .long (jI ((bb : Nat) : Int))), (7, .long (jI ((aa % bb : Nat) : Int))), (6, .int (nI i)), (0, .ref fr), (1, .int 0)]) hx hb dX3_reduced_40 hl (Nat.le_of_ble_eq_true rfl) rfl (fun ls hl => ?_)
          refine lv_iinc (v := nI (i + 1)) (lv' := [(6, .int (nI (i + 1))), (4, .long (jI ((aa % bb : Nat) : Int))), (2, .long (jI ((bb : Nat) : Int))), (7, .long (jI ((aa % bb : Nat) : Int))), (0, .ref fr), (1, .int 0)]) hx hb dX3_reduced_42 hl (k := 3) rfl (nI_add i 1) (Nat.le_of_ble_eq_true rfl) rfl (fun ls hl => ?_)
          refine lv_goto (tgt := 14) hx hb dX3_reduced_45 rfl ?_
          exact ih_14 (i + 1) bb (aa % bb) H locs ls (by first | with_reducible assumption | omega) (by first | with_reducible assumption | omega) (by have h9 := Nat.mod_lt aa (show 0 < bb by omega); omega) (by rw [Nat.gcd_comm bb, ← Nat.gcd_rec, Nat.gcd_comm]; exact hgc) (euI_s (by first | with_reducible assumption | omega) hab.2 heu) hP hD hS (lv_sub hl [0, 1, 2, 4, 5] rfl)
  exact hl_14 _ 0 un dd s.heap [] ls (Nat.lt_succ_self _) (by first | with_reducible assumption | omega) (by first | with_reducible assumption | omega) (rfl) (Or.inl rfl) hP hD hS (lv_sub hl [0, 1, 2, 3, 4] rfl)
set_option maxHeartbeats 4000000 in
set_option maxRecDepth 100000 in
theorem k_Fr_reduced_1 (l : Launch) (dC : Nat → ClassId) (dI : Nat → Nat → Nat) (cI cZ cF : ClassId) (sz : Nat) (fr : Nat) (un : Nat) (dd : Nat) (hun : un ≤ 4000000000000) (hdd : 1 ≤ dd ∧ dd ≤ 2000000) : zM l yX3_reduced cX3_reduced 9 (some .long) ({ frames := 0, cells := 0, slots := 0, locals := 0 } : Room) [.ref fr, .int 1] (dC, dI) (zTy cI cZ cF) [(oc2 fr (jI ((un : Nat) : Int)) (jI ((dd : Nat) : Int)))] sz (some (.long (jI ((dd / Nat.gcd un dd : Nat) : Int)))) (fun A t => zPD (dC, dI) classes A [(oc2 fr (jI ((un : Nat) : Int)) (jI ((dd : Nat) : Int)))] t.heap) 0 0 := by
  refine zIn (own := "ScaleShop$Fraction") (loc := [(0, .ref fr), (1, .int 1)]) rfl rfl rfl rfl (fun p e s m below meth c hx hb hr hts hown hlocks hml hnm9 A hA hS hP hD hK hXN Q9 hQ9 ls hl => ?_)
  refine lv_aload_n hx hb dX3_reduced_0 rfl (lv_at hl 0 rfl) ?_
  refine va_get (D := (dC, dI)) (ci := 2) (v := .long (jI ((un : Nat) : Int))) (C := RX3) (T := TX3) (N := 2) hx hb hts inX3 hown hK hP 0 rfl rfl 0 (Nat.le_of_ble_eq_true rfl) (hts _ mw_273) (fun _ h9 => h9) rfl dX3_reduced_1 ?_
  refine lv_lstore_n (lv' := [(2, .long (jI ((un : Nat) : Int))), (0, .ref fr), (1, .int 1)]) hx hb dX3_reduced_4 rfl hl (Nat.le_of_ble_eq_true rfl) rfl (fun ls hl => ?_)
  refine lv_aload_n hx hb dX3_reduced_5 rfl (lv_at hl 1 rfl) ?_
  refine va_get (D := (dC, dI)) (ci := 2) (v := .long (jI ((dd : Nat) : Int))) (C := RX3) (T := TX3) (N := 2) hx hb hts inX3 hown hK hP 0 rfl rfl 1 (Nat.le_of_ble_eq_true rfl) (hts _ mw_275) (fun _ h9 => h9) rfl dX3_reduced_6 ?_
  refine lv_lstore (lv' := [(4, .long (jI ((dd : Nat) : Int))), (2, .long (jI ((un : Nat) : Int))), (0, .ref fr), (1, .int 1)]) hx hb dX3_reduced_9 hl (Nat.le_of_ble_eq_true rfl) rfl (fun ls hl => ?_)
  refine lv_iconst (v := 0) hx hb dX3_reduced_11 rfl ?_
  refine lv_istore (lv' := [(6, .int 0), (4, .long (jI ((dd : Nat) : Int))), (2, .long (jI ((un : Nat) : Int))), (0, .ref fr), (1, .int 1)]) hx hb dX3_reduced_12 hl (Nat.le_of_ble_eq_true rfl) rfl (fun ls hl => ?_)
  have hl_14 : ∀ (n9 : Nat) (i : Nat) (aa : Nat) (bb : Nat) (H : Heap) (locs : List Loc) (ls : Array Slot), 200 - i < n9 → (i ≤ 200) → (aa ≤ 4000000000000 ∧ bb ≤ 2000000) → (Nat.gcd aa bb = Nat.gcd un dd) → (euI aa bb i) → va_P (dC, dI) classes [(oc2 fr (jI ((un : Nat) : Int)) (jI ((dd : Nat) : Int)))] H → va_D A [(oc2 fr (jI ((un : Nat) : Int)) (jI ((dd : Nat) : Int)))] → va_S A s.heap H locs → lv_has ls 9 [(6, .int (nI i)), (4, .long (jI ((bb : Nat) : Int))), (2, .long (jI ((aa : Nat) : Int))), (0, .ref fr), (1, .int 1)] → W p l e ({ frames := 0, cells := 0, slots := 0, locals := 0 } : Room) s m ([.ref fr, .int 1] : List Value).toArray below meth c H locs 0 0 Q9 (F0 m 14 ls []) := by
    intro n9
    induction n9 with
    | zero => intro i aa bb H locs ls hm; exact absurd hm (Nat.not_lt_zero _)
    | succ n9 ih_14 =>
      intro i aa bb H locs ls hm hi hab hgc heu hP hD hS hl
      refine lv_iload hx hb dX3_reduced_14 (lv_at hl 0 rfl) ?_
      refine lv_sipush (v := 200) hx hb dX3_reduced_16 rfl ?_
      have b9_2 : zlt (i) := show i < 2147483648 by omega
      refine lv_icmp_ge (tgt := 48) hx hb dX3_reduced_19 rfl (fun c_1 => ?_) (fun c_1 => ?_)
      · have c_1 : 200 ≤ ((i : Nat) : Int) := zc_le rfl (nI_toInt b9_2) c_1
        have hb0 : bb = 0 := (by first | omega | (rw [show i = 200 by omega] at heu; exact euI_e heu))
        have hag : aa = Nat.gcd un dd := (by rw [← hgc, hb0, Nat.gcd_zero_right])
        have hgp : 0 < Nat.gcd un dd := Nat.gcd_pos_of_pos_right un (by omega)
        refine lv_lload_n hx hb dX3_reduced_48 rfl (lv_at hl 2 rfl) ?_
        refine lv_lconst (v := 0) hx hb dX3_reduced_49 rfl ?_
        refine W.lcmp hx hb dX3_reduced_50 ?_
        refine lv_if_ne (tgt := 64) hx hb dX3_reduced_51 rfl (fun c_3 => ?_) (fun c_3 => ?_)
        · have c_3 : ¬ ((aa : Nat) : Int) = 0 := zl_ne (jI_toInt (by omega)) rfl c_3
          refine lv_iload_n hx hb dX3_reduced_64 rfl (lv_at hl 4 rfl) ?_
          refine lv_if_ne (tgt := 75) hx hb dX3_reduced_65 rfl (fun c_4 => ?_) (fun c_4 => ?_)
          · refine lv_aload_n hx hb dX3_reduced_75 rfl (lv_at hl 3 rfl) ?_
            refine va_get (D := (dC, dI)) (ci := 2) (v := .long (jI ((dd : Nat) : Int))) (C := RX3) (T := TX3) (N := 2) hx hb hts inX3 hown hK hP 0 rfl rfl 1 (Nat.le_of_ble_eq_true rfl) (hts _ mw_275) (fun _ h9 => h9) rfl dX3_reduced_76 ?_
            refine lv_lload_n hx hb dX3_reduced_79 rfl (lv_at hl 2 rfl) ?_
            refine lv_ldiv hx hb dX3_reduced_80 (jN_ne (by omega) (by omega)) ?_
            refine zz_l (v := jI ((dd / Nat.gcd un dd : Nat) : Int)) (by rw [jN_div (by omega) (by omega) (by omega), hag]) ?_
            obtain ⟨hP9, hD9⟩ := zu_sub (wc := [_]) hP hD [true] rfl rfl
            rw [hQ9]
            exact W.lret (v := jI ((dd / Nat.gcd un dd : Nat) : Int)) hx hb hr (fun t ht hW => ⟨⟨rfl, by rw [ht]; exact hP9, hD9⟩, hS.F ht⟩) hS.2.2 dX3_reduced_81
          · exact absurd c_4 (by decide)
        · have c_3 : ((aa : Nat) : Int) = 0 := zl_eq (jI_toInt (by omega)) rfl c_3
          exfalso; omega
      · have c_1 : ((i : Nat) : Int) < 200 := zc_nle rfl (nI_toInt b9_2) c_1
        refine lv_lload hx hb dX3_reduced_22 (lv_at hl 1 rfl) ?_
        refine lv_lconst (v := 0) hx hb dX3_reduced_24 rfl ?_
        refine W.lcmp hx hb dX3_reduced_25 ?_
        refine lv_if_eq (tgt := 48) hx hb dX3_reduced_26 rfl (fun c_5 => ?_) (fun c_5 => ?_)
        · have c_5 : ((bb : Nat) : Int) = 0 := zl_eq (jI_toInt (by omega)) rfl c_5
          have hb0 : bb = 0 := (by first | omega | (rw [show i = 200 by omega] at heu; exact euI_e heu))
          have hag : aa = Nat.gcd un dd := (by rw [← hgc, hb0, Nat.gcd_zero_right])
          have hgp : 0 < Nat.gcd un dd := Nat.gcd_pos_of_pos_right un (by omega)
          refine lv_lload_n hx hb dX3_reduced_48 rfl (lv_at hl 2 rfl) ?_
          refine lv_lconst (v := 0) hx hb dX3_reduced_49 rfl ?_
          refine W.lcmp hx hb dX3_reduced_50 ?_
          refine lv_if_ne (tgt := 64) hx hb dX3_reduced_51 rfl (fun c_6 => ?_) (fun c_6 => ?_)
          · have c_6 : ¬ ((aa : Nat) : Int) = 0 := zl_ne (jI_toInt (by omega)) rfl c_6
            refine lv_iload_n hx hb dX3_reduced_64 rfl (lv_at hl 4 rfl) ?_
            refine lv_if_ne (tgt := 75) hx hb dX3_reduced_65 rfl (fun c_7 => ?_) (fun c_7 => ?_)
            · refine lv_aload_n hx hb dX3_reduced_75 rfl (lv_at hl 3 rfl) ?_
              refine va_get (D := (dC, dI)) (ci := 2) (v := .long (jI ((dd : Nat) : Int))) (C := RX3) (T := TX3) (N := 2) hx hb hts inX3 hown hK hP 0 rfl rfl 1 (Nat.le_of_ble_eq_true rfl) (hts _ mw_275) (fun _ h9 => h9) rfl dX3_reduced_76 ?_
              refine lv_lload_n hx hb dX3_reduced_79 rfl (lv_at hl 2 rfl) ?_
              refine lv_ldiv hx hb dX3_reduced_80 (jN_ne (by omega) (by omega)) ?_
              refine zz_l (v := jI ((dd / Nat.gcd un dd : Nat) : Int)) (by rw [jN_div (by omega) (by omega) (by omega), hag]) ?_
              obtain ⟨hP9, hD9⟩ := zu_sub (wc := [_]) hP hD [true] rfl rfl
              rw [hQ9]
              exact W.lret (v := jI ((dd / Nat.gcd un dd : Nat) : Int)) hx hb hr (fun t ht hW => ⟨⟨rfl, by rw [ht]; exact hP9, hD9⟩, hS.F ht⟩) hS.2.2 dX3_reduced_81
            · exact absurd c_7 (by decide)
          · have c_6 : ((aa : Nat) : Int) = 0 := zl_eq (jI_toInt (by omega)) rfl c_6
            exfalso; omega
        · have c_5 : ¬ ((bb : Nat) : Int) = 0 := zl_ne (jI_toInt (by omega)) rfl c_5
          refine lv_lload_n hx hb dX3_reduced_29 rfl (lv_at hl 2 rfl) ?_
          refine lv_lload hx hb dX3_reduced_30 (lv_at hl 1 rfl) ?_
          refine lv_lrem hx hb dX3_reduced_32 (jN_ne (by omega) (by omega)) ?_
          refine zz_l (v := jI ((aa % bb : Nat) : Int)) (jN_rem (by omega) (by omega) (by omega)) ?_
          refine lv_lstore (lv' := [(7, .long (jI ((aa % bb : Nat) : Int))), (6, .int (nI i)), (4, .long (jI ((bb : Nat) : Int))), (2, .long (jI ((aa : Nat) : Int))), (0, .ref fr), (1, .int 1)]) hx hb dX3_reduced_33 hl (Nat.le_of_ble_eq_true rfl) rfl (fun ls hl => ?_)
          refine lv_lload hx hb dX3_reduced_35 (lv_at hl 2 rfl) ?_
          refine lv_lstore_n (lv' := [(2, .long (jI ((bb : Nat) : Int))), (7, .long (jI ((aa % bb : Nat) : Int))), (6, .int (nI i)), (4, .long (jI ((bb : Nat) : Int))), (0, .ref fr), (1, .int 1)]) hx hb dX3_reduced_37 rfl hl (Nat.le_of_ble_eq_true rfl) rfl (fun ls hl => ?_)
          refine lv_lload hx hb dX3_reduced_38 (lv_at hl 1 rfl) ?_
          refine lv_lstore (lv' := [(4, .long (jI ((aa % bb : Nat) : Int))), (2, .long (jI ((bb : Nat) : Int))), (7, .long (jI ((aa % bb : Nat) : Int))), (6, .int (nI i)), (0, .ref fr), (1, .int 1)]) hx hb dX3_reduced_40 hl (Nat.le_of_ble_eq_true rfl) rfl (fun ls hl => ?_)
          refine lv_iinc (v := nI (i + 1)) (lv' := [(6, .int (nI (i + 1))), (4, .long (jI ((aa % bb : Nat) : Int))), (2, .long (jI ((bb : Nat) : Int))), (7, .long (jI ((aa % bb : Nat) : Int))), (0, .ref fr), (1, .int 1)]) hx hb dX3_reduced_42 hl (k := 3) rfl (nI_add i 1) (Nat.le_of_ble_eq_true rfl) rfl (fun ls hl => ?_)
          refine lv_goto (tgt := 14) hx hb dX3_reduced_45 rfl ?_
          exact ih_14 (i + 1) bb (aa % bb) H locs ls (by first | with_reducible assumption | omega) (by first | with_reducible assumption | omega) (by have h9 := Nat.mod_lt aa (show 0 < bb by omega); omega) (by rw [Nat.gcd_comm bb, ← Nat.gcd_rec, Nat.gcd_comm]; exact hgc) (euI_s (by first | with_reducible assumption | omega) hab.2 heu) hP hD hS (lv_sub hl [0, 1, 2, 4, 5] rfl)
  exact hl_14 _ 0 un dd s.heap [] ls (Nat.lt_succ_self _) (by first | with_reducible assumption | omega) (by first | with_reducible assumption | omega) (rfl) (Or.inl rfl) hP hD hS (lv_sub hl [0, 1, 2, 3, 4] rfl)
end
section
/-! references out of arrays -/
section HP
variable {p : Program} {l : Launch} {e₀ : Env} {R : Room} {s : State} {m : MethodId} {args : Array Value} {below : List Frame} {meth : Method} {c : Code} {H : Heap} {locs : List Loc} {cells slots : Nat} {Q : State → Prop}
variable {cc : ByteArray} {pc : Nat} {ls : Array Slot} {rest : List Value} {D : va_G} {cl : List vw_C} {A : Nat → Prop} {a : Nat} {tys : List (ClassId × FieldType)} {ws : va_W} {H0 : Heap}
theorem z_aald (hexec : p.tables.exec = Jvm.exec) (hb : c.code = cc) (hK : va_K D cl tys s) (hP : va_P D cl ws H) (q0 t0 : Nat) {cA : ClassId} {C : String} {n : Nat} {f : Nat → Option Nat} (ha : ws[q0]? = some (a, .inl (cA, n, .inr (.inr (.inr (.inr f)))))) (ht : tys[t0]? = some (cA, .object C)) {i : Int32} {e : Nat} (hi : i = nI e) (hlt : e < n) (hn : n < 2147483648) {v : Value} (hv : va_rf (f e) = v) (hdg : decode cc pc = .ok (.aaload, 1))
    (k : W p l e₀ R s m args below meth c H locs cells slots Q (F0 m (pc + 1) ls (v :: rest))) : W p l e₀ R s m args below meth c H locs cells slots Q (F0 m pc ls (.int i :: .ref a :: rest)) := by
  subst hi hv
  refine va_aldq hexec hb hK hP q0 t0 ha ht (vp_in_nI hlt hn) hdg ?_
  rw [nI_clamp (by omega)]; exact k
theorem z_aast (hexec : p.tables.exec = Jvm.exec) (hb : c.code = cc) (hK : va_K D cl tys s) (hP : va_P D cl ws H) (hD : va_D A ws) (hS : va_S A H0 H locs) (q0 t0 qk ci : Nat) {cA : ClassId} {r : vw_C} {n v : Nat} {vs : List Value} {f : Nat → Option Nat} (ha : ws[q0]? = some (a, .inl (cA, n, .inr (.inr (.inr (.inr f)))))) (ht : tys[t0]? = some (cA, .object r.1)) (hv : ws[qk]? = some (v, .inr (ci, vs))) (hc : cl[ci]? = some r) {i : Int32} {e : Nat} (hi : i = nI e) (hlt : e < n) (hn : n < 2147483648) (hdg : decode cc pc = .ok (.aastore, 1))
    (kk : ∀ (H1 : Heap) (locs1 : List Loc), va_P D cl (ws.set q0 (a, .inl (cA, n, .inr (.inr (.inr (.inr (va_up f e (some v)))))))) H1 → va_D A (ws.set q0 (a, .inl (cA, n, .inr (.inr (.inr (.inr (va_up f e (some v)))))))) → va_S A H0 H1 locs1 → W p l e₀ R s m args below meth c H1 locs1 cells slots Q (F0 m (pc + 1) ls rest)) : W p l e₀ R s m args below meth c H locs cells slots Q (F0 m pc ls (.ref v :: .int i :: .ref a :: rest)) := by
  subst hi
  refine va_astq hexec hb hK hP hD hS q0 t0 qk ci ha ht hv hc (vp_in_nI hlt hn) hdg (fun H1 locs1 h1 h2 h3 => ?_)
  rw [nI_clamp (by omega)] at h1 h2; exact kk H1 locs1 h1 h2 h3
theorem z_acmpne (hexec : p.tables.exec = Jvm.exec) (hb : c.code = cc) {rx ry : Nat} {off : Int} {tgt : Nat} (hdg : decode cc pc = .ok (.if_acmp .ne off, 3)) (ht : (pc : Int) + off = (tgt : Int))
    (kt : ¬ rx = ry → W p l e₀ R s m args below meth c H locs cells slots Q (F0 m tgt ls rest)) (kf : rx = ry → W p l e₀ R s m args below meth c H locs cells slots Q (F0 m (pc + 3) ls rest)) : W p l e₀ R s m args below meth c H locs cells slots Q (F0 m pc ls (.ref ry :: .ref rx :: rest)) :=
  lv_acmp_ne (rx := some rx) (ry := some ry) hexec hb hdg ht (fun h => kt (fun g => h (by rw [g]))) (fun h => kf (Option.some.inj h))
theorem z_acmpeq (hexec : p.tables.exec = Jvm.exec) (hb : c.code = cc) {rx ry : Nat} {off : Int} {tgt : Nat} (hdg : decode cc pc = .ok (.if_acmp .eq off, 3)) (ht : (pc : Int) + off = (tgt : Int))
    (kt : rx = ry → W p l e₀ R s m args below meth c H locs cells slots Q (F0 m tgt ls rest)) (kf : ¬ rx = ry → W p l e₀ R s m args below meth c H locs cells slots Q (F0 m (pc + 3) ls rest)) : W p l e₀ R s m args below meth c H locs cells slots Q (F0 m pc ls (.ref ry :: .ref rx :: rest)) :=
  lv_acmp_eq (rx := some rx) (ry := some ry) hexec hb hdg ht (fun h => kt (Option.some.inj h)) (fun h => kf (fun g => h (by rw [g])))
end HP
end
section
set_option maxHeartbeats 4000000 in
set_option maxRecDepth 100000 in
theorem k_Row_init (l : Launch) (dC : Nat → ClassId) (dI : Nat → Nat → Nat) (cI cZ cF : ClassId) (sz : Nat) (r : Nat) (rm : Nat) (rg : Int32) (hrm : 1 ≤ rm ∧ rm ≤ 1000) (hrg : rg = 0 ∨ rg = 1) : zM l yX7_init cX7_init 4 none ({ frames := 1, cells := 2, slots := 2 * rm, locals := 13 } : Room) [.ref r, .int (nI rm), .int rg] (dC, dI) (zTy cI cZ cF) [(oc6 r .null .null 0 0)] sz none (fun A t => ∃ (rx : Nat), ∃ (ry : Nat), zPD (dC, dI) classes A [(oc6 r (.ref rx) (.ref ry) (nI 0) rg), (oa rx cI rm (fun _ => 0)), (oa ry cI rm (fun _ => 0))] t.heap) 2 (2 * rm) := by
  refine zIn (own := "ScaleShop$Row") (loc := [(0, .ref r), (1, .int (nI rm)), (2, .int rg)]) rfl rfl rfl rfl (fun p e s m below meth c hx hb hr hts hown hlocks hml hnm9 A hA hS hP hD hK hXN Q9 hQ9 ls hl => ?_)
  have hin : meth.name = "<init>" := hnm9
  refine lv_aload_n hx hb dX7_init_0 rfl (lv_at hl 0 rfl) ?_
  refine W.objInit hx hb hown (hts _ mw_157) (hts _ mw_126) (hts _ mw_objcode) rfl (by rw [hml]; exact hl.1) rfl dX7_init_1 (Nat.le_of_ble_eq_true rfl) (Nat.le_of_ble_eq_true rfl) ?_
  refine W.eq (g2 := F0 m 4 ls []) rfl ?_
  refine lv_aload_n hx hb dX7_init_4 rfl (lv_at hl 0 rfl) ?_
  refine lv_iconst (v := 0) hx hb dX7_init_5 rfl ?_
  refine va_put (D := (dC, dI)) (ci := 6) (v := .int 0) (ty := .int) (C := RX7) (T := TX7) (N := 4) hx hb hts inX7 tyX7 tyX7_ok nmX7 hown hK hP hD hS 0 rfl rfl 2 (by decide) (hts _ mw_175) (fun _ h9 => h9) rfl (by decide +kernel) rfl rfl (Nat.le_of_ble_eq_true rfl) dX7_init_6 (fun H locs hP hD hS => ?_)
  obtain ⟨hP, hD⟩ := zre (W2 := [(oc6 r .null .null 0 0)]) hP hD rfl
  refine lv_iload_n hx hb dX7_init_9 rfl (lv_at hl 1 rfl) ?_
  refine lv_iconst (v := 1) hx hb dX7_init_10 rfl ?_
  refine va_mmax hx hb (by rw [hml]; exact hl.1.symm) hown (hts _ mw_158) (hts _ mw_159) (hts _ mw_103) (hts _ mw_maxcode) (Nat.le_of_ble_eq_true rfl) (Nat.le_of_ble_eq_true rfl) (Nat.le_of_ble_eq_true rfl) (Nat.le_of_ble_eq_true rfl) dX7_init_11 ?_
  have b9_1 : zlt (rm) := show rm < 2147483648 by omega
  refine lv_topi (fun v_2 ev_2 => ?_)
  have hv_2 : v_2.toInt = max ((rm : Nat) : Int) 1 := zmax (nI_toInt b9_1) (by decide) ev_2
  refine zz_i (v := nI rm) (Int32.toInt_inj.mp (by rw [hv_2, nI_toInt (by omega)]; omega)) ?_
  refine lv_istore_n (lv' := [(3, .int (nI rm)), (0, .ref r), (1, .int (nI rm)), (2, .int rg)]) hx hb dX7_init_14 rfl hl (Nat.le_of_ble_eq_true rfl) rfl (fun ls hl => ?_)
  refine lv_aload_n hx hb dX7_init_15 rfl (lv_at hl 1 rfl) ?_
  refine lv_iload_n hx hb dX7_init_16 rfl (lv_at hl 0 rfl) ?_
  refine zz_newa (atype := .int) (a0 := (rm, .inl (fun _ => 0))) hx hb (hts _ mw_195) (ty := .int) rfl hK hP hD hS hA (n := nI rm) (N' := rm) (cA := cI) 0 rfl (fun _ => rfl) (nI_pos (by omega)) (nI_clamp (by omega)) (show rm * 4 ≤ 536870912 by omega) (show 1 ≤ 2 by omega) (show (0 + rm) ≤ 2 * rm by omega) dX7_init_17 (fun rx H hP hD hS => ?_)
  obtain ⟨hP, hD⟩ := zre (W2 := [_, (oa rx cI rm (fun _ => 0))]) hP hD rfl
  refine va_putF (D := (dC, dI)) (ci := 6) (v := .ref rx) (ty := .array .int) (C := RX7) (T := TX7) (N := 4) hx hb hts inX7 tyX7 tyX7_ok nmX7 hown hK hP hD hS 0 rfl rfl 0 (by decide) (hts _ mw_161) (fun _ h9 => h9) rfl hin rfl (by decide +kernel) rfl rfl (Nat.le_of_ble_eq_true rfl) dX7_init_19 (fun H locs hP hD hS => ?_)
  obtain ⟨hP, hD⟩ := zre (W2 := [(oc6 r (.ref rx) .null 0 0), _]) hP hD rfl
  refine lv_aload_n hx hb dX7_init_22 rfl (lv_at hl 1 rfl) ?_
  refine lv_iload_n hx hb dX7_init_23 rfl (lv_at hl 0 rfl) ?_
  refine zz_newa (atype := .int) (a0 := (rm, .inl (fun _ => 0))) hx hb (hts _ mw_195) (ty := .int) rfl hK hP hD hS hA (n := nI rm) (N' := rm) (cA := cI) 0 rfl (fun _ => rfl) (nI_pos (by omega)) (nI_clamp (by omega)) (show rm * 4 ≤ 536870912 by omega) (show 2 ≤ 2 by omega) (show ((0 + rm) + rm) ≤ 2 * rm by omega) dX7_init_24 (fun ry H hP hD hS => ?_)
  obtain ⟨hP, hD⟩ := zre (W2 := [_, _, (oa ry cI rm (fun _ => 0))]) hP hD rfl
  refine va_putF (D := (dC, dI)) (ci := 6) (v := .ref ry) (ty := .array .int) (C := RX7) (T := TX7) (N := 4) hx hb hts inX7 tyX7 tyX7_ok nmX7 hown hK hP hD hS 0 rfl rfl 1 (by decide) (hts _ mw_168) (fun _ h9 => h9) rfl hin rfl (by decide +kernel) rfl rfl (Nat.le_of_ble_eq_true rfl) dX7_init_26 (fun H locs hP hD hS => ?_)
  obtain ⟨hP, hD⟩ := zre (W2 := [(oc6 r (.ref rx) (.ref ry) 0 0), _, _]) hP hD rfl
  refine lv_aload_n hx hb dX7_init_29 rfl (lv_at hl 1 rfl) ?_
  refine lv_iload_n hx hb dX7_init_30 rfl (lv_at hl 3 rfl) ?_
  refine va_put (D := (dC, dI)) (ci := 6) (v := .int rg) (ty := .boolean) (C := RX7) (T := TX7) (N := 4) hx hb hts inX7 tyX7 tyX7_ok nmX7 hown hK hP hD hS 0 rfl rfl 3 (by decide) (hts _ mw_183) (fun _ h9 => h9) rfl (by decide +kernel) (zb_nar hrg) (zb_fit hrg) (Nat.le_of_ble_eq_true rfl) dX7_init_31 (fun H locs hP hD hS => ?_)
  obtain ⟨hP, hD⟩ := zre (W2 := [(oc6 r (.ref rx) (.ref ry) 0 rg), _, _]) hP hD rfl
  obtain ⟨hP9, hD9⟩ := zu_sub (wc := [(oc6 r (.ref rx) (.ref ry) 0 rg), (oa rx cI rm (fun _ => 0)), (oa ry cI rm (fun _ => 0))]) hP hD [true, true, true] rfl rfl
  have hE9 : ([(oc6 r (.ref rx) (.ref ry) 0 rg), (oa rx cI rm (fun _ => 0)), (oa ry cI rm (fun _ => 0))] : va_W) = [(oc6 r (.ref rx) (.ref ry) (nI 0) rg), (oa rx cI rm (fun _ => 0)), (oa ry cI rm (fun _ => 0))] := by rfl
  rw [hE9] at hP9 hD9
  refine W.widen (k := 2) (n := 2 * rm) (by omega) (by omega) ?_
  rw [hQ9]
  exact W.vret hx hb hr (fun t ht hW => ⟨⟨rfl, rx, ry, by rw [ht]; exact hP9, hD9⟩, hS.F ht⟩) hS.2.2 dX7_init_34
set_option maxHeartbeats 4000000 in
set_option maxRecDepth 100000 in
theorem k_Row_copy (l : Launch) (dC : Nat → ClassId) (dI : Nat → Nat → Nat) (cI cZ cF : ClassId) (sz : Nat) (r : Nat) (rx : Nat) (ry : Nat) (n : Nat) (cap : Nat) (X : Nat → Int32) (Y : Nat → Int32) (rg : Int32) (hn : 1 ≤ n ∧ n ≤ cap) (hcap : cap ≤ 1000) (hrg : rg = 0 ∨ rg = 1) : Met l yX7_copy (.code yX7_copy cX7_copy 2 (some (.object "ScaleShop$Row")) :: ws0) ({ frames := 2, cells := 3, slots := 2 * n + 4, locals := 44 } : Room) (va_Pc [.ref r] (zPre (dC, dI) classes (zTy cI cZ cF) [(oc6 r (.ref rx) (.ref ry) (nI n) rg), (oa rx cI cap X), (oa ry cI cap Y)] sz zXN)) (zQe (fun v9 t => ∃ (q : Nat), ∃ (qx : Nat), ∃ (qy : Nat), ∃ (X1 : Nat → Int32), ∃ (Y1 : Nat → Int32), v9 = (some (.ref q)) ∧ (∀ k, k < n → X1 k = X k ∧ Y1 k = Y k) ∧ va_P (dC, dI) classes [(oc6 r (.ref rx) (.ref ry) (nI n) rg), (oa rx cI cap X), (oa ry cI cap Y), (oc6 q (.ref qx) (.ref qy) (nI n) rg), (oa qx cI n X1), (oa qy cI n Y1)] t.heap ∧ va_D (va_A [(oc6 r (.ref rx) (.ref ry) (nI n) rg), (oa rx cI cap X), (oa ry cI cap Y)] sz) [(oc6 r (.ref rx) (.ref ry) (nI n) rg), (oa rx cI cap X), (oa ry cI cap Y), (oc6 q (.ref qx) (.ref qy) (nI n) rg), (oa qx cI n X1), (oa qy cI n Y1)]) (va_A [(oc6 r (.ref rx) (.ref ry) (nI n) rg), (oa rx cI cap X), (oa ry cI cap Y)] sz)) 3 (2 * n + 4) (va_A [(oc6 r (.ref rx) (.ref ry) (nI n) rg), (oa rx cI cap X), (oa ry cI cap Y)] sz) := by
  refine Met.ofW (cc := cX7_copy) (maxL := 2) (ret := (some (.object "ScaleShop$Row"))) rfl rfl ?_
  intro p e s m args below meth c s₁ B hml hv
  obtain ⟨rfl, hsz, hP, hK, hD0, hXN⟩ := hv
  have hx := B.exec
  have hb := B.bytes
  have hr := B.returns
  have hts0 := atoms_spec (ws := .code yX7_copy cX7_copy 2 (some (.object "ScaleShop$Row")) :: ws0) B.pre
  have hts : ∀ w9 ∈ ws0, w9.before ([.ref r] : List Value).toArray s = true := fun w9 h => hts0 w9 (List.mem_cons_of_mem _ h)
  have hown : s.vm.findClass "ScaleShop$Row" = some m.cls := findClass_of_methodNamed B.named
  have hlocks := B.notSynchronized
  subst hsz
  have hD := hD0.self (sz := s.heap.size)
  clear hD0
  generalize hAe : va_A [(oc6 r (.ref rx) (.ref ry) (nI n) rg), (oa rx cI cap X), (oa ry cI cap Y)] s.heap.size = A at hD ⊢
  have hA : ∀ q : Nat, s.heap.size ≤ q → A q := fun q h => by rw [← hAe]; exact Or.inr h
  clear hAe
  have hS : va_S A s.heap s.heap [] := va_S.rf
  have hP : va_P (dC, dI) classes [(oc6 r (.ref rx) (.ref ry) (nI n) rg), (oa rx cI cap X), (oa ry cI cap Y)] s.heap := hP
  obtain ⟨Q9, hQ9⟩ : ∃ Q9 : State → Prop, Q9 = MQ below (zQe (fun v9 t => ∃ (q : Nat), ∃ (qx : Nat), ∃ (qy : Nat), ∃ (X1 : Nat → Int32), ∃ (Y1 : Nat → Int32), v9 = (some (.ref q)) ∧ (∀ k, k < n → X1 k = X k ∧ Y1 k = Y k) ∧ va_P (dC, dI) classes [(oc6 r (.ref rx) (.ref ry) (nI n) rg), (oa rx cI cap X), (oa ry cI cap Y), (oc6 q (.ref qx) (.ref qy) (nI n) rg), (oa qx cI n X1), (oa qy cI n Y1)] t.heap ∧ va_D A [(oc6 r (.ref rx) (.ref ry) (nI n) rg), (oa rx cI cap X), (oa ry cI cap Y), (oc6 q (.ref qx) (.ref qy) (nI n) rg), (oa qx cI n X1), (oa qy cI n Y1)]) A) ([.ref r] : List Value).toArray s 3 (2 * n + 4) A := ⟨_, rfl⟩
  rw [← hQ9]
  have hl := lv_entry ([.ref r]) (n := 2) (Nat.le_of_ble_eq_true rfl)
  rw [lg_entry_eq]
  generalize (lg_sl ([.ref r]) ++ List.replicate (2 - (lg_sl ([.ref r])).length) Slot.unset).toArray = ls at hl ⊢
  have hl : lv_has ls 2 [(0, .ref r)] := hl
  refine va_new (ci := 6) (fs := [.null, .null, .int 0, .int 0]) (C := RX7) (T := TX7) (N := 4) hx hb hts inX7 tyX7 tyX7_ok hown (hts _ mw_748) (hts _ mw_153) (hts _ mw_102) hK hP hD hS hA rfl dfX7 (show 1 ≤ 3 by omega) (show 4 ≤ 2 * n + 4 by omega) dX7_copy_0 (fun q H hP hD hS => ?_)
  obtain ⟨hP, hD⟩ := zre (W2 := [_, _, _, (oc6 q .null .null 0 0)]) hP hD rfl
  refine lv_dup hx hb dX7_copy_3 rfl ?_
  refine lv_aload_n hx hb dX7_copy_4 rfl (lv_at hl 0 rfl) ?_
  refine va_get (D := (dC, dI)) (ci := 6) (v := .int (nI n)) (C := RX7) (T := TX7) (N := 4) hx hb hts inX7 hown hK hP 0 rfl rfl 2 (Nat.le_of_ble_eq_true rfl) (hts _ mw_175) (fun _ h9 => h9) rfl dX7_copy_5 ?_
  refine lv_aload_n hx hb dX7_copy_8 rfl (lv_at hl 0 rfl) ?_
  refine va_get (D := (dC, dI)) (ci := 6) (v := .int rg) (C := RX7) (T := TX7) (N := 4) hx hb hts inX7 hown hK hP 0 rfl rfl 3 (Nat.le_of_ble_eq_true rfl) (hts _ mw_183) (fun _ h9 => h9) rfl dX7_copy_9 ?_
  obtain ⟨hPc, hDc, hFc⟩ := zo_sub (wc := [_]) hP hD hS hA [3] rfl rfl
  refine zcall (st1 := [.ref q]) (va_runI (As := [.int (nI n), .int rg]) (rest := [.ref q]) ⟨hx, hb, hml, hown, hts⟩ (k_Row_init l dC dI cI cZ cF H.size q n rg (by first | with_reducible assumption | omega) (by first | with_reducible assumption | assumption)) (cwI 2 hts (zz_gC mc_yX7_init) rfl rfl rfl (hts _ mw_102) (hts _ mw_749) (hts _ mw_155) rfl (by decide +kernel) ⟨Nat.le_of_ble_eq_true rfl, Nat.le_of_ble_eq_true rfl⟩) (zPS2 hPc hDc hK hXN) rfl rfl hl.1 rfl (lv_room (Nat.le_of_ble_eq_true rfl)) dX7_copy_12 ⟨show (1 + 2) ≤ 3 by omega, show (4 + (2 * n)) ≤ 2 * n + 4 by omega⟩) hS hFc hFc rfl (fun t H locs ht hB hk1 hS => ?_)
  obtain ⟨qx, qy, hP1, hD1⟩ := hB
  rw [ht] at hP1
  obtain ⟨hP, hD⟩ := zn (W2 := [_, _, _, (oc6 q (.ref qx) (.ref qy) (nI 0) rg), (oa qx cI n (fun _ => 0)), (oa qy cI n (fun _ => 0))]) hP hD hk1 hFc hP1 hD1 [3] [true, true, true] [true, true, true, false, false, false] [3, 4, 5] (by decide +kernel) rfl rfl rfl rfl rfl
  clear hk1 hPc hDc hFc hP1 hD1 ht
  refine lv_astore_n (lv' := [(1, .ref q), (0, .ref r)]) hx hb dX7_copy_15 rfl hl (Nat.le_of_ble_eq_true rfl) rfl (fun ls hl => ?_)
  refine lv_aload_n hx hb dX7_copy_16 rfl (lv_at hl 0 rfl) ?_
  refine lv_aload_n hx hb dX7_copy_17 rfl (lv_at hl 1 rfl) ?_
  obtain ⟨hPc, hDc, hFc⟩ := zo_sub (wc := [_, _, _, _, _, _]) hP hD hS hA [3, 4, 5, 0, 1, 2] (by decide +kernel) rfl
  refine zcall (st1 := []) (va_runV (As := [.ref r]) (rest := []) ⟨hx, hb, hml, hown, hts⟩ (k_Row_copyFrom l dC dI cI cZ cF H.size q qx qy 0 n (fun _ => 0) (fun _ => 0) rg r rx ry n cap X Y rg (by first | with_reducible assumption | omega) (by first | with_reducible assumption | omega) (by first | with_reducible assumption | omega) (by first | with_reducible assumption | omega) (hrg)) (csV_28 hts rfl rfl ⟨Nat.le_of_ble_eq_true rfl, Nat.le_of_ble_eq_true rfl⟩) (zPV2 (q0 := 0) (ci := 6) hPc hDc hK hXN rfl rfl) rfl rfl hl.1 rfl (lv_room (Nat.le_of_ble_eq_true rfl)) dX7_copy_18 ⟨show (1 + 2) ≤ 3 by omega, show (4 + (2 * n)) ≤ 2 * n + 4 by omega⟩) hS hFc hFc rfl (fun t H locs ht hB hk1 hS => ?_)
  obtain ⟨X1, Y1, hall, hP1, hD1⟩ := hB
  rw [ht] at hP1
  obtain ⟨hP, hD⟩ := zn (W2 := [_, _, _, (oc6 q (.ref qx) (.ref qy) (nI n) rg), (oa qx cI n X1), (oa qy cI n Y1)]) hP hD hk1 hFc hP1 hD1 [3, 4, 5, 0, 1, 2] [] [false, false, false, false, false, false] [3, 4, 5, 0, 1, 2] (by decide +kernel) rfl rfl rfl rfl rfl
  clear hk1 hPc hDc hFc hP1 hD1 ht
  refine lv_aload_n hx hb dX7_copy_21 rfl (lv_at hl 0 rfl) ?_
  obtain ⟨hP9, hD9⟩ := zu_sub (wc := [_, _, _, _, _, _]) hP hD [true, true, true, true, true, true] rfl rfl
  refine W.widen (k := 3) (n := 2 * n + 4) (by omega) (by omega) ?_
  rw [hQ9]
  exact W.aret hx hb hr (Or.inl ⟨_, rfl⟩) (Or.inr ⟨_, rfl⟩) (fun t ht hW => ⟨⟨_, rfl, q, qx, qy, X1, Y1, rfl, (hall), by rw [ht]; exact hP9, hD9⟩, hS.F ht⟩) hS.2.2 dX7_copy_22
set_option maxHeartbeats 4000000 in
set_option maxRecDepth 100000 in
theorem k_Look_init (l : Launch) (dC : Nat → ClassId) (dI : Nat → Nat → Nat) (cI cZ cF : ClassId) (sz : Nat) (lk : Nat) (kd9 : Int32) : zM l yX5_init cX5_init 2 none ({ frames := 1, cells := 0, slots := 0, locals := 12 } : Room) [.ref lk, .int kd9] (dC, dI) (zTy cI cZ cF) [(oc4 lk 0 0 .null 0 0 0)] sz none (fun A t => zPD (dC, dI) classes A [(oc4 lk kd9 0 .null 0 (-1) 0)] t.heap) 0 0 := by
  refine zIn (own := "ScaleShop$Look") (loc := [(0, .ref lk), (1, .int kd9)]) rfl rfl rfl rfl (fun p e s m below meth c hx hb hr hts hown hlocks hml hnm9 A hA hS hP hD hK hXN Q9 hQ9 ls hl => ?_)
  have hin : meth.name = "<init>" := hnm9
  refine lv_aload_n hx hb dX5_init_0 rfl (lv_at hl 0 rfl) ?_
  refine W.objInit hx hb hown (hts _ mw_377) (hts _ mw_126) (hts _ mw_objcode) rfl (by rw [hml]; exact hl.1) rfl dX5_init_1 (Nat.le_of_ble_eq_true rfl) (Nat.le_of_ble_eq_true rfl) ?_
  refine W.eq (g2 := F0 m 4 ls []) rfl ?_
  refine lv_aload_n hx hb dX5_init_4 rfl (lv_at hl 0 rfl) ?_
  refine lv_iconst (v := 0) hx hb dX5_init_5 rfl ?_
  refine va_put (D := (dC, dI)) (ci := 4) (v := .int 0) (ty := .int) (C := RX5) (T := TX5) (N := 6) hx hb hts inX5 tyX5 tyX5_ok nmX5 hown hK hP hD hS 0 rfl rfl 1 (by decide) (hts _ mw_384) (fun _ h9 => h9) rfl (by decide +kernel) rfl rfl (Nat.le_of_ble_eq_true rfl) dX5_init_6 (fun H locs hP hD hS => ?_)
  obtain ⟨hP, hD⟩ := zre (W2 := [(oc4 lk 0 0 .null 0 0 0)]) hP hD rfl
  refine lv_aload_n hx hb dX5_init_9 rfl (lv_at hl 0 rfl) ?_
  refine lv_null hx hb dX5_init_10 ?_
  refine va_put (D := (dC, dI)) (ci := 4) (v := .null) (ty := .object "ScaleShop$Row") (C := RX5) (T := TX5) (N := 6) hx hb hts inX5 tyX5 tyX5_ok nmX5 hown hK hP hD hS 0 rfl rfl 2 (by decide) (hts _ mw_388) (fun _ h9 => h9) rfl (by decide +kernel) rfl rfl (Nat.le_of_ble_eq_true rfl) dX5_init_11 (fun H locs hP hD hS => ?_)
  obtain ⟨hP, hD⟩ := zre (W2 := [(oc4 lk 0 0 .null 0 0 0)]) hP hD rfl
  refine lv_aload_n hx hb dX5_init_14 rfl (lv_at hl 0 rfl) ?_
  refine lv_iconst (v := 0) hx hb dX5_init_15 rfl ?_
  refine va_put (D := (dC, dI)) (ci := 4) (v := .int 0) (ty := .int) (C := RX5) (T := TX5) (N := 6) hx hb hts inX5 tyX5 tyX5_ok nmX5 hown hK hP hD hS 0 rfl rfl 3 (by decide) (hts _ mw_394) (fun _ h9 => h9) rfl (by decide +kernel) rfl rfl (Nat.le_of_ble_eq_true rfl) dX5_init_16 (fun H locs hP hD hS => ?_)
  obtain ⟨hP, hD⟩ := zre (W2 := [(oc4 lk 0 0 .null 0 0 0)]) hP hD rfl
  refine lv_aload_n hx hb dX5_init_19 rfl (lv_at hl 0 rfl) ?_
  refine lv_iconst (v := (-1)) hx hb dX5_init_20 rfl ?_
  refine va_put (D := (dC, dI)) (ci := 4) (v := .int (-1)) (ty := .int) (C := RX5) (T := TX5) (N := 6) hx hb hts inX5 tyX5 tyX5_ok nmX5 hown hK hP hD hS 0 rfl rfl 4 (by decide) (hts _ mw_397) (fun _ h9 => h9) rfl (by decide +kernel) rfl rfl (Nat.le_of_ble_eq_true rfl) dX5_init_21 (fun H locs hP hD hS => ?_)
  obtain ⟨hP, hD⟩ := zre (W2 := [(oc4 lk 0 0 .null 0 (-1) 0)]) hP hD rfl
  refine lv_aload_n hx hb dX5_init_24 rfl (lv_at hl 0 rfl) ?_
  refine lv_iconst (v := 0) hx hb dX5_init_25 rfl ?_
  refine va_put (D := (dC, dI)) (ci := 4) (v := .int 0) (ty := .int) (C := RX5) (T := TX5) (N := 6) hx hb hts inX5 tyX5 tyX5_ok nmX5 hown hK hP hD hS 0 rfl rfl 5 (by decide) (hts _ mw_399) (fun _ h9 => h9) rfl (by decide +kernel) rfl rfl (Nat.le_of_ble_eq_true rfl) dX5_init_26 (fun H locs hP hD hS => ?_)
  obtain ⟨hP, hD⟩ := zre (W2 := [(oc4 lk 0 0 .null 0 (-1) 0)]) hP hD rfl
  refine lv_aload_n hx hb dX5_init_29 rfl (lv_at hl 0 rfl) ?_
  refine lv_iload_n hx hb dX5_init_30 rfl (lv_at hl 1 rfl) ?_
  refine va_put (D := (dC, dI)) (ci := 4) (v := .int kd9) (ty := .int) (C := RX5) (T := TX5) (N := 6) hx hb hts inX5 tyX5 tyX5_ok nmX5 hown hK hP hD hS 0 rfl rfl 0 (by decide) (hts _ mw_378) (fun _ h9 => h9) rfl (by decide +kernel) rfl rfl (Nat.le_of_ble_eq_true rfl) dX5_init_31 (fun H locs hP hD hS => ?_)
  obtain ⟨hP, hD⟩ := zre (W2 := [(oc4 lk kd9 0 .null 0 (-1) 0)]) hP hD rfl
  obtain ⟨hP9, hD9⟩ := zu_sub (wc := [_]) hP hD [true] rfl rfl
  rw [hQ9]
  exact W.vret hx hb hr (fun t ht hW => ⟨⟨rfl, by rw [ht]; exact hP9, hD9⟩, hS.F ht⟩) hS.2.2 dX5_init_34
set_option maxHeartbeats 4000000 in
set_option maxRecDepth 100000 in
theorem k_Look_copy_r (l : Launch) (dC : Nat → ClassId) (dI : Nat → Nat → Nat) (cI cZ cF : ClassId) (sz : Nat) (lk : Nat) (kd9 : Int32) (st9 : Int32) (gb9 : Int32) (jt9 : Int32) (we9 : Int32) (r : Nat) : Met l yX5_copy (.code yX5_copy cX5_copy 2 (some (.object "ScaleShop$Look")) :: ws0) ({ frames := 2, cells := 1, slots := 6, locals := 33 } : Room) (va_Pc [.ref lk] (zPre (dC, dI) classes (zTy cI cZ cF) [(oc4 lk kd9 st9 (.ref r) gb9 jt9 we9)] sz zXN)) (zQe (fun v9 t => ∃ (q : Nat), v9 = (some (.ref q)) ∧ va_P (dC, dI) classes [(oc4 lk kd9 st9 (.ref r) gb9 jt9 we9), (oc4 q kd9 st9 (.ref r) gb9 jt9 we9)] t.heap ∧ va_D (va_A [(oc4 lk kd9 st9 (.ref r) gb9 jt9 we9)] sz) [(oc4 lk kd9 st9 (.ref r) gb9 jt9 we9), (oc4 q kd9 st9 (.ref r) gb9 jt9 we9)]) (va_A [(oc4 lk kd9 st9 (.ref r) gb9 jt9 we9)] sz)) 1 6 (va_A [(oc4 lk kd9 st9 (.ref r) gb9 jt9 we9)] sz) := by
  refine Met.ofW (cc := cX5_copy) (maxL := 2) (ret := (some (.object "ScaleShop$Look"))) rfl rfl ?_
  intro p e s m args below meth c s₁ B hml hv
  obtain ⟨rfl, hsz, hP, hK, hD0, hXN⟩ := hv
  have hx := B.exec
  have hb := B.bytes
  have hr := B.returns
  have hts0 := atoms_spec (ws := .code yX5_copy cX5_copy 2 (some (.object "ScaleShop$Look")) :: ws0) B.pre
  have hts : ∀ w9 ∈ ws0, w9.before ([.ref lk] : List Value).toArray s = true := fun w9 h => hts0 w9 (List.mem_cons_of_mem _ h)
  have hown : s.vm.findClass "ScaleShop$Look" = some m.cls := findClass_of_methodNamed B.named
  have hlocks := B.notSynchronized
  subst hsz
  have hD := hD0.self (sz := s.heap.size)
  clear hD0
  generalize hAe : va_A [(oc4 lk kd9 st9 (.ref r) gb9 jt9 we9)] s.heap.size = A at hD ⊢
  have hA : ∀ q : Nat, s.heap.size ≤ q → A q := fun q h => by rw [← hAe]; exact Or.inr h
  clear hAe
  have hS : va_S A s.heap s.heap [] := va_S.rf
  have hP : va_P (dC, dI) classes [(oc4 lk kd9 st9 (.ref r) gb9 jt9 we9)] s.heap := hP
  obtain ⟨Q9, hQ9⟩ : ∃ Q9 : State → Prop, Q9 = MQ below (zQe (fun v9 t => ∃ (q : Nat), v9 = (some (.ref q)) ∧ va_P (dC, dI) classes [(oc4 lk kd9 st9 (.ref r) gb9 jt9 we9), (oc4 q kd9 st9 (.ref r) gb9 jt9 we9)] t.heap ∧ va_D A [(oc4 lk kd9 st9 (.ref r) gb9 jt9 we9), (oc4 q kd9 st9 (.ref r) gb9 jt9 we9)]) A) ([.ref lk] : List Value).toArray s 1 6 A := ⟨_, rfl⟩
  rw [← hQ9]
  have hl := lv_entry ([.ref lk]) (n := 2) (Nat.le_of_ble_eq_true rfl)
  rw [lg_entry_eq]
  generalize (lg_sl ([.ref lk]) ++ List.replicate (2 - (lg_sl ([.ref lk])).length) Slot.unset).toArray = ls at hl ⊢
  have hl : lv_has ls 2 [(0, .ref lk)] := hl
  refine va_new (ci := 4) (fs := [.int 0, .int 0, .null, .int 0, .int 0, .int 0]) (C := RX5) (T := TX5) (N := 6) hx hb hts inX5 tyX5 tyX5_ok hown (hts _ mw_742) (hts _ mw_373) (hts _ mw_112) hK hP hD hS hA rfl dfX5 (Nat.le_of_ble_eq_true rfl) (Nat.le_of_ble_eq_true rfl) dX5_copy_0 (fun q H hP hD hS => ?_)
  obtain ⟨hP, hD⟩ := zre (W2 := [_, (oc4 q 0 0 .null 0 0 0)]) hP hD rfl
  refine lv_dup hx hb dX5_copy_3 rfl ?_
  refine lv_aload_n hx hb dX5_copy_4 rfl (lv_at hl 0 rfl) ?_
  refine va_get (D := (dC, dI)) (ci := 4) (v := .int kd9) (C := RX5) (T := TX5) (N := 6) hx hb hts inX5 hown hK hP 0 rfl rfl 0 (Nat.le_of_ble_eq_true rfl) (hts _ mw_378) (fun _ h9 => h9) rfl dX5_copy_5 ?_
  obtain ⟨hPc, hDc, hFc⟩ := zo_sub (wc := [_]) hP hD hS hA [1] rfl rfl
  refine zcall (st1 := [.ref q]) (va_runI (As := [.int kd9]) (rest := [.ref q]) ⟨hx, hb, hml, hown, hts⟩ (k_Look_init l dC dI cI cZ cF H.size q kd9 ) (cwI 1 hts (zz_gC mc_yX5_init) rfl rfl rfl (hts _ mw_112) (hts _ mw_743) (hts _ mw_375) rfl (by decide +kernel) ⟨Nat.le_of_ble_eq_true rfl, Nat.le_of_ble_eq_true rfl⟩) (zPS2 hPc hDc hK hXN) rfl rfl hl.1 rfl (lv_room (Nat.le_of_ble_eq_true rfl)) dX5_copy_8 ⟨Nat.le_of_ble_eq_true rfl, Nat.le_of_ble_eq_true rfl⟩) hS hFc hFc rfl (fun t H locs ht hB hk1 hS => ?_)
  obtain ⟨hP1, hD1⟩ := hB
  rw [ht] at hP1
  obtain ⟨hP, hD⟩ := zn (W2 := [_, (oc4 q kd9 0 .null 0 (-1) 0)]) hP hD hk1 hFc hP1 hD1 [1] [true] [true, false] [1] (by decide +kernel) rfl rfl rfl rfl rfl
  clear hk1 hPc hDc hFc hP1 hD1 ht
  refine lv_astore_n (lv' := [(1, .ref q), (0, .ref lk)]) hx hb dX5_copy_11 rfl hl (Nat.le_of_ble_eq_true rfl) rfl (fun ls hl => ?_)
  refine lv_aload_n hx hb dX5_copy_12 rfl (lv_at hl 0 rfl) ?_
  refine lv_aload_n hx hb dX5_copy_13 rfl (lv_at hl 1 rfl) ?_
  refine va_get (D := (dC, dI)) (ci := 4) (v := .int st9) (C := RX5) (T := TX5) (N := 6) hx hb hts inX5 hown hK hP 0 rfl rfl 1 (Nat.le_of_ble_eq_true rfl) (hts _ mw_384) (fun _ h9 => h9) rfl dX5_copy_14 ?_
  refine va_put (D := (dC, dI)) (ci := 4) (v := .int st9) (ty := .int) (C := RX5) (T := TX5) (N := 6) hx hb hts inX5 tyX5 tyX5_ok nmX5 hown hK hP hD hS 1 rfl rfl 1 (by decide) (hts _ mw_384) (fun _ h9 => h9) rfl (by decide +kernel) rfl rfl (Nat.le_of_ble_eq_true rfl) dX5_copy_17 (fun H locs hP hD hS => ?_)
  obtain ⟨hP, hD⟩ := zre (W2 := [_, (oc4 q kd9 st9 .null 0 (-1) 0)]) hP hD rfl
  refine lv_aload_n hx hb dX5_copy_20 rfl (lv_at hl 0 rfl) ?_
  refine lv_aload_n hx hb dX5_copy_21 rfl (lv_at hl 1 rfl) ?_
  refine va_get (D := (dC, dI)) (ci := 4) (v := .ref r) (C := RX5) (T := TX5) (N := 6) hx hb hts inX5 hown hK hP 0 rfl rfl 2 (Nat.le_of_ble_eq_true rfl) (hts _ mw_388) (fun _ h9 => h9) rfl dX5_copy_22 ?_
  refine va_put (D := (dC, dI)) (ci := 4) (v := .ref r) (ty := .object "ScaleShop$Row") (C := RX5) (T := TX5) (N := 6) hx hb hts inX5 tyX5 tyX5_ok nmX5 hown hK hP hD hS 1 rfl rfl 2 (by decide) (hts _ mw_388) (fun _ h9 => h9) rfl (by decide +kernel) rfl rfl (Nat.le_of_ble_eq_true rfl) dX5_copy_25 (fun H locs hP hD hS => ?_)
  obtain ⟨hP, hD⟩ := zre (W2 := [_, (oc4 q kd9 st9 (.ref r) 0 (-1) 0)]) hP hD rfl
  refine lv_aload_n hx hb dX5_copy_28 rfl (lv_at hl 0 rfl) ?_
  refine lv_aload_n hx hb dX5_copy_29 rfl (lv_at hl 1 rfl) ?_
  refine va_get (D := (dC, dI)) (ci := 4) (v := .int gb9) (C := RX5) (T := TX5) (N := 6) hx hb hts inX5 hown hK hP 0 rfl rfl 3 (Nat.le_of_ble_eq_true rfl) (hts _ mw_394) (fun _ h9 => h9) rfl dX5_copy_30 ?_
  refine va_put (D := (dC, dI)) (ci := 4) (v := .int gb9) (ty := .int) (C := RX5) (T := TX5) (N := 6) hx hb hts inX5 tyX5 tyX5_ok nmX5 hown hK hP hD hS 1 rfl rfl 3 (by decide) (hts _ mw_394) (fun _ h9 => h9) rfl (by decide +kernel) rfl rfl (Nat.le_of_ble_eq_true rfl) dX5_copy_33 (fun H locs hP hD hS => ?_)
  obtain ⟨hP, hD⟩ := zre (W2 := [_, (oc4 q kd9 st9 (.ref r) gb9 (-1) 0)]) hP hD rfl
  refine lv_aload_n hx hb dX5_copy_36 rfl (lv_at hl 0 rfl) ?_
  refine lv_aload_n hx hb dX5_copy_37 rfl (lv_at hl 1 rfl) ?_
  refine va_get (D := (dC, dI)) (ci := 4) (v := .int jt9) (C := RX5) (T := TX5) (N := 6) hx hb hts inX5 hown hK hP 0 rfl rfl 4 (Nat.le_of_ble_eq_true rfl) (hts _ mw_397) (fun _ h9 => h9) rfl dX5_copy_38 ?_
  refine va_put (D := (dC, dI)) (ci := 4) (v := .int jt9) (ty := .int) (C := RX5) (T := TX5) (N := 6) hx hb hts inX5 tyX5 tyX5_ok nmX5 hown hK hP hD hS 1 rfl rfl 4 (by decide) (hts _ mw_397) (fun _ h9 => h9) rfl (by decide +kernel) rfl rfl (Nat.le_of_ble_eq_true rfl) dX5_copy_41 (fun H locs hP hD hS => ?_)
  obtain ⟨hP, hD⟩ := zre (W2 := [_, (oc4 q kd9 st9 (.ref r) gb9 jt9 0)]) hP hD rfl
  refine lv_aload_n hx hb dX5_copy_44 rfl (lv_at hl 0 rfl) ?_
  refine lv_aload_n hx hb dX5_copy_45 rfl (lv_at hl 1 rfl) ?_
  refine va_get (D := (dC, dI)) (ci := 4) (v := .int we9) (C := RX5) (T := TX5) (N := 6) hx hb hts inX5 hown hK hP 0 rfl rfl 5 (Nat.le_of_ble_eq_true rfl) (hts _ mw_399) (fun _ h9 => h9) rfl dX5_copy_46 ?_
  refine va_put (D := (dC, dI)) (ci := 4) (v := .int we9) (ty := .int) (C := RX5) (T := TX5) (N := 6) hx hb hts inX5 tyX5 tyX5_ok nmX5 hown hK hP hD hS 1 rfl rfl 5 (by decide) (hts _ mw_399) (fun _ h9 => h9) rfl (by decide +kernel) rfl rfl (Nat.le_of_ble_eq_true rfl) dX5_copy_49 (fun H locs hP hD hS => ?_)
  obtain ⟨hP, hD⟩ := zre (W2 := [_, (oc4 q kd9 st9 (.ref r) gb9 jt9 we9)]) hP hD rfl
  refine lv_aload_n hx hb dX5_copy_52 rfl (lv_at hl 0 rfl) ?_
  obtain ⟨hP9, hD9⟩ := zu_sub (wc := [_, _]) hP hD [true, true] rfl rfl
  refine W.widen (k := 1) (n := 6) (by decide) (by decide) ?_
  rw [hQ9]
  exact W.aret hx hb hr (Or.inl ⟨_, rfl⟩) (Or.inr ⟨_, rfl⟩) (fun t ht hW => ⟨⟨_, rfl, q, rfl, by rw [ht]; exact hP9, hD9⟩, hS.F ht⟩) hS.2.2 dX5_copy_53
set_option maxHeartbeats 4000000 in
set_option maxRecDepth 100000 in
theorem k_Feature_init (l : Launch) (dC : Nat → ClassId) (dI : Nat → Nat → Nat) (cI cZ cF : ClassId) (sz : Nat) (fe : Nat) (cl9 : Nat) (kd9 : Int32) (rk9 : Int32) (wd9 : Int32) (tw9 : Int32) (hcl : (1 ≤ kd9.toInt ∧ kd9.toInt ≤ 5 ∧ cl9 = 40) ∨ (¬ (1 ≤ kd9.toInt ∧ kd9.toInt ≤ 5) ∧ cl9 = 1)) : zM l yX2_init cX2_init 5 none ({ frames := 2, cells := 4, slots := 2 * cl9 + 10, locals := 36 } : Room) [.ref fe, .int kd9, .int rk9, .int wd9, .int tw9] (dC, dI) (zTy cI cZ cF) [(oc1 fe 0 0 0 0 0 .null .null .null)] sz none (fun A t => ∃ (lo : Nat), ∃ (lx : Nat), ∃ (ly : Nat), ∃ (lk : Nat), zPD (dC, dI) classes A [(oc1 fe rk9 wd9 tw9 (-1) (-1) (.ref lo) (.ref lk) .null), (oc6 lo (.ref lx) (.ref ly) (nI 0) 0), (oa lx cI cl9 (fun _ => 0)), (oa ly cI cl9 (fun _ => 0)), (oc4 lk kd9 0 .null 0 (-1) 0)] t.heap) 4 (2 * cl9 + 10) := by
  refine zIn (own := "ScaleShop$Feature") (loc := [(0, .ref fe), (1, .int kd9), (2, .int rk9), (3, .int wd9), (4, .int tw9)]) rfl rfl rfl rfl (fun p e s m below meth c hx hb hr hts hown hlocks hml hnm9 A hA hS hP hD hK hXN Q9 hQ9 ls hl => ?_)
  have hin : meth.name = "<init>" := hnm9
  refine lv_aload_n hx hb dX2_init_0 rfl (lv_at hl 0 rfl) ?_
  refine W.objInit hx hb hown (hts _ mw_369) (hts _ mw_126) (hts _ mw_objcode) rfl (by rw [hml]; exact hl.1) rfl dX2_init_1 (Nat.le_of_ble_eq_true rfl) (Nat.le_of_ble_eq_true rfl) ?_
  refine W.eq (g2 := F0 m 4 ls []) rfl ?_
  refine lv_aload_n hx hb dX2_init_4 rfl (lv_at hl 0 rfl) ?_
  refine lv_iconst (v := (-1)) hx hb dX2_init_5 rfl ?_
  refine va_put (D := (dC, dI)) (ci := 1) (v := .int (-1)) (ty := .int) (C := RX2) (T := TX2) (N := 8) hx hb hts inX2 tyX2 tyX2_ok nmX2 hown hK hP hD hS 0 rfl rfl 3 (by decide) (hts _ mw_422) (fun _ h9 => h9) rfl (by decide +kernel) rfl rfl (Nat.le_of_ble_eq_true rfl) dX2_init_6 (fun H locs hP hD hS => ?_)
  obtain ⟨hP, hD⟩ := zre (W2 := [(oc1 fe 0 0 0 (-1) 0 .null .null .null)]) hP hD rfl
  refine lv_aload_n hx hb dX2_init_9 rfl (lv_at hl 0 rfl) ?_
  refine lv_iconst (v := (-1)) hx hb dX2_init_10 rfl ?_
  refine va_put (D := (dC, dI)) (ci := 1) (v := .int (-1)) (ty := .int) (C := RX2) (T := TX2) (N := 8) hx hb hts inX2 tyX2 tyX2_ok nmX2 hown hK hP hD hS 0 rfl rfl 4 (by decide) (hts _ mw_424) (fun _ h9 => h9) rfl (by decide +kernel) rfl rfl (Nat.le_of_ble_eq_true rfl) dX2_init_11 (fun H locs hP hD hS => ?_)
  obtain ⟨hP, hD⟩ := zre (W2 := [(oc1 fe 0 0 0 (-1) (-1) .null .null .null)]) hP hD rfl
  refine lv_aload_n hx hb dX2_init_14 rfl (lv_at hl 0 rfl) ?_
  refine lv_null hx hb dX2_init_15 ?_
  refine va_put (D := (dC, dI)) (ci := 1) (v := .null) (ty := .object "ScaleShop$Look") (C := RX2) (T := TX2) (N := 8) hx hb hts inX2 tyX2 tyX2_ok nmX2 hown hK hP hD hS 0 rfl rfl 7 (by decide) (hts _ mw_436) (fun _ h9 => h9) rfl (by decide +kernel) rfl rfl (Nat.le_of_ble_eq_true rfl) dX2_init_16 (fun H locs hP hD hS => ?_)
  obtain ⟨hP, hD⟩ := zre (W2 := [(oc1 fe 0 0 0 (-1) (-1) .null .null .null)]) hP hD rfl
  refine lv_aload_n hx hb dX2_init_19 rfl (lv_at hl 0 rfl) ?_
  refine lv_iload_n hx hb dX2_init_20 rfl (lv_at hl 2 rfl) ?_
  refine va_putF (D := (dC, dI)) (ci := 1) (v := .int rk9) (ty := .int) (C := RX2) (T := TX2) (N := 8) hx hb hts inX2 tyX2 tyX2_ok nmX2 hown hK hP hD hS 0 rfl rfl 0 (by decide) (hts _ mw_415) (fun _ h9 => h9) rfl hin rfl (by decide +kernel) rfl rfl (Nat.le_of_ble_eq_true rfl) dX2_init_21 (fun H locs hP hD hS => ?_)
  obtain ⟨hP, hD⟩ := zre (W2 := [(oc1 fe rk9 0 0 (-1) (-1) .null .null .null)]) hP hD rfl
  refine lv_aload_n hx hb dX2_init_24 rfl (lv_at hl 0 rfl) ?_
  refine lv_iload_n hx hb dX2_init_25 rfl (lv_at hl 3 rfl) ?_
  refine va_putF (D := (dC, dI)) (ci := 1) (v := .int wd9) (ty := .int) (C := RX2) (T := TX2) (N := 8) hx hb hts inX2 tyX2 tyX2_ok nmX2 hown hK hP hD hS 0 rfl rfl 1 (by decide) (hts _ mw_418) (fun _ h9 => h9) rfl hin rfl (by decide +kernel) rfl rfl (Nat.le_of_ble_eq_true rfl) dX2_init_26 (fun H locs hP hD hS => ?_)
  obtain ⟨hP, hD⟩ := zre (W2 := [(oc1 fe rk9 wd9 0 (-1) (-1) .null .null .null)]) hP hD rfl
  refine lv_aload_n hx hb dX2_init_29 rfl (lv_at hl 0 rfl) ?_
  refine lv_iload hx hb dX2_init_30 (lv_at hl 4 rfl) ?_
  refine va_putF (D := (dC, dI)) (ci := 1) (v := .int tw9) (ty := .int) (C := RX2) (T := TX2) (N := 8) hx hb hts inX2 tyX2 tyX2_ok nmX2 hown hK hP hD hS 0 rfl rfl 2 (by decide) (hts _ mw_420) (fun _ h9 => h9) rfl hin rfl (by decide +kernel) rfl rfl (Nat.le_of_ble_eq_true rfl) dX2_init_32 (fun H locs hP hD hS => ?_)
  obtain ⟨hP, hD⟩ := zre (W2 := [(oc1 fe rk9 wd9 tw9 (-1) (-1) .null .null .null)]) hP hD rfl
  refine lv_aload_n hx hb dX2_init_35 rfl (lv_at hl 0 rfl) ?_
  refine va_new (ci := 6) (fs := [.null, .null, .int 0, .int 0]) (C := RX7) (T := TX7) (N := 4) hx hb hts inX7 tyX7 tyX7_ok hown (hts _ mw_370) (hts _ mw_153) (hts _ mw_102) hK hP hD hS hA rfl dfX7 (show 1 ≤ 4 by omega) (show 4 ≤ 2 * cl9 + 10 by omega) dX2_init_36 (fun lo H hP hD hS => ?_)
  obtain ⟨hP, hD⟩ := zre (W2 := [_, (oc6 lo .null .null 0 0)]) hP hD rfl
  refine lv_dup hx hb dX2_init_39 rfl ?_
  have hj_1 : W p l e ({ frames := 2, cells := 4, slots := 2 * cl9 + 10, locals := 36 } : Room) s m ([.ref fe, .int kd9, .int rk9, .int wd9, .int tw9] : List Value).toArray below meth c H locs 1 4 Q9 (F0 m 55 ls [.int (nI cl9), .ref lo, .ref lo, .ref fe]) := by
    refine lv_iconst (v := 0) hx hb dX2_init_55 rfl ?_
    obtain ⟨hPc, hDc, hFc⟩ := zo_sub (wc := [_]) hP hD hS hA [1] rfl rfl
    refine zcall (st1 := [.ref lo, .ref fe]) (va_runI (As := [.int (nI cl9), .int 0]) (rest := [.ref lo, .ref fe]) ⟨hx, hb, hml, hown, hts⟩ (k_Row_init l dC dI cI cZ cF H.size lo cl9 0 (by first | with_reducible assumption | omega) (Or.inl rfl)) (cwI 2 hts (zz_gC mc_yX7_init) rfl rfl rfl (hts _ mw_102) (hts _ mw_371) (hts _ mw_155) rfl (by decide +kernel) ⟨Nat.le_of_ble_eq_true rfl, Nat.le_of_ble_eq_true rfl⟩) (zPS2 hPc hDc hK hXN) rfl rfl hl.1 rfl (lv_room (Nat.le_of_ble_eq_true rfl)) dX2_init_56 ⟨show (1 + 2) ≤ 4 by omega, show (4 + (2 * cl9)) ≤ 2 * cl9 + 10 by omega⟩) hS hFc hFc rfl (fun t H locs ht hB hk1 hS => ?_)
    obtain ⟨lx, ly, hP1, hD1⟩ := hB
    rw [ht] at hP1
    obtain ⟨hP, hD⟩ := zn (W2 := [_, (oc6 lo (.ref lx) (.ref ly) (nI 0) 0), (oa lx cI cl9 (fun _ => 0)), (oa ly cI cl9 (fun _ => 0))]) hP hD hk1 hFc hP1 hD1 [1] [true] [true, false, false, false] [1, 2, 3] (by decide +kernel) rfl rfl rfl rfl rfl
    clear hk1 hPc hDc hFc hP1 hD1 ht
    refine va_putF (D := (dC, dI)) (ci := 1) (v := .ref lo) (ty := .object "ScaleShop$Row") (C := RX2) (T := TX2) (N := 8) hx hb hts inX2 tyX2 tyX2_ok nmX2 hown hK hP hD hS 0 rfl rfl 5 (by decide) (hts _ mw_426) (fun _ h9 => h9) rfl hin rfl (by decide +kernel) rfl rfl (Nat.le_of_ble_eq_true rfl) dX2_init_59 (fun H locs hP hD hS => ?_)
    obtain ⟨hP, hD⟩ := zre (W2 := [(oc1 fe rk9 wd9 tw9 (-1) (-1) (.ref lo) .null .null), _, _, _]) hP hD rfl
    refine lv_aload_n hx hb dX2_init_62 rfl (lv_at hl 0 rfl) ?_
    refine va_new (ci := 4) (fs := [.int 0, .int 0, .null, .int 0, .int 0, .int 0]) (C := RX5) (T := TX5) (N := 6) hx hb hts inX5 tyX5 tyX5_ok hown (hts _ mw_372) (hts _ mw_373) (hts _ mw_112) hK hP hD hS hA rfl dfX5 (show ((1 + 2) + 1) ≤ 4 by omega) (show ((4 + (2 * cl9)) + 6) ≤ 2 * cl9 + 10 by omega) dX2_init_63 (fun lk H hP hD hS => ?_)
    obtain ⟨hP, hD⟩ := zre (W2 := [_, _, _, _, (oc4 lk 0 0 .null 0 0 0)]) hP hD rfl
    refine lv_dup hx hb dX2_init_66 rfl ?_
    refine lv_iload_n hx hb dX2_init_67 rfl (lv_at hl 1 rfl) ?_
    obtain ⟨hPc, hDc, hFc⟩ := zo_sub (wc := [_]) hP hD hS hA [4] rfl rfl
    refine zcall (st1 := [.ref lk, .ref fe]) (va_runI (As := [.int kd9]) (rest := [.ref lk, .ref fe]) ⟨hx, hb, hml, hown, hts⟩ (k_Look_init l dC dI cI cZ cF H.size lk kd9 ) (cwI 1 hts (zz_gC mc_yX5_init) rfl rfl rfl (hts _ mw_112) (hts _ mw_374) (hts _ mw_375) rfl (by decide +kernel) ⟨Nat.le_of_ble_eq_true rfl, Nat.le_of_ble_eq_true rfl⟩) (zPS2 hPc hDc hK hXN) rfl rfl hl.1 rfl (lv_room (Nat.le_of_ble_eq_true rfl)) dX2_init_68 ⟨show ((1 + 2) + 1) ≤ 4 by omega, show ((4 + (2 * cl9)) + 6) ≤ 2 * cl9 + 10 by omega⟩) hS hFc hFc rfl (fun t H locs ht hB hk1 hS => ?_)
    obtain ⟨hP1, hD1⟩ := hB
    rw [ht] at hP1
    obtain ⟨hP, hD⟩ := zn (W2 := [_, _, _, _, (oc4 lk kd9 0 .null 0 (-1) 0)]) hP hD hk1 hFc hP1 hD1 [4] [true, true, true, true] [true, true, true, true, false] [4] (by decide +kernel) rfl rfl rfl rfl rfl
    clear hk1 hPc hDc hFc hP1 hD1 ht
    refine va_put (D := (dC, dI)) (ci := 1) (v := .ref lk) (ty := .object "ScaleShop$Look") (C := RX2) (T := TX2) (N := 8) hx hb hts inX2 tyX2 tyX2_ok nmX2 hown hK hP hD hS 0 rfl rfl 6 (by decide) (hts _ mw_429) (fun _ h9 => h9) rfl (by decide +kernel) rfl rfl (Nat.le_of_ble_eq_true rfl) dX2_init_71 (fun H locs hP hD hS => ?_)
    obtain ⟨hP, hD⟩ := zre (W2 := [(oc1 fe rk9 wd9 tw9 (-1) (-1) (.ref lo) (.ref lk) .null), _, _, _, _]) hP hD rfl
    obtain ⟨hP9, hD9⟩ := zu_sub (wc := [_, _, _, _, _]) hP hD [true, true, true, true, true] rfl rfl
    refine W.widen (k := 4) (n := 2 * cl9 + 10) (by omega) (by omega) ?_
    rw [hQ9]
    exact W.vret hx hb hr (fun t ht hW => ⟨⟨rfl, lo, lx, ly, lk, by rw [ht]; exact hP9, hD9⟩, hS.F ht⟩) hS.2.2 dX2_init_74
  refine lv_iload_n hx hb dX2_init_40 rfl (lv_at hl 1 rfl) ?_
  refine lv_if_le (tgt := 54) hx hb dX2_init_41 rfl (fun c_2 => ?_) (fun c_2 => ?_)
  · have c_2 : kd9.toInt ≤ 0 := zc_le rfl rfl c_2
    refine lv_iconst (v := 1) hx hb dX2_init_54 rfl ?_
    refine zz_i (v := nI cl9) (by first | (rw [show cl9 = 40 by omega]; rfl) | (rw [show cl9 = 1 by omega]; rfl)) ?_
    exact hj_1 
  · have c_2 : 0 < kd9.toInt := zc_nle rfl rfl c_2
    refine lv_iload_n hx hb dX2_init_44 rfl (lv_at hl 1 rfl) ?_
    refine lv_iconst (v := 5) hx hb dX2_init_45 rfl ?_
    refine lv_icmp_gt (tgt := 54) hx hb dX2_init_46 rfl (fun c_3 => ?_) (fun c_3 => ?_)
    · have c_3 : 5 < kd9.toInt := zc_lt rfl rfl c_3
      refine lv_iconst (v := 1) hx hb dX2_init_54 rfl ?_
      refine zz_i (v := nI cl9) (by first | (rw [show cl9 = 40 by omega]; rfl) | (rw [show cl9 = 1 by omega]; rfl)) ?_
      exact hj_1 
    · have c_3 : kd9.toInt ≤ 5 := zc_nlt rfl rfl c_3
      refine lv_bipush (v := 40) hx hb dX2_init_49 rfl ?_
      refine lv_goto (tgt := 55) hx hb dX2_init_51 rfl ?_
      refine zz_i (v := nI cl9) (by first | (rw [show cl9 = 40 by omega]; rfl) | (rw [show cl9 = 1 by omega]; rfl)) ?_
      exact hj_1 
set_option maxHeartbeats 4000000 in
set_option maxRecDepth 100000 in
theorem k_Feature_bends_r (l : Launch) (dC : Nat → ClassId) (dI : Nat → Nat → Nat) (cI cZ cF : ClassId) (sz : Nat) (fe : Nat) (lo : Nat) (rk9 : Int32) (wd9 : Int32) (tw9 : Int32) (pa9 : Int32) (pb9 : Int32) (lk : Nat) (kd9 : Int32) (st9 : Int32) (gb9 : Int32) (jt9 : Int32) (we9 : Int32) (r : Nat) : zM l yX2_bends cX2_bends 1 (some .boolean) ({ frames := 0, cells := 0, slots := 0, locals := 0 } : Room) [.ref fe] (dC, dI) (zTy cI cZ cF) [(oc1 fe rk9 wd9 tw9 pa9 pb9 (.ref lo) (.ref lk) .null), (oc4 lk kd9 st9 (.ref r) gb9 jt9 we9)] sz (some (.int (pI (1 ≤ kd9.toInt ∧ kd9.toInt ≤ 5)))) (fun A t => zPD (dC, dI) classes A [(oc1 fe rk9 wd9 tw9 pa9 pb9 (.ref lo) (.ref lk) .null), (oc4 lk kd9 st9 (.ref r) gb9 jt9 we9)] t.heap) 0 0 := by
  refine zIn (own := "ScaleShop$Feature") (loc := [(0, .ref fe)]) rfl rfl rfl rfl (fun p e s m below meth c hx hb hr hts hown hlocks hml hnm9 A hA hS hP hD hK hXN Q9 hQ9 ls hl => ?_)
  refine lv_aload_n hx hb dX2_bends_0 rfl (lv_at hl 0 rfl) ?_
  refine va_get (D := (dC, dI)) (ci := 1) (v := .ref lk) (C := RX2) (T := TX2) (N := 8) hx hb hts inX2 hown hK hP 0 rfl rfl 6 (Nat.le_of_ble_eq_true rfl) (hts _ mw_429) (fun _ h9 => h9) rfl dX2_bends_1 ?_
  refine va_get (D := (dC, dI)) (ci := 4) (v := .int kd9) (C := RX5) (T := TX5) (N := 6) hx hb hts inX5 hown hK hP 1 rfl rfl 0 (Nat.le_of_ble_eq_true rfl) (hts _ mw_379) (fun _ h9 => h9) rfl dX2_bends_4 ?_
  refine lv_if_le (tgt := 25) hx hb dX2_bends_7 rfl (fun c_1 => ?_) (fun c_1 => ?_)
  · have c_1 : kd9.toInt ≤ 0 := zc_le rfl rfl c_1
    refine lv_iconst (v := 0) hx hb dX2_bends_25 rfl ?_
    obtain ⟨hP9, hD9⟩ := zu_sub (wc := [_, _]) hP hD [true, true] rfl rfl
    rw [hQ9]
    exact W.zret (ty := .boolean) (v := 0) hx hb hr (rfl) (fun t ht hW => ⟨⟨congrArg (fun z => Outcome.returned (some (Value.int z))) (show (0 : Int32) = pI (1 ≤ kd9.toInt ∧ kd9.toInt ≤ 5) from (zp_f (by omega)).symm), by rw [ht]; exact hP9, hD9⟩, hS.F ht⟩) hS.2.2 dX2_bends_26
  · have c_1 : 0 < kd9.toInt := zc_nle rfl rfl c_1
    refine lv_aload_n hx hb dX2_bends_10 rfl (lv_at hl 0 rfl) ?_
    refine va_get (D := (dC, dI)) (ci := 1) (v := .ref lk) (C := RX2) (T := TX2) (N := 8) hx hb hts inX2 hown hK hP 0 rfl rfl 6 (Nat.le_of_ble_eq_true rfl) (hts _ mw_429) (fun _ h9 => h9) rfl dX2_bends_11 ?_
    refine va_get (D := (dC, dI)) (ci := 4) (v := .int kd9) (C := RX5) (T := TX5) (N := 6) hx hb hts inX5 hown hK hP 1 rfl rfl 0 (Nat.le_of_ble_eq_true rfl) (hts _ mw_379) (fun _ h9 => h9) rfl dX2_bends_14 ?_
    refine lv_iconst (v := 5) hx hb dX2_bends_17 rfl ?_
    refine lv_icmp_gt (tgt := 25) hx hb dX2_bends_18 rfl (fun c_2 => ?_) (fun c_2 => ?_)
    · have c_2 : 5 < kd9.toInt := zc_lt rfl rfl c_2
      refine lv_iconst (v := 0) hx hb dX2_bends_25 rfl ?_
      obtain ⟨hP9, hD9⟩ := zu_sub (wc := [_, _]) hP hD [true, true] rfl rfl
      rw [hQ9]
      exact W.zret (ty := .boolean) (v := 0) hx hb hr (rfl) (fun t ht hW => ⟨⟨congrArg (fun z => Outcome.returned (some (Value.int z))) (show (0 : Int32) = pI (1 ≤ kd9.toInt ∧ kd9.toInt ≤ 5) from (zp_f (by omega)).symm), by rw [ht]; exact hP9, hD9⟩, hS.F ht⟩) hS.2.2 dX2_bends_26
    · have c_2 : kd9.toInt ≤ 5 := zc_nlt rfl rfl c_2
      refine lv_iconst (v := 1) hx hb dX2_bends_21 rfl ?_
      refine lv_goto (tgt := 26) hx hb dX2_bends_22 rfl ?_
      obtain ⟨hP9, hD9⟩ := zu_sub (wc := [_, _]) hP hD [true, true] rfl rfl
      rw [hQ9]
      exact W.zret (ty := .boolean) (v := 1) hx hb hr (rfl) (fun t ht hW => ⟨⟨congrArg (fun z => Outcome.returned (some (Value.int z))) (show (1 : Int32) = pI (1 ≤ kd9.toInt ∧ kd9.toInt ≤ 5) from (zp_t (by omega)).symm), by rw [ht]; exact hP9, hD9⟩, hS.F ht⟩) hS.2.2 dX2_bends_26
set_option maxHeartbeats 4000000 in
set_option maxRecDepth 100000 in
theorem k_Feature_mayHaveCorner_r (l : Launch) (dC : Nat → ClassId) (dI : Nat → Nat → Nat) (cI cZ cF : ClassId) (sz : Nat) (fe : Nat) (lo : Nat) (rk9 : Int32) (wd9 : Int32) (tw9 : Int32) (pa9 : Int32) (pb9 : Int32) (lk : Nat) (kd9 : Int32) (st9 : Int32) (gb9 : Int32) (jt9 : Int32) (we9 : Int32) (r : Nat) (rx : Nat) (ry : Nat) (n : Nat) (kv : Int32) (rg : Int32) (hn : n ≤ 1000) : zM l yX2_mayHaveCorner cX2_mayHaveCorner 2 (some .boolean) ({ frames := 0, cells := 0, slots := 0, locals := 0 } : Room) [.ref fe, .int kv] (dC, dI) (zTy cI cZ cF) [(oc1 fe rk9 wd9 tw9 pa9 pb9 (.ref lo) (.ref lk) .null), (oc4 lk kd9 st9 (.ref r) gb9 jt9 we9), (oc6 r (.ref rx) (.ref ry) (nI n) rg)] sz (some (.int (pI (0 ≤ kv.toInt ∧ kv.toInt < ((n : Nat) : Int))))) (fun A t => zPD (dC, dI) classes A [(oc1 fe rk9 wd9 tw9 pa9 pb9 (.ref lo) (.ref lk) .null), (oc4 lk kd9 st9 (.ref r) gb9 jt9 we9), (oc6 r (.ref rx) (.ref ry) (nI n) rg)] t.heap) 0 0 := by
  refine zIn (own := "ScaleShop$Feature") (loc := [(0, .ref fe), (1, .int kv)]) rfl rfl rfl rfl (fun p e s m below meth c hx hb hr hts hown hlocks hml hnm9 A hA hS hP hD hK hXN Q9 hQ9 ls hl => ?_)
  refine lv_iload_n hx hb dX2_mayHaveCorner_0 rfl (lv_at hl 1 rfl) ?_
  refine lv_if_lt (tgt := 32) hx hb dX2_mayHaveCorner_1 rfl (fun c_1 => ?_) (fun c_1 => ?_)
  · have c_1 : kv.toInt < 0 := zc_lt rfl rfl c_1
    refine lv_iconst (v := 0) hx hb dX2_mayHaveCorner_32 rfl ?_
    obtain ⟨hP9, hD9⟩ := zu_sub (wc := [_, _, _]) hP hD [true, true, true] rfl rfl
    rw [hQ9]
    exact W.zret (ty := .boolean) (v := 0) hx hb hr (rfl) (fun t ht hW => ⟨⟨congrArg (fun z => Outcome.returned (some (Value.int z))) (show (0 : Int32) = pI (0 ≤ kv.toInt ∧ kv.toInt < ((n : Nat) : Int)) from (zp_f (by omega)).symm), by rw [ht]; exact hP9, hD9⟩, hS.F ht⟩) hS.2.2 dX2_mayHaveCorner_33
  · have c_1 : 0 ≤ kv.toInt := zc_nlt rfl rfl c_1
    refine lv_aload_n hx hb dX2_mayHaveCorner_4 rfl (lv_at hl 0 rfl) ?_
    refine va_get (D := (dC, dI)) (ci := 1) (v := .ref lk) (C := RX2) (T := TX2) (N := 8) hx hb hts inX2 hown hK hP 0 rfl rfl 6 (Nat.le_of_ble_eq_true rfl) (hts _ mw_429) (fun _ h9 => h9) rfl dX2_mayHaveCorner_5 ?_
    refine va_get (D := (dC, dI)) (ci := 4) (v := .ref r) (C := RX5) (T := TX5) (N := 6) hx hb hts inX5 hown hK hP 1 rfl rfl 2 (Nat.le_of_ble_eq_true rfl) (hts _ mw_392) (fun _ h9 => h9) rfl dX2_mayHaveCorner_8 ?_
    refine lv_ifnull hx hb dX2_mayHaveCorner_11 ?_
    refine lv_iload_n hx hb dX2_mayHaveCorner_14 rfl (lv_at hl 1 rfl) ?_
    refine lv_aload_n hx hb dX2_mayHaveCorner_15 rfl (lv_at hl 0 rfl) ?_
    refine va_get (D := (dC, dI)) (ci := 1) (v := .ref lk) (C := RX2) (T := TX2) (N := 8) hx hb hts inX2 hown hK hP 0 rfl rfl 6 (Nat.le_of_ble_eq_true rfl) (hts _ mw_429) (fun _ h9 => h9) rfl dX2_mayHaveCorner_16 ?_
    refine va_get (D := (dC, dI)) (ci := 4) (v := .ref r) (C := RX5) (T := TX5) (N := 6) hx hb hts inX5 hown hK hP 1 rfl rfl 2 (Nat.le_of_ble_eq_true rfl) (hts _ mw_392) (fun _ h9 => h9) rfl dX2_mayHaveCorner_19 ?_
    refine va_get (D := (dC, dI)) (ci := 6) (v := .int (nI n)) (C := RX7) (T := TX7) (N := 4) hx hb hts inX7 hown hK hP 2 rfl rfl 2 (Nat.le_of_ble_eq_true rfl) (hts _ mw_178) (fun _ h9 => h9) rfl dX2_mayHaveCorner_22 ?_
    have b9_3 : zlt (n) := show n < 2147483648 by omega
    refine lv_icmp_ge (tgt := 32) hx hb dX2_mayHaveCorner_25 rfl (fun c_2 => ?_) (fun c_2 => ?_)
    · have c_2 : ((n : Nat) : Int) ≤ kv.toInt := zc_le (nI_toInt b9_3) rfl c_2
      refine lv_iconst (v := 0) hx hb dX2_mayHaveCorner_32 rfl ?_
      obtain ⟨hP9, hD9⟩ := zu_sub (wc := [_, _, _]) hP hD [true, true, true] rfl rfl
      rw [hQ9]
      exact W.zret (ty := .boolean) (v := 0) hx hb hr (rfl) (fun t ht hW => ⟨⟨congrArg (fun z => Outcome.returned (some (Value.int z))) (show (0 : Int32) = pI (0 ≤ kv.toInt ∧ kv.toInt < ((n : Nat) : Int)) from (zp_f (by omega)).symm), by rw [ht]; exact hP9, hD9⟩, hS.F ht⟩) hS.2.2 dX2_mayHaveCorner_33
    · have c_2 : kv.toInt < ((n : Nat) : Int) := zc_nle (nI_toInt b9_3) rfl c_2
      refine lv_iconst (v := 1) hx hb dX2_mayHaveCorner_28 rfl ?_
      refine lv_goto (tgt := 33) hx hb dX2_mayHaveCorner_29 rfl ?_
      obtain ⟨hP9, hD9⟩ := zu_sub (wc := [_, _, _]) hP hD [true, true, true] rfl rfl
      rw [hQ9]
      exact W.zret (ty := .boolean) (v := 1) hx hb hr (rfl) (fun t ht hW => ⟨⟨congrArg (fun z => Outcome.returned (some (Value.int z))) (show (1 : Int32) = pI (0 ≤ kv.toInt ∧ kv.toInt < ((n : Nat) : Int)) from (zp_t (by omega)).symm), by rw [ht]; exact hP9, hD9⟩, hS.F ht⟩) hS.2.2 dX2_mayHaveCorner_33
set_option maxHeartbeats 4000000 in
set_option maxRecDepth 100000 in
theorem k_Feature_bends_f_r (l : Launch) (dC : Nat → ClassId) (dI : Nat → Nat → Nat) (cI cZ cF : ClassId) (sz : Nat) (fe : Nat) (lo : Nat) (rk9 : Int32) (wd9 : Int32) (tw9 : Int32) (pa9 : Int32) (pb9 : Int32) (lk : Nat) (kd9 : Int32) (st9 : Int32) (gb9 : Int32) (jt9 : Int32) (we9 : Int32) (r : Nat) (fm : Nat) : zM l yX2_bends cX2_bends 1 (some .boolean) ({ frames := 0, cells := 0, slots := 0, locals := 0 } : Room) [.ref fe] (dC, dI) (zTy cI cZ cF) [(oc1 fe rk9 wd9 tw9 pa9 pb9 (.ref lo) (.ref lk) (.ref fm)), (oc4 lk kd9 st9 (.ref r) gb9 jt9 we9)] sz (some (.int (pI (1 ≤ kd9.toInt ∧ kd9.toInt ≤ 5)))) (fun A t => zPD (dC, dI) classes A [(oc1 fe rk9 wd9 tw9 pa9 pb9 (.ref lo) (.ref lk) (.ref fm)), (oc4 lk kd9 st9 (.ref r) gb9 jt9 we9)] t.heap) 0 0 := by
  refine zIn (own := "ScaleShop$Feature") (loc := [(0, .ref fe)]) rfl rfl rfl rfl (fun p e s m below meth c hx hb hr hts hown hlocks hml hnm9 A hA hS hP hD hK hXN Q9 hQ9 ls hl => ?_)
  refine lv_aload_n hx hb dX2_bends_0 rfl (lv_at hl 0 rfl) ?_
  refine va_get (D := (dC, dI)) (ci := 1) (v := .ref lk) (C := RX2) (T := TX2) (N := 8) hx hb hts inX2 hown hK hP 0 rfl rfl 6 (Nat.le_of_ble_eq_true rfl) (hts _ mw_429) (fun _ h9 => h9) rfl dX2_bends_1 ?_
  refine va_get (D := (dC, dI)) (ci := 4) (v := .int kd9) (C := RX5) (T := TX5) (N := 6) hx hb hts inX5 hown hK hP 1 rfl rfl 0 (Nat.le_of_ble_eq_true rfl) (hts _ mw_379) (fun _ h9 => h9) rfl dX2_bends_4 ?_
  refine lv_if_le (tgt := 25) hx hb dX2_bends_7 rfl (fun c_1 => ?_) (fun c_1 => ?_)
  · have c_1 : kd9.toInt ≤ 0 := zc_le rfl rfl c_1
    refine lv_iconst (v := 0) hx hb dX2_bends_25 rfl ?_
    obtain ⟨hP9, hD9⟩ := zu_sub (wc := [_, _]) hP hD [true, true] rfl rfl
    rw [hQ9]
    exact W.zret (ty := .boolean) (v := 0) hx hb hr (rfl) (fun t ht hW => ⟨⟨congrArg (fun z => Outcome.returned (some (Value.int z))) (show (0 : Int32) = pI (1 ≤ kd9.toInt ∧ kd9.toInt ≤ 5) from (zp_f (by omega)).symm), by rw [ht]; exact hP9, hD9⟩, hS.F ht⟩) hS.2.2 dX2_bends_26
  · have c_1 : 0 < kd9.toInt := zc_nle rfl rfl c_1
    refine lv_aload_n hx hb dX2_bends_10 rfl (lv_at hl 0 rfl) ?_
    refine va_get (D := (dC, dI)) (ci := 1) (v := .ref lk) (C := RX2) (T := TX2) (N := 8) hx hb hts inX2 hown hK hP 0 rfl rfl 6 (Nat.le_of_ble_eq_true rfl) (hts _ mw_429) (fun _ h9 => h9) rfl dX2_bends_11 ?_
    refine va_get (D := (dC, dI)) (ci := 4) (v := .int kd9) (C := RX5) (T := TX5) (N := 6) hx hb hts inX5 hown hK hP 1 rfl rfl 0 (Nat.le_of_ble_eq_true rfl) (hts _ mw_379) (fun _ h9 => h9) rfl dX2_bends_14 ?_
    refine lv_iconst (v := 5) hx hb dX2_bends_17 rfl ?_
    refine lv_icmp_gt (tgt := 25) hx hb dX2_bends_18 rfl (fun c_2 => ?_) (fun c_2 => ?_)
    · have c_2 : 5 < kd9.toInt := zc_lt rfl rfl c_2
      refine lv_iconst (v := 0) hx hb dX2_bends_25 rfl ?_
      obtain ⟨hP9, hD9⟩ := zu_sub (wc := [_, _]) hP hD [true, true] rfl rfl
      rw [hQ9]
      exact W.zret (ty := .boolean) (v := 0) hx hb hr (rfl) (fun t ht hW => ⟨⟨congrArg (fun z => Outcome.returned (some (Value.int z))) (show (0 : Int32) = pI (1 ≤ kd9.toInt ∧ kd9.toInt ≤ 5) from (zp_f (by omega)).symm), by rw [ht]; exact hP9, hD9⟩, hS.F ht⟩) hS.2.2 dX2_bends_26
    · have c_2 : kd9.toInt ≤ 5 := zc_nlt rfl rfl c_2
      refine lv_iconst (v := 1) hx hb dX2_bends_21 rfl ?_
      refine lv_goto (tgt := 26) hx hb dX2_bends_22 rfl ?_
      obtain ⟨hP9, hD9⟩ := zu_sub (wc := [_, _]) hP hD [true, true] rfl rfl
      rw [hQ9]
      exact W.zret (ty := .boolean) (v := 1) hx hb hr (rfl) (fun t ht hW => ⟨⟨congrArg (fun z => Outcome.returned (some (Value.int z))) (show (1 : Int32) = pI (1 ≤ kd9.toInt ∧ kd9.toInt ≤ 5) from (zp_t (by omega)).symm), by rw [ht]; exact hP9, hD9⟩, hS.F ht⟩) hS.2.2 dX2_bends_26
set_option maxHeartbeats 4000000 in
set_option maxRecDepth 100000 in
theorem k_Feature_keep_r (l : Launch) (dC : Nat → ClassId) (dI : Nat → Nat → Nat) (cI cZ cF : ClassId) (sz : Nat) (fe : Nat) (lo : Nat) (rk9 : Int32) (wd9 : Int32) (tw9 : Int32) (pa9 : Int32) (pb9 : Int32) (lk : Nat) (kd9 : Int32) (st9 : Int32) (gb9 : Int32) (jt9 : Int32) (we9 : Int32) (r : Nat) : zM l yX2_keepFormer cX2_keepFormer 1 none ({ frames := 3, cells := 1, slots := 6, locals := 54 } : Room) [.ref fe] (dC, dI) (zTy cI cZ cF) [(oc1 fe rk9 wd9 tw9 pa9 pb9 (.ref lo) (.ref lk) .null), (oc4 lk kd9 st9 (.ref r) gb9 jt9 we9)] sz none (fun A t => ∃ (q : Nat), zPD (dC, dI) classes A [(oc1 fe rk9 wd9 tw9 pa9 pb9 (.ref lo) (.ref q) (.ref lk)), (oc4 lk kd9 st9 (.ref r) gb9 jt9 we9), (oc4 q kd9 st9 (.ref r) gb9 jt9 we9)] t.heap) 1 6 := by
  refine zIn (own := "ScaleShop$Feature") (loc := [(0, .ref fe)]) rfl rfl rfl rfl (fun p e s m below meth c hx hb hr hts hown hlocks hml hnm9 A hA hS hP hD hK hXN Q9 hQ9 ls hl => ?_)
  refine lv_aload_n hx hb dX2_keepFormer_0 rfl (lv_at hl 0 rfl) ?_
  refine va_get (D := (dC, dI)) (ci := 1) (v := .null) (C := RX2) (T := TX2) (N := 8) hx hb hts inX2 hown hK hP 0 rfl rfl 7 (Nat.le_of_ble_eq_true rfl) (hts _ mw_436) (fun _ h9 => h9) rfl dX2_keepFormer_1 ?_
  refine lv_ifnonnullN hx hb dX2_keepFormer_4 ?_
  refine lv_aload_n hx hb dX2_keepFormer_7 rfl (lv_at hl 0 rfl) ?_
  refine lv_aload_n hx hb dX2_keepFormer_8 rfl (lv_at hl 0 rfl) ?_
  refine va_get (D := (dC, dI)) (ci := 1) (v := .ref lk) (C := RX2) (T := TX2) (N := 8) hx hb hts inX2 hown hK hP 0 rfl rfl 6 (Nat.le_of_ble_eq_true rfl) (hts _ mw_429) (fun _ h9 => h9) rfl dX2_keepFormer_9 ?_
  refine va_put (D := (dC, dI)) (ci := 1) (v := .ref lk) (ty := .object "ScaleShop$Look") (C := RX2) (T := TX2) (N := 8) hx hb hts inX2 tyX2 tyX2_ok nmX2 hown hK hP hD hS 0 rfl rfl 7 (by decide) (hts _ mw_436) (fun _ h9 => h9) rfl (by decide +kernel) rfl rfl (Nat.le_of_ble_eq_true rfl) dX2_keepFormer_12 (fun H locs hP hD hS => ?_)
  obtain ⟨hP, hD⟩ := zre (W2 := [(oc1 fe rk9 wd9 tw9 pa9 pb9 (.ref lo) (.ref lk) (.ref lk)), _]) hP hD rfl
  refine lv_aload_n hx hb dX2_keepFormer_15 rfl (lv_at hl 0 rfl) ?_
  refine lv_aload_n hx hb dX2_keepFormer_16 rfl (lv_at hl 0 rfl) ?_
  refine va_get (D := (dC, dI)) (ci := 1) (v := .ref lk) (C := RX2) (T := TX2) (N := 8) hx hb hts inX2 hown hK hP 0 rfl rfl 7 (Nat.le_of_ble_eq_true rfl) (hts _ mw_436) (fun _ h9 => h9) rfl dX2_keepFormer_17 ?_
  obtain ⟨hPc, hDc, hFc⟩ := zo_sub (wc := [_]) hP hD hS hA [1] rfl rfl
  refine zcalle (va_runV (As := []) (rest := [.ref fe]) ⟨hx, hb, hml, hown, hts⟩ (k_Look_copy_r l dC dI cI cZ cF H.size lk kd9 st9 gb9 jt9 we9 r ) (csV_29 hts rfl rfl ⟨Nat.le_of_ble_eq_true rfl, Nat.le_of_ble_eq_true rfl⟩) (zPV2 (q0 := 0) (ci := 4) hPc hDc hK hXN rfl rfl) rfl rfl hl.1 rfl (lv_room (Nat.le_of_ble_eq_true rfl)) dX2_keepFormer_20 ⟨Nat.le_of_ble_eq_true rfl, Nat.le_of_ble_eq_true rfl⟩) hS hFc hFc (fun v9 t H locs ht hB hk1 hS => ?_)
  obtain ⟨q, rfl, hP1, hD1⟩ := hB
  refine W.eq (g2 := F0 m 23 ls [.ref q, .ref fe]) rfl ?_
  rw [ht] at hP1
  obtain ⟨hP, hD⟩ := zn (W2 := [_, (oc4 lk kd9 st9 (.ref r) gb9 jt9 we9), (oc4 q kd9 st9 (.ref r) gb9 jt9 we9)]) hP hD hk1 hFc hP1 hD1 [1] [true] [true, false, false] [1, 2] (by decide +kernel) rfl rfl rfl rfl rfl
  clear hk1 hPc hDc hFc hP1 hD1 ht
  refine va_put (D := (dC, dI)) (ci := 1) (v := .ref q) (ty := .object "ScaleShop$Look") (C := RX2) (T := TX2) (N := 8) hx hb hts inX2 tyX2 tyX2_ok nmX2 hown hK hP hD hS 0 rfl rfl 6 (by decide) (hts _ mw_429) (fun _ h9 => h9) rfl (by decide +kernel) rfl rfl (Nat.le_of_ble_eq_true rfl) dX2_keepFormer_23 (fun H locs hP hD hS => ?_)
  obtain ⟨hP, hD⟩ := zre (W2 := [(oc1 fe rk9 wd9 tw9 pa9 pb9 (.ref lo) (.ref q) (.ref lk)), _, _]) hP hD rfl
  obtain ⟨hP9, hD9⟩ := zu_sub (wc := [_, _, _]) hP hD [true, true, true] rfl rfl
  refine W.widen (k := 1) (n := 6) (by decide) (by decide) ?_
  rw [hQ9]
  exact W.vret hx hb hr (fun t ht hW => ⟨⟨rfl, q, by rw [ht]; exact hP9, hD9⟩, hS.F ht⟩) hS.2.2 dX2_keepFormer_26
set_option maxHeartbeats 4000000 in
set_option maxRecDepth 100000 in
theorem k_Feature_leave_r (l : Launch) (dC : Nat → ClassId) (dI : Nat → Nat → Nat) (cI cZ cF : ClassId) (sz : Nat) (fe : Nat) (lo : Nat) (rk9 : Int32) (wd9 : Int32) (tw9 : Int32) (pa9 : Int32) (pb9 : Int32) (lk : Nat) (kd9 : Int32) (st9 : Int32) (gb9 : Int32) (jt9 : Int32) (we9 : Int32) (r : Nat) (sn9 : Int32) : zM l yX2_leave cX2_leave 2 none ({ frames := 4, cells := 1, slots := 6, locals := 74 } : Room) [.ref fe, .int sn9] (dC, dI) (zTy cI cZ cF) [(oc1 fe rk9 wd9 tw9 pa9 pb9 (.ref lo) (.ref lk) .null), (oc4 lk kd9 st9 (.ref r) gb9 jt9 we9)] sz none (fun A t => ∃ (q : Nat), zPD (dC, dI) classes A [(oc1 fe rk9 wd9 tw9 pa9 pb9 (.ref lo) (.ref q) (.ref lk)), (oc4 lk kd9 st9 (.ref r) gb9 jt9 we9), (oc4 q kd9 2 (.ref r) sn9 jt9 we9)] t.heap) 1 6 := by
  refine zIn (own := "ScaleShop$Feature") (loc := [(0, .ref fe), (1, .int sn9)]) rfl rfl rfl rfl (fun p e s m below meth c hx hb hr hts hown hlocks hml hnm9 A hA hS hP hD hK hXN Q9 hQ9 ls hl => ?_)
  refine lv_aload_n hx hb dX2_leave_0 rfl (lv_at hl 0 rfl) ?_
  obtain ⟨hPc, hDc, hFc⟩ := zo_sub (wc := [_, _]) hP hD hS hA [0, 1] rfl rfl
  refine zcall (st1 := []) (va_runV (As := []) (rest := []) ⟨hx, hb, hml, hown, hts⟩ (k_Feature_keep_r l dC dI cI cZ cF s.heap.size fe lo rk9 wd9 tw9 pa9 pb9 lk kd9 st9 gb9 jt9 we9 r ) (csV_30 hts rfl rfl ⟨Nat.le_of_ble_eq_true rfl, Nat.le_of_ble_eq_true rfl⟩) (zPV2 (q0 := 0) (ci := 1) hPc hDc hK hXN rfl rfl) rfl rfl hl.1 rfl (lv_room (Nat.le_of_ble_eq_true rfl)) dX2_leave_1 ⟨Nat.le_of_ble_eq_true rfl, Nat.le_of_ble_eq_true rfl⟩) hS hFc hFc rfl (fun t H locs ht hB hk1 hS => ?_)
  obtain ⟨q, hP1, hD1⟩ := hB
  rw [ht] at hP1
  obtain ⟨hP, hD⟩ := zn (W2 := [(oc1 fe rk9 wd9 tw9 pa9 pb9 (.ref lo) (.ref q) (.ref lk)), (oc4 lk kd9 st9 (.ref r) gb9 jt9 we9), (oc4 q kd9 st9 (.ref r) gb9 jt9 we9)]) hP hD hk1 hFc hP1 hD1 [0, 1] [] [false, false, false] [0, 1, 2] (by decide +kernel) rfl rfl rfl rfl rfl
  clear hk1 hPc hDc hFc hP1 hD1 ht
  refine lv_aload_n hx hb dX2_leave_4 rfl (lv_at hl 0 rfl) ?_
  refine va_get (D := (dC, dI)) (ci := 1) (v := .ref q) (C := RX2) (T := TX2) (N := 8) hx hb hts inX2 hown hK hP 0 rfl rfl 6 (Nat.le_of_ble_eq_true rfl) (hts _ mw_429) (fun _ h9 => h9) rfl dX2_leave_5 ?_
  refine lv_iconst (v := 2) hx hb dX2_leave_8 rfl ?_
  refine va_put (D := (dC, dI)) (ci := 4) (v := .int 2) (ty := .int) (C := RX5) (T := TX5) (N := 6) hx hb hts inX5 tyX5 tyX5_ok nmX5 hown hK hP hD hS 2 rfl rfl 1 (by decide) (hts _ mw_386) (fun _ h9 => h9) rfl (by decide +kernel) rfl rfl (Nat.le_of_ble_eq_true rfl) dX2_leave_9 (fun H locs hP hD hS => ?_)
  obtain ⟨hP, hD⟩ := zre (W2 := [_, _, (oc4 q kd9 2 (.ref r) gb9 jt9 we9)]) hP hD rfl
  refine lv_aload_n hx hb dX2_leave_12 rfl (lv_at hl 0 rfl) ?_
  refine va_get (D := (dC, dI)) (ci := 1) (v := .ref q) (C := RX2) (T := TX2) (N := 8) hx hb hts inX2 hown hK hP 0 rfl rfl 6 (Nat.le_of_ble_eq_true rfl) (hts _ mw_429) (fun _ h9 => h9) rfl dX2_leave_13 ?_
  refine lv_iload_n hx hb dX2_leave_16 rfl (lv_at hl 1 rfl) ?_
  refine va_put (D := (dC, dI)) (ci := 4) (v := .int sn9) (ty := .int) (C := RX5) (T := TX5) (N := 6) hx hb hts inX5 tyX5 tyX5_ok nmX5 hown hK hP hD hS 2 rfl rfl 3 (by decide) (hts _ mw_395) (fun _ h9 => h9) rfl (by decide +kernel) rfl rfl (Nat.le_of_ble_eq_true rfl) dX2_leave_17 (fun H locs hP hD hS => ?_)
  obtain ⟨hP, hD⟩ := zre (W2 := [_, _, (oc4 q kd9 2 (.ref r) sn9 jt9 we9)]) hP hD rfl
  obtain ⟨hP9, hD9⟩ := zu_sub (wc := [_, _, _]) hP hD [true, true, true] rfl rfl
  refine W.widen (k := 1) (n := 6) (by decide) (by decide) ?_
  rw [hQ9]
  exact W.vret hx hb hr (fun t ht hW => ⟨⟨rfl, q, by rw [ht]; exact hP9, hD9⟩, hS.F ht⟩) hS.2.2 dX2_leave_20
set_option maxHeartbeats 4000000 in
set_option maxRecDepth 100000 in
theorem k_Feature_reshape (l : Launch) (dC : Nat → ClassId) (dI : Nat → Nat → Nat) (cI cZ cF : ClassId) (sz : Nat) (fe : Nat) (lo : Nat) (rk9 : Int32) (wd9 : Int32) (tw9 : Int32) (pa9 : Int32) (pb9 : Int32) (lk : Nat) (kd9 : Int32) (st9 : Int32) (gb9 : Int32) (jt9 : Int32) (we9 : Int32) (r0 : Nat) (r : Nat) (rx : Nat) (ry : Nat) (n : Nat) (cap : Nat) (X : Nat → Int32) (Y : Nat → Int32) (rg : Int32) (hn : 1 ≤ n ∧ n ≤ cap) (hcap : cap ≤ 1000) (hrg : rg = 0 ∨ rg = 1) : zM l yX2_reshape cX2_reshape 2 none ({ frames := 4, cells := 4, slots := 2 * n + 10, locals := 74 } : Room) [.ref fe, .ref r] (dC, dI) (zTy cI cZ cF) [(oc1 fe rk9 wd9 tw9 pa9 pb9 (.ref lo) (.ref lk) .null), (oc4 lk kd9 st9 (.ref r0) gb9 jt9 we9), (oc6 r (.ref rx) (.ref ry) (nI n) rg), (oa rx cI cap X), (oa ry cI cap Y)] sz none (fun A t => ∃ (q : Nat), ∃ (w : Nat), ∃ (wx : Nat), ∃ (wy : Nat), ∃ (X1 : Nat → Int32), ∃ (Y1 : Nat → Int32), (∀ k, k < n → X1 k = X k ∧ Y1 k = Y k) ∧ zPD (dC, dI) classes A [(oc1 fe rk9 wd9 tw9 pa9 pb9 (.ref lo) (.ref q) (.ref lk)), (oc4 lk kd9 st9 (.ref r0) gb9 jt9 we9), (oc4 q kd9 st9 (.ref w) gb9 jt9 we9), (oc6 r (.ref rx) (.ref ry) (nI n) rg), (oa rx cI cap X), (oa ry cI cap Y), (oc6 w (.ref wx) (.ref wy) (nI n) rg), (oa wx cI n X1), (oa wy cI n Y1)] t.heap) 4 (2 * n + 10) := by
  refine zIn (own := "ScaleShop$Feature") (loc := [(0, .ref fe), (1, .ref r)]) rfl rfl rfl rfl (fun p e s m below meth c hx hb hr hts hown hlocks hml hnm9 A hA hS hP hD hK hXN Q9 hQ9 ls hl => ?_)
  refine lv_aload_n hx hb dX2_reshape_0 rfl (lv_at hl 0 rfl) ?_
  obtain ⟨hPc, hDc, hFc⟩ := zo_sub (wc := [_, _]) hP hD hS hA [0, 1] rfl rfl
  refine zcall (st1 := []) (va_runV (As := []) (rest := []) ⟨hx, hb, hml, hown, hts⟩ (k_Feature_keep_r l dC dI cI cZ cF s.heap.size fe lo rk9 wd9 tw9 pa9 pb9 lk kd9 st9 gb9 jt9 we9 r0 ) (csV_30 hts rfl rfl ⟨Nat.le_of_ble_eq_true rfl, Nat.le_of_ble_eq_true rfl⟩) (zPV2 (q0 := 0) (ci := 1) hPc hDc hK hXN rfl rfl) rfl rfl hl.1 rfl (lv_room (Nat.le_of_ble_eq_true rfl)) dX2_reshape_1 ⟨show 1 ≤ 4 by omega, show 6 ≤ 2 * n + 10 by omega⟩) hS hFc hFc rfl (fun t H locs ht hB hk1 hS => ?_)
  obtain ⟨q, hP1, hD1⟩ := hB
  rw [ht] at hP1
  obtain ⟨hP, hD⟩ := zn (W2 := [_, _, _, (oc1 fe rk9 wd9 tw9 pa9 pb9 (.ref lo) (.ref q) (.ref lk)), (oc4 lk kd9 st9 (.ref r0) gb9 jt9 we9), (oc4 q kd9 st9 (.ref r0) gb9 jt9 we9)]) hP hD hk1 hFc hP1 hD1 [0, 1] [false, false, true, true, true] [true, true, true, false, false, false] [3, 4, 5] (by decide +kernel) rfl rfl rfl rfl rfl
  clear hk1 hPc hDc hFc hP1 hD1 ht
  refine lv_aload_n hx hb dX2_reshape_4 rfl (lv_at hl 0 rfl) ?_
  refine va_get (D := (dC, dI)) (ci := 1) (v := .ref q) (C := RX2) (T := TX2) (N := 8) hx hb hts inX2 hown hK hP 3 rfl rfl 6 (Nat.le_of_ble_eq_true rfl) (hts _ mw_429) (fun _ h9 => h9) rfl dX2_reshape_5 ?_
  refine lv_aload_n hx hb dX2_reshape_8 rfl (lv_at hl 1 rfl) ?_
  obtain ⟨hPc, hDc, hFc⟩ := zo_sub (wc := [_, _, _]) hP hD hS hA [0, 1, 2] rfl rfl
  refine zcalle (va_runV (As := []) (rest := [.ref q]) ⟨hx, hb, hml, hown, hts⟩ (k_Row_copy l dC dI cI cZ cF H.size r rx ry n cap X Y rg (by first | with_reducible assumption | omega) (by first | with_reducible assumption | omega) (by first | with_reducible assumption | assumption)) (csV_31 hts rfl rfl ⟨Nat.le_of_ble_eq_true rfl, Nat.le_of_ble_eq_true rfl⟩) (zPV2 (q0 := 0) (ci := 6) hPc hDc hK hXN rfl rfl) rfl rfl hl.1 rfl (lv_room (Nat.le_of_ble_eq_true rfl)) dX2_reshape_9 ⟨show (1 + 3) ≤ 4 by omega, show (6 + (2 * n + 4)) ≤ 2 * n + 10 by omega⟩) hS hFc hFc (fun v9 t H locs ht hB hk1 hS => ?_)
  obtain ⟨w, wx, wy, X1, Y1, rfl, hall, hP1, hD1⟩ := hB
  refine W.eq (g2 := F0 m 12 ls [.ref w, .ref q]) rfl ?_
  rw [ht] at hP1
  obtain ⟨hP, hD⟩ := zn (W2 := [_, _, _, (oc6 r (.ref rx) (.ref ry) (nI n) rg), (oa rx cI cap X), (oa ry cI cap Y), (oc6 w (.ref wx) (.ref wy) (nI n) rg), (oa wx cI n X1), (oa wy cI n Y1)]) hP hD hk1 hFc hP1 hD1 [0, 1, 2] [false, false, false, true, true, true] zl_0 [3, 4, 5, 6, 7, 8] (by decide +kernel) rfl rfl rfl rfl rfl
  clear hk1 hPc hDc hFc hP1 hD1 ht
  refine va_put (D := (dC, dI)) (ci := 4) (v := .ref w) (ty := .object "ScaleShop$Row") (C := RX5) (T := TX5) (N := 6) hx hb hts inX5 tyX5 tyX5_ok nmX5 hown hK hP hD hS 2 rfl rfl 2 (by decide) (hts _ mw_392) (fun _ h9 => h9) rfl (by decide +kernel) rfl rfl (Nat.le_of_ble_eq_true rfl) dX2_reshape_12 (fun H locs hP hD hS => ?_)
  obtain ⟨hP, hD⟩ := zre (W2 := [_, _, (oc4 q kd9 st9 (.ref w) gb9 jt9 we9), _, _, _, _, _, _]) hP hD rfl
  obtain ⟨hP9, hD9⟩ := zu_sub (wc := [_, _, _, _, _, _, _, _, _]) hP hD [true, true, true, true, true, true, true, true, true] rfl rfl
  refine W.widen (k := 4) (n := 2 * n + 10) (by omega) (by omega) ?_
  rw [hQ9]
  exact W.vret hx hb hr (fun t ht hW => ⟨⟨rfl, q, w, wx, wy, X1, Y1, (hall), by rw [ht]; exact hP9, hD9⟩, hS.F ht⟩) hS.2.2 dX2_reshape_15
set_option maxHeartbeats 4000000 in
set_option maxRecDepth 100000 in
theorem k_Feature_reshape_o (l : Launch) (dC : Nat → ClassId) (dI : Nat → Nat → Nat) (cI cZ cF : ClassId) (sz : Nat) (fe : Nat) (lo : Nat) (rk9 : Int32) (wd9 : Int32) (tw9 : Int32) (pa9 : Int32) (pb9 : Int32) (lk : Nat) (kd9 : Int32) (st9 : Int32) (gb9 : Int32) (jt9 : Int32) (we9 : Int32) (r : Nat) (rx : Nat) (ry : Nat) (n : Nat) (cap : Nat) (X : Nat → Int32) (Y : Nat → Int32) (rg : Int32) (hn : 1 ≤ n ∧ n ≤ cap) (hcap : cap ≤ 1000) (hrg : rg = 0 ∨ rg = 1) : zM l yX2_reshape cX2_reshape 2 none ({ frames := 4, cells := 4, slots := 2 * n + 10, locals := 74 } : Room) [.ref fe, .ref r] (dC, dI) (zTy cI cZ cF) [(oc1 fe rk9 wd9 tw9 pa9 pb9 (.ref lo) (.ref lk) .null), (oc4 lk kd9 st9 (.ref r) gb9 jt9 we9), (oc6 r (.ref rx) (.ref ry) (nI n) rg), (oa rx cI cap X), (oa ry cI cap Y)] sz none (fun A t => ∃ (q : Nat), ∃ (w : Nat), ∃ (wx : Nat), ∃ (wy : Nat), ∃ (X1 : Nat → Int32), ∃ (Y1 : Nat → Int32), (∀ k, k < n → X1 k = X k ∧ Y1 k = Y k) ∧ zPD (dC, dI) classes A [(oc1 fe rk9 wd9 tw9 pa9 pb9 (.ref lo) (.ref q) (.ref lk)), (oc4 lk kd9 st9 (.ref r) gb9 jt9 we9), (oc4 q kd9 st9 (.ref w) gb9 jt9 we9), (oc6 r (.ref rx) (.ref ry) (nI n) rg), (oa rx cI cap X), (oa ry cI cap Y), (oc6 w (.ref wx) (.ref wy) (nI n) rg), (oa wx cI n X1), (oa wy cI n Y1)] t.heap) 4 (2 * n + 10) := by
  refine zIn (own := "ScaleShop$Feature") (loc := [(0, .ref fe), (1, .ref r)]) rfl rfl rfl rfl (fun p e s m below meth c hx hb hr hts hown hlocks hml hnm9 A hA hS hP hD hK hXN Q9 hQ9 ls hl => ?_)
  refine lv_aload_n hx hb dX2_reshape_0 rfl (lv_at hl 0 rfl) ?_
  obtain ⟨hPc, hDc, hFc⟩ := zo_sub (wc := [_, _]) hP hD hS hA [0, 1] rfl rfl
  refine zcall (st1 := []) (va_runV (As := []) (rest := []) ⟨hx, hb, hml, hown, hts⟩ (k_Feature_keep_r l dC dI cI cZ cF s.heap.size fe lo rk9 wd9 tw9 pa9 pb9 lk kd9 st9 gb9 jt9 we9 r ) (csV_30 hts rfl rfl ⟨Nat.le_of_ble_eq_true rfl, Nat.le_of_ble_eq_true rfl⟩) (zPV2 (q0 := 0) (ci := 1) hPc hDc hK hXN rfl rfl) rfl rfl hl.1 rfl (lv_room (Nat.le_of_ble_eq_true rfl)) dX2_reshape_1 ⟨show 1 ≤ 4 by omega, show 6 ≤ 2 * n + 10 by omega⟩) hS hFc hFc rfl (fun t H locs ht hB hk1 hS => ?_)
  obtain ⟨q, hP1, hD1⟩ := hB
  rw [ht] at hP1
  obtain ⟨hP, hD⟩ := zn (W2 := [_, _, _, (oc1 fe rk9 wd9 tw9 pa9 pb9 (.ref lo) (.ref q) (.ref lk)), (oc4 lk kd9 st9 (.ref r) gb9 jt9 we9), (oc4 q kd9 st9 (.ref r) gb9 jt9 we9)]) hP hD hk1 hFc hP1 hD1 [0, 1] [false, false, true, true, true] [true, true, true, false, false, false] [3, 4, 5] (by decide +kernel) rfl rfl rfl rfl rfl
  clear hk1 hPc hDc hFc hP1 hD1 ht
  refine lv_aload_n hx hb dX2_reshape_4 rfl (lv_at hl 0 rfl) ?_
  refine va_get (D := (dC, dI)) (ci := 1) (v := .ref q) (C := RX2) (T := TX2) (N := 8) hx hb hts inX2 hown hK hP 3 rfl rfl 6 (Nat.le_of_ble_eq_true rfl) (hts _ mw_429) (fun _ h9 => h9) rfl dX2_reshape_5 ?_
  refine lv_aload_n hx hb dX2_reshape_8 rfl (lv_at hl 1 rfl) ?_
  obtain ⟨hPc, hDc, hFc⟩ := zo_sub (wc := [_, _, _]) hP hD hS hA [0, 1, 2] rfl rfl
  refine zcalle (va_runV (As := []) (rest := [.ref q]) ⟨hx, hb, hml, hown, hts⟩ (k_Row_copy l dC dI cI cZ cF H.size r rx ry n cap X Y rg (by first | with_reducible assumption | omega) (by first | with_reducible assumption | omega) (by first | with_reducible assumption | assumption)) (csV_31 hts rfl rfl ⟨Nat.le_of_ble_eq_true rfl, Nat.le_of_ble_eq_true rfl⟩) (zPV2 (q0 := 0) (ci := 6) hPc hDc hK hXN rfl rfl) rfl rfl hl.1 rfl (lv_room (Nat.le_of_ble_eq_true rfl)) dX2_reshape_9 ⟨show (1 + 3) ≤ 4 by omega, show (6 + (2 * n + 4)) ≤ 2 * n + 10 by omega⟩) hS hFc hFc (fun v9 t H locs ht hB hk1 hS => ?_)
  obtain ⟨w, wx, wy, X1, Y1, rfl, hall, hP1, hD1⟩ := hB
  refine W.eq (g2 := F0 m 12 ls [.ref w, .ref q]) rfl ?_
  rw [ht] at hP1
  obtain ⟨hP, hD⟩ := zn (W2 := [_, _, _, (oc6 r (.ref rx) (.ref ry) (nI n) rg), (oa rx cI cap X), (oa ry cI cap Y), (oc6 w (.ref wx) (.ref wy) (nI n) rg), (oa wx cI n X1), (oa wy cI n Y1)]) hP hD hk1 hFc hP1 hD1 [0, 1, 2] [false, false, false, true, true, true] zl_0 [3, 4, 5, 6, 7, 8] (by decide +kernel) rfl rfl rfl rfl rfl
  clear hk1 hPc hDc hFc hP1 hD1 ht
  refine va_put (D := (dC, dI)) (ci := 4) (v := .ref w) (ty := .object "ScaleShop$Row") (C := RX5) (T := TX5) (N := 6) hx hb hts inX5 tyX5 tyX5_ok nmX5 hown hK hP hD hS 2 rfl rfl 2 (by decide) (hts _ mw_392) (fun _ h9 => h9) rfl (by decide +kernel) rfl rfl (Nat.le_of_ble_eq_true rfl) dX2_reshape_12 (fun H locs hP hD hS => ?_)
  obtain ⟨hP, hD⟩ := zre (W2 := [_, _, (oc4 q kd9 st9 (.ref w) gb9 jt9 we9), _, _, _, _, _, _]) hP hD rfl
  obtain ⟨hP9, hD9⟩ := zu_sub (wc := [_, _, _, _, _, _, _, _, _]) hP hD [true, true, true, true, true, true, true, true, true] rfl rfl
  refine W.widen (k := 4) (n := 2 * n + 10) (by omega) (by omega) ?_
  rw [hQ9]
  exact W.vret hx hb hr (fun t ht hW => ⟨⟨rfl, q, w, wx, wy, X1, Y1, (hall), by rw [ht]; exact hP9, hD9⟩, hS.F ht⟩) hS.2.2 dX2_reshape_15
set_option maxHeartbeats 4000000 in
set_option maxRecDepth 100000 in
theorem k_Feature_losef (l : Launch) (dC : Nat → ClassId) (dI : Nat → Nat → Nat) (cI cZ cF : ClassId) (sz : Nat) (fe : Nat) (lo : Nat) (rk9 : Int32) (wd9 : Int32) (tw9 : Int32) (pa9 : Int32) (pb9 : Int32) (lk : Nat) (kd9 : Int32) (st9 : Int32) (gb9 : Int32) (jt9 : Int32) (fm : Nat) (k : Nat) (wn : Nat) (r : Nat) (rx : Nat) (ry : Nat) (n : Nat) (cap : Nat) (X : Nat → Int32) (Y : Nat → Int32) (rg : Int32) (lx : Nat) (ly : Nat) (ln9 : Nat) (cl9 : Nat) (LX : Nat → Int32) (LY : Nat → Int32) (hkn : k < n) (hn : n ≤ cap) (hcap : cap ≤ 1000) (hwn : wn < cl9) (hcl : cl9 ≤ 1000) (hrg : rg = 0 ∨ rg = 1) : zM l yX2_lose cX2_lose 2 none ({ frames := 2, cells := 0, slots := 0, locals := 36 } : Room) [.ref fe, .int (nI k)] (dC, dI) (zTy cI cZ cF) [(oc1 fe rk9 wd9 tw9 pa9 pb9 (.ref lo) (.ref lk) (.ref fm)), (oc4 lk kd9 st9 (.ref r) gb9 jt9 (nI wn)), (oc6 r (.ref rx) (.ref ry) (nI n) rg), (oa rx cI cap X), (oa ry cI cap Y), (oc6 lo (.ref lx) (.ref ly) (nI ln9) 0), (oa lx cI cl9 LX), (oa ly cI cl9 LY)] sz none (fun A t => ∃ (X1 : Nat → Int32), ∃ (Y1 : Nat → Int32), (∀ j, j < k → X1 j = X j ∧ Y1 j = Y j) ∧ (∀ j, k ≤ j → j < n - 1 → X1 j = X (j + 1) ∧ Y1 j = Y (j + 1)) ∧ zPD (dC, dI) classes A [(oc1 fe rk9 wd9 tw9 pa9 pb9 (.ref lo) (.ref lk) (.ref fm)), (oc4 lk kd9 st9 (.ref r) gb9 jt9 (nI (wn + 1))), (oc6 r (.ref rx) (.ref ry) (nI (n - 1)) rg), (oa rx cI cap X1), (oa ry cI cap Y1), (oc6 lo (.ref lx) (.ref ly) (nI (wn + 1)) 0), (oa lx cI cl9 (upd LX wn (X k))), (oa ly cI cl9 (upd LY wn (Y k)))] t.heap) 0 0 := by
  refine zIn (own := "ScaleShop$Feature") (loc := [(0, .ref fe), (1, .int (nI k))]) rfl rfl rfl rfl (fun p e s m below meth c hx hb hr hts hown hlocks hml hnm9 A hA hS hP hD hK hXN Q9 hQ9 ls hl => ?_)
  refine lv_aload_n hx hb dX2_lose_0 rfl (lv_at hl 0 rfl) ?_
  refine va_get (D := (dC, dI)) (ci := 1) (v := .ref lk) (C := RX2) (T := TX2) (N := 8) hx hb hts inX2 hown hK hP 0 rfl rfl 6 (Nat.le_of_ble_eq_true rfl) (hts _ mw_429) (fun _ h9 => h9) rfl dX2_lose_1 ?_
  refine va_get (D := (dC, dI)) (ci := 4) (v := .ref r) (C := RX5) (T := TX5) (N := 6) hx hb hts inX5 hown hK hP 1 rfl rfl 2 (Nat.le_of_ble_eq_true rfl) (hts _ mw_392) (fun _ h9 => h9) rfl dX2_lose_4 ?_
  refine lv_ifnull hx hb dX2_lose_7 ?_
  refine lv_iload_n hx hb dX2_lose_10 rfl (lv_at hl 1 rfl) ?_
  have b9_2 : zlt (k) := show k < 2147483648 by omega
  refine lv_if_lt (tgt := 28) hx hb dX2_lose_11 rfl (fun c_1 => ?_) (fun c_1 => ?_)
  · have c_1 : ((k : Nat) : Int) < 0 := zc_lt (nI_toInt b9_2) rfl c_1
    exfalso; omega
  · have c_1 : 0 ≤ ((k : Nat) : Int) := zc_nlt (nI_toInt b9_2) rfl c_1
    refine lv_iload_n hx hb dX2_lose_14 rfl (lv_at hl 1 rfl) ?_
    refine lv_aload_n hx hb dX2_lose_15 rfl (lv_at hl 0 rfl) ?_
    refine va_get (D := (dC, dI)) (ci := 1) (v := .ref lk) (C := RX2) (T := TX2) (N := 8) hx hb hts inX2 hown hK hP 0 rfl rfl 6 (Nat.le_of_ble_eq_true rfl) (hts _ mw_429) (fun _ h9 => h9) rfl dX2_lose_16 ?_
    refine va_get (D := (dC, dI)) (ci := 4) (v := .ref r) (C := RX5) (T := TX5) (N := 6) hx hb hts inX5 hown hK hP 1 rfl rfl 2 (Nat.le_of_ble_eq_true rfl) (hts _ mw_392) (fun _ h9 => h9) rfl dX2_lose_19 ?_
    refine va_get (D := (dC, dI)) (ci := 6) (v := .int (nI n)) (C := RX7) (T := TX7) (N := 4) hx hb hts inX7 hown hK hP 2 rfl rfl 2 (Nat.le_of_ble_eq_true rfl) (hts _ mw_178) (fun _ h9 => h9) rfl dX2_lose_22 ?_
    have b9_4 : zlt (n) := show n < 2147483648 by omega
    refine lv_icmp_lt (tgt := 29) hx hb dX2_lose_25 rfl (fun c_3 => ?_) (fun c_3 => ?_)
    · have c_3 : ((k : Nat) : Int) < ((n : Nat) : Int) := zc_lt (nI_toInt b9_2) (nI_toInt b9_4) c_3
      refine lv_aload_n hx hb dX2_lose_29 rfl (lv_at hl 0 rfl) ?_
      refine va_get (D := (dC, dI)) (ci := 1) (v := .ref fm) (C := RX2) (T := TX2) (N := 8) hx hb hts inX2 hown hK hP 0 rfl rfl 7 (Nat.le_of_ble_eq_true rfl) (hts _ mw_436) (fun _ h9 => h9) rfl dX2_lose_30 ?_
      refine lv_ifnonnull (tgt := 47) hx hb dX2_lose_33 rfl ?_
      refine lv_aload_n hx hb dX2_lose_47 rfl (lv_at hl 0 rfl) ?_
      refine va_get (D := (dC, dI)) (ci := 1) (v := .ref lo) (C := RX2) (T := TX2) (N := 8) hx hb hts inX2 hown hK hP 0 rfl rfl 5 (Nat.le_of_ble_eq_true rfl) (hts _ mw_426) (fun _ h9 => h9) rfl dX2_lose_48 ?_
      refine lv_aload_n hx hb dX2_lose_51 rfl (lv_at hl 0 rfl) ?_
      refine va_get (D := (dC, dI)) (ci := 1) (v := .ref lk) (C := RX2) (T := TX2) (N := 8) hx hb hts inX2 hown hK hP 0 rfl rfl 6 (Nat.le_of_ble_eq_true rfl) (hts _ mw_429) (fun _ h9 => h9) rfl dX2_lose_52 ?_
      refine va_get (D := (dC, dI)) (ci := 4) (v := .int (nI wn)) (C := RX5) (T := TX5) (N := 6) hx hb hts inX5 hown hK hP 1 rfl rfl 5 (Nat.le_of_ble_eq_true rfl) (hts _ mw_400) (fun _ h9 => h9) rfl dX2_lose_55 ?_
      refine va_put (D := (dC, dI)) (ci := 6) (v := .int (nI wn)) (ty := .int) (C := RX7) (T := TX7) (N := 4) hx hb hts inX7 tyX7 tyX7_ok nmX7 hown hK hP hD hS 5 rfl rfl 2 (by decide) (hts _ mw_178) (fun _ h9 => h9) rfl (by decide +kernel) rfl rfl (Nat.le_of_ble_eq_true rfl) dX2_lose_58 (fun H locs hP hD hS => ?_)
      obtain ⟨hP, hD⟩ := zre (W2 := [_, _, _, _, _, (oc6 lo (.ref lx) (.ref ly) (nI wn) 0), _, _]) hP hD rfl
      refine lv_aload_n hx hb dX2_lose_61 rfl (lv_at hl 0 rfl) ?_
      refine va_get (D := (dC, dI)) (ci := 1) (v := .ref lo) (C := RX2) (T := TX2) (N := 8) hx hb hts inX2 hown hK hP 0 rfl rfl 5 (Nat.le_of_ble_eq_true rfl) (hts _ mw_426) (fun _ h9 => h9) rfl dX2_lose_62 ?_
      refine lv_aload_n hx hb dX2_lose_65 rfl (lv_at hl 0 rfl) ?_
      refine va_get (D := (dC, dI)) (ci := 1) (v := .ref lk) (C := RX2) (T := TX2) (N := 8) hx hb hts inX2 hown hK hP 0 rfl rfl 6 (Nat.le_of_ble_eq_true rfl) (hts _ mw_429) (fun _ h9 => h9) rfl dX2_lose_66 ?_
      refine va_get (D := (dC, dI)) (ci := 4) (v := .ref r) (C := RX5) (T := TX5) (N := 6) hx hb hts inX5 hown hK hP 1 rfl rfl 2 (Nat.le_of_ble_eq_true rfl) (hts _ mw_392) (fun _ h9 => h9) rfl dX2_lose_69 ?_
      refine va_get (D := (dC, dI)) (ci := 6) (v := .ref rx) (C := RX7) (T := TX7) (N := 4) hx hb hts inX7 hown hK hP 2 rfl rfl 0 (Nat.le_of_ble_eq_true rfl) (hts _ mw_165) (fun _ h9 => h9) rfl dX2_lose_72 ?_
      refine lv_iload_n hx hb dX2_lose_75 rfl (lv_at hl 1 rfl) ?_
      have b9_5 : k < cap := by omega
      have b9_6 : zlt (cap) := show cap < 2147483648 by omega
      refine z_iald hx hb hK hP 3 0 rfl rfl (e := k) rfl b9_5 b9_6 dX2_lose_76 ?_
      refine lv_aload_n hx hb dX2_lose_77 rfl (lv_at hl 0 rfl) ?_
      refine va_get (D := (dC, dI)) (ci := 1) (v := .ref lk) (C := RX2) (T := TX2) (N := 8) hx hb hts inX2 hown hK hP 0 rfl rfl 6 (Nat.le_of_ble_eq_true rfl) (hts _ mw_429) (fun _ h9 => h9) rfl dX2_lose_78 ?_
      refine va_get (D := (dC, dI)) (ci := 4) (v := .ref r) (C := RX5) (T := TX5) (N := 6) hx hb hts inX5 hown hK hP 1 rfl rfl 2 (Nat.le_of_ble_eq_true rfl) (hts _ mw_392) (fun _ h9 => h9) rfl dX2_lose_81 ?_
      refine va_get (D := (dC, dI)) (ci := 6) (v := .ref ry) (C := RX7) (T := TX7) (N := 4) hx hb hts inX7 hown hK hP 2 rfl rfl 1 (Nat.le_of_ble_eq_true rfl) (hts _ mw_172) (fun _ h9 => h9) rfl dX2_lose_84 ?_
      refine lv_iload_n hx hb dX2_lose_87 rfl (lv_at hl 1 rfl) ?_
      refine z_iald hx hb hK hP 4 0 rfl rfl (e := k) rfl b9_5 b9_6 dX2_lose_88 ?_
      obtain ⟨hPc, hDc, hFc⟩ := zo_sub (wc := [_, _, _]) hP hD hS hA [5, 6, 7] rfl rfl
      refine zcall (st1 := []) (va_runV (As := [.int (X k), .int (Y k)]) (rest := []) ⟨hx, hb, hml, hown, hts⟩ (k_Row_put l dC dI cI cZ cF H.size lo lx ly wn cl9 LX LY 0 (X k) (Y k) (by first | with_reducible assumption | omega) (by first | with_reducible assumption | omega)) (csV_32 hts rfl rfl ⟨Nat.le_of_ble_eq_true rfl, Nat.le_of_ble_eq_true rfl⟩) (zPV2 (q0 := 0) (ci := 6) hPc hDc hK hXN rfl rfl) rfl rfl hl.1 rfl (lv_room (Nat.le_of_ble_eq_true rfl)) dX2_lose_89 ⟨Nat.le_of_ble_eq_true rfl, Nat.le_of_ble_eq_true rfl⟩) hS hFc hFc rfl (fun t H locs ht hB hk1 hS => ?_)
      obtain ⟨hP1, hD1⟩ := hB
      rw [ht] at hP1
      obtain ⟨hP, hD⟩ := zn (W2 := [_, _, _, _, _, (oc6 lo (.ref lx) (.ref ly) (nI (wn + 1)) 0), (oa lx cI cl9 (upd LX wn (X k))), (oa ly cI cl9 (upd LY wn (Y k)))]) hP hD hk1 hFc hP1 hD1 [5, 6, 7] [true, true, true, true, true] zl_1 [5, 6, 7] (by decide +kernel) rfl rfl rfl rfl rfl
      clear hk1 hPc hDc hFc hP1 hD1 ht
      refine lv_aload_n hx hb dX2_lose_92 rfl (lv_at hl 0 rfl) ?_
      refine va_get (D := (dC, dI)) (ci := 1) (v := .ref lk) (C := RX2) (T := TX2) (N := 8) hx hb hts inX2 hown hK hP 0 rfl rfl 6 (Nat.le_of_ble_eq_true rfl) (hts _ mw_429) (fun _ h9 => h9) rfl dX2_lose_93 ?_
      refine lv_aload_n hx hb dX2_lose_96 rfl (lv_at hl 0 rfl) ?_
      refine va_get (D := (dC, dI)) (ci := 1) (v := .ref lo) (C := RX2) (T := TX2) (N := 8) hx hb hts inX2 hown hK hP 0 rfl rfl 5 (Nat.le_of_ble_eq_true rfl) (hts _ mw_426) (fun _ h9 => h9) rfl dX2_lose_97 ?_
      refine va_get (D := (dC, dI)) (ci := 6) (v := .int (nI (wn + 1))) (C := RX7) (T := TX7) (N := 4) hx hb hts inX7 hown hK hP 5 rfl rfl 2 (Nat.le_of_ble_eq_true rfl) (hts _ mw_178) (fun _ h9 => h9) rfl dX2_lose_100 ?_
      refine va_put (D := (dC, dI)) (ci := 4) (v := .int (nI (wn + 1))) (ty := .int) (C := RX5) (T := TX5) (N := 6) hx hb hts inX5 tyX5 tyX5_ok nmX5 hown hK hP hD hS 1 rfl rfl 5 (by decide) (hts _ mw_400) (fun _ h9 => h9) rfl (by decide +kernel) rfl rfl (Nat.le_of_ble_eq_true rfl) dX2_lose_103 (fun H locs hP hD hS => ?_)
      obtain ⟨hP, hD⟩ := zre (W2 := [_, (oc4 lk kd9 st9 (.ref r) gb9 jt9 (nI (wn + 1))), _, _, _, _, _, _]) hP hD rfl
      refine lv_aload_n hx hb dX2_lose_106 rfl (lv_at hl 0 rfl) ?_
      refine va_get (D := (dC, dI)) (ci := 1) (v := .ref lk) (C := RX2) (T := TX2) (N := 8) hx hb hts inX2 hown hK hP 0 rfl rfl 6 (Nat.le_of_ble_eq_true rfl) (hts _ mw_429) (fun _ h9 => h9) rfl dX2_lose_107 ?_
      refine va_get (D := (dC, dI)) (ci := 4) (v := .ref r) (C := RX5) (T := TX5) (N := 6) hx hb hts inX5 hown hK hP 1 rfl rfl 2 (Nat.le_of_ble_eq_true rfl) (hts _ mw_392) (fun _ h9 => h9) rfl dX2_lose_110 ?_
      refine lv_iload_n hx hb dX2_lose_113 rfl (lv_at hl 1 rfl) ?_
      obtain ⟨hPc, hDc, hFc⟩ := zo_sub (wc := [_, _, _]) hP hD hS hA [2, 3, 4] rfl rfl
      refine zcall (st1 := []) (va_runV (As := [.int (nI k)]) (rest := []) ⟨hx, hb, hml, hown, hts⟩ (k_Row_cut l dC dI cI cZ cF H.size r rx ry n cap X Y rg k (by first | with_reducible assumption | omega) (by first | with_reducible assumption | omega) (by first | with_reducible assumption | omega)) (csV_33 hts rfl rfl ⟨Nat.le_of_ble_eq_true rfl, Nat.le_of_ble_eq_true rfl⟩) (zPV2 (q0 := 0) (ci := 6) hPc hDc hK hXN rfl rfl) rfl rfl hl.1 rfl (lv_room (Nat.le_of_ble_eq_true rfl)) dX2_lose_114 ⟨Nat.le_of_ble_eq_true rfl, Nat.le_of_ble_eq_true rfl⟩) hS hFc hFc rfl (fun t H locs ht hB hk1 hS => ?_)
      obtain ⟨X1, Y1, hlo9, hhi9, hP1, hD1⟩ := hB
      rw [ht] at hP1
      obtain ⟨hP, hD⟩ := zn (W2 := [_, _, (oc6 r (.ref rx) (.ref ry) (nI (n - 1)) rg), (oa rx cI cap X1), (oa ry cI cap Y1), _, _, _]) hP hD hk1 hFc hP1 hD1 [2, 3, 4] zl_2 zl_2 [2, 3, 4] (by decide +kernel) rfl rfl rfl rfl rfl
      clear hk1 hPc hDc hFc hP1 hD1 ht
      obtain ⟨hP9, hD9⟩ := zu_sub (wc := [_, _, _, _, _, _, _, _]) hP hD [true, true, true, true, true, true, true, true] rfl rfl
      rw [hQ9]
      exact W.vret hx hb hr (fun t ht hW => ⟨⟨rfl, X1, Y1, (hlo9), (hhi9), by rw [ht]; exact hP9, hD9⟩, hS.F ht⟩) hS.2.2 dX2_lose_117
    · have c_3 : ((n : Nat) : Int) ≤ ((k : Nat) : Int) := zc_nlt (nI_toInt b9_2) (nI_toInt b9_4) c_3
      exfalso; omega
set_option maxHeartbeats 4000000 in
set_option maxRecDepth 100000 in
theorem k_Feature_lose (l : Launch) (dC : Nat → ClassId) (dI : Nat → Nat → Nat) (cI cZ cF : ClassId) (sz : Nat) (fe : Nat) (lo : Nat) (rk9 : Int32) (wd9 : Int32) (tw9 : Int32) (pa9 : Int32) (pb9 : Int32) (lk : Nat) (kd9 : Int32) (st9 : Int32) (gb9 : Int32) (jt9 : Int32) (k : Nat) (wn : Nat) (r : Nat) (rx : Nat) (ry : Nat) (n : Nat) (cap : Nat) (X : Nat → Int32) (Y : Nat → Int32) (rg : Int32) (lx : Nat) (ly : Nat) (ln9 : Nat) (cl9 : Nat) (LX : Nat → Int32) (LY : Nat → Int32) (hkn : k < n) (hn : n ≤ cap) (hcap : cap ≤ 1000) (hwn : wn < cl9) (hcl : cl9 ≤ 1000) (hrg : rg = 0 ∨ rg = 1) : zM l yX2_lose cX2_lose 2 none ({ frames := 5, cells := 4, slots := 2 * n + 10, locals := 95 } : Room) [.ref fe, .int (nI k)] (dC, dI) (zTy cI cZ cF) [(oc1 fe rk9 wd9 tw9 pa9 pb9 (.ref lo) (.ref lk) .null), (oc4 lk kd9 st9 (.ref r) gb9 jt9 (nI wn)), (oc6 r (.ref rx) (.ref ry) (nI n) rg), (oa rx cI cap X), (oa ry cI cap Y), (oc6 lo (.ref lx) (.ref ly) (nI ln9) 0), (oa lx cI cl9 LX), (oa ly cI cl9 LY)] sz none (fun A t => ∃ (q : Nat), ∃ (w : Nat), ∃ (wx : Nat), ∃ (wy : Nat), ∃ (X2 : Nat → Int32), ∃ (Y2 : Nat → Int32), (∀ j, j < k → X2 j = X j ∧ Y2 j = Y j) ∧ (∀ j, k ≤ j → j < n - 1 → X2 j = X (j + 1) ∧ Y2 j = Y (j + 1)) ∧ zPD (dC, dI) classes A [(oc1 fe rk9 wd9 tw9 pa9 pb9 (.ref lo) (.ref q) (.ref lk)), (oc4 lk kd9 st9 (.ref r) gb9 jt9 (nI wn)), (oc4 q kd9 st9 (.ref w) gb9 jt9 (nI (wn + 1))), (oc6 r (.ref rx) (.ref ry) (nI n) rg), (oa rx cI cap X), (oa ry cI cap Y), (oc6 w (.ref wx) (.ref wy) (nI (n - 1)) rg), (oa wx cI n X2), (oa wy cI n Y2), (oc6 lo (.ref lx) (.ref ly) (nI (wn + 1)) 0), (oa lx cI cl9 (upd LX wn (X k))), (oa ly cI cl9 (upd LY wn (Y k)))] t.heap) 4 (2 * n + 10) := by
  refine zIn (own := "ScaleShop$Feature") (loc := [(0, .ref fe), (1, .int (nI k))]) rfl rfl rfl rfl (fun p e s m below meth c hx hb hr hts hown hlocks hml hnm9 A hA hS hP hD hK hXN Q9 hQ9 ls hl => ?_)
  refine lv_aload_n hx hb dX2_lose_0 rfl (lv_at hl 0 rfl) ?_
  refine va_get (D := (dC, dI)) (ci := 1) (v := .ref lk) (C := RX2) (T := TX2) (N := 8) hx hb hts inX2 hown hK hP 0 rfl rfl 6 (Nat.le_of_ble_eq_true rfl) (hts _ mw_429) (fun _ h9 => h9) rfl dX2_lose_1 ?_
  refine va_get (D := (dC, dI)) (ci := 4) (v := .ref r) (C := RX5) (T := TX5) (N := 6) hx hb hts inX5 hown hK hP 1 rfl rfl 2 (Nat.le_of_ble_eq_true rfl) (hts _ mw_392) (fun _ h9 => h9) rfl dX2_lose_4 ?_
  refine lv_ifnull hx hb dX2_lose_7 ?_
  refine lv_iload_n hx hb dX2_lose_10 rfl (lv_at hl 1 rfl) ?_
  have b9_2 : zlt (k) := show k < 2147483648 by omega
  refine lv_if_lt (tgt := 28) hx hb dX2_lose_11 rfl (fun c_1 => ?_) (fun c_1 => ?_)
  · have c_1 : ((k : Nat) : Int) < 0 := zc_lt (nI_toInt b9_2) rfl c_1
    exfalso; omega
  · have c_1 : 0 ≤ ((k : Nat) : Int) := zc_nlt (nI_toInt b9_2) rfl c_1
    refine lv_iload_n hx hb dX2_lose_14 rfl (lv_at hl 1 rfl) ?_
    refine lv_aload_n hx hb dX2_lose_15 rfl (lv_at hl 0 rfl) ?_
    refine va_get (D := (dC, dI)) (ci := 1) (v := .ref lk) (C := RX2) (T := TX2) (N := 8) hx hb hts inX2 hown hK hP 0 rfl rfl 6 (Nat.le_of_ble_eq_true rfl) (hts _ mw_429) (fun _ h9 => h9) rfl dX2_lose_16 ?_
    refine va_get (D := (dC, dI)) (ci := 4) (v := .ref r) (C := RX5) (T := TX5) (N := 6) hx hb hts inX5 hown hK hP 1 rfl rfl 2 (Nat.le_of_ble_eq_true rfl) (hts _ mw_392) (fun _ h9 => h9) rfl dX2_lose_19 ?_
    refine va_get (D := (dC, dI)) (ci := 6) (v := .int (nI n)) (C := RX7) (T := TX7) (N := 4) hx hb hts inX7 hown hK hP 2 rfl rfl 2 (Nat.le_of_ble_eq_true rfl) (hts _ mw_178) (fun _ h9 => h9) rfl dX2_lose_22 ?_
    have b9_4 : zlt (n) := show n < 2147483648 by omega
    refine lv_icmp_lt (tgt := 29) hx hb dX2_lose_25 rfl (fun c_3 => ?_) (fun c_3 => ?_)
    · have c_3 : ((k : Nat) : Int) < ((n : Nat) : Int) := zc_lt (nI_toInt b9_2) (nI_toInt b9_4) c_3
      refine lv_aload_n hx hb dX2_lose_29 rfl (lv_at hl 0 rfl) ?_
      refine va_get (D := (dC, dI)) (ci := 1) (v := .null) (C := RX2) (T := TX2) (N := 8) hx hb hts inX2 hown hK hP 0 rfl rfl 7 (Nat.le_of_ble_eq_true rfl) (hts _ mw_436) (fun _ h9 => h9) rfl dX2_lose_30 ?_
      refine lv_ifnonnullN hx hb dX2_lose_33 ?_
      refine lv_aload_n hx hb dX2_lose_36 rfl (lv_at hl 0 rfl) ?_
      refine lv_aload_n hx hb dX2_lose_37 rfl (lv_at hl 0 rfl) ?_
      refine va_get (D := (dC, dI)) (ci := 1) (v := .ref lk) (C := RX2) (T := TX2) (N := 8) hx hb hts inX2 hown hK hP 0 rfl rfl 6 (Nat.le_of_ble_eq_true rfl) (hts _ mw_429) (fun _ h9 => h9) rfl dX2_lose_38 ?_
      refine va_get (D := (dC, dI)) (ci := 4) (v := .ref r) (C := RX5) (T := TX5) (N := 6) hx hb hts inX5 hown hK hP 1 rfl rfl 2 (Nat.le_of_ble_eq_true rfl) (hts _ mw_392) (fun _ h9 => h9) rfl dX2_lose_41 ?_
      obtain ⟨hPc, hDc, hFc⟩ := zo_sub (wc := [_, _, _, _, _]) hP hD hS hA [0, 1, 2, 3, 4] (by decide +kernel) rfl
      refine zcall (st1 := []) (va_runV (As := [.ref r]) (rest := []) ⟨hx, hb, hml, hown, hts⟩ (k_Feature_reshape_o l dC dI cI cZ cF s.heap.size fe lo rk9 wd9 tw9 pa9 pb9 lk kd9 st9 gb9 jt9 (nI wn) r rx ry n cap X Y rg (by first | with_reducible assumption | omega) (by first | with_reducible assumption | omega) (by first | with_reducible assumption | assumption)) (csV_34 hts rfl rfl ⟨Nat.le_of_ble_eq_true rfl, Nat.le_of_ble_eq_true rfl⟩) (zPV2 (q0 := 0) (ci := 1) hPc hDc hK hXN rfl rfl) rfl rfl hl.1 rfl (lv_room (Nat.le_of_ble_eq_true rfl)) dX2_lose_44 ⟨show (0 + 4) ≤ 4 by omega, show (0 + (2 * n + 10)) ≤ 2 * n + 10 by omega⟩) hS hFc hFc rfl (fun t H locs ht hB hk1 hS => ?_)
      refine ex6 hB (fun q w wx wy X1 Y1 hB0 => ?_)
      clear hB
      obtain ⟨hall, hP1, hD1⟩ := hB0
      rw [ht] at hP1
      obtain ⟨hP, hD⟩ := zn (W2 := [_, _, _, (oc1 fe rk9 wd9 tw9 pa9 pb9 (.ref lo) (.ref q) (.ref lk)), (oc4 lk kd9 st9 (.ref r) gb9 jt9 (nI wn)), (oc4 q kd9 st9 (.ref w) gb9 jt9 (nI wn)), (oc6 r (.ref rx) (.ref ry) (nI n) rg), (oa rx cI cap X), (oa ry cI cap Y), (oc6 w (.ref wx) (.ref wy) (nI n) rg), (oa wx cI n X1), (oa wy cI n Y1)]) hP hD hk1 hFc hP1 hD1 [0, 1, 2, 3, 4] zl_3 zl_4 zl_5 (by decide +kernel) rfl rfl rfl rfl rfl
      clear hk1 hPc hDc hFc hP1 hD1 ht
      refine lv_aload_n hx hb dX2_lose_47 rfl (lv_at hl 0 rfl) ?_
      refine va_get (D := (dC, dI)) (ci := 1) (v := .ref lo) (C := RX2) (T := TX2) (N := 8) hx hb hts inX2 hown hK hP 3 rfl rfl 5 (Nat.le_of_ble_eq_true rfl) (hts _ mw_426) (fun _ h9 => h9) rfl dX2_lose_48 ?_
      refine lv_aload_n hx hb dX2_lose_51 rfl (lv_at hl 0 rfl) ?_
      refine va_get (D := (dC, dI)) (ci := 1) (v := .ref q) (C := RX2) (T := TX2) (N := 8) hx hb hts inX2 hown hK hP 3 rfl rfl 6 (Nat.le_of_ble_eq_true rfl) (hts _ mw_429) (fun _ h9 => h9) rfl dX2_lose_52 ?_
      refine va_get (D := (dC, dI)) (ci := 4) (v := .int (nI wn)) (C := RX5) (T := TX5) (N := 6) hx hb hts inX5 hown hK hP 5 rfl rfl 5 (Nat.le_of_ble_eq_true rfl) (hts _ mw_400) (fun _ h9 => h9) rfl dX2_lose_55 ?_
      refine va_put (D := (dC, dI)) (ci := 6) (v := .int (nI wn)) (ty := .int) (C := RX7) (T := TX7) (N := 4) hx hb hts inX7 tyX7 tyX7_ok nmX7 hown hK hP hD hS 0 rfl rfl 2 (by decide) (hts _ mw_178) (fun _ h9 => h9) rfl (by decide +kernel) rfl rfl (Nat.le_of_ble_eq_true rfl) dX2_lose_58 (fun H locs hP hD hS => ?_)
      obtain ⟨hP, hD⟩ := zre (W2 := [(oc6 lo (.ref lx) (.ref ly) (nI wn) 0), _, _, _, _, _, _, _, _, _, _, _]) hP hD rfl
      refine lv_aload_n hx hb dX2_lose_61 rfl (lv_at hl 0 rfl) ?_
      refine va_get (D := (dC, dI)) (ci := 1) (v := .ref lo) (C := RX2) (T := TX2) (N := 8) hx hb hts inX2 hown hK hP 3 rfl rfl 5 (Nat.le_of_ble_eq_true rfl) (hts _ mw_426) (fun _ h9 => h9) rfl dX2_lose_62 ?_
      refine lv_aload_n hx hb dX2_lose_65 rfl (lv_at hl 0 rfl) ?_
      refine va_get (D := (dC, dI)) (ci := 1) (v := .ref q) (C := RX2) (T := TX2) (N := 8) hx hb hts inX2 hown hK hP 3 rfl rfl 6 (Nat.le_of_ble_eq_true rfl) (hts _ mw_429) (fun _ h9 => h9) rfl dX2_lose_66 ?_
      refine va_get (D := (dC, dI)) (ci := 4) (v := .ref w) (C := RX5) (T := TX5) (N := 6) hx hb hts inX5 hown hK hP 5 rfl rfl 2 (Nat.le_of_ble_eq_true rfl) (hts _ mw_392) (fun _ h9 => h9) rfl dX2_lose_69 ?_
      refine va_get (D := (dC, dI)) (ci := 6) (v := .ref wx) (C := RX7) (T := TX7) (N := 4) hx hb hts inX7 hown hK hP 9 rfl rfl 0 (Nat.le_of_ble_eq_true rfl) (hts _ mw_165) (fun _ h9 => h9) rfl dX2_lose_72 ?_
      refine lv_iload_n hx hb dX2_lose_75 rfl (lv_at hl 1 rfl) ?_
      have b9_5 : k < n := by omega
      refine z_iald hx hb hK hP 10 0 rfl rfl (e := k) rfl b9_5 b9_4 dX2_lose_76 ?_
      refine zz_i (v := X k) ((hall k (by omega)).1) ?_
      refine lv_aload_n hx hb dX2_lose_77 rfl (lv_at hl 0 rfl) ?_
      refine va_get (D := (dC, dI)) (ci := 1) (v := .ref q) (C := RX2) (T := TX2) (N := 8) hx hb hts inX2 hown hK hP 3 rfl rfl 6 (Nat.le_of_ble_eq_true rfl) (hts _ mw_429) (fun _ h9 => h9) rfl dX2_lose_78 ?_
      refine va_get (D := (dC, dI)) (ci := 4) (v := .ref w) (C := RX5) (T := TX5) (N := 6) hx hb hts inX5 hown hK hP 5 rfl rfl 2 (Nat.le_of_ble_eq_true rfl) (hts _ mw_392) (fun _ h9 => h9) rfl dX2_lose_81 ?_
      refine va_get (D := (dC, dI)) (ci := 6) (v := .ref wy) (C := RX7) (T := TX7) (N := 4) hx hb hts inX7 hown hK hP 9 rfl rfl 1 (Nat.le_of_ble_eq_true rfl) (hts _ mw_172) (fun _ h9 => h9) rfl dX2_lose_84 ?_
      refine lv_iload_n hx hb dX2_lose_87 rfl (lv_at hl 1 rfl) ?_
      refine z_iald hx hb hK hP 11 0 rfl rfl (e := k) rfl b9_5 b9_4 dX2_lose_88 ?_
      refine zz_i (v := Y k) ((hall k (by omega)).2) ?_
      obtain ⟨hPc, hDc, hFc⟩ := zo_sub (wc := [_, _, _]) hP hD hS hA [0, 1, 2] rfl rfl
      refine zcall (st1 := []) (va_runV (As := [.int (X k), .int (Y k)]) (rest := []) ⟨hx, hb, hml, hown, hts⟩ (k_Row_put l dC dI cI cZ cF H.size lo lx ly wn cl9 LX LY 0 (X k) (Y k) (by first | with_reducible assumption | omega) (by first | with_reducible assumption | omega)) (csV_32 hts rfl rfl ⟨Nat.le_of_ble_eq_true rfl, Nat.le_of_ble_eq_true rfl⟩) (zPV2 (q0 := 0) (ci := 6) hPc hDc hK hXN rfl rfl) rfl rfl hl.1 rfl (lv_room (Nat.le_of_ble_eq_true rfl)) dX2_lose_89 ⟨show (0 + 4) ≤ 4 by omega, show (0 + (2 * n + 10)) ≤ 2 * n + 10 by omega⟩) hS hFc hFc rfl (fun t H locs ht hB hk1 hS => ?_)
      obtain ⟨hP1, hD1⟩ := hB
      rw [ht] at hP1
      obtain ⟨hP, hD⟩ := zn (W2 := [(oc6 lo (.ref lx) (.ref ly) (nI (wn + 1)) 0), (oa lx cI cl9 (upd LX wn (X k))), (oa ly cI cl9 (upd LY wn (Y k))), _, _, _, _, _, _, _, _, _]) hP hD hk1 hFc hP1 hD1 [0, 1, 2] zl_6 zl_6 [0, 1, 2] (by decide +kernel) rfl rfl rfl rfl rfl
      clear hk1 hPc hDc hFc hP1 hD1 ht
      refine lv_aload_n hx hb dX2_lose_92 rfl (lv_at hl 0 rfl) ?_
      refine va_get (D := (dC, dI)) (ci := 1) (v := .ref q) (C := RX2) (T := TX2) (N := 8) hx hb hts inX2 hown hK hP 3 rfl rfl 6 (Nat.le_of_ble_eq_true rfl) (hts _ mw_429) (fun _ h9 => h9) rfl dX2_lose_93 ?_
      refine lv_aload_n hx hb dX2_lose_96 rfl (lv_at hl 0 rfl) ?_
      refine va_get (D := (dC, dI)) (ci := 1) (v := .ref lo) (C := RX2) (T := TX2) (N := 8) hx hb hts inX2 hown hK hP 3 rfl rfl 5 (Nat.le_of_ble_eq_true rfl) (hts _ mw_426) (fun _ h9 => h9) rfl dX2_lose_97 ?_
      refine va_get (D := (dC, dI)) (ci := 6) (v := .int (nI (wn + 1))) (C := RX7) (T := TX7) (N := 4) hx hb hts inX7 hown hK hP 0 rfl rfl 2 (Nat.le_of_ble_eq_true rfl) (hts _ mw_178) (fun _ h9 => h9) rfl dX2_lose_100 ?_
      refine va_put (D := (dC, dI)) (ci := 4) (v := .int (nI (wn + 1))) (ty := .int) (C := RX5) (T := TX5) (N := 6) hx hb hts inX5 tyX5 tyX5_ok nmX5 hown hK hP hD hS 5 rfl rfl 5 (by decide) (hts _ mw_400) (fun _ h9 => h9) rfl (by decide +kernel) rfl rfl (Nat.le_of_ble_eq_true rfl) dX2_lose_103 (fun H locs hP hD hS => ?_)
      obtain ⟨hP, hD⟩ := zre (W2 := [_, _, _, _, _, (oc4 q kd9 st9 (.ref w) gb9 jt9 (nI (wn + 1))), _, _, _, _, _, _]) hP hD rfl
      refine lv_aload_n hx hb dX2_lose_106 rfl (lv_at hl 0 rfl) ?_
      refine va_get (D := (dC, dI)) (ci := 1) (v := .ref q) (C := RX2) (T := TX2) (N := 8) hx hb hts inX2 hown hK hP 3 rfl rfl 6 (Nat.le_of_ble_eq_true rfl) (hts _ mw_429) (fun _ h9 => h9) rfl dX2_lose_107 ?_
      refine va_get (D := (dC, dI)) (ci := 4) (v := .ref w) (C := RX5) (T := TX5) (N := 6) hx hb hts inX5 hown hK hP 5 rfl rfl 2 (Nat.le_of_ble_eq_true rfl) (hts _ mw_392) (fun _ h9 => h9) rfl dX2_lose_110 ?_
      refine lv_iload_n hx hb dX2_lose_113 rfl (lv_at hl 1 rfl) ?_
      obtain ⟨hPc, hDc, hFc⟩ := zo_sub (wc := [_, _, _]) hP hD hS hA [9, 10, 11] rfl rfl
      refine zcall (st1 := []) (va_runV (As := [.int (nI k)]) (rest := []) ⟨hx, hb, hml, hown, hts⟩ (k_Row_cut l dC dI cI cZ cF H.size w wx wy n n X1 Y1 rg k (by first | with_reducible assumption | omega) (by first | with_reducible assumption | omega) (by first | with_reducible assumption | omega)) (csV_33 hts rfl rfl ⟨Nat.le_of_ble_eq_true rfl, Nat.le_of_ble_eq_true rfl⟩) (zPV2 (q0 := 0) (ci := 6) hPc hDc hK hXN rfl rfl) rfl rfl hl.1 rfl (lv_room (Nat.le_of_ble_eq_true rfl)) dX2_lose_114 ⟨show (0 + 4) ≤ 4 by omega, show (0 + (2 * n + 10)) ≤ 2 * n + 10 by omega⟩) hS hFc hFc rfl (fun t H locs ht hB hk1 hS => ?_)
      obtain ⟨X2, Y2, h1, h2, hP1, hD1⟩ := hB
      rw [ht] at hP1
      obtain ⟨hP, hD⟩ := zn (W2 := [_, _, _, _, _, _, _, _, _, (oc6 w (.ref wx) (.ref wy) (nI (n - 1)) rg), (oa wx cI n X2), (oa wy cI n Y2)]) hP hD hk1 hFc hP1 hD1 [9, 10, 11] zl_7 zl_8 [9, 10, 11] (by decide +kernel) rfl rfl rfl rfl rfl
      clear hk1 hPc hDc hFc hP1 hD1 ht
      obtain ⟨hP9, hD9⟩ := zq_sub (wc := [_, _, _, _, _, _, _, _, _, _, _, _]) hP hD [3, 4, 5, 6, 7, 8, 9, 10, 11, 0, 1, 2] rfl rfl
      refine W.widen (k := 4) (n := 2 * n + 10) (by omega) (by omega) ?_
      rw [hQ9]
      exact W.vret hx hb hr (fun t ht hW => ⟨⟨rfl, q, w, wx, wy, X2, Y2, (fun j hj => by rw [(h1 j hj).1, (h1 j hj).2]; exact hall j (by omega)), (fun j h3 h4 => by rw [(h2 j h3 h4).1, (h2 j h3 h4).2]; exact hall (j + 1) (by omega)), by rw [ht]; exact hP9, hD9⟩, hS.F ht⟩) hS.2.2 dX2_lose_117
    · have c_3 : ((n : Nat) : Int) ≤ ((k : Nat) : Int) := zc_nlt (nI_toInt b9_2) (nI_toInt b9_4) c_3
      exfalso; omega
set_option maxHeartbeats 4000000 in
set_option maxRecDepth 100000 in
theorem k_Change_init_n (l : Launch) (dC : Nat → ClassId) (dI : Nat → Nat → Nat) (cI cZ cF : ClassId) (sz : Nat) (ch : Nat) (lk : Nat) (fm : Nat) (fe : Nat) (lo : Nat) (rk9 : Int32) (wd9 : Int32) (tw9 : Int32) (pa9 : Int32) (pb9 : Int32) : zM l yX1_init cX1_init 3 none ({ frames := 1, cells := 0, slots := 0, locals := 12 } : Room) [.ref ch, .ref fe, .null] (dC, dI) (zTy cI cZ cF) [(oc12 ch .null .null .null .null), (oc1 fe rk9 wd9 tw9 pa9 pb9 (.ref lo) (.ref lk) (.ref fm))] sz none (fun A t => zPD (dC, dI) classes A [(oc12 ch (.ref fe) (.ref fm) (.ref lk) .null), (oc1 fe rk9 wd9 tw9 pa9 pb9 (.ref lo) (.ref lk) (.ref fm))] t.heap) 0 0 := by
  refine zIn (own := "ScaleShop$Change") (loc := [(0, .ref ch), (1, .ref fe), (2, .null)]) rfl rfl rfl rfl (fun p e s m below meth c hx hb hr hts hown hlocks hml hnm9 A hA hS hP hD hK hXN Q9 hQ9 ls hl => ?_)
  have hin : meth.name = "<init>" := hnm9
  refine lv_aload_n hx hb dX1_init_0 rfl (lv_at hl 0 rfl) ?_
  refine W.objInit hx hb hown (hts _ mw_789) (hts _ mw_126) (hts _ mw_objcode) rfl (by rw [hml]; exact hl.1) rfl dX1_init_1 (Nat.le_of_ble_eq_true rfl) (Nat.le_of_ble_eq_true rfl) ?_
  refine W.eq (g2 := F0 m 4 ls []) rfl ?_
  refine lv_aload_n hx hb dX1_init_4 rfl (lv_at hl 0 rfl) ?_
  refine lv_aload_n hx hb dX1_init_5 rfl (lv_at hl 1 rfl) ?_
  refine va_putF (D := (dC, dI)) (ci := 12) (v := .ref fe) (ty := .object "ScaleShop$Feature") (C := RX1) (T := TX1) (N := 4) hx hb hts inX1 tyX1 tyX1_ok nmX1 hown hK hP hD hS 0 rfl rfl 0 (by decide) (hts _ mw_790) (fun _ h9 => h9) rfl hin rfl (by decide +kernel) rfl rfl (Nat.le_of_ble_eq_true rfl) dX1_init_6 (fun H locs hP hD hS => ?_)
  obtain ⟨hP, hD⟩ := zre (W2 := [(oc12 ch (.ref fe) .null .null .null), _]) hP hD rfl
  refine lv_aload_n hx hb dX1_init_9 rfl (lv_at hl 0 rfl) ?_
  refine lv_aload_n hx hb dX1_init_10 rfl (lv_at hl 1 rfl) ?_
  refine va_get (D := (dC, dI)) (ci := 1) (v := .ref fm) (C := RX2) (T := TX2) (N := 8) hx hb hts inX2 hown hK hP 1 rfl rfl 7 (Nat.le_of_ble_eq_true rfl) (hts _ mw_435) (fun _ h9 => h9) rfl dX1_init_11 ?_
  refine va_putF (D := (dC, dI)) (ci := 12) (v := .ref fm) (ty := .object "ScaleShop$Look") (C := RX1) (T := TX1) (N := 4) hx hb hts inX1 tyX1 tyX1_ok nmX1 hown hK hP hD hS 0 rfl rfl 1 (by decide) (hts _ mw_792) (fun _ h9 => h9) rfl hin rfl (by decide +kernel) rfl rfl (Nat.le_of_ble_eq_true rfl) dX1_init_14 (fun H locs hP hD hS => ?_)
  obtain ⟨hP, hD⟩ := zre (W2 := [(oc12 ch (.ref fe) (.ref fm) .null .null), _]) hP hD rfl
  refine lv_aload_n hx hb dX1_init_17 rfl (lv_at hl 0 rfl) ?_
  refine lv_aload_n hx hb dX1_init_18 rfl (lv_at hl 1 rfl) ?_
  refine va_get (D := (dC, dI)) (ci := 1) (v := .ref lk) (C := RX2) (T := TX2) (N := 8) hx hb hts inX2 hown hK hP 1 rfl rfl 6 (Nat.le_of_ble_eq_true rfl) (hts _ mw_428) (fun _ h9 => h9) rfl dX1_init_19 ?_
  refine va_putF (D := (dC, dI)) (ci := 12) (v := .ref lk) (ty := .object "ScaleShop$Look") (C := RX1) (T := TX1) (N := 4) hx hb hts inX1 tyX1 tyX1_ok nmX1 hown hK hP hD hS 0 rfl rfl 2 (by decide) (hts _ mw_794) (fun _ h9 => h9) rfl hin rfl (by decide +kernel) rfl rfl (Nat.le_of_ble_eq_true rfl) dX1_init_22 (fun H locs hP hD hS => ?_)
  obtain ⟨hP, hD⟩ := zre (W2 := [(oc12 ch (.ref fe) (.ref fm) (.ref lk) .null), _]) hP hD rfl
  refine lv_aload_n hx hb dX1_init_25 rfl (lv_at hl 0 rfl) ?_
  refine lv_aload_nN hx hb dX1_init_26 rfl (lv_at hl 2 rfl) ?_
  refine va_putF (D := (dC, dI)) (ci := 12) (v := .null) (ty := .object "ScaleShop$Change") (C := RX1) (T := TX1) (N := 4) hx hb hts inX1 tyX1 tyX1_ok nmX1 hown hK hP hD hS 0 rfl rfl 3 (by decide) (hts _ mw_796) (fun _ h9 => h9) rfl hin rfl (by decide +kernel) rfl rfl (Nat.le_of_ble_eq_true rfl) dX1_init_27 (fun H locs hP hD hS => ?_)
  obtain ⟨hP, hD⟩ := zre (W2 := [(oc12 ch (.ref fe) (.ref fm) (.ref lk) .null), _]) hP hD rfl
  obtain ⟨hP9, hD9⟩ := zu_sub (wc := [_, _]) hP hD [true, true] rfl rfl
  rw [hQ9]
  exact W.vret hx hb hr (fun t ht hW => ⟨⟨rfl, by rw [ht]; exact hP9, hD9⟩, hS.F ht⟩) hS.2.2 dX1_init_30
set_option maxHeartbeats 4000000 in
set_option maxRecDepth 100000 in
theorem k_Change_init (l : Launch) (dC : Nat → ClassId) (dI : Nat → Nat → Nat) (cI cZ cF : ClassId) (sz : Nat) (ch : Nat) (nx : Nat) (lk : Nat) (fm : Nat) (fe : Nat) (lo : Nat) (rk9 : Int32) (wd9 : Int32) (tw9 : Int32) (pa9 : Int32) (pb9 : Int32) : zM l yX1_init cX1_init 3 none ({ frames := 1, cells := 0, slots := 0, locals := 12 } : Room) [.ref ch, .ref fe, .ref nx] (dC, dI) (zTy cI cZ cF) [(oc12 ch .null .null .null .null), (oc1 fe rk9 wd9 tw9 pa9 pb9 (.ref lo) (.ref lk) (.ref fm))] sz none (fun A t => zPD (dC, dI) classes A [(oc12 ch (.ref fe) (.ref fm) (.ref lk) (.ref nx)), (oc1 fe rk9 wd9 tw9 pa9 pb9 (.ref lo) (.ref lk) (.ref fm))] t.heap) 0 0 := by
  refine zIn (own := "ScaleShop$Change") (loc := [(0, .ref ch), (1, .ref fe), (2, .ref nx)]) rfl rfl rfl rfl (fun p e s m below meth c hx hb hr hts hown hlocks hml hnm9 A hA hS hP hD hK hXN Q9 hQ9 ls hl => ?_)
  have hin : meth.name = "<init>" := hnm9
  refine lv_aload_n hx hb dX1_init_0 rfl (lv_at hl 0 rfl) ?_
  refine W.objInit hx hb hown (hts _ mw_789) (hts _ mw_126) (hts _ mw_objcode) rfl (by rw [hml]; exact hl.1) rfl dX1_init_1 (Nat.le_of_ble_eq_true rfl) (Nat.le_of_ble_eq_true rfl) ?_
  refine W.eq (g2 := F0 m 4 ls []) rfl ?_
  refine lv_aload_n hx hb dX1_init_4 rfl (lv_at hl 0 rfl) ?_
  refine lv_aload_n hx hb dX1_init_5 rfl (lv_at hl 1 rfl) ?_
  refine va_putF (D := (dC, dI)) (ci := 12) (v := .ref fe) (ty := .object "ScaleShop$Feature") (C := RX1) (T := TX1) (N := 4) hx hb hts inX1 tyX1 tyX1_ok nmX1 hown hK hP hD hS 0 rfl rfl 0 (by decide) (hts _ mw_790) (fun _ h9 => h9) rfl hin rfl (by decide +kernel) rfl rfl (Nat.le_of_ble_eq_true rfl) dX1_init_6 (fun H locs hP hD hS => ?_)
  obtain ⟨hP, hD⟩ := zre (W2 := [(oc12 ch (.ref fe) .null .null .null), _]) hP hD rfl
  refine lv_aload_n hx hb dX1_init_9 rfl (lv_at hl 0 rfl) ?_
  refine lv_aload_n hx hb dX1_init_10 rfl (lv_at hl 1 rfl) ?_
  refine va_get (D := (dC, dI)) (ci := 1) (v := .ref fm) (C := RX2) (T := TX2) (N := 8) hx hb hts inX2 hown hK hP 1 rfl rfl 7 (Nat.le_of_ble_eq_true rfl) (hts _ mw_435) (fun _ h9 => h9) rfl dX1_init_11 ?_
  refine va_putF (D := (dC, dI)) (ci := 12) (v := .ref fm) (ty := .object "ScaleShop$Look") (C := RX1) (T := TX1) (N := 4) hx hb hts inX1 tyX1 tyX1_ok nmX1 hown hK hP hD hS 0 rfl rfl 1 (by decide) (hts _ mw_792) (fun _ h9 => h9) rfl hin rfl (by decide +kernel) rfl rfl (Nat.le_of_ble_eq_true rfl) dX1_init_14 (fun H locs hP hD hS => ?_)
  obtain ⟨hP, hD⟩ := zre (W2 := [(oc12 ch (.ref fe) (.ref fm) .null .null), _]) hP hD rfl
  refine lv_aload_n hx hb dX1_init_17 rfl (lv_at hl 0 rfl) ?_
  refine lv_aload_n hx hb dX1_init_18 rfl (lv_at hl 1 rfl) ?_
  refine va_get (D := (dC, dI)) (ci := 1) (v := .ref lk) (C := RX2) (T := TX2) (N := 8) hx hb hts inX2 hown hK hP 1 rfl rfl 6 (Nat.le_of_ble_eq_true rfl) (hts _ mw_428) (fun _ h9 => h9) rfl dX1_init_19 ?_
  refine va_putF (D := (dC, dI)) (ci := 12) (v := .ref lk) (ty := .object "ScaleShop$Look") (C := RX1) (T := TX1) (N := 4) hx hb hts inX1 tyX1 tyX1_ok nmX1 hown hK hP hD hS 0 rfl rfl 2 (by decide) (hts _ mw_794) (fun _ h9 => h9) rfl hin rfl (by decide +kernel) rfl rfl (Nat.le_of_ble_eq_true rfl) dX1_init_22 (fun H locs hP hD hS => ?_)
  obtain ⟨hP, hD⟩ := zre (W2 := [(oc12 ch (.ref fe) (.ref fm) (.ref lk) .null), _]) hP hD rfl
  refine lv_aload_n hx hb dX1_init_25 rfl (lv_at hl 0 rfl) ?_
  refine lv_aload_n hx hb dX1_init_26 rfl (lv_at hl 2 rfl) ?_
  refine va_putF (D := (dC, dI)) (ci := 12) (v := .ref nx) (ty := .object "ScaleShop$Change") (C := RX1) (T := TX1) (N := 4) hx hb hts inX1 tyX1 tyX1_ok nmX1 hown hK hP hD hS 0 rfl rfl 3 (by decide) (hts _ mw_796) (fun _ h9 => h9) rfl hin rfl (by decide +kernel) rfl rfl (Nat.le_of_ble_eq_true rfl) dX1_init_27 (fun H locs hP hD hS => ?_)
  obtain ⟨hP, hD⟩ := zre (W2 := [(oc12 ch (.ref fe) (.ref fm) (.ref lk) (.ref nx)), _]) hP hD rfl
  obtain ⟨hP9, hD9⟩ := zu_sub (wc := [_, _]) hP hD [true, true] rfl rfl
  rw [hQ9]
  exact W.vret hx hb hr (fun t ht hW => ⟨⟨rfl, by rw [ht]; exact hP9, hD9⟩, hS.F ht⟩) hS.2.2 dX1_init_30
set_option maxHeartbeats 4000000 in
set_option maxRecDepth 100000 in
theorem k_Step_init_n (l : Launch) (dC : Nat → ClassId) (dI : Nat → Nat → Nat) (cI cZ cF : ClassId) (sz : Nat) (sp : Nat) (e1 : Int32) (e2 : Int32) (e3 : Int32) : zM l yX9_init cX9_init 5 none ({ frames := 1, cells := 0, slots := 0, locals := 12 } : Room) [.ref sp, .int e1, .int e2, .int e3, .null] (dC, dI) (zTy cI cZ cF) [(oc11 sp 0 0 0 .null .null)] sz none (fun A t => zPD (dC, dI) classes A [(oc11 sp e1 e2 e3 .null .null)] t.heap) 0 0 := by
  refine zIn (own := "ScaleShop$Step") (loc := [(0, .ref sp), (1, .int e1), (2, .int e2), (3, .int e3), (4, .null)]) rfl rfl rfl rfl (fun p e s m below meth c hx hb hr hts hown hlocks hml hnm9 A hA hS hP hD hK hXN Q9 hQ9 ls hl => ?_)
  have hin : meth.name = "<init>" := hnm9
  refine lv_aload_n hx hb dX9_init_0 rfl (lv_at hl 0 rfl) ?_
  refine W.objInit hx hb hown (hts _ mw_762) (hts _ mw_126) (hts _ mw_objcode) rfl (by rw [hml]; exact hl.1) rfl dX9_init_1 (Nat.le_of_ble_eq_true rfl) (Nat.le_of_ble_eq_true rfl) ?_
  refine W.eq (g2 := F0 m 4 ls []) rfl ?_
  refine lv_aload_n hx hb dX9_init_4 rfl (lv_at hl 0 rfl) ?_
  refine lv_null hx hb dX9_init_5 ?_
  refine va_put (D := (dC, dI)) (ci := 11) (v := .null) (ty := .object "ScaleShop$Change") (C := RX9) (T := TX9) (N := 5) hx hb hts inX9 tyX9 tyX9_ok nmX9 hown hK hP hD hS 0 rfl rfl 4 (by decide) (hts _ mw_771) (fun _ h9 => h9) rfl (by decide +kernel) rfl rfl (Nat.le_of_ble_eq_true rfl) dX9_init_6 (fun H locs hP hD hS => ?_)
  obtain ⟨hP, hD⟩ := zre (W2 := [(oc11 sp 0 0 0 .null .null)]) hP hD rfl
  refine lv_aload_n hx hb dX9_init_9 rfl (lv_at hl 0 rfl) ?_
  refine lv_iload_n hx hb dX9_init_10 rfl (lv_at hl 1 rfl) ?_
  refine va_putF (D := (dC, dI)) (ci := 11) (v := .int e1) (ty := .int) (C := RX9) (T := TX9) (N := 5) hx hb hts inX9 tyX9 tyX9_ok nmX9 hown hK hP hD hS 0 rfl rfl 0 (by decide) (hts _ mw_763) (fun _ h9 => h9) rfl hin rfl (by decide +kernel) rfl rfl (Nat.le_of_ble_eq_true rfl) dX9_init_11 (fun H locs hP hD hS => ?_)
  obtain ⟨hP, hD⟩ := zre (W2 := [(oc11 sp e1 0 0 .null .null)]) hP hD rfl
  refine lv_aload_n hx hb dX9_init_14 rfl (lv_at hl 0 rfl) ?_
  refine lv_iload_n hx hb dX9_init_15 rfl (lv_at hl 2 rfl) ?_
  refine va_putF (D := (dC, dI)) (ci := 11) (v := .int e2) (ty := .int) (C := RX9) (T := TX9) (N := 5) hx hb hts inX9 tyX9 tyX9_ok nmX9 hown hK hP hD hS 0 rfl rfl 1 (by decide) (hts _ mw_765) (fun _ h9 => h9) rfl hin rfl (by decide +kernel) rfl rfl (Nat.le_of_ble_eq_true rfl) dX9_init_16 (fun H locs hP hD hS => ?_)
  obtain ⟨hP, hD⟩ := zre (W2 := [(oc11 sp e1 e2 0 .null .null)]) hP hD rfl
  refine lv_aload_n hx hb dX9_init_19 rfl (lv_at hl 0 rfl) ?_
  refine lv_iload_n hx hb dX9_init_20 rfl (lv_at hl 3 rfl) ?_
  refine va_putF (D := (dC, dI)) (ci := 11) (v := .int e3) (ty := .int) (C := RX9) (T := TX9) (N := 5) hx hb hts inX9 tyX9 tyX9_ok nmX9 hown hK hP hD hS 0 rfl rfl 2 (by decide) (hts _ mw_767) (fun _ h9 => h9) rfl hin rfl (by decide +kernel) rfl rfl (Nat.le_of_ble_eq_true rfl) dX9_init_21 (fun H locs hP hD hS => ?_)
  obtain ⟨hP, hD⟩ := zre (W2 := [(oc11 sp e1 e2 e3 .null .null)]) hP hD rfl
  refine lv_aload_n hx hb dX9_init_24 rfl (lv_at hl 0 rfl) ?_
  refine lv_aloadN hx hb dX9_init_25 (lv_at hl 4 rfl) ?_
  refine va_putF (D := (dC, dI)) (ci := 11) (v := .null) (ty := .object "ScaleShop$Feature") (C := RX9) (T := TX9) (N := 5) hx hb hts inX9 tyX9 tyX9_ok nmX9 hown hK hP hD hS 0 rfl rfl 3 (by decide) (hts _ mw_769) (fun _ h9 => h9) rfl hin rfl (by decide +kernel) rfl rfl (Nat.le_of_ble_eq_true rfl) dX9_init_27 (fun H locs hP hD hS => ?_)
  obtain ⟨hP, hD⟩ := zre (W2 := [(oc11 sp e1 e2 e3 .null .null)]) hP hD rfl
  obtain ⟨hP9, hD9⟩ := zu_sub (wc := [_]) hP hD [true] rfl rfl
  rw [hQ9]
  exact W.vret hx hb hr (fun t ht hW => ⟨⟨rfl, by rw [ht]; exact hP9, hD9⟩, hS.F ht⟩) hS.2.2 dX9_init_30
set_option maxHeartbeats 4000000 in
set_option maxRecDepth 100000 in
theorem k_Step_init (l : Launch) (dC : Nat → ClassId) (dI : Nat → Nat → Nat) (cI cZ cF : ClassId) (sz : Nat) (sp : Nat) (e1 : Int32) (e2 : Int32) (e3 : Int32) (md : Nat) : zM l yX9_init cX9_init 5 none ({ frames := 1, cells := 0, slots := 0, locals := 12 } : Room) [.ref sp, .int e1, .int e2, .int e3, .ref md] (dC, dI) (zTy cI cZ cF) [(oc11 sp 0 0 0 .null .null)] sz none (fun A t => zPD (dC, dI) classes A [(oc11 sp e1 e2 e3 (.ref md) .null)] t.heap) 0 0 := by
  refine zIn (own := "ScaleShop$Step") (loc := [(0, .ref sp), (1, .int e1), (2, .int e2), (3, .int e3), (4, .ref md)]) rfl rfl rfl rfl (fun p e s m below meth c hx hb hr hts hown hlocks hml hnm9 A hA hS hP hD hK hXN Q9 hQ9 ls hl => ?_)
  have hin : meth.name = "<init>" := hnm9
  refine lv_aload_n hx hb dX9_init_0 rfl (lv_at hl 0 rfl) ?_
  refine W.objInit hx hb hown (hts _ mw_762) (hts _ mw_126) (hts _ mw_objcode) rfl (by rw [hml]; exact hl.1) rfl dX9_init_1 (Nat.le_of_ble_eq_true rfl) (Nat.le_of_ble_eq_true rfl) ?_
  refine W.eq (g2 := F0 m 4 ls []) rfl ?_
  refine lv_aload_n hx hb dX9_init_4 rfl (lv_at hl 0 rfl) ?_
  refine lv_null hx hb dX9_init_5 ?_
  refine va_put (D := (dC, dI)) (ci := 11) (v := .null) (ty := .object "ScaleShop$Change") (C := RX9) (T := TX9) (N := 5) hx hb hts inX9 tyX9 tyX9_ok nmX9 hown hK hP hD hS 0 rfl rfl 4 (by decide) (hts _ mw_771) (fun _ h9 => h9) rfl (by decide +kernel) rfl rfl (Nat.le_of_ble_eq_true rfl) dX9_init_6 (fun H locs hP hD hS => ?_)
  obtain ⟨hP, hD⟩ := zre (W2 := [(oc11 sp 0 0 0 .null .null)]) hP hD rfl
  refine lv_aload_n hx hb dX9_init_9 rfl (lv_at hl 0 rfl) ?_
  refine lv_iload_n hx hb dX9_init_10 rfl (lv_at hl 1 rfl) ?_
  refine va_putF (D := (dC, dI)) (ci := 11) (v := .int e1) (ty := .int) (C := RX9) (T := TX9) (N := 5) hx hb hts inX9 tyX9 tyX9_ok nmX9 hown hK hP hD hS 0 rfl rfl 0 (by decide) (hts _ mw_763) (fun _ h9 => h9) rfl hin rfl (by decide +kernel) rfl rfl (Nat.le_of_ble_eq_true rfl) dX9_init_11 (fun H locs hP hD hS => ?_)
  obtain ⟨hP, hD⟩ := zre (W2 := [(oc11 sp e1 0 0 .null .null)]) hP hD rfl
  refine lv_aload_n hx hb dX9_init_14 rfl (lv_at hl 0 rfl) ?_
  refine lv_iload_n hx hb dX9_init_15 rfl (lv_at hl 2 rfl) ?_
  refine va_putF (D := (dC, dI)) (ci := 11) (v := .int e2) (ty := .int) (C := RX9) (T := TX9) (N := 5) hx hb hts inX9 tyX9 tyX9_ok nmX9 hown hK hP hD hS 0 rfl rfl 1 (by decide) (hts _ mw_765) (fun _ h9 => h9) rfl hin rfl (by decide +kernel) rfl rfl (Nat.le_of_ble_eq_true rfl) dX9_init_16 (fun H locs hP hD hS => ?_)
  obtain ⟨hP, hD⟩ := zre (W2 := [(oc11 sp e1 e2 0 .null .null)]) hP hD rfl
  refine lv_aload_n hx hb dX9_init_19 rfl (lv_at hl 0 rfl) ?_
  refine lv_iload_n hx hb dX9_init_20 rfl (lv_at hl 3 rfl) ?_
  refine va_putF (D := (dC, dI)) (ci := 11) (v := .int e3) (ty := .int) (C := RX9) (T := TX9) (N := 5) hx hb hts inX9 tyX9 tyX9_ok nmX9 hown hK hP hD hS 0 rfl rfl 2 (by decide) (hts _ mw_767) (fun _ h9 => h9) rfl hin rfl (by decide +kernel) rfl rfl (Nat.le_of_ble_eq_true rfl) dX9_init_21 (fun H locs hP hD hS => ?_)
  obtain ⟨hP, hD⟩ := zre (W2 := [(oc11 sp e1 e2 e3 .null .null)]) hP hD rfl
  refine lv_aload_n hx hb dX9_init_24 rfl (lv_at hl 0 rfl) ?_
  refine lv_aload hx hb dX9_init_25 (lv_at hl 4 rfl) ?_
  refine va_putF (D := (dC, dI)) (ci := 11) (v := .ref md) (ty := .object "ScaleShop$Feature") (C := RX9) (T := TX9) (N := 5) hx hb hts inX9 tyX9 tyX9_ok nmX9 hown hK hP hD hS 0 rfl rfl 3 (by decide) (hts _ mw_769) (fun _ h9 => h9) rfl hin rfl (by decide +kernel) rfl rfl (Nat.le_of_ble_eq_true rfl) dX9_init_27 (fun H locs hP hD hS => ?_)
  obtain ⟨hP, hD⟩ := zre (W2 := [(oc11 sp e1 e2 e3 (.ref md) .null)]) hP hD rfl
  obtain ⟨hP9, hD9⟩ := zu_sub (wc := [_]) hP hD [true] rfl rfl
  rw [hQ9]
  exact W.vret hx hb hr (fun t ht hW => ⟨⟨rfl, by rw [ht]; exact hP9, hD9⟩, hS.F ht⟩) hS.2.2 dX9_init_30
set_option maxHeartbeats 4000000 in
set_option maxRecDepth 100000 in
theorem k_Sheet_isFull (l : Launch) (dC : Nat → ClassId) (dI : Nat → Nat → Nat) (cI cZ cF : ClassId) (sz : Nat) (sh : Nat) (fa : Nat) (ft : Nat) (FA : Nat → Option Nat) (h200 : ft ≤ 200) : zM l yX8_isFull cX8_isFull 1 (some .boolean) ({ frames := 0, cells := 0, slots := 0, locals := 0 } : Room) [.ref sh] (dC, dI) (zTy cI cZ cF) [(oc7 sh (.ref fa) (nI ft)), (oq fa cF 200 FA)] sz (some (.int (pI (ft = 200)))) (fun A t => zPD (dC, dI) classes A [(oc7 sh (.ref fa) (nI ft)), (oq fa cF 200 FA)] t.heap) 0 0 := by
  refine zIn (own := "ScaleShop$Sheet") (loc := [(0, .ref sh)]) rfl rfl rfl rfl (fun p e s m below meth c hx hb hr hts hown hlocks hml hnm9 A hA hS hP hD hK hXN Q9 hQ9 ls hl => ?_)
  refine lv_aload_n hx hb dX8_isFull_0 rfl (lv_at hl 0 rfl) ?_
  refine va_get (D := (dC, dI)) (ci := 7) (v := .int (nI ft)) (C := RX8) (T := TX8) (N := 2) hx hb hts inX8 hown hK hP 0 rfl rfl 1 (Nat.le_of_ble_eq_true rfl) (hts _ mw_137) (fun _ h9 => h9) rfl dX8_isFull_1 ?_
  refine lv_aload_n hx hb dX8_isFull_4 rfl (lv_at hl 0 rfl) ?_
  refine va_get (D := (dC, dI)) (ci := 7) (v := .ref fa) (C := RX8) (T := TX8) (N := 2) hx hb hts inX8 hown hK hP 0 rfl rfl 0 (Nat.le_of_ble_eq_true rfl) (hts _ mw_136) (fun _ h9 => h9) rfl dX8_isFull_5 ?_
  refine va_alen (v := 200) hx hb hK hP 1 2 rfl rfl (rfl) dX8_isFull_8 ?_
  have b9_2 : zlt (ft) := show ft < 2147483648 by omega
  refine lv_icmp_lt (tgt := 16) hx hb dX8_isFull_9 rfl (fun c_1 => ?_) (fun c_1 => ?_)
  · have c_1 : ((ft : Nat) : Int) < 200 := zc_lt (nI_toInt b9_2) rfl c_1
    refine lv_iconst (v := 0) hx hb dX8_isFull_16 rfl ?_
    obtain ⟨hP9, hD9⟩ := zu_sub (wc := [_, _]) hP hD [true, true] rfl rfl
    rw [hQ9]
    exact W.zret (ty := .boolean) (v := 0) hx hb hr (rfl) (fun t ht hW => ⟨⟨congrArg (fun z => Outcome.returned (some (Value.int z))) (show (0 : Int32) = pI (ft = 200) from (zp_f (by omega)).symm), by rw [ht]; exact hP9, hD9⟩, hS.F ht⟩) hS.2.2 dX8_isFull_17
  · have c_1 : 200 ≤ ((ft : Nat) : Int) := zc_nlt (nI_toInt b9_2) rfl c_1
    refine lv_iconst (v := 1) hx hb dX8_isFull_12 rfl ?_
    refine lv_goto (tgt := 17) hx hb dX8_isFull_13 rfl ?_
    obtain ⟨hP9, hD9⟩ := zu_sub (wc := [_, _]) hP hD [true, true] rfl rfl
    rw [hQ9]
    exact W.zret (ty := .boolean) (v := 1) hx hb hr (rfl) (fun t ht hW => ⟨⟨congrArg (fun z => Outcome.returned (some (Value.int z))) (show (1 : Int32) = pI (ft = 200) from (zp_t (by omega)).symm), by rw [ht]; exact hP9, hD9⟩, hS.F ht⟩) hS.2.2 dX8_isFull_17
set_option maxHeartbeats 4000000 in
set_option maxRecDepth 100000 in
theorem k_Sheet_add (l : Launch) (dC : Nat → ClassId) (dI : Nat → Nat → Nat) (cI cZ cF : ClassId) (sz : Nat) (sh : Nat) (fa : Nat) (ft : Nat) (FA : Nat → Option Nat) (fe : Nat) (lo : Nat) (rk9 : Int32) (wd9 : Int32) (tw9 : Int32) (pa9 : Int32) (pb9 : Int32) (lk : Nat) (h200 : ft < 200) : zM l yX8_add cX8_add 2 (some .int) ({ frames := 1, cells := 0, slots := 0, locals := 20 } : Room) [.ref sh, .ref fe] (dC, dI) (zTy cI cZ cF) [(oc7 sh (.ref fa) (nI ft)), (oq fa cF 200 FA), (oc1 fe rk9 wd9 tw9 pa9 pb9 (.ref lo) (.ref lk) .null)] sz (some (.int (nI ft))) (fun A t => zPD (dC, dI) classes A [(oc7 sh (.ref fa) (nI (ft + 1))), (oq fa cF 200 (va_up FA ft (some fe))), (oc1 fe rk9 wd9 tw9 pa9 pb9 (.ref lo) (.ref lk) .null)] t.heap) 0 0 := by
  refine zIn (own := "ScaleShop$Sheet") (loc := [(0, .ref sh), (1, .ref fe)]) rfl rfl rfl rfl (fun p e s m below meth c hx hb hr hts hown hlocks hml hnm9 A hA hS hP hD hK hXN Q9 hQ9 ls hl => ?_)
  refine lv_aload_n hx hb dX8_add_0 rfl (lv_at hl 0 rfl) ?_
  obtain ⟨hPc, hDc, hFc, hI1⟩ := zi_sub (wc := [_, _]) hP hD hS hA [0, 1] rfl rfl
  refine zcall (st1 := [.int (pI (ft = 200))]) (va_runV (As := []) (rest := []) ⟨hx, hb, hml, hown, hts⟩ (k_Sheet_isFull l dC dI cI cZ cF s.heap.size sh fa ft FA (by first | with_reducible assumption | omega)) (csV_35 hts rfl rfl ⟨Nat.le_of_ble_eq_true rfl, Nat.le_of_ble_eq_true rfl⟩) (zPV2 (q0 := 0) (ci := 7) hPc hDc hK hXN rfl rfl) rfl rfl hl.1 rfl (lv_room (Nat.le_of_ble_eq_true rfl)) dX8_add_1 ⟨Nat.le_of_ble_eq_true rfl, Nat.le_of_ble_eq_true rfl⟩) hS hFc hFc rfl (fun t H locs ht hB hk1 hS => ?_)
  obtain ⟨hP1, hD1⟩ := hB
  rw [ht] at hP1
  replace hP := z0 hP hD hk1 hP1 hI1
  clear hk1 hPc hDc hFc hP1 hD1 ht hI1
  refine lv_if_eq (tgt := 9) hx hb dX8_add_4 rfl (fun c_1 => ?_) (fun c_1 => ?_)
  · have c_1 : ¬ (ft = 200) := zp_0 c_1
    refine lv_aload_n hx hb dX8_add_9 rfl (lv_at hl 0 rfl) ?_
    refine va_get (D := (dC, dI)) (ci := 7) (v := .ref fa) (C := RX8) (T := TX8) (N := 2) hx hb hts inX8 hown hK hP 0 rfl rfl 0 (Nat.le_of_ble_eq_true rfl) (hts _ mw_136) (fun _ h9 => h9) rfl dX8_add_10 ?_
    refine lv_aload_n hx hb dX8_add_13 rfl (lv_at hl 0 rfl) ?_
    refine va_get (D := (dC, dI)) (ci := 7) (v := .int (nI ft)) (C := RX8) (T := TX8) (N := 2) hx hb hts inX8 hown hK hP 0 rfl rfl 1 (Nat.le_of_ble_eq_true rfl) (hts _ mw_137) (fun _ h9 => h9) rfl dX8_add_14 ?_
    refine lv_aload_n hx hb dX8_add_17 rfl (lv_at hl 1 rfl) ?_
    have b9_2 : ft < 200 := by omega
    refine z_aast hx hb hK hP hD hS 1 2 2 1 rfl rfl rfl rfl (e := ft) rfl b9_2 (Nat.le_of_ble_eq_true rfl) dX8_add_18 (fun H locs hP hD hS => ?_)
    obtain ⟨hP, hD⟩ := zre (W2 := [_, (oq fa cF 200 (va_up FA ft (some fe))), _]) hP hD rfl
    refine lv_aload_n hx hb dX8_add_19 rfl (lv_at hl 0 rfl) ?_
    refine lv_dup hx hb dX8_add_20 rfl ?_
    refine va_get (D := (dC, dI)) (ci := 7) (v := .int (nI ft)) (C := RX8) (T := TX8) (N := 2) hx hb hts inX8 hown hK hP 0 rfl rfl 1 (Nat.le_of_ble_eq_true rfl) (hts _ mw_137) (fun _ h9 => h9) rfl dX8_add_21 ?_
    refine lv_iconst (v := 1) hx hb dX8_add_24 rfl ?_
    refine lv_iadd hx hb dX8_add_25 ?_
    refine zz_i (v := nI (ft + 1)) (nI_add ft 1) ?_
    refine va_put (D := (dC, dI)) (ci := 7) (v := .int (nI (ft + 1))) (ty := .int) (C := RX8) (T := TX8) (N := 2) hx hb hts inX8 tyX8 tyX8_ok nmX8 hown hK hP hD hS 0 rfl rfl 1 (by decide) (hts _ mw_137) (fun _ h9 => h9) rfl (by decide +kernel) rfl rfl (Nat.le_of_ble_eq_true rfl) dX8_add_26 (fun H locs hP hD hS => ?_)
    obtain ⟨hP, hD⟩ := zre (W2 := [(oc7 sh (.ref fa) (nI (ft + 1))), _, _]) hP hD rfl
    refine lv_aload_n hx hb dX8_add_29 rfl (lv_at hl 0 rfl) ?_
    refine va_get (D := (dC, dI)) (ci := 7) (v := .int (nI (ft + 1))) (C := RX8) (T := TX8) (N := 2) hx hb hts inX8 hown hK hP 0 rfl rfl 1 (Nat.le_of_ble_eq_true rfl) (hts _ mw_137) (fun _ h9 => h9) rfl dX8_add_30 ?_
    refine lv_iconst (v := 1) hx hb dX8_add_33 rfl ?_
    refine lv_isub hx hb dX8_add_34 ?_
    refine zz_i (v := nI ((ft + 1) - 1)) (pk_sub (a := ft + 1) (b := 1) (by omega)) ?_
    obtain ⟨hP9, hD9⟩ := zu_sub (wc := [_, _, _]) hP hD [true, true, true] rfl rfl
    rw [hQ9]
    exact W.iret (v := nI ((ft + 1) - 1)) hx hb hr (fun t ht hW => ⟨⟨congrArg (fun z => Outcome.returned (some (Value.int z))) (show (nI ((ft + 1) - 1) : Int32) = nI ft from zn_eq (by omega)), by rw [ht]; exact hP9, hD9⟩, hS.F ht⟩) hS.2.2 dX8_add_35
  · have c_1 : ft = 200 := zp_1 c_1
    exfalso; omega
set_option maxHeartbeats 4000000 in
set_option maxRecDepth 100000 in
theorem k_Sheet_removeLast (l : Launch) (dC : Nat → ClassId) (dI : Nat → Nat → Nat) (cI cZ cF : ClassId) (sz : Nat) (sh : Nat) (fa : Nat) (ft : Nat) (FA : Nat → Option Nat) (h200 : ft ≤ 200) (h1f : 1 ≤ ft) : zM l yX8_removeLast cX8_removeLast 1 none ({ frames := 1, cells := 0, slots := 0, locals := 14 } : Room) [.ref sh] (dC, dI) (zTy cI cZ cF) [(oc7 sh (.ref fa) (nI ft)), (oq fa cF 200 FA)] sz none (fun A t => zPD (dC, dI) classes A [(oc7 sh (.ref fa) (nI (ft - 1))), (oq fa cF 200 FA)] t.heap) 0 0 := by
  refine zIn (own := "ScaleShop$Sheet") (loc := [(0, .ref sh)]) rfl rfl rfl rfl (fun p e s m below meth c hx hb hr hts hown hlocks hml hnm9 A hA hS hP hD hK hXN Q9 hQ9 ls hl => ?_)
  refine lv_aload_n hx hb dX8_removeLast_0 rfl (lv_at hl 0 rfl) ?_
  refine lv_aload_n hx hb dX8_removeLast_1 rfl (lv_at hl 0 rfl) ?_
  refine va_get (D := (dC, dI)) (ci := 7) (v := .int (nI ft)) (C := RX8) (T := TX8) (N := 2) hx hb hts inX8 hown hK hP 0 rfl rfl 1 (Nat.le_of_ble_eq_true rfl) (hts _ mw_137) (fun _ h9 => h9) rfl dX8_removeLast_2 ?_
  refine lv_iconst (v := 1) hx hb dX8_removeLast_5 rfl ?_
  refine lv_isub hx hb dX8_removeLast_6 ?_
  refine zz_i (v := nI (ft - 1)) (pk_sub (a := ft) (b := 1) (by omega)) ?_
  refine lv_iconst (v := 0) hx hb dX8_removeLast_7 rfl ?_
  refine va_mmax hx hb (by rw [hml]; exact hl.1.symm) hown (hts _ mw_1048) (hts _ mw_159) (hts _ mw_103) (hts _ mw_maxcode) (Nat.le_of_ble_eq_true rfl) (Nat.le_of_ble_eq_true rfl) (Nat.le_of_ble_eq_true rfl) (Nat.le_of_ble_eq_true rfl) dX8_removeLast_8 ?_
  have b9_1 : zlt ((ft - 1)) := show (ft - 1) < 2147483648 by omega
  refine lv_topi (fun v_2 ev_2 => ?_)
  have hv_2 : v_2.toInt = max ((ft - 1 : Nat) : Int) 0 := zmax (nI_toInt b9_1) (by decide) ev_2
  refine zz_i (v := nI (ft - 1)) (Int32.toInt_inj.mp (by rw [hv_2, nI_toInt (by omega)]; omega)) ?_
  refine va_put (D := (dC, dI)) (ci := 7) (v := .int (nI (ft - 1))) (ty := .int) (C := RX8) (T := TX8) (N := 2) hx hb hts inX8 tyX8 tyX8_ok nmX8 hown hK hP hD hS 0 rfl rfl 1 (by decide) (hts _ mw_137) (fun _ h9 => h9) rfl (by decide +kernel) rfl rfl (Nat.le_of_ble_eq_true rfl) dX8_removeLast_11 (fun H locs hP hD hS => ?_)
  obtain ⟨hP, hD⟩ := zre (W2 := [(oc7 sh (.ref fa) (nI (ft - 1))), _]) hP hD rfl
  obtain ⟨hP9, hD9⟩ := zu_sub (wc := [_, _]) hP hD [true, true] rfl rfl
  rw [hQ9]
  exact W.vret hx hb hr (fun t ht hW => ⟨⟨rfl, by rw [ht]; exact hP9, hD9⟩, hS.F ht⟩) hS.2.2 dX8_removeLast_14
set_option maxHeartbeats 4000000 in
set_option maxRecDepth 100000 in
theorem k_Sheet_find_n (l : Launch) (dC : Nat → ClassId) (dI : Nat → Nat → Nat) (cI cZ cF : ClassId) (sz : Nat) (sh : Nat) (fa : Nat) (ft : Nat) (FA : Nat → Option Nat) (v : Int32) (h200 : ft ≤ 200) (hv : ¬ (0 ≤ v.toInt ∧ v.toInt < ((ft : Nat) : Int))) : zM l yX8_find cX8_find 2 (some (.object "ScaleShop$Feature")) ({ frames := 0, cells := 0, slots := 0, locals := 0 } : Room) [.ref sh, .int v] (dC, dI) (zTy cI cZ cF) [(oc7 sh (.ref fa) (nI ft)), (oq fa cF 200 FA)] sz (some (.null)) (fun A t => zPD (dC, dI) classes A [(oc7 sh (.ref fa) (nI ft)), (oq fa cF 200 FA)] t.heap) 0 0 := by
  refine zIn (own := "ScaleShop$Sheet") (loc := [(0, .ref sh), (1, .int v)]) rfl rfl rfl rfl (fun p e s m below meth c hx hb hr hts hown hlocks hml hnm9 A hA hS hP hD hK hXN Q9 hQ9 ls hl => ?_)
  refine lv_iload_n hx hb dX8_find_0 rfl (lv_at hl 1 rfl) ?_
  refine lv_if_lt (tgt := 21) hx hb dX8_find_1 rfl (fun c_1 => ?_) (fun c_1 => ?_)
  · have c_1 : v.toInt < 0 := zc_lt rfl rfl c_1
    refine lv_null hx hb dX8_find_21 ?_
    obtain ⟨hP9, hD9⟩ := zu_sub (wc := [_, _]) hP hD [true, true] rfl rfl
    rw [hQ9]
    exact W.aret hx hb hr (Or.inl ⟨_, rfl⟩) (Or.inl rfl) (fun t ht hW => ⟨⟨rfl, by rw [ht]; exact hP9, hD9⟩, hS.F ht⟩) hS.2.2 dX8_find_22
  · have c_1 : 0 ≤ v.toInt := zc_nlt rfl rfl c_1
    refine lv_iload_n hx hb dX8_find_4 rfl (lv_at hl 1 rfl) ?_
    refine lv_aload_n hx hb dX8_find_5 rfl (lv_at hl 0 rfl) ?_
    refine va_get (D := (dC, dI)) (ci := 7) (v := .int (nI ft)) (C := RX8) (T := TX8) (N := 2) hx hb hts inX8 hown hK hP 0 rfl rfl 1 (Nat.le_of_ble_eq_true rfl) (hts _ mw_137) (fun _ h9 => h9) rfl dX8_find_6 ?_
    have b9_3 : zlt (ft) := show ft < 2147483648 by omega
    refine lv_icmp_ge (tgt := 21) hx hb dX8_find_9 rfl (fun c_2 => ?_) (fun c_2 => ?_)
    · have c_2 : ((ft : Nat) : Int) ≤ v.toInt := zc_le (nI_toInt b9_3) rfl c_2
      refine lv_null hx hb dX8_find_21 ?_
      obtain ⟨hP9, hD9⟩ := zu_sub (wc := [_, _]) hP hD [true, true] rfl rfl
      rw [hQ9]
      exact W.aret hx hb hr (Or.inl ⟨_, rfl⟩) (Or.inl rfl) (fun t ht hW => ⟨⟨rfl, by rw [ht]; exact hP9, hD9⟩, hS.F ht⟩) hS.2.2 dX8_find_22
    · have c_2 : v.toInt < ((ft : Nat) : Int) := zc_nle (nI_toInt b9_3) rfl c_2
      exfalso; omega
set_option maxHeartbeats 4000000 in
set_option maxRecDepth 100000 in
theorem k_Sheet_find (l : Launch) (dC : Nat → ClassId) (dI : Nat → Nat → Nat) (cI cZ cF : ClassId) (sz : Nat) (sh : Nat) (fa : Nat) (ft : Nat) (FA : Nat → Option Nat) (i : Nat) (fe : Nat) (h200 : ft ≤ 200) (hi : i < ft) (hFA : FA i = some fe) : zM l yX8_find cX8_find 2 (some (.object "ScaleShop$Feature")) ({ frames := 0, cells := 0, slots := 0, locals := 0 } : Room) [.ref sh, .int (nI i)] (dC, dI) (zTy cI cZ cF) [(oc7 sh (.ref fa) (nI ft)), (oq fa cF 200 FA)] sz (some (.ref fe)) (fun A t => zPD (dC, dI) classes A [(oc7 sh (.ref fa) (nI ft)), (oq fa cF 200 FA)] t.heap) 0 0 := by
  refine zIn (own := "ScaleShop$Sheet") (loc := [(0, .ref sh), (1, .int (nI i))]) rfl rfl rfl rfl (fun p e s m below meth c hx hb hr hts hown hlocks hml hnm9 A hA hS hP hD hK hXN Q9 hQ9 ls hl => ?_)
  refine lv_iload_n hx hb dX8_find_0 rfl (lv_at hl 1 rfl) ?_
  have b9_2 : zlt (i) := show i < 2147483648 by omega
  refine lv_if_lt (tgt := 21) hx hb dX8_find_1 rfl (fun c_1 => ?_) (fun c_1 => ?_)
  · have c_1 : ((i : Nat) : Int) < 0 := zc_lt (nI_toInt b9_2) rfl c_1
    exfalso; omega
  · have c_1 : 0 ≤ ((i : Nat) : Int) := zc_nlt (nI_toInt b9_2) rfl c_1
    refine lv_iload_n hx hb dX8_find_4 rfl (lv_at hl 1 rfl) ?_
    refine lv_aload_n hx hb dX8_find_5 rfl (lv_at hl 0 rfl) ?_
    refine va_get (D := (dC, dI)) (ci := 7) (v := .int (nI ft)) (C := RX8) (T := TX8) (N := 2) hx hb hts inX8 hown hK hP 0 rfl rfl 1 (Nat.le_of_ble_eq_true rfl) (hts _ mw_137) (fun _ h9 => h9) rfl dX8_find_6 ?_
    have b9_4 : zlt (ft) := show ft < 2147483648 by omega
    refine lv_icmp_ge (tgt := 21) hx hb dX8_find_9 rfl (fun c_3 => ?_) (fun c_3 => ?_)
    · have c_3 : ((ft : Nat) : Int) ≤ ((i : Nat) : Int) := zc_le (nI_toInt b9_4) (nI_toInt b9_2) c_3
      exfalso; omega
    · have c_3 : ((i : Nat) : Int) < ((ft : Nat) : Int) := zc_nle (nI_toInt b9_4) (nI_toInt b9_2) c_3
      refine lv_aload_n hx hb dX8_find_12 rfl (lv_at hl 0 rfl) ?_
      refine va_get (D := (dC, dI)) (ci := 7) (v := .ref fa) (C := RX8) (T := TX8) (N := 2) hx hb hts inX8 hown hK hP 0 rfl rfl 0 (Nat.le_of_ble_eq_true rfl) (hts _ mw_136) (fun _ h9 => h9) rfl dX8_find_13 ?_
      refine lv_iload_n hx hb dX8_find_16 rfl (lv_at hl 1 rfl) ?_
      have b9_5 : i < 200 := by omega
      refine z_aald hx hb hK hP 1 2 rfl rfl (e := i) rfl b9_5 (Nat.le_of_ble_eq_true rfl) (v := .ref fe) (by rw [hFA]; rfl) dX8_find_17 ?_
      refine lv_goto (tgt := 22) hx hb dX8_find_18 rfl ?_
      obtain ⟨hP9, hD9⟩ := zu_sub (wc := [_, _]) hP hD [true, true] rfl rfl
      rw [hQ9]
      exact W.aret hx hb hr (Or.inl ⟨_, rfl⟩) (Or.inr ⟨_, rfl⟩) (fun t ht hW => ⟨⟨rfl, by rw [ht]; exact hP9, hD9⟩, hS.F ht⟩) hS.2.2 dX8_find_22
set_option maxHeartbeats 4000000 in
set_option maxRecDepth 100000 in
theorem k_Sheet_rowThere_x (l : Launch) (dC : Nat → ClassId) (dI : Nat → Nat → Nat) (cI cZ cF : ClassId) (sz : Nat) (sh : Nat) (fa : Nat) (ft : Nat) (FA : Nat → Option Nat) (v : Int32) (h200 : ft ≤ 200) (hv : ¬ (0 ≤ v.toInt ∧ v.toInt < ((ft : Nat) : Int))) : zM l yX8_rowThere cX8_rowThere 3 (some (.object "ScaleShop$Row")) ({ frames := 1, cells := 0, slots := 0, locals := 21 } : Room) [.ref sh, .int v] (dC, dI) (zTy cI cZ cF) [(oc7 sh (.ref fa) (nI ft)), (oq fa cF 200 FA)] sz (some (.null)) (fun A t => zPD (dC, dI) classes A [(oc7 sh (.ref fa) (nI ft)), (oq fa cF 200 FA)] t.heap) 0 0 := by
  refine zIn (own := "ScaleShop$Sheet") (loc := [(0, .ref sh), (1, .int v)]) rfl rfl rfl rfl (fun p e s m below meth c hx hb hr hts hown hlocks hml hnm9 A hA hS hP hD hK hXN Q9 hQ9 ls hl => ?_)
  refine lv_aload_n hx hb dX8_rowThere_0 rfl (lv_at hl 0 rfl) ?_
  refine lv_iload_n hx hb dX8_rowThere_1 rfl (lv_at hl 1 rfl) ?_
  obtain ⟨hPc, hDc, hFc, hI1⟩ := zi_sub (wc := [_, _]) hP hD hS hA [0, 1] rfl rfl
  refine zcall (st1 := [.null]) (va_runV (As := [.int v]) (rest := []) ⟨hx, hb, hml, hown, hts⟩ (k_Sheet_find_n l dC dI cI cZ cF s.heap.size sh fa ft FA v (by first | with_reducible assumption | omega) (by first | with_reducible assumption | assumption)) (csV_36 hts rfl rfl ⟨Nat.le_of_ble_eq_true rfl, Nat.le_of_ble_eq_true rfl⟩) (zPV2 (q0 := 0) (ci := 7) hPc hDc hK hXN rfl rfl) rfl rfl hl.1 rfl (lv_room (Nat.le_of_ble_eq_true rfl)) dX8_rowThere_2 ⟨Nat.le_of_ble_eq_true rfl, Nat.le_of_ble_eq_true rfl⟩) hS hFc hFc rfl (fun t H locs ht hB hk1 hS => ?_)
  obtain ⟨hP1, hD1⟩ := hB
  rw [ht] at hP1
  replace hP := z0 hP hD hk1 hP1 hI1
  clear hk1 hPc hDc hFc hP1 hD1 ht hI1
  refine lv_astore_nN (lv' := [(2, .null), (0, .ref sh), (1, .int v)]) hx hb dX8_rowThere_5 rfl hl (Nat.le_of_ble_eq_true rfl) rfl (fun ls hl => ?_)
  refine lv_aload_nN hx hb dX8_rowThere_6 rfl (lv_at hl 0 rfl) ?_
  refine lv_ifnullN (tgt := 31) hx hb dX8_rowThere_7 rfl ?_
  refine lv_null hx hb dX8_rowThere_31 ?_
  obtain ⟨hP9, hD9⟩ := zu_sub (wc := [_, _]) hP hD [true, true] rfl rfl
  rw [hQ9]
  exact W.aret hx hb hr (Or.inl ⟨_, rfl⟩) (Or.inl rfl) (fun t ht hW => ⟨⟨rfl, by rw [ht]; exact hP9, hD9⟩, hS.F ht⟩) hS.2.2 dX8_rowThere_32
end
section
/-! the class's law: what it asks of two rows and a draft -/
theorem whr_in {n : Nat} {X Y : Nat → Int32} {x y : Int} : (whr n X Y x y).toInt = 1 ↔ inF 5 n X Y x y := by
  have e : eO 5 n = n := by unfold eO; rw [if_neg (by decide), if_pos (by decide)]
  unfold inF; rw [e]
  by_cases h : ∃ i, i < n ∧ eOn n X Y i x y
  · rw [whr_2 h]; exact ⟨fun q => absurd q (by decide), fun q => absurd h q.1⟩
  · rw [whr_n h]
    by_cases q : par2 (eTg n X Y x y) n
    · rw [zp_t q]; exact ⟨fun _ => ⟨h, q⟩, fun _ => by decide⟩
    · rw [zp_f q]; exact ⟨fun g => absurd g (by decide), fun g => absurd g.2 q⟩
abbrev tch (n : Nat) (X Y : Nat → Int32) (rg : Int32) (m : Nat) (U V : Nat → Int32) (rh : Int32) : Prop := ∃ i, i < prt n rg ∧ ∃ j, j < prt m rh ∧ eMt n X Y i m U V j
def tr3 (a b c : Int32) : Nat → Int32 := fun i => if i = 0 then a else if i = 1 then b else c
/-- the class's triangle has a place -/
def wtR (a1 a2 b1 b2 c1 c2 : Int32) (x y : Int) : Prop := ¬ (whr 3 (tr3 a1 b1 c1) (tr3 a2 b2 c2) x y).toInt = 0
theorem wtR_e {a1 a2 b1 b2 c1 c2 : Int32} {T S : Nat → Int32} {x y : Int} : ¬ (whr 3 (upd (upd (upd T 0 a1) 1 b1) 2 c1) (upd (upd (upd S 0 a2) 1 b2) 2 c2) x y).toInt = 0 ↔ wtR a1 a2 b1 b2 c1 c2 x y := by
  unfold wtR
  rw [whr_cg (P := tr3 a1 b1 c1) (Q := tr3 a2 b2 c2) (fun j hj => by
    rcases (show j = 0 ∨ j = 1 ∨ j = 2 by omega) with rfl | rfl | rfl <;> exact ⟨rfl, rfl⟩)]
theorem tr3_pl {a1 a2 b1 b2 c1 c2 : Int32} {T S : Nat → Int32} (h1 : pl a1) (h2 : pl a2) (h3 : pl b1) (h4 : pl b2) (h5 : pl c1) (h6 : pl c2) : pls 3 (upd (upd (upd T 0 a1) 1 b1) 2 c1) (upd (upd (upd S 0 a2) 1 b2) 2 c2) := by
  intro j hj
  rcases (show j = 0 ∨ j = 1 ∨ j = 2 by omega) with rfl | rfl | rfl
  · exact ⟨h1, h2⟩
  · exact ⟨h3, h4⟩
  · exact ⟨h5, h6⟩
/-- a place lies straight ahead on a way -/
def ldT (x0 y0 x1 y1 px py : Int) : Prop := cr x0 y0 x1 y1 px py = 0 ∧ 0 < nrT x0 y0 x1 y1 px py
/-- the class's free way -/
def wyF2 (x0 y0 x1 y1 : Int) (m : Nat) (U V : Nat → Int32) (k : Nat) : Prop := mtC x0 y0 x1 y1 (U k).toInt (V k).toInt (U (nxt m k)).toInt (V (nxt m k)).toInt → onS (U k).toInt (V k).toInt (U (nxt m k)).toInt (V (nxt m k)).toInt x0 y0 ∧ ¬ ldT x0 y0 x1 y1 (U k).toInt (V k).toInt ∧ ¬ ldT x0 y0 x1 y1 (U (nxt m k)).toInt (V (nxt m k)).toInt
theorem wy_pl {a1 a2 b1 b2 : Int32} {T S : Nat → Int32} (h1 : pl a1) (h2 : pl a2) (h3 : pl b1) (h4 : pl b2) : pls 2 (upd (upd T 0 a1) 1 b1) (upd (upd S 0 a2) 1 b2) := by
  intro j hj
  rcases (show j = 0 ∨ j = 1 by omega) with rfl | rfl
  · exact ⟨h1, h2⟩
  · exact ⟨h3, h4⟩
/-- what a moving edge sweeps, by the class -/
def swR (on : Nat) (X Y P Q : Nat → Int32) (x y : Int) (k : Nat) : Prop := ¬ spr on X Y P Q k x y ∧ (wtR (X k) (Y k) (X (nxt on k)) (Y (nxt on k)) (P (nxt on k)) (Q (nxt on k)) x y ∨ wtR (X k) (Y k) (P k) (Q k) (P (nxt on k)) (Q (nxt on k)) x y)
/-- what a corner that goes sweeps, by the class -/
def swC (on : Nat) (X Y : Nat → Int32) (b : Nat) (x y : Int) : Prop := ¬ ((X (prv on b)).toInt = x ∧ (Y (prv on b)).toInt = y) ∧ ¬ ((X (nxt on b)).toInt = x ∧ (Y (nxt on b)).toInt = y) ∧ wtR (X (prv on b)) (Y (prv on b)) (X b) (Y b) (X (nxt on b)) (Y (nxt on b)) x y
/-- as before, by the class: all but what is swept -/
def asb (n : Nat) (X Y : Nat → Int32) (rg : Int32) (nd : Nat) (P Q : Nat → Int32) (rd : Int32) (m : Nat) (U V : Nat → Int32) (rh : Int32) : Prop :=
  (tch n X Y rg m U V rh ↔ tch nd P Q rd m U V rh) ∧ (¬ rd.toInt = 0 → ∀ k, k < m → (inF 5 n X Y (U k).toInt (V k).toInt ↔ inF 5 nd P Q (U k).toInt (V k).toInt)) ∧ (¬ rh.toInt = 0 → (inF 5 m U V (X 0).toInt (Y 0).toInt ↔ inF 5 m U V (P 0).toInt (Q 0).toInt))
section SP
variable {n m i : Nat} {X Y P Q U V : Nat → Int32} {A B : Nat → Prop}
theorem sp_rn (h1 : (P i).toInt = (X i).toInt ∧ (Q i).toInt = (Y i).toInt) (h2 : ¬ ((P (nxt n i)).toInt = (X (nxt n i)).toInt ∧ (Q (nxt n i)).toInt = (Y (nxt n i)).toInt)) (h : ∀ k, A k ↔ B k) : (∃ k, k < m ∧ ¬ ((X i).toInt = (U k).toInt ∧ (Y i).toInt = (V k).toInt) ∧ A k) ↔ ∃ k, k < m ∧ ¬ spr n X Y P Q i (U k).toInt (V k).toInt ∧ B k := by
  refine exists_congr fun k => and_congr_right fun _ => and_congr ?_ (h k)
  unfold spr stay; omega
theorem sp_nr (h1 : ¬ ((P i).toInt = (X i).toInt ∧ (Q i).toInt = (Y i).toInt)) (h2 : (P (nxt n i)).toInt = (X (nxt n i)).toInt ∧ (Q (nxt n i)).toInt = (Y (nxt n i)).toInt) (h : ∀ k, A k ↔ B k) : (∃ k, k < m ∧ ¬ ((X (nxt n i)).toInt = (U k).toInt ∧ (Y (nxt n i)).toInt = (V k).toInt) ∧ A k) ↔ ∃ k, k < m ∧ ¬ spr n X Y P Q i (U k).toInt (V k).toInt ∧ B k := by
  refine exists_congr fun k => and_congr_right fun _ => and_congr ?_ (h k)
  unfold spr stay; omega
theorem sp_nn (h1 : ¬ ((P i).toInt = (X i).toInt ∧ (Q i).toInt = (Y i).toInt)) (h2 : ¬ ((P (nxt n i)).toInt = (X (nxt n i)).toInt ∧ (Q (nxt n i)).toInt = (Y (nxt n i)).toInt)) (h : ∀ k, A k ↔ B k) : (∃ k, k < m ∧ A k) ↔ ∃ k, k < m ∧ ¬ spr n X Y P Q i (U k).toInt (V k).toInt ∧ B k := by
  refine exists_congr fun k => and_congr_right fun _ => ?_
  have g : ¬ spr n X Y P Q i (U k).toInt (V k).toInt := by unfold spr stay; omega
  exact (h k).trans ⟨fun q => ⟨g, q⟩, fun q => q.2⟩
end SP
theorem pls_nr {n : Nat} {X Y : Nat → Int32} (h : pls n X Y) : (∀ k, k < n → nr (X k).toInt) ∧ ∀ k, k < n → nr (Y k).toInt := by
  refine ⟨fun k hk => ?_, fun k hk => ?_⟩ <;> · have := h k hk; unfold pl at this; unfold nr; omega
end
