/-! a kept sheet taken back -/
def rsA (q : Nat) (d k : Nat → Int32) : Nat → Int32 := fun g => if g < q then d g else k g
theorem rsA_0 (d k : Nat → Int32) : k = rsA 0 d k := by funext g; unfold rsA; rw [if_neg (by omega)]
theorem rsA_s {q : Nat} {d k k1 : Nat → Int32} {x : Int32} (h : k1 = rsA q d k) (hx : x = d q) : upd k1 q x = rsA (q + 1) d k := by
  subst h hx; funext g; unfold upd rsA
  by_cases h : g = q
  · subst h; rw [if_pos rfl, if_pos (by omega)]
  · rw [if_neg h]
    by_cases h2 : g < q
    · rw [if_pos h2, if_pos (by omega)]
    · rw [if_neg h2, if_neg (by omega)]
def rsM (q : Nat) (D : Nat → Nat → Int32) (nn : Nat → Nat) (tn mn : Nat → Int32) : Nat → Int32 := fun g => if g < q ∧ ¬ (D g 1).toInt = 0 ∧ (tn g).toInt = 0 then nI (nn g) else mn g
theorem rsM_0 (D : Nat → Nat → Int32) (nn : Nat → Nat) (tn mn : Nat → Int32) : mn = rsM 0 D nn tn mn := by funext g; unfold rsM; rw [if_neg (by omega)]
theorem rsM_y {q : Nat} {D : Nat → Nat → Int32} {nn : Nat → Nat} {tn mn k1 : Nat → Int32} (h : k1 = rsM q D nn tn mn) (h1 : ¬ (D q 1).toInt = 0) (h2 : (tn q).toInt = 0) : upd k1 q (nI (nn q)) = rsM (q + 1) D nn tn mn := by
  subst h; funext g; unfold upd rsM
  by_cases h : g = q
  · subst h; rw [if_pos rfl, if_pos ⟨by omega, h1, h2⟩]
  · rw [if_neg h]
    by_cases h3 : g < q ∧ ¬ (D g 1).toInt = 0 ∧ (tn g).toInt = 0
    · rw [if_pos h3, if_pos ⟨by omega, h3.2⟩]
    · rw [if_neg h3, if_neg (fun h4 => h3 ⟨by omega, h4.2⟩)]
theorem rsM_n {q : Nat} {D : Nat → Nat → Int32} {nn : Nat → Nat} {tn mn k1 : Nat → Int32} (h : k1 = rsM q D nn tn mn) (h1 : (D q 1).toInt = 0 ∨ ¬ (tn q).toInt = 0) : k1 = rsM (q + 1) D nn tn mn := by
  subst h; funext g; unfold rsM
  by_cases h3 : g < q ∧ ¬ (D g 1).toInt = 0 ∧ (tn g).toInt = 0
  · rw [if_pos h3, if_pos ⟨by omega, h3.2⟩]
  · rw [if_neg h3, if_neg (fun h4 => by
      by_cases h5 : g = q
      · subst h5; exact h1.elim (fun h => h4.2.1 h) (fun h => h h4.2.2)
      · exact h3 ⟨by omega, h4.2⟩)]
def rsC (q k : Nat) (D : Nat → Nat → Int32) (nn : Nat → Nat) (o : Nat) (cx : Nat → Int32) : Nat → Int32 := fun j => if (j / 40 < q ∧ j % 40 < nn (j / 40)) ∨ (j / 40 = q ∧ j % 40 < k) then D (j / 40) (o + 2 * (j % 40)) else cx j
theorem rsC_0 (D : Nat → Nat → Int32) (nn : Nat → Nat) (o : Nat) (cx : Nat → Int32) : cx = rsC 0 0 D nn o cx := by funext j; unfold rsC; rw [if_neg (by omega)]
theorem rsC_s {q k o : Nat} {D : Nat → Nat → Int32} {nn : Nat → Nat} {cx c1 : Nat → Int32} {x : Int32} (h : c1 = rsC q k D nn o cx) (hk : k < 40) (hx : x = D q (o + 2 * k)) : upd c1 (40 * q + k) x = rsC q (k + 1) D nn o cx := by
  subst h hx; funext j; unfold upd rsC
  by_cases h : j = 40 * q + k
  · have e1 : j / 40 = q := by omega
    have e2 : j % 40 = k := by omega
    rw [if_pos h, if_pos (Or.inr ⟨e1, by omega⟩), e1, e2]
  · rw [if_neg h]
    by_cases h2 : (j / 40 < q ∧ j % 40 < nn (j / 40)) ∨ (j / 40 = q ∧ j % 40 < k)
    · rw [if_pos h2, if_pos (h2.elim Or.inl (fun h => Or.inr ⟨h.1, by omega⟩))]
    · rw [if_neg h2, if_neg (fun h3 => h2 (h3.elim Or.inl (fun h4 => Or.inr ⟨h4.1, by omega⟩)))]
theorem rsC_n {q k o : Nat} {D : Nat → Nat → Int32} {nn : Nat → Nat} {cx c1 : Nat → Int32} (h : c1 = rsC q k D nn o cx) (hk : k = nn q) : c1 = rsC (q + 1) 0 D nn o cx := by
  subst h hk; funext j; unfold rsC
  by_cases h2 : (j / 40 < q ∧ j % 40 < nn (j / 40)) ∨ (j / 40 = q ∧ j % 40 < nn q)
  · rw [if_pos h2, if_pos (Or.inl (h2.elim (fun h => ⟨by omega, h.2⟩) (fun h => ⟨by omega, by rw [h.1]; exact h.2⟩)))]
  · rw [if_neg h2, if_neg (fun h3 => h3.elim (fun h4 => h2 (by
      rcases Nat.lt_or_ge (j / 40) q with h5 | h5
      · exact Or.inl ⟨h5, h4.2⟩
      · have h6 : j / 40 = q := by omega
        exact Or.inr ⟨h6, by rw [← h6]; exact h4.2⟩)) (fun h4 => by omega))]
/-- how the rows of what went grow -/
def dl (c w : Nat) : Nat := if w = 64 * c then 2 * c else c
