/-! the reference's kept sheets are the positions -/
theorem shD_g {kd st gb it pa pb rk wd tw kd1 st1 gb1 it1 pa1 pb1 rk1 wd1 tw1 : Nat → Int32} {nn nm : Nat → Nat} {cx cy cx1 cy1 : Nat → Int32} {f j : Nat} (h0 : kd f = kd1 f) (h1 : st f = st1 f) (h2 : gb f = gb1 f) (h3 : it f = it1 f) (h4 : pa f = pa1 f) (h5 : pb f = pb1 f) (h6 : rk f = rk1 f) (h7 : wd f = wd1 f) (h8 : tw f = tw1 f) (hn : nn f = nm f) (hc : ∀ k, k < nn f → cx (40 * f + k) = cx1 (40 * f + k) ∧ cy (40 * f + k) = cy1 (40 * f + k)) (hj : j < 10 + 2 * nn f) :
    shD kd st gb it pa pb rk wd tw nn cx cy f j = shD kd1 st1 gb1 it1 pa1 pb1 rk1 wd1 tw1 nm cx1 cy1 f j := by
  rcases Nat.lt_or_ge j 10 with q | q
  · rcases (show j = 0 ∨ j = 1 ∨ j = 2 ∨ j = 3 ∨ j = 4 ∨ j = 5 ∨ j = 6 ∨ j = 7 ∨ j = 8 ∨ j = 9 by omega) with rfl | rfl | rfl | rfl | rfl | rfl | rfl | rfl | rfl | rfl
    · exact h0
    · exact h1
    · exact h2
    · exact h3
    · exact h4
    · exact h5
    · exact h6
    · exact h7
    · exact h8
    · show nI (nn f) = nI (nm f); rw [hn]
  · rcases Nat.mod_two_eq_zero_or_one j with q2 | q2
    · rw [shD_x (k := (j - 10) / 2) (by omega), shD_x (k := (j - 10) / 2) (by omega)]; exact (hc _ (by omega)).1
    · rw [shD_y (k := (j - 11) / 2) (by omega), shD_y (k := (j - 11) / 2) (by omega)]; exact (hc _ (by omega)).2
abbrev nnV (V : Nat → Nat → Nat → Int32) (tn : Nat → Int32) (t : Nat) : Nat → Nat := nnF (V t 1) tn (V t 4)
def blK (sh : Nat → Int32) (pa pb rk wd tw tn : Nat → Int32) (F : Nat) (Vt : Nat → Nat → Int32) (X Y : Nat → Int32) (w : Nat) : Prop :=
  sh w = nI F ∧ ∀ g, g < F → ∀ j, j < 10 + 2 * nnF (Vt 1) tn (Vt 4) g → sh (psN (nnF (Vt 1) tn (Vt 4)) w g + j) = shD (Vt 0) (Vt 1) (Vt 2) (Vt 3) pa pb rk wd tw (nnF (Vt 1) tn (Vt 4)) X Y g j
def kpB (sa sh : Nat → Int32) (pa pb rk wd tw tn : Nat → Int32) (bs T : Nat) (FT : Nat → Nat) (V : Nat → Nat → Nat → Int32) (VX VY : Nat → Nat → Int32) (W : Nat → Nat) : Prop :=
  W bs = 0 ∧ (∀ t, bs ≤ t → t ≤ T → sa (t - bs) = nI (W t)) ∧ (∀ t, bs ≤ t → t < T → W (t + 1) = psN (nnV V tn t) (W t) (FT t)) ∧ (bs < T → ∀ t, bs ≤ t → t ≤ T → blK sh pa pb rk wd tw tn (FT t) (V t) (VX t) (VY t) (W t))
section
variable {sa sh sh2 : Nat → Int32} {pa pb rk wd tw tn pa1 pb1 rk1 wd1 tw1 tn1 kd st gb it mn cx cy kd1 st1 gb1 it1 mn1 cx1 cy1 : Nat → Int32} {bs dn T ft ft1 : Nat} {FT : Nat → Nat} {V : Nat → Nat → Nat → Int32} {VX VY : Nat → Nat → Int32} {W : Nat → Nat}
theorem kpB_mono (h : kpB sa sh pa pb rk wd tw tn bs T FT V VX VY W) : ∀ k t, bs ≤ t → t + k ≤ T → W t ≤ W (t + k) := by
  intro k
  induction k with
  | zero => intro t _ _; exact Nat.le_refl _
  | succ k ih =>
    intro t t1 t2
    have h5 := ih t t1 (by omega)
    have h6 := h.2.2.1 (t + k) (by omega) (by omega)
    have h7 := psN_ge (nnV V tn (t + k)) (W (t + k)) (FT (t + k))
    rw [show t + (k + 1) = t + k + 1 by omega]
    omega
theorem kpB_le (h : kpB sa sh pa pb rk wd tw tn bs T FT V VX VY W) {t u : Nat} (h1 : bs ≤ t) (h2 : t ≤ u) (h3 : u ≤ T) : W t ≤ W u := by
  have := kpB_mono h (u - t) t h1 (by omega)
  rw [show t + (u - t) = u by omega] at this; exact this
/-- a block, seen by other arrays -/
theorem blK_cg {F w : Nat} {Vt Vu : Nat → Nat → Int32} {X Y X1 Y1 : Nat → Int32} (h : blK sh pa pb rk wd tw tn F Vt X Y w) (hs : ∀ j, w ≤ j → j < psN (nnF (Vt 1) tn (Vt 4)) w F → sh2 j = sh j) (hg : ∀ g, g < F → pa1 g = pa g ∧ pb1 g = pb g ∧ rk1 g = rk g ∧ wd1 g = wd g ∧ tw1 g = tw g ∧ tn1 g = tn g) (hv : ∀ g, g < F → Vu 0 g = Vt 0 g ∧ Vu 1 g = Vt 1 g ∧ Vu 2 g = Vt 2 g ∧ Vu 3 g = Vt 3 g ∧ nnF (Vu 1) tn1 (Vu 4) g = nnF (Vt 1) tn (Vt 4) g ∧ ∀ k, k < nnF (Vt 1) tn (Vt 4) g → X1 (40 * g + k) = X (40 * g + k) ∧ Y1 (40 * g + k) = Y (40 * g + k)) : blK sh2 pa1 pb1 rk1 wd1 tw1 tn1 F Vu X1 Y1 w := by
  have hps : ∀ g, g ≤ F → psN (nnF (Vu 1) tn1 (Vu 4)) w g = psN (nnF (Vt 1) tn (Vt 4)) w g := psN_cg (fun g hg2 => (hv g hg2).2.2.2.2.1)
  refine ⟨?_, fun g hg2 j hj => ?_⟩
  · rw [hs w (Nat.le_refl _) (by have := psN_ge (nnF (Vt 1) tn (Vt 4)) w F; omega)]; exact h.1
  · obtain ⟨a1, a2, a3, a4, a5, a6⟩ := hg g hg2
    obtain ⟨b1, b2, b3, b4, b5, b6⟩ := hv g hg2
    rw [b5] at hj
    have hm := psN_mono (nnF (Vt 1) tn (Vt 4)) w hg2
    have hw := psN_ge (nnF (Vt 1) tn (Vt 4)) w g
    rw [hps g (by omega), hs _ (by omega) (by omega), h.2 g hg2 j hj]
    exact shD_g b1.symm b2.symm b3.symm b4.symm a1.symm a2.symm a3.symm a4.symm a5.symm b5.symm (fun k hk => ⟨(b6 k hk).1.symm, (b6 k hk).2.symm⟩) hj
/-- a step is told -/
theorem kpB_step {P1 P2 : Nat} (h : kpB sa sh pa pb rk wd tw tn bs T FT V VX VY W) (hbd : bs ≤ dn) (hdT : dn ≤ T) (hD : HiD dn ft V VX VY kd st gb it tn mn cx cy) (hft : ft = FT dn) (hmo : ∀ t, bs ≤ t → t ≤ dn → FT t ≤ ft) (hP1 : P1 = psN (nnF st tn mn) (W dn) ft)
    (p0 : sh2 (W dn) = nI ft) (p1 : ∀ j, j < W dn → sh2 j = sh j) (p2 : ∀ g, g < ft → ∀ j, j < 10 + 2 * (nnF st tn mn) g → sh2 (psN (nnF st tn mn) (W dn) g + j) = (shD kd st gb it pa pb rk wd tw (nnF st tn mn) cx cy) g j)
    (p3 : sh2 P1 = nI ft1) (p4 : ∀ g, g < ft1 → ∀ j, j < 10 + 2 * (nnF st1 tn1 mn1) g → sh2 (psN (nnF st1 tn1 mn1) P1 g + j) = (shD kd1 st1 gb1 it1 pa1 pb1 rk1 wd1 tw1 (nnF st1 tn1 mn1) cx1 cy1) g j)
    (hs : ∀ g, g < ft → pa1 g = pa g ∧ pb1 g = pb g ∧ rk1 g = rk g ∧ wd1 g = wd g ∧ tw1 g = tw g ∧ tn1 g = tn g) :
    kpB (upd (upd sa (dn - bs + 1) (nI P1)) (dn + 1 - bs + 1) (nI P2)) sh2 pa1 pb1 rk1 wd1 tw1 tn1 bs (dn + 1) (upN FT (dn + 1) ft1) (upN V (dn + 1) (vC kd1 st1 gb1 it1 mn1)) (upN VX (dn + 1) cx1) (upN VY (dn + 1) cy1) (upN W (dn + 1) P1) := by
  have hnn : ∀ g, g < ft → nnV V tn dn g = nnF st tn mn g := fun g hg => by
    have d := hD g hg
    show nnF (V dn 1) tn (V dn 4) g = _
    unfold nnF
    rw [d.2.1]
    by_cases c : (tn g).toInt = 0 ∧ ¬ (st g).toInt = 0
    · rw [if_pos c, if_pos c]; exact (d.2.2.2.2 c.2 c.1).1
    · rw [if_neg c, if_neg c]
  have hP1' : P1 = psN (nnV V tn dn) (W dn) (FT dn) := by rw [hP1, ← hft]; exact (psN_cg hnn ft (Nat.le_refl _)).symm
  refine ⟨by rw [upN_o (by omega)]; exact h.1, fun t t1 t2 => ?_, fun t t1 t2 => ?_, fun _ t t1 t2 => ?_⟩
  · rw [upo9 (by omega)]
    by_cases e : t = dn + 1
    · rw [e, upN_at, show dn + 1 - bs = dn - bs + 1 by omega, up_at]
    · rw [upN_o e, upo9 (by omega)]; exact h.2.1 t t1 (by omega)
  · rw [show nnV (upN V (dn + 1) (vC kd1 st1 gb1 it1 mn1)) tn1 t = nnF (V t 1) tn1 (V t 4) by show nnF (upN V (dn + 1) _ t 1) tn1 (upN V (dn + 1) _ t 4) = _; rw [upN_o (show t ≠ dn + 1 by omega)], upN_o (f := W) (show t ≠ dn + 1 by omega), upN_o (f := FT) (show t ≠ dn + 1 by omega)]
    have hc : psN (nnF (V t 1) tn1 (V t 4)) (W t) (FT t) = psN (nnV V tn t) (W t) (FT t) := psN_cg (fun g hg => by
      have := hs g (by have := hmo t t1 (by omega); omega)
      show nnF (V t 1) tn1 (V t 4) g = nnF (V t 1) tn (V t 4) g
      unfold nnF; rw [this.2.2.2.2.2]) (FT t) (Nat.le_refl _)
    rw [hc]
    by_cases e : t = dn
    · rw [e, upN_at]; exact hP1'
    · rw [upN_o (by omega)]; exact h.2.2.1 t t1 (by omega)
  · by_cases e : t = dn + 1
    · rw [e, upN_at, upN_at, upN_at, upN_at, upN_at]
      exact ⟨p3, p4⟩
    · rw [upN_o e, upN_o e, upN_o e, upN_o e, upN_o e]
      by_cases e2 : t = dn
      · rw [e2]
        have b : blK sh2 pa pb rk wd tw tn ft (vC kd st gb it mn) cx cy (W dn) := ⟨p0, p2⟩
        rw [← hft]
        refine blK_cg b (fun j _ _ => rfl) (fun g hg => hs g hg) (fun g hg => ?_)
        have d := hD g hg
        have hn1 : nnF (V dn 1) tn1 (V dn 4) g = nnF st tn mn g := by
          rw [← hnn g hg]; show nnF (V dn 1) tn1 (V dn 4) g = nnF (V dn 1) tn (V dn 4) g
          unfold nnF; rw [(hs g hg).2.2.2.2.2]
        refine ⟨d.1, d.2.1, d.2.2.1, d.2.2.2.1, hn1, fun k hk => ?_⟩
        have hk : k < nnF st tn mn g := hk
        unfold nnF at hk
        by_cases c : (tn g).toInt = 0 ∧ ¬ (st g).toInt = 0
        · rw [if_pos c] at hk
          exact (d.2.2.2.2 c.2 c.1).2 k hk
        · rw [if_neg c] at hk; omega
      · have hb := h.2.2.2 (by omega) t t1 (by omega)
        have hw : psN (nnV V tn t) (W t) (FT t) ≤ W dn := by rw [← h.2.2.1 t t1 (by omega)]; exact kpB_le h (by omega) (by omega) hdT
        refine blK_cg hb (fun j _ hj => p1 j (by have : j < psN (nnV V tn t) (W t) (FT t) := hj; omega)) (fun g hg => hs g (by have := hmo t t1 (by omega); omega)) (fun g hg => ⟨rfl, rfl, rfl, rfl, ?_, fun k _ => ⟨rfl, rfl⟩⟩)
        have := hs g (by have := hmo t t1 (by omega); omega)
        unfold nnF; rw [this.2.2.2.2.2]
/-- what is no step forgets the positions -/
theorem kpB_0 (h0 : sa 0 = nI 0) : kpB sa sh pa pb rk wd tw tn dn dn FT V VX VY (fun _ => 0) :=
  ⟨rfl, fun t t1 t2 => by rw [show t - dn = 0 by omega]; exact h0, fun t t1 t2 => by omega, fun g => by omega⟩
end
