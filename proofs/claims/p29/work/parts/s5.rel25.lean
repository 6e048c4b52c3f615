section
/-! the reference's kept sheets are the positions -/
theorem shD_g {kd st gb it pa pb rk wd tw kd1 st1 gb1 it1 pa1 pb1 rk1 wd1 tw1 : Nat → Int32} {nn nm : Nat → Nat} {cx cy cx1 cy1 : Nat → Int32} {f j : Nat} (h0 : kd f = kd1 f) (h1 : st f = st1 f) (h2 : gb f = gb1 f) (h3 : it f = it1 f) (h4 : pa f = pa1 f) (h5 : pb f = pb1 f) (h6 : rk f = rk1 f) (h7 : wd f = wd1 f) (h8 : tw f = tw1 f) (hn : nn f = nm f) (hc : ∀ k, k < nn f → cx (40 * f + k) = cx1 (40 * f + k) ∧ cy (40 * f + k) = cy1 (40 * f + k)) (hj : j < 10 + 2 * nn f) :
    shD kd st gb it pa pb rk wd tw nn cx cy f j = shD kd1 st1 gb1 it1 pa1 pb1 rk1 wd1 tw1 nm cx1 cy1 f j := by
  rcases Nat.lt_or_ge j 10 with q | q
  · rcases (show j = 0 ∨ j = 1 ∨ j = 2 ∨ j = 3 ∨ j = 4 ∨ j = 5 ∨ j = 6 ∨ j = 7 ∨ j = 8 ∨ j = 9 by omega) with rfl | rfl | rfl | rfl | rfl | rfl | rfl | rfl | rfl | rfl
    · exact h0
    · exact h1
    · exact h2
    · exact h3
    · exact h4
    · exact h5
    · exact h6
    · exact h7
    · exact h8
    · show nI (nn f) = nI (nm f); rw [hn]
  · rcases Nat.mod_two_eq_zero_or_one j with q2 | q2
    · rw [shD_x (k := (j - 10) / 2) (by omega), shD_x (k := (j - 10) / 2) (by omega)]; exact (hc _ (by omega)).1
    · rw [shD_y (k := (j - 11) / 2) (by omega), shD_y (k := (j - 11) / 2) (by omega)]; exact (hc _ (by omega)).2
abbrev nnV (V : Nat → Nat → Nat → Int32) (tn : Nat → Int32) (t : Nat) : Nat → Nat := nnF (V t 1) tn (V t 4)
def blK (sh : Nat → Int32) (pa pb rk wd tw tn : Nat → Int32) (F : Nat) (Vt : Nat → Nat → Int32) (X Y : Nat → Int32) (w : Nat) : Prop :=
  sh w = nI F ∧ ∀ g, g < F → ∀ j, j < 10 + 2 * nnF (Vt 1) tn (Vt 4) g → sh (psN (nnF (Vt 1) tn (Vt 4)) w g + j) = shD (Vt 0) (Vt 1) (Vt 2) (Vt 3) pa pb rk wd tw (nnF (Vt 1) tn (Vt 4)) X Y g j
def kpB (sa sh : Nat → Int32) (pa pb rk wd tw tn : Nat → Int32) (bs T : Nat) (FT : Nat → Nat) (V : Nat → Nat → Nat → Int32) (VX VY : Nat → Nat → Int32) (W : Nat → Nat) : Prop :=
  W bs = 0 ∧ (∀ t, bs ≤ t → t ≤ T → sa (t - bs) = nI (W t)) ∧ (∀ t, bs ≤ t → t < T → W (t + 1) = psN (nnV V tn t) (W t) (FT t)) ∧ (bs < T → ∀ t, bs ≤ t → t ≤ T → blK sh pa pb rk wd tw tn (FT t) (V t) (VX t) (VY t) (W t))
section
variable {sa sh sh2 : Nat → Int32} {pa pb rk wd tw tn pa1 pb1 rk1 wd1 tw1 tn1 kd st gb it mn cx cy kd1 st1 gb1 it1 mn1 cx1 cy1 : Nat → Int32} {bs dn T ft ft1 : Nat} {FT : Nat → Nat} {V : Nat → Nat → Nat → Int32} {VX VY : Nat → Nat → Int32} {W : Nat → Nat}
theorem kpB_mono (h : kpB sa sh pa pb rk wd tw tn bs T FT V VX VY W) : ∀ k t, bs ≤ t → t + k ≤ T → W t ≤ W (t + k) := by
  intro k
  induction k with
  | zero => intro t _ _; exact Nat.le_refl _
  | succ k ih =>
    intro t t1 t2
    have h5 := ih t t1 (by omega)
    have h6 := h.2.2.1 (t + k) (by omega) (by omega)
    have h7 := psN_ge (nnV V tn (t + k)) (W (t + k)) (FT (t + k))
    rw [show t + (k + 1) = t + k + 1 by omega]
    omega
theorem kpB_le (h : kpB sa sh pa pb rk wd tw tn bs T FT V VX VY W) {t u : Nat} (h1 : bs ≤ t) (h2 : t ≤ u) (h3 : u ≤ T) : W t ≤ W u := by
  have := kpB_mono h (u - t) t h1 (by omega)
  rw [show t + (u - t) = u by omega] at this; exact this
/-- a block, seen by other arrays -/
theorem blK_cg {F w : Nat} {Vt Vu : Nat → Nat → Int32} {X Y X1 Y1 : Nat → Int32} (h : blK sh pa pb rk wd tw tn F Vt X Y w) (hs : ∀ j, w ≤ j → j < psN (nnF (Vt 1) tn (Vt 4)) w F → sh2 j = sh j) (hg : ∀ g, g < F → pa1 g = pa g ∧ pb1 g = pb g ∧ rk1 g = rk g ∧ wd1 g = wd g ∧ tw1 g = tw g ∧ tn1 g = tn g) (hv : ∀ g, g < F → Vu 0 g = Vt 0 g ∧ Vu 1 g = Vt 1 g ∧ Vu 2 g = Vt 2 g ∧ Vu 3 g = Vt 3 g ∧ nnF (Vu 1) tn1 (Vu 4) g = nnF (Vt 1) tn (Vt 4) g ∧ ∀ k, k < nnF (Vt 1) tn (Vt 4) g → X1 (40 * g + k) = X (40 * g + k) ∧ Y1 (40 * g + k) = Y (40 * g + k)) : blK sh2 pa1 pb1 rk1 wd1 tw1 tn1 F Vu X1 Y1 w := by
  have hps : ∀ g, g ≤ F → psN (nnF (Vu 1) tn1 (Vu 4)) w g = psN (nnF (Vt 1) tn (Vt 4)) w g := psN_cg (fun g hg2 => (hv g hg2).2.2.2.2.1)
  refine ⟨?_, fun g hg2 j hj => ?_⟩
  · rw [hs w (Nat.le_refl _) (by have := psN_ge (nnF (Vt 1) tn (Vt 4)) w F; omega)]; exact h.1
  · obtain ⟨a1, a2, a3, a4, a5, a6⟩ := hg g hg2
    obtain ⟨b1, b2, b3, b4, b5, b6⟩ := hv g hg2
    rw [b5] at hj
    have hm := psN_mono (nnF (Vt 1) tn (Vt 4)) w hg2
    have hw := psN_ge (nnF (Vt 1) tn (Vt 4)) w g
    rw [hps g (by omega), hs _ (by omega) (by omega), h.2 g hg2 j hj]
    exact shD_g b1.symm b2.symm b3.symm b4.symm a1.symm a2.symm a3.symm a4.symm a5.symm b5.symm (fun k hk => ⟨(b6 k hk).1.symm, (b6 k hk).2.symm⟩) hj
/-- a step is told -/
theorem kpB_step {P1 P2 : Nat} (h : kpB sa sh pa pb rk wd tw tn bs T FT V VX VY W) (hbd : bs ≤ dn) (hdT : dn ≤ T) (hD : HiD dn ft V VX VY kd st gb it tn mn cx cy) (hft : ft = FT dn) (hmo : ∀ t, bs ≤ t → t ≤ dn → FT t ≤ ft) (hP1 : P1 = psN (nnF st tn mn) (W dn) ft)
    (p0 : sh2 (W dn) = nI ft) (p1 : ∀ j, j < W dn → sh2 j = sh j) (p2 : ∀ g, g < ft → ∀ j, j < 10 + 2 * (nnF st tn mn) g → sh2 (psN (nnF st tn mn) (W dn) g + j) = (shD kd st gb it pa pb rk wd tw (nnF st tn mn) cx cy) g j)
    (p3 : sh2 P1 = nI ft1) (p4 : ∀ g, g < ft1 → ∀ j, j < 10 + 2 * (nnF st1 tn1 mn1) g → sh2 (psN (nnF st1 tn1 mn1) P1 g + j) = (shD kd1 st1 gb1 it1 pa1 pb1 rk1 wd1 tw1 (nnF st1 tn1 mn1) cx1 cy1) g j)
    (hs : ∀ g, g < ft → pa1 g = pa g ∧ pb1 g = pb g ∧ rk1 g = rk g ∧ wd1 g = wd g ∧ tw1 g = tw g ∧ tn1 g = tn g) :
    kpB (upd (upd sa (dn - bs + 1) (nI P1)) (dn + 1 - bs + 1) (nI P2)) sh2 pa1 pb1 rk1 wd1 tw1 tn1 bs (dn + 1) (upN FT (dn + 1) ft1) (upN V (dn + 1) (vC kd1 st1 gb1 it1 mn1)) (upN VX (dn + 1) cx1) (upN VY (dn + 1) cy1) (upN W (dn + 1) P1) := by
  have hnn : ∀ g, g < ft → nnV V tn dn g = nnF st tn mn g := fun g hg => by
    have d := hD g hg
    show nnF (V dn 1) tn (V dn 4) g = _
    unfold nnF
    rw [d.2.1]
    by_cases c : (tn g).toInt = 0 ∧ ¬ (st g).toInt = 0
    · rw [if_pos c, if_pos c]; exact (d.2.2.2.2 c.2 c.1).1
    · rw [if_neg c, if_neg c]
  have hP1' : P1 = psN (nnV V tn dn) (W dn) (FT dn) := by rw [hP1, ← hft]; exact (psN_cg hnn ft (Nat.le_refl _)).symm
  refine ⟨by rw [upN_o (by omega)]; exact h.1, fun t t1 t2 => ?_, fun t t1 t2 => ?_, fun _ t t1 t2 => ?_⟩
  · rw [upo9 (by omega)]
    by_cases e : t = dn + 1
    · rw [e, upN_at, show dn + 1 - bs = dn - bs + 1 by omega, up_at]
    · rw [upN_o e, upo9 (by omega)]; exact h.2.1 t t1 (by omega)
  · rw [show nnV (upN V (dn + 1) (vC kd1 st1 gb1 it1 mn1)) tn1 t = nnF (V t 1) tn1 (V t 4) by show nnF (upN V (dn + 1) _ t 1) tn1 (upN V (dn + 1) _ t 4) = _; rw [upN_o (show t ≠ dn + 1 by omega)], upN_o (f := W) (show t ≠ dn + 1 by omega), upN_o (f := FT) (show t ≠ dn + 1 by omega)]
    have hc : psN (nnF (V t 1) tn1 (V t 4)) (W t) (FT t) = psN (nnV V tn t) (W t) (FT t) := psN_cg (fun g hg => by
      have := hs g (by have := hmo t t1 (by omega); omega)
      show nnF (V t 1) tn1 (V t 4) g = nnF (V t 1) tn (V t 4) g
      unfold nnF; rw [this.2.2.2.2.2]) (FT t) (Nat.le_refl _)
    rw [hc]
    by_cases e : t = dn
    · rw [e, upN_at]; exact hP1'
    · rw [upN_o (by omega)]; exact h.2.2.1 t t1 (by omega)
  · by_cases e : t = dn + 1
    · rw [e, upN_at, upN_at, upN_at, upN_at, upN_at]
      exact ⟨p3, p4⟩
    · rw [upN_o e, upN_o e, upN_o e, upN_o e, upN_o e]
      by_cases e2 : t = dn
      · rw [e2]
        have b : blK sh2 pa pb rk wd tw tn ft (vC kd st gb it mn) cx cy (W dn) := ⟨p0, p2⟩
        rw [← hft]
        refine blK_cg b (fun j _ _ => rfl) (fun g hg => hs g hg) (fun g hg => ?_)
        have d := hD g hg
        have hn1 : nnF (V dn 1) tn1 (V dn 4) g = nnF st tn mn g := by
          rw [← hnn g hg]; show nnF (V dn 1) tn1 (V dn 4) g = nnF (V dn 1) tn (V dn 4) g
          unfold nnF; rw [(hs g hg).2.2.2.2.2]
        refine ⟨d.1, d.2.1, d.2.2.1, d.2.2.2.1, hn1, fun k hk => ?_⟩
        have hk : k < nnF st tn mn g := hk
        unfold nnF at hk
        by_cases c : (tn g).toInt = 0 ∧ ¬ (st g).toInt = 0
        · rw [if_pos c] at hk
          exact (d.2.2.2.2 c.2 c.1).2 k hk
        · rw [if_neg c] at hk; omega
      · have hb := h.2.2.2 (by omega) t t1 (by omega)
        have hw : psN (nnV V tn t) (W t) (FT t) ≤ W dn := by rw [← h.2.2.1 t t1 (by omega)]; exact kpB_le h (by omega) (by omega) hdT
        refine blK_cg hb (fun j _ hj => p1 j (by have : j < psN (nnV V tn t) (W t) (FT t) := hj; omega)) (fun g hg => hs g (by have := hmo t t1 (by omega); omega)) (fun g hg => ⟨rfl, rfl, rfl, rfl, ?_, fun k _ => ⟨rfl, rfl⟩⟩)
        have := hs g (by have := hmo t t1 (by omega); omega)
        unfold nnF; rw [this.2.2.2.2.2]
/-- what is no step forgets the positions -/
theorem kpB_0 (h0 : sa 0 = nI 0) : kpB sa sh pa pb rk wd tw tn dn dn FT V VX VY (fun _ => 0) :=
  ⟨rfl, fun t t1 t2 => by rw [show t - dn = 0 by omega]; exact h0, fun t t1 t2 => by omega, fun g => by omega⟩
end
end
section
/-! a position is taken up again: what the reference restores -/
/-- what the relation says of the positions alone -/
def poS (bs dn T ft : Nat) (FT : Nat → Nat) (V : Nat → Nat → Nat → Int32) (VX VY : Nat → Nat → Int32) (tn kd st gb it mn cx cy : Nat → Int32) : Prop :=
  (bs ≤ dn ∧ dn ≤ T ∧ T ≤ 512 ∧ ft = FT dn ∧ FT T ≤ 200) ∧ (∀ t u, bs ≤ t → t ≤ u → u ≤ T → FT t ≤ FT u) ∧ HiD dn ft V VX VY kd st gb it tn mn cx cy ∧
  (∀ t, bs ≤ t → t ≤ T → ∀ q, q < FT t → ((V t 1 q).toInt = 0 ∨ (q < FT dn ∧ (V dn 1 q).toInt = 0)) → q < FT bs ∧ V t 0 q = V dn 0 q ∧ V t 1 q = V dn 1 q ∧ V t 2 q = V dn 2 q ∧ V t 3 q = V dn 3 q)
section
variable {cI cO : ClassId} {L : List Nat} {f : Nat → va_E} {e0 ea : Nat} {FA : Nat → Option Nat} {bs dn T ft : Nat} {FT : Nat → Nat} {V : Nat → Nat → Nat → Int32} {VX VY : Nat → Nat → Int32} {tn rk wd tw pa pb wh of9 we kd st gb it mn cx cy : Nat → Int32} {sa sh : Nat → Int32} {W : Nat → Nat}
theorem shB_po (h : shB cI cO L f e0 FA ea bs dn T ft FT V VX VY tn rk wd tw pa pb wh of9 we kd st gb it mn cx cy) : poS bs dn T ft FT V VX VY tn kd st gb it mn cx cy := by
  obtain ⟨own, fe, cl, la, sp, SA, ⟨h1, h2, h3, h4, h5, ⟨m1, m2, m3, m4, m5, m6⟩, h7⟩, h8, h9⟩ := h
  exact ⟨⟨m1, m2, m3, h9, m6⟩, fun t u a b c => StA_le h4 a b c, h8, fun t t1 t2 q hq g => ((h3 t t1 t2 q hq).2 g).2⟩
def wfV (FT : Nat → Nat) (V : Nat → Nat → Nat → Int32) (VX VY : Nat → Nat → Int32) (tn : Nat → Int32) (t : Nat) : Prop := ∀ q, q < FT t → ¬ (V t 1 q).toInt = 0 → wfQ (V t 0 q) (V t 1 q) (tn q) (V t 4 q) (V t 3 q) (cF40 (VX t) q) (cF40 (VY t) q)
theorem wfQ_cg2 {kd st tn mn it : Int32} {X Y X1 Y1 : Nat → Int32} (hc : tn.toInt = 0 → ∀ k, k < nN mn → X1 k = X k ∧ Y1 k = Y k) (h : wfQ kd st tn mn it X Y) : wfQ kd st tn mn it X1 Y1 := by
  obtain ⟨h1, h2, h3, h4⟩ := h
  refine ⟨h1, h2, fun t => ?_, h4⟩
  obtain ⟨⟨a1, a2, a3, a4⟩, a5⟩ := h3 t
  have hc2 : ∀ k, k < nN mn → X k = X1 k ∧ Y k = Y1 k := fun k hk => ⟨(hc t k hk).1.symm, (hc t k hk).2.symm⟩
  exact ⟨⟨a1, a2, a3, (pls_cg hc2).mp a4⟩, fun s => mSm_cg hc2 (a5 s)⟩
/-- what lies kept at a position -/
def DV (V : Nat → Nat → Nat → Int32) (VX VY : Nat → Nat → Int32) (pa pb rk wd tw tn : Nat → Int32) (t : Nat) : Nat → Nat → Int32 := shD (V t 0) (V t 1) (V t 2) (V t 3) pa pb rk wd tw (nnV V tn t) (VX t) (VY t)
theorem rsA_id (q : Nat) (k : Nat → Int32) : rsA q (fun g => k g) k = k := by
  funext g; unfold rsA; split <;> rfl
theorem nnV_40 {t : Nat} (h : wfV FT V VX VY tn t) {q : Nat} (hq : q < FT t) : nnV V tn t q ≤ 40 := by
  show nnF (V t 1) tn (V t 4) q ≤ 40
  unfold nnF
  by_cases c : (tn q).toInt = 0 ∧ ¬ (V t 1 q).toInt = 0
  · rw [if_pos c]; exact ((h q hq c.2).2.2.1 c.1).1.2.1
  · rw [if_neg c]; omega
/-- the arrays behind a restore, feature by feature -/
theorem rs_HC {t : Nat} (hV : wfV FT V VX VY tn t) : ∀ q, q < FT t → rsA (FT t) (fun g => DV V VX VY pa pb rk wd tw tn t g 0) kd q = V t 0 q ∧ rsA (FT t) (fun g => DV V VX VY pa pb rk wd tw tn t g 1) st q = V t 1 q ∧ rsA (FT t) (fun g => DV V VX VY pa pb rk wd tw tn t g 2) gb q = V t 2 q ∧ rsA (FT t) (fun g => DV V VX VY pa pb rk wd tw tn t g 3) it q = V t 3 q ∧
    ((¬ (V t 1 q).toInt = 0 ∧ (tn q).toInt = 0) → nN (rsM (FT t) (DV V VX VY pa pb rk wd tw tn t) (nnV V tn t) tn mn q) = nN (V t 4 q) ∧ ∀ k, k < nN (V t 4 q) → cF40 (rsC (FT t) 0 (DV V VX VY pa pb rk wd tw tn t) (nnV V tn t) 10 cx) q k = cF40 (VX t) q k ∧ cF40 (rsC (FT t) 0 (DV V VX VY pa pb rk wd tw tn t) (nnV V tn t) 11 cy) q k = cF40 (VY t) q k) ∧
    ((V t 1 q).toInt = 0 → rsM (FT t) (DV V VX VY pa pb rk wd tw tn t) (nnV V tn t) tn mn q = mn q ∧ ∀ k, k < 40 → cF40 (rsC (FT t) 0 (DV V VX VY pa pb rk wd tw tn t) (nnV V tn t) 10 cx) q k = cF40 cx q k ∧ cF40 (rsC (FT t) 0 (DV V VX VY pa pb rk wd tw tn t) (nnV V tn t) 11 cy) q k = cF40 cy q k) := by
  intro q hq
  have r : ∀ (d k : Nat → Int32), rsA (FT t) d k q = d q := fun d k => by unfold rsA; rw [if_pos hq]
  refine ⟨(r _ _).trans rfl, (r _ _).trans rfl, (r _ _).trans rfl, (r _ _).trans rfl, fun hs => ?_, fun hs => ?_⟩
  · have hn : nnV V tn t q = nN (V t 4 q) := by show nnF (V t 1) tn (V t 4) q = _; unfold nnF; rw [if_pos ⟨hs.2, hs.1⟩]
    have h40 := nnV_40 hV hq
    refine ⟨?_, fun k hk => ?_⟩
    · unfold rsM
      rw [if_pos ⟨hq, hs.1, hs.2⟩, nN_nI (by omega), hn]
    · have e1 : (40 * q + k) / 40 = q := by omega
      have e2 : (40 * q + k) % 40 = k := by omega
      have c : ∀ o (D : Nat → Nat → Int32) (z : Nat → Int32), rsC (FT t) 0 D (nnV V tn t) o z (40 * q + k) = D q (o + 2 * k) := fun o D z => by
        unfold rsC
        rw [e1, e2, if_pos (Or.inl ⟨hq, by omega⟩)]
      exact ⟨(c 10 _ cx).trans (shD_x rfl), (c 11 _ cy).trans (shD_y rfl)⟩
  · have hn : nnV V tn t q = 0 := by show nnF (V t 1) tn (V t 4) q = _; unfold nnF; rw [if_neg (fun g => g.2 hs)]
    refine ⟨?_, fun k hk => ?_⟩
    · unfold rsM
      exact if_neg (fun g => g.2.1 hs)
    · have e1 : (40 * q + k) / 40 = q := by omega
      have e2 : (40 * q + k) % 40 = k := by omega
      have c : ∀ o (D : Nat → Nat → Int32) (z : Nat → Int32), rsC (FT t) 0 D (nnV V tn t) o z (40 * q + k) = z (40 * q + k) := fun o D z => by
        unfold rsC
        rw [e1, e2, if_neg (fun g => by omega)]
      exact ⟨c 10 _ cx, c 11 _ cy⟩
/-- the state at a position is sound -/
theorem rs_wf {t : Nat} {kd1 st1 gb1 it1 mn1 cx1 cy1 : Nat → Int32} (hp : poS bs dn T ft FT V VX VY tn kd st gb it mn cx cy) (h1 : bs ≤ t) (h2 : t ≤ T) (hw : wfS ft kd st tn mn it cx cy) (hV : wfV FT V VX VY tn t) (hm : ∀ q, q < FT t → (¬ (V t 1 q).toInt = 0 ∧ (tn q).toInt = 0) → mn1 q = nI (nN (mn1 q)))
    (hc : ∀ q, q < FT t → kd1 q = V t 0 q ∧ st1 q = V t 1 q ∧ gb1 q = V t 2 q ∧ it1 q = V t 3 q ∧ ((¬ (V t 1 q).toInt = 0 ∧ (tn q).toInt = 0) → nN (mn1 q) = nN (V t 4 q) ∧ ∀ k, k < nN (V t 4 q) → cF40 cx1 q k = cF40 (VX t) q k ∧ cF40 cy1 q k = cF40 (VY t) q k) ∧ ((V t 1 q).toInt = 0 → mn1 q = mn q ∧ ∀ k, k < 40 → cF40 cx1 q k = cF40 cx q k ∧ cF40 cy1 q k = cF40 cy q k)) : wfS (FT t) kd1 st1 tn mn1 it1 cx1 cy1 := by
  intro q hq
  obtain ⟨c1, c2, c3, c4, c5, c6⟩ := hc q hq
  obtain ⟨⟨p1, p2, p3, p4, p5⟩, p6, p7, p8⟩ := hp
  rw [c1, c2, c4]
  by_cases o : (V t 1 q).toInt = 0
  · have e := p8 t h1 h2 q hq (Or.inl o)
    have hqf : q < ft := by rw [p4]; exact Nat.lt_of_lt_of_le e.1 (p6 bs dn (Nat.le_refl _) p1 p2)
    have d := p7 q hqf
    rw [e.2.1, e.2.2.1, e.2.2.2.2, d.1, d.2.1, d.2.2.2.1, (c6 o).1]
    exact wfQ_cg (c6 o).2 (hw q hqf)
  · have v := hV q hq o
    by_cases t0 : (tn q).toInt = 0
    · have c := c5 ⟨o, t0⟩
      have em : mn1 q = V t 4 q := by rw [hm q hq ⟨o, t0⟩, c.1]; exact ((v.2.2.1 t0).1.1).symm
      rw [em]
      exact wfQ_cg2 (fun _ k hk => c.2 k hk) v
    · exact ⟨v.1, v.2.1, fun g => absurd g t0, v.2.2.2⟩
end
end
section
/-! the house that a JOIN makes is a house -/
theorem cr_b1 (a b c d : Int) : cr a c b c b d = (b - a) * (d - c) := by unfold cr; grind
theorem cr_b2 (a b c d : Int) : cr b c b d a d = (b - a) * (d - c) := by unfold cr; grind
theorem cr_b3 (a b c d : Int) : cr b d a d a c = (b - a) * (d - c) := by unfold cr; grind
theorem cr_b4 (a b c d : Int) : cr a d a c b c = (b - a) * (d - c) := by unfold cr; grind
theorem dt_b1 (a b c d : Int) : dt a d a c b c = 0 := by unfold dt; grind
theorem dt_b2 (a b c d : Int) : dt a c b c b d = 0 := by unfold dt; grind
theorem dt_b3 (a b c d : Int) : dt b c b d a d = 0 := by unfold dt; grind
theorem dt_b4 (a b c d : Int) : dt b d a d a c = 0 := by unfold dt; grind
theorem bx_sm {P Q : Nat → Int32} {a b c d : Int32} (hp : P 0 = a ∧ P 1 = b ∧ P 2 = b ∧ P 3 = a) (hq : Q 0 = c ∧ Q 1 = c ∧ Q 2 = d ∧ Q 3 = d) (h1 : a.toInt < b.toInt) (h2 : c.toInt < d.toInt) : mSm 6 4 P Q := by
  have e : eO 6 4 = 4 := rfl
  have n0 : nxt 4 0 = 1 := rfl
  have n1 : nxt 4 1 = 2 := rfl
  have n2 : nxt 4 2 = 3 := rfl
  have n3 : nxt 4 3 = 0 := rfl
  have v0 : prv 4 0 = 3 := rfl
  have v1 : prv 4 1 = 0 := rfl
  have v2 : prv 4 2 = 1 := rfl
  have v3 : prv 4 3 = 2 := rfl
  obtain ⟨p0, p1, p2, p3⟩ := hp
  obtain ⟨q0, q1, q2, q3⟩ := hq
  have m : 0 < (b.toInt - a.toInt) * (d.toInt - c.toInt) := Int.mul_pos (by omega) (by omega)
  refine ⟨fun g => absurd g (by decide), fun _ => ⟨by decide, fun i hi => ?_, fun i k hik hk => ?_, Or.inr fun k hk => ?_⟩⟩
  · rw [e] at hi
    rcases (show i = 0 ∨ i = 1 ∨ i = 2 ∨ i = 3 by omega) with rfl | rfl | rfl | rfl
    · rw [n0, p0, p1]; omega
    · rw [n1, q1, q2]; omega
    · rw [n2, p2, p3]; omega
    · rw [n3, q3, q0]; omega
  · rw [e] at hk
    unfold mCn mFl fld
    rcases (show (i = 0 ∧ k = 1) ∨ (i = 1 ∧ k = 2) ∨ (i = 2 ∧ k = 3) ∨ (i = 0 ∧ k = 3) ∨ (i = 0 ∧ k = 2) ∨ (i = 1 ∧ k = 3) by omega) with ⟨rfl, rfl⟩ | ⟨rfl, rfl⟩ | ⟨rfl, rfl⟩ | ⟨rfl, rfl⟩ | ⟨rfl, rfl⟩ | ⟨rfl, rfl⟩
    · refine ⟨fun _ h => ?_, fun h => absurd rfl h, fun h => absurd rfl h⟩
      have h := h.1
      rw [n0, n1, p0, q0, p1, q1, p2, q2, cr_b1] at h; omega
    · refine ⟨fun _ h => ?_, fun h => absurd rfl h, fun h => absurd rfl h⟩
      have h := h.1
      rw [n1, n2, p1, q1, p2, q2, p3, q3, cr_b2] at h; omega
    · refine ⟨fun _ h => ?_, fun h => absurd rfl h, fun h => absurd rfl h⟩
      have h := h.1
      rw [n2, n3, p2, q2, p3, q3, p0, q0, cr_b3] at h; omega
    · refine ⟨fun g => absurd g (by decide), fun _ _ h => ?_, fun _ g => absurd ⟨by decide, rfl, by rw [e]⟩ g⟩
      have h := h.1
      rw [n3, n0, p3, q3, p0, q0, p1, q1, cr_b4] at h; omega
    · refine ⟨fun g => absurd g (by decide), fun _ g => absurd g.2.2 (by rw [e]; decide), fun _ _ h => ?_⟩
      unfold eMt mtC at h
      have h := h.2.1
      rw [n0, n2, q0, q1, q2, q3] at h; omega
    · refine ⟨fun g => absurd g (by decide), fun _ g => absurd g.2.1 (by decide), fun _ _ h => ?_⟩
      unfold eMt mtC at h
      have h := h.1
      rw [n1, n3, p1, p2, p3, p0] at h; omega
  · unfold eRt
    rcases (show k = 0 ∨ k = 1 ∨ k = 2 ∨ k = 3 by omega) with rfl | rfl | rfl | rfl
    · rw [v0, n0, p3, q3, p0, q0, p1, q1]; exact dt_b1 _ _ _ _
    · rw [v1, n1, p0, q0, p1, q1, p2, q2]; exact dt_b2 _ _ _ _
    · rw [v2, n2, p1, q1, p2, q2, p3, q3]; exact dt_b3 _ _ _ _
    · rw [v3, n3, p2, q2, p3, q3, p0, q0]; exact dt_b4 _ _ _ _
theorem ne_two {X : Nat → Int32} {n i j : Nat} (hi : i < n) (hj : j < n) (h : ¬ (X i).toInt = (X j).toInt) : ∃ i j, i < n ∧ j < n ∧ (X i).toInt < (X j).toInt := by
  rcases Int.lt_or_le (X i).toInt (X j).toInt with g | g
  · exact ⟨i, j, hi, hj, g⟩
  · exact ⟨j, i, hj, hi, by omega⟩
/-- a house is as wide as it is high: both ways more than nothing -/
theorem ho_nd {n : Nat} {X Y : Nat → Int32} (h : mSm 6 n X Y) : (∃ i j, i < n ∧ j < n ∧ (X i).toInt < (X j).toInt) ∧ ∃ i j, i < n ∧ j < n ∧ (Y i).toInt < (Y j).toInt := by
  obtain ⟨h1, h2, h3, h4⟩ := h.2 (by decide)
  have hn : 3 ≤ n := h1
  have e : eO 6 n = n := rfl
  have n0 : nxt n 0 = 1 := by unfold nxt; rw [if_pos (by omega)]
  have v0 : prv n 0 = n - 1 := rfl
  have nl : nxt n (n - 1) = 0 := by unfold nxt; rw [if_neg (by omega)]
  have a := h2 0 (by rw [e]; omega)
  have b := h2 (n - 1) (by rw [e]; omega)
  have r := (h4.resolve_left (fun g => g rfl)) 0 (by omega)
  unfold eRt dt at r
  rw [n0] at a
  rw [nl] at b
  rw [n0, v0] at r
  have z : ∀ u v : Int, ¬ u = 0 → ¬ v = 0 → ¬ u * v = 0 := fun u v hu hv g => (Int.mul_eq_zero.mp g).elim hu hv
  constructor
  · by_cases c1 : (X (n - 1)).toInt = (X 0).toInt
    · by_cases c2 : (X 1).toInt = (X 0).toInt
      · exfalso
        have d1 : ¬ ((Y (n - 1)).toInt - (Y 0).toInt) = 0 := by omega
        have d2 : ¬ ((Y 1).toInt - (Y 0).toInt) = 0 := by omega
        have d3 := z _ _ d1 d2
        rw [c1, c2, Int.sub_self, Int.zero_mul, Int.zero_add] at r
        exact d3 r
      · exact ne_two (i := 1) (j := 0) (by omega) (by omega) c2
    · exact ne_two (i := n - 1) (j := 0) (by omega) (by omega) c1
  · by_cases c1 : (Y (n - 1)).toInt = (Y 0).toInt
    · by_cases c2 : (Y 1).toInt = (Y 0).toInt
      · exfalso
        have d1 : ¬ ((X (n - 1)).toInt - (X 0).toInt) = 0 := by omega
        have d2 : ¬ ((X 1).toInt - (X 0).toInt) = 0 := by omega
        have d3 := z _ _ d1 d2
        rw [c1, c2, Int.sub_self, Int.zero_mul, Int.add_zero] at r
        exact d3 r
      · exact ne_two (i := 1) (j := 0) (by omega) (by omega) c2
    · exact ne_two (i := n - 1) (j := 0) (by omega) (by omega) c1
theorem jlo_lt {cx cy : Nat → Int32} {f n g m : Nat} (hf : pls n (cF40 cx f) (cF40 cy f)) (hg : pls m (cF40 cx g) (cF40 cy g)) (hs : mSm 6 n (cF40 cx f) (cF40 cy f)) : (jlo cx f n g m).toInt < (jhi cx f n g m).toInt ∧ (jlo cy f n g m).toInt < (jhi cy f n g m).toInt := by
  obtain ⟨⟨i, j, hi, hj, hl⟩, k, l, hk, hl2, hm⟩ := ho_nd hs
  have hp := mSm_pos hs
  have h0 := hf 0 (by omega)
  unfold pl at h0
  have a := mnP h0.1 hf n (Nat.le_refl _)
  have b := mnP h0.2 hf n (Nat.le_refl _)
  have c1 := (mnP a.1 hg m (Nat.le_refl _)).1
  have c2 := (mnP a.2.2.1 hg m (Nat.le_refl _)).2.2.1
  have c3 := (mnP b.2.1 hg m (Nat.le_refl _)).2.1
  have c4 := (mnP b.2.2.2 hg m (Nat.le_refl _)).2.2.2
  have u : ∀ (X U : Nat → Int32) (z : Int) (i j : Nat), i < n → j < n → (X i).toInt < (X j).toInt → mnI (mnI z X n) U m < mxI (mxI z X n) U m := fun X U z i j hi hj h => by
    have e1 := (mn_mx (z := mnI z X n) (X := U) m).1
    have e2 := (mn_mx (z := mxI z X n) (X := U) m).2
    have e3 := mnI_le (z := z) (X := X) hi
    have e4 := le_mxI (z := z) (X := X) hj
    omega
  unfold jlo jhi
  rw [iI_toInt (by omega), iI_toInt (by omega), iI_toInt (by omega), iI_toInt (by omega)]
  exact ⟨u _ _ _ i j hi hj hl, u _ _ _ k l hk hl2 hm⟩
end
section
/-! how much there can be: features, corners, kept sheets -/
def smN (c : Nat → Nat) : Nat → Nat
  | 0 => 0
  | n + 1 => smN c n + c n
theorem smN_le (c : Nat → Nat) {a b : Nat} (h : a ≤ b) : smN c a ≤ smN c b := by
  induction b with
  | zero => rw [show a = 0 by omega]; exact Nat.le_refl _
  | succ b ih =>
    rcases Nat.lt_or_ge a (b + 1) with g | g
    · have := ih (by omega); show _ ≤ smN c b + c b; omega
    · rw [show a = b + 1 by omega]; exact Nat.le_refl _
theorem smN_up (c : Nat → Nat) {f : Nat} : ∀ n, smN (upN c f (c f + 1)) n ≤ smN c n + 1 ∧ (n ≤ f → smN (upN c f (c f + 1)) n = smN c n) := by
  intro n
  induction n with
  | zero => exact ⟨Nat.zero_le _, fun _ => rfl⟩
  | succ n ih =>
    obtain ⟨h1, h2⟩ := ih
    show smN (upN c f (c f + 1)) n + upN c f (c f + 1) n ≤ smN c n + c n + 1 ∧ (n + 1 ≤ f → smN (upN c f (c f + 1)) n + upN c f (c f + 1) n = smN c n + c n)
    by_cases e : n = f
    · rw [h2 (by omega), e, upN_at]; exact ⟨by omega, fun g => by omega⟩
    · rw [upN_o e]; exact ⟨by omega, fun g => by rw [h2 (by omega)]⟩
/-- THERE, and all, against what was begun and done; corners against what was told -/
def bdC (cc : Nat → Nat) (AD F : Nat) (k s m tn : Nat → Int32) : Prop := cntP (fun q => (s q).toInt = 1) F + F ≤ AD ∧ ∀ q, q < F → (tn q).toInt = 0 → nN (m q) ≤ 4 + cc q ∧ ((k q).toInt ≤ 5 → nN (m q) ≤ cc q)
section
variable {cc cc1 : Nat → Nat} {AD AD1 C F ft f : Nat} {k s m tn kd kd1 st st1 mn mn1 tn1 : Nat → Int32}
theorem bdC_F (h : bdC cc AD F k s m tn) : F ≤ AD := by have := h.1; omega
theorem bdC_ps (h : bdC cc AD F k s m tn) {w : Nat} : ∀ g, g ≤ F → psN (nnF s tn m) w g ≤ w + 1 + 18 * g + 2 * smN cc g := by
  intro g
  induction g with
  | zero => intro _; show w + 1 ≤ _; omega
  | succ g ih =>
    intro hg
    have h1 := ih (by omega)
    have h2 : nnF s tn m g ≤ 4 + cc g := by
      unfold nnF
      by_cases c : (tn g).toInt = 0 ∧ ¬ (s g).toInt = 0
      · rw [if_pos c]; exact (h.2 g (by omega) c.1).1
      · rw [if_neg c]; omega
    show psN (nnF s tn m) w g + (10 + 2 * nnF s tn m g) ≤ w + 1 + 18 * (g + 1) + 2 * (smN cc g + cc g)
    omega
theorem bdC_p2 (h : bdC cc AD F k s m tn) (h200 : F ≤ 200) (hC : smN cc 200 ≤ C) {w : Nat} : psN (nnF s tn m) w F ≤ w + (1 + 18 * AD + 2 * C) := by
  have h1 := bdC_ps h (w := w) F (Nat.le_refl _)
  have h2 := smN_le cc h200
  have h3 := bdC_F h
  omega
theorem bdC_mono (h : bdC cc AD F k s m tn) (hA : AD ≤ AD1) (hc : ∀ q, cc q ≤ cc1 q) : bdC cc1 AD1 F k s m tn := ⟨Nat.le_trans h.1 hA, fun q hq ht => ⟨Nat.le_trans (h.2 q hq ht).1 (by have := hc q; omega), fun g => Nat.le_trans ((h.2 q hq ht).2 g) (hc q)⟩⟩
theorem bdC_cg (h : bdC cc AD F kd st mn tn) (hs : ∀ q, q < F → (st1 q).toInt = 1 → (st q).toInt = 1) (hm : ∀ q, q < F → (tn1 q).toInt = 0 → ((tn q).toInt = 0 ∧ kd1 q = kd q ∧ nN (mn1 q) ≤ nN (mn q)) ∨ ((kd1 q).toInt = 6 ∧ nN (mn1 q) ≤ 4)) : bdC cc AD F kd1 st1 mn1 tn1 := by
  refine ⟨Nat.le_trans (Nat.add_le_add_right ?_ _) h.1, fun q hq ht => ?_⟩
  · have e : cntP (fun q => (st1 q).toInt = 1) F = cntP (fun q => q < F ∧ (st1 q).toInt = 1) F := cntP_cg (fun q hq => ⟨fun g => ⟨hq, g⟩, fun g => g.2⟩)
    rw [e]
    exact cntP_le (fun q g => hs q g.1 g.2) F
  · rcases hm q hq ht with ⟨g1, g2, g3⟩ | ⟨g1, g2⟩
    · rw [g2]; exact ⟨Nat.le_trans g3 (h.2 q hq g1).1, fun g => Nat.le_trans g3 ((h.2 q hq g1).2 g)⟩
    · exact ⟨by omega, fun g => by omega⟩
theorem cnt_o {a : Int32} (hf : F ≤ f) : cntP (fun q => (upd st f a q).toInt = 1) F = cntP (fun q => (st q).toInt = 1) F := cntP_cg (fun q hq => by rw [upo9 (show q ≠ f by omega)])
theorem cnt_1 {a : Int32} (hf : f < F) (h0 : ¬ (st f).toInt = 1) (ha : a.toInt = 1) : cntP (fun q => (upd st f a q).toInt = 1) F = cntP (fun q => (st q).toInt = 1) F + 1 := by
  rw [← cntP_ins (P := fun q => (st q).toInt = 1) hf h0]
  refine cntP_cg (fun q _ => ?_)
  by_cases e : q = f
  · rw [e, up_at]; exact ⟨fun _ => Or.inr rfl, fun _ => ha⟩
  · rw [upo9 e]; exact ⟨Or.inl, fun g => g.resolve_right e⟩
theorem cnt_0 {a : Int32} (hf : f < F) (h0 : (st f).toInt = 1) (ha : ¬ a.toInt = 1) : cntP (fun q => (upd st f a q).toInt = 1) F + 1 = cntP (fun q => (st q).toInt = 1) F := by
  rw [← cntP_ins (P := fun q => (upd st f a q).toInt = 1) hf (by rw [up_at]; exact ha)]
  refine cntP_cg (fun q _ => ?_)
  by_cases e : q = f
  · rw [e]; exact ⟨fun _ => h0, fun _ => Or.inr rfl⟩
  · rw [upo9 e]; exact ⟨fun g => g.resolve_right e, Or.inl⟩
theorem bdC_new {k1 : Int32} (h : bdC cc AD ft kd st mn tn) : bdC cc (AD + 1) (ft + 1) (upd kd ft k1) (upd st ft 0) (upd mn ft 0) (upd tn ft 0) := by
  refine ⟨?_, fun q hq ht => ?_⟩
  · rw [cntP_n (by rw [up_at]; decide), cnt_o (Nat.le_refl _)]
    have := h.1; omega
  · by_cases e : q = ft
    · rw [e, up_at, up_at]; have : nN (0 : Int32) = 0 := by decide
      omega
    · rw [upo9 e] at ht
      rw [upo9 e, upo9 e]; exact h.2 q (by omega) ht
theorem bdC_done (h : bdC cc AD ft kd st mn tn) (hf : f < ft) (hs : (st f).toInt = 0) : bdC cc (AD + 1) ft kd (upd st f 1) mn tn :=
  ⟨by rw [cnt_1 hf (by omega) (by decide)]; have := h.1; omega, h.2⟩
theorem bdC_cor (h : bdC cc AD ft kd st mn tn) (hn : nN (mn f) < 40) : bdC (upN cc f (cc f + 1)) AD ft kd st (upd mn f (nI (nN (mn f) + 1))) tn := by
  refine ⟨h.1, fun q hq ht => ?_⟩
  by_cases e : q = f
  · rw [e] at hq ht ⊢
    rw [up_at, upN_at, nN_nI (by omega)]; have := h.2 f hq ht; exact ⟨by omega, fun g => by have := this.2 g; omega⟩
  · rw [upo9 e, upN_o e]; exact h.2 q hq ht
theorem bdC_join {g : Nat} (h : bdC cc AD ft kd st mn tn) (hf : f < ft) (hg : g < ft) (hgf : g ≠ f) (hs : (st f).toInt = 1) (hs2 : (st g).toInt = 1) : bdC cc AD (ft + 1) (upd kd ft 6) (upd (upd (upd st f 2) g 2) ft 1) (upd mn ft 4) (upd tn ft 0) := by
  refine ⟨?_, fun q hq ht => ?_⟩
  · have c1 := cnt_0 (st := st) (a := 2) hf hs (by decide)
    have c2 := cnt_0 (st := upd st f 2) (a := 2) hg (by rw [upo9 hgf]; exact hs2) (by decide)
    rw [cntP_y (by rw [up_at]; decide), cnt_o (Nat.le_refl _)]
    have := h.1; omega
  · by_cases e : q = ft
    · rw [e, up_at, up_at]; have : nN (4 : Int32) = 4 := by decide
      exact ⟨by omega, fun g => absurd g (by decide)⟩
    · rw [upo9 e] at ht
      rw [upo9 e, upo9 e]; exact h.2 q (by omega) ht
end
end
section
/-! all that holds between two calls, but for the cells -/
def capC (Sn AD C : Nat) : Nat := (Sn + 1) * (1 + 18 * AD + 2 * C)
def INV (K Sn AD C : Nat) (cc W : Nat → Nat) (bs T ft cp ln cl : Nat) (FT : Nat → Nat) (V : Nat → Nat → Nat → Int32) (VX VY : Nat → Nat → Int32) (tn rk wd tw pa pb kd st it mn cx cy sa sh lb lc : Nat → Int32) : Prop :=
  (wfS ft kd st tn mn it cx cy ∧ (∀ q, q < FT T → (0 ≤ (rk q).toInt ∧ (rk q).toInt ≤ 9) ∧ (0 ≤ (wd q).toInt ∧ (wd q).toInt ≤ 100)) ∧ bdC cc AD ft kd st mn tn ∧ ∀ q, q < 200 → ¬ (tn q).toInt = 0 → mn q = 0) ∧
  (∀ t, bs ≤ t → t ≤ T → wfV FT V VX VY tn t ∧ bdC cc AD (FT t) (V t 0) (V t 1) (V t 4) tn) ∧
  (kpB sa sh pa pb rk wd tw tn bs T FT V VX VY W ∧ 1 ≤ cp ∧ pw 1 cp ∧ W T ≤ 4096 * cp ∧ (bs < T → psN (nnV V tn T) (W T) (FT T) ≤ 4096 * cp) ∧ (cp = 1 ∨ 2048 * cp ≤ capC Sn AD C)) ∧
  (smN cc 200 ≤ C ∧ AD + C + Sn ≤ K ∧ T ≤ Sn) ∧
  (ln ≤ 64 * cl ∧ 1 ≤ cl ∧ ln ≤ Sn * C ∧ (cl = 1 ∨ 32 * cl ≤ Sn * C) ∧ ∀ j, j < ln → pl (lb j) ∧ pl (lc j))
theorem capC_le {Sn Sn1 AD AD1 C C1 : Nat} (h1 : Sn ≤ Sn1) (h2 : AD ≤ AD1) (h3 : C ≤ C1) : capC Sn AD C ≤ capC Sn1 AD1 C1 := Nat.mul_le_mul (by omega) (by omega)
/-- a product of two numbers whose sum is at most 514 -/
theorem sq_257 (a : Int) : (257 - a) * (257 - a) = 66049 - a * (514 - a) := by grind
theorem mul_514 {a b : Nat} (h : a + b ≤ 514) : a * b ≤ 66049 := by
  have hb : b ≤ 514 - a := by omega
  have h1 : a * b ≤ a * (514 - a) := Nat.mul_le_mul (Nat.le_refl _) hb
  have hz : (0 : Int) ≤ (257 - (a : Int)) * (257 - (a : Int)) := gg_0
  rw [sq_257] at hz
  have e3 : ((514 - a : Nat) : Int) = 514 - (a : Int) := by omega
  have e2 : ((a * (514 - a) : Nat) : Int) = (a : Int) * (514 - (a : Int)) := by rw [Int.natCast_mul, e3]
  omega
theorem capC_b {Sn AD C : Nat} (h : AD + C + Sn ≤ 512) : capC Sn AD C ≤ 1200000 := by
  have h1 : capC Sn AD C ≤ (Sn + 1) * (1 + 18 * (AD + C)) := Nat.mul_le_mul (Nat.le_refl _) (by omega)
  have h2 := mul_514 (a := Sn + 1) (b := AD + C) (by omega)
  have h3 : (Sn + 1) * (1 + 18 * (AD + C)) = (Sn + 1) + 18 * ((Sn + 1) * (AD + C)) := by rw [Nat.mul_add, Nat.mul_one, Nat.mul_left_comm]
  omega
theorem pw_512 {c : Nat} (h : pw 1 c) (hc : c < 1024) : c ≤ 512 := by
  obtain ⟨k, rfl⟩ := h
  rw [Nat.one_mul] at hc ⊢
  rcases Nat.lt_or_ge k 10 with g | g
  · have : 2 ^ k ≤ 2 ^ 9 := Nat.pow_le_pow_right (by omega) (by omega)
    omega
  · have : 2 ^ 10 ≤ 2 ^ k := Nat.pow_le_pow_right (by omega) g
    omega
section
variable {K Sn AD C : Nat} {cc W : Nat → Nat} {bs dn T ft cp ln cl : Nat} {FT : Nat → Nat} {V : Nat → Nat → Nat → Int32} {VX VY : Nat → Nat → Int32} {tn rk wd tw pa pb kd st gb it mn cx cy sa sh lb lc sh2 tn1 rk1 wd1 tw1 pa1 pb1 kd1 st1 gb1 it1 mn1 cx1 cy1 lb1 lc1 : Nat → Int32}
theorem bdC_tn {F : Nat} {k s m : Nat → Int32} (h : bdC cc AD F k s m tn) (ht : ∀ q, q < F → tn1 q = tn q) : bdC cc AD F k s m tn1 := ⟨h.1, fun q hq g => h.2 q hq (by rw [← ht q hq]; exact g)⟩
theorem wfV_tn {t : Nat} (h : wfV FT V VX VY tn t) (ht : ∀ q, q < FT t → tn1 q = tn q) : wfV FT V VX VY tn1 t := fun q hq o => by rw [ht q hq]; exact h q hq o
theorem INV_K (h : INV K Sn AD C cc W bs T ft cp ln cl FT V VX VY tn rk wd tw pa pb kd st it mn cx cy sa sh lb lc) : INV (K + 1) Sn AD C cc W bs T ft cp ln cl FT V VX VY tn rk wd tw pa pb kd st it mn cx cy sa sh lb lc :=
  ⟨h.1, h.2.1, h.2.2.1, ⟨h.2.2.2.1.1, by have := h.2.2.2.1.2.1; omega, h.2.2.2.1.2.2⟩, h.2.2.2.2⟩
theorem INV_cp (h : INV K Sn AD C cc W bs T ft cp ln cl FT V VX VY tn rk wd tw pa pb kd st it mn cx cy sa sh lb lc) (hK : K ≤ 512) : cp ≤ 512 := by
  obtain ⟨_, _, ⟨_, _, h3, _, _, h6⟩, ⟨_, h8, _⟩, _⟩ := h
  have := capC_b (Sn := Sn) (AD := AD) (C := C) (by omega)
  exact pw_512 h3 (by omega)
/-- where a position lies -/
theorem INV_W (h : INV K Sn AD C cc W bs T ft cp ln cl FT V VX VY tn rk wd tw pa pb kd st it mn cx cy sa sh lb lc) (h200 : ∀ t, bs ≤ t → t ≤ T → FT t ≤ 200) : ∀ k, bs + k ≤ T → W (bs + k) ≤ k * (1 + 18 * AD + 2 * C) := by
  intro k
  induction k with
  | zero => intro _; rw [show bs + 0 = bs from rfl, h.2.2.1.1.1]; omega
  | succ k ih =>
    intro hk
    have h1 := ih (by omega)
    have h2 := h.2.2.1.1.2.2.1 (bs + k) (by omega) (by omega)
    have h3 := bdC_p2 (h.2.1 (bs + k) (by omega) (by omega)).2 (h200 _ (by omega) (by omega)) h.2.2.2.1.1 (w := W (bs + k))
    have h4 : W (bs + (k + 1)) = psN (nnV V tn (bs + k)) (W (bs + k)) (FT (bs + k)) := h2
    rw [Nat.succ_mul]
    show W (bs + (k + 1)) ≤ _
    rw [h4]
    exact Nat.le_trans h3 (by omega)
/-- room for two sheets more -/
theorem INV_fit {F1 F2 : Nat} {k1 s1 m1 t1 k2 s2 m2 t2 : Nat → Int32} (h : INV K Sn AD C cc W bs T ft cp ln cl FT V VX VY tn rk wd tw pa pb kd st it mn cx cy sa sh lb lc) (hK : K + 1 ≤ 512) (hb : bs ≤ dn) (hd : dn ≤ T) (h200 : ∀ t, bs ≤ t → t ≤ T → FT t ≤ 200) (b1 : bdC cc AD F1 k1 s1 m1 t1) (f1 : F1 ≤ 200) (b2 : bdC cc AD F2 k2 s2 m2 t2) (f2 : F2 ≤ 200) :
    ∃ c1 c2, pw cp c1 ∧ W dn ≤ 4096 * cp ∧ psN (nnF s1 t1 m1) (W dn) F1 ≤ 4096 * c1 ∧ (c1 = cp ∨ 2048 * c1 < psN (nnF s1 t1 m1) (W dn) F1) ∧ c1 ≤ 512 ∧ pw c1 c2 ∧ psN (nnF s2 t2 m2) (psN (nnF s1 t1 m1) (W dn) F1) F2 ≤ 4096 * c2 ∧ (c2 = c1 ∨ 2048 * c2 < psN (nnF s2 t2 m2) (psN (nnF s1 t1 m1) (W dn) F1) F2) ∧ c2 ≤ 512 ∧ pw 1 c2 ∧ (c2 = 1 ∨ 2048 * c2 ≤ capC (Sn + 1) AD C) := by
  have hcp := INV_cp h (by omega)
  have hW := INV_W h h200 (dn - bs) (by omega)
  rw [show bs + (dn - bs) = dn by omega] at hW
  have hWT := kpB_le h.2.2.1.1 hb hd (Nat.le_refl _)
  obtain ⟨_, _, ⟨h1, h2, h3, h4, h5, h6⟩, ⟨h7, h8, h9⟩, _⟩ := h
  have q1 := bdC_p2 b1 f1 h7 (w := W dn)
  have q2 := bdC_p2 b2 f2 h7 (w := psN (nnF s1 t1 m1) (W dn) F1)
  generalize psN (nnF s1 t1 m1) (W dn) F1 = P1 at q1 q2 ⊢
  generalize psN (nnF s2 t2 m2) P1 F2 = P2 at q2 ⊢
  have hm : (dn - bs) * (1 + 18 * AD + 2 * C) + 2 * (1 + 18 * AD + 2 * C) ≤ capC (Sn + 1) AD C := by
    unfold capC
    rw [← Nat.add_mul]
    exact Nat.mul_le_mul (by omega) (Nat.le_refl _)
  have hB := capC_b (Sn := Sn + 1) (AD := AD) (C := C) (by omega)
  have hmo := capC_le (Sn := Sn) (Sn1 := Sn + 1) (AD := AD) (AD1 := AD) (C := C) (C1 := C) (by omega) (Nat.le_refl _) (Nat.le_refl _)
  obtain ⟨c1, e1, e2, e3⟩ := pw_ex P1 P1 cp h2 (by omega)
  have l1 := pw_le e1
  have p1 : pw 1 c1 := pw_tr h3 e1
  have c1b : c1 ≤ 512 := pw_512 p1 (by omega)
  obtain ⟨c2, g1, g2, g3⟩ := pw_ex P2 P2 c1 (by omega) (by omega)
  have p2 : pw 1 c2 := pw_tr p1 g1
  have c2b : c2 ≤ 512 := pw_512 p2 (by omega)
  exact ⟨c1, c2, e1, by omega, e2, e3, c1b, g1, g2, g3, c2b, p2, by omega⟩
end
section
variable {K Sn AD C : Nat} {cc W : Nat → Nat} {bs dn T ft ft1 cp ln cl c2 ln1 cl1 P1 P2 : Nat} {FT : Nat → Nat} {V : Nat → Nat → Nat → Int32} {VX VY : Nat → Nat → Int32} {tn rk wd tw pa pb kd st gb it mn cx cy sa sh lb lc sh2 tn1 rk1 wd1 tw1 pa1 pb1 kd1 st1 gb1 it1 mn1 cx1 cy1 lb1 lc1 : Nat → Int32}
/-- a step -/
theorem INV_step (h : INV K Sn AD C cc W bs T ft cp ln cl FT V VX VY tn rk wd tw pa pb kd st it mn cx cy sa sh lb lc) (hp : poS bs dn T ft FT V VX VY tn kd st gb it mn cx cy) (hP1 : P1 = psN (nnF st tn mn) (W dn) ft) (hP2 : P2 = psN (nnF st1 tn1 mn1) P1 ft1)
    (p0 : sh2 (W dn) = nI ft) (p1 : ∀ j, j < W dn → sh2 j = sh j) (p2 : ∀ g, g < ft → ∀ j, j < 10 + 2 * (nnF st tn mn) g → sh2 (psN (nnF st tn mn) (W dn) g + j) = (shD kd st gb it pa pb rk wd tw (nnF st tn mn) cx cy) g j)
    (p3 : sh2 P1 = nI ft1) (p4 : ∀ g, g < ft1 → ∀ j, j < 10 + 2 * (nnF st1 tn1 mn1) g → sh2 (psN (nnF st1 tn1 mn1) P1 g + j) = (shD kd1 st1 gb1 it1 pa1 pb1 rk1 wd1 tw1 (nnF st1 tn1 mn1) cx1 cy1) g j)
    (hs : ∀ g, g < ft → pa1 g = pa g ∧ pb1 g = pb g ∧ rk1 g = rk g ∧ wd1 g = wd g ∧ tw1 g = tw g ∧ tn1 g = tn g) (hw : wfS ft1 kd1 st1 tn1 mn1 it1 cx1 cy1) (hr : ∀ q, q < ft1 → (0 ≤ (rk1 q).toInt ∧ (rk1 q).toInt ≤ 9) ∧ (0 ≤ (wd1 q).toInt ∧ (wd1 q).toInt ≤ 100)) (hb : bdC cc AD ft1 kd1 st1 mn1 tn1) (ht0 : ∀ q, q < 200 → ¬ (tn1 q).toInt = 0 → mn1 q = 0)
    (hc1 : 1 ≤ c2) (hc2 : pw 1 c2) (hc3 : P2 ≤ 4096 * c2) (hc4 : c2 = 1 ∨ 2048 * c2 ≤ capC (Sn + 1) AD C) (hl : ln1 ≤ 64 * cl1 ∧ 1 ≤ cl1 ∧ ln1 ≤ (Sn + 1) * C ∧ (cl1 = 1 ∨ 32 * cl1 ≤ (Sn + 1) * C) ∧ ∀ j, j < ln1 → pl (lb1 j) ∧ pl (lc1 j)) :
    INV (K + 1) (Sn + 1) AD C cc (upN W (dn + 1) P1) bs (dn + 1) ft1 c2 ln1 cl1 (upN FT (dn + 1) ft1) (upN V (dn + 1) (vC kd1 st1 gb1 it1 mn1)) (upN VX (dn + 1) cx1) (upN VY (dn + 1) cy1) tn1 rk1 wd1 tw1 pa1 pb1 kd1 st1 it1 mn1 cx1 cy1 (upd (upd sa (dn - bs + 1) (nI P1)) (dn + 1 - bs + 1) (nI P2)) sh2 lb1 lc1 := by
  obtain ⟨⟨a1, a2, a3⟩, b1, ⟨k1, k2, k3, k4, k5, k6⟩, ⟨n1, n2, n3⟩, l1⟩ := h
  obtain ⟨⟨q1, q2, q3, q4, q5⟩, q6, q7, q8⟩ := hp
  have hmo : ∀ t, bs ≤ t → t ≤ dn → FT t ≤ ft := fun t t1 t2 => by rw [q4]; exact q6 t dn t1 t2 q2
  have hk := kpB_step (P2 := P2) k1 q1 q2 q7 q4 hmo hP1 p0 p1 p2 p3 p4 hs
  have hPw := psN_ge (nnF st1 tn1 mn1) P1 ft1
  refine ⟨⟨hw, fun q hq => hr q (by rw [upN_at] at hq; exact hq), hb, ht0⟩, fun t t1 t2 => ?_, ⟨hk, hc1, hc2, by rw [upN_at]; omega, fun _ => ?_, hc4⟩, ⟨n1, by omega, by omega⟩, hl⟩
  · by_cases e : t = dn + 1
    · rw [e]
      refine ⟨fun q hq o => ?_, ?_⟩
      · rw [upN_at] at hq
        rw [upN_at, upN_at, upN_at]; exact hw q hq
      · rw [upN_at, upN_at]; exact hb
    · have ht := hmo t t1 (by omega)
      have tt : ∀ q, q < FT t → tn1 q = tn q := fun q hq => (hs q (by omega)).2.2.2.2.2
      obtain ⟨v, d⟩ := b1 t t1 (by omega)
      refine ⟨fun q hq o => ?_, ?_⟩
      · rw [upN_o e] at hq o
        rw [upN_o e, upN_o e, upN_o e]; exact wfV_tn v tt q hq o
      · rw [upN_o e, upN_o e]; exact bdC_tn d tt
  · rw [show nnV (upN V (dn + 1) (vC kd1 st1 gb1 it1 mn1)) tn1 (dn + 1) = nnF st1 tn1 mn1 by show nnF (upN V (dn + 1) _ (dn + 1) 1) tn1 (upN V (dn + 1) _ (dn + 1) 4) = _; rw [upN_at]; rfl, upN_at, upN_at, ← hP2]
    exact hc3
/-- what is no step -/
theorem INV_seal (h : INV K Sn AD C cc W bs T ft cp ln cl FT V VX VY tn rk wd tw pa pb kd st it mn cx cy sa sh lb lc) {AD1 : Nat} {sa1 : Nat → Int32} (hd : dn ≤ T) (h0 : sa1 0 = nI 0) (hA : AD ≤ AD1 ∧ AD1 ≤ AD + 1) (hw : wfS ft1 kd1 st1 tn1 mn1 it1 cx1 cy1) (hr : ∀ q, q < ft1 → (0 ≤ (rk1 q).toInt ∧ (rk1 q).toInt ≤ 9) ∧ (0 ≤ (wd1 q).toInt ∧ (wd1 q).toInt ≤ 100)) (hb : bdC cc AD1 ft1 kd1 st1 mn1 tn1) (ht0 : ∀ q, q < 200 → ¬ (tn1 q).toInt = 0 → mn1 q = 0) :
    INV (K + 1) Sn AD1 C cc (fun _ => 0) dn dn ft1 cp ln cl (fun _ => ft1) (fun _ => vC kd1 st1 gb1 it1 mn1) (fun _ => cx1) (fun _ => cy1) tn1 rk1 wd1 tw1 pa1 pb1 kd1 st1 it1 mn1 cx1 cy1 sa1 sh lb lc := by
  obtain ⟨⟨a1, a2, a3⟩, b1, ⟨k1, k2, k3, k4, k5, k6⟩, ⟨n1, n2, n3⟩, l1⟩ := h
  have hm := capC_le (Sn := Sn) (Sn1 := Sn) (AD := AD) (AD1 := AD1) (C := C) (C1 := C) (Nat.le_refl _) hA.1 (Nat.le_refl _)
  exact ⟨⟨hw, hr, hb, ht0⟩, fun t t1 t2 => ⟨fun q hq _ => hw q hq, hb⟩, ⟨kpB_0 h0, k2, k3, Nat.zero_le _, fun g => absurd g (Nat.lt_irrefl _), by omega⟩, ⟨n1, by omega, by omega⟩, l1⟩
/-- a corner more -/
theorem INV_cor {f : Nat} {px py : Int32} (h : INV K Sn AD C cc W bs T ft cp ln cl FT V VX VY tn rk wd tw pa pb kd st it mn cx cy sa sh lb lc) (hf : f < ft) (hs : (st f).toInt = 0) (ht : (tn f).toInt = 0) (hn : nN (mn f) < (if (kd f).toInt = 0 then 1 else 40)) (hx : pl px) (hy : pl py) :
    INV (K + 1) Sn AD (C + 1) (upN cc f (cc f + 1)) W bs T ft cp ln cl FT V VX VY tn rk wd tw pa pb kd st it (upd mn f (nI (nN (mn f) + 1))) (upd cx (40 * f + nN (mn f)) px) (upd cy (40 * f + nN (mn f)) py) sa sh lb lc := by
  obtain ⟨⟨a1, a2, a3⟩, b1, ⟨k1, k2, k3, k4, k5, k6⟩, ⟨n1, n2, n3⟩, l1, l2, l3, l4, l5⟩ := h
  have hm := capC_le (Sn := Sn) (Sn1 := Sn) (AD := AD) (AD1 := AD) (C := C) (C1 := C + 1) (Nat.le_refl _) (Nat.le_refl _) (by omega)
  have hcc : ∀ q, cc q ≤ upN cc f (cc f + 1) q := fun q => by
    by_cases e : q = f
    · rw [e, upN_at]; omega
    · rw [upN_o e]; exact Nat.le_refl _
  have hn40 : nN (mn f) < 40 := by split at hn <;> omega
  have hl : Sn * C ≤ Sn * (C + 1) := Nat.mul_le_mul (Nat.le_refl _) (by omega)
  have hsm := (smN_up cc (f := f) 200).1
  exact ⟨⟨wfS_cor a1 hf hs ht hn hx hy, a2, bdC_cor a3.1 hn40, fun q hq g => by rw [upo9 (fun e => g (by rw [e]; exact ht))]; exact a3.2 q hq g⟩, fun t t1 t2 => ⟨(b1 t t1 t2).1, bdC_mono (b1 t t1 t2).2 (Nat.le_refl _) hcc⟩, ⟨k1, k2, k3, k4, k5, by omega⟩, ⟨by omega, by omega, n3⟩, l1, l2, by omega, by omega, l5⟩
/-- a position is taken up -/
theorem INV_pos {t : Nat} (h : INV K Sn AD C cc W bs T ft cp ln cl FT V VX VY tn rk wd tw pa pb kd st it mn cx cy sa sh lb lc) (hp : poS bs dn T ft FT V VX VY tn kd st gb it mn cx cy) (h1 : bs ≤ t) (h2 : t ≤ T) (hm : ∀ q, q < FT t → (¬ (V t 1 q).toInt = 0 ∧ (tn q).toInt = 0) → mn1 q = nI (nN (mn1 q))) (ht0 : ∀ q, ¬ (tn q).toInt = 0 → mn1 q = mn q)
    (hc : ∀ q, q < FT t → kd1 q = V t 0 q ∧ st1 q = V t 1 q ∧ gb1 q = V t 2 q ∧ it1 q = V t 3 q ∧ ((¬ (V t 1 q).toInt = 0 ∧ (tn q).toInt = 0) → nN (mn1 q) = nN (V t 4 q) ∧ ∀ k, k < nN (V t 4 q) → cF40 cx1 q k = cF40 (VX t) q k ∧ cF40 cy1 q k = cF40 (VY t) q k) ∧ ((V t 1 q).toInt = 0 → mn1 q = mn q ∧ ∀ k, k < 40 → cF40 cx1 q k = cF40 cx q k ∧ cF40 cy1 q k = cF40 cy q k)) :
    INV (K + 1) Sn AD C cc W bs T (FT t) cp ln cl FT V VX VY tn rk wd tw pa pb kd1 st1 it1 mn1 cx1 cy1 sa sh lb lc := by
  obtain ⟨⟨a1, a2, a3⟩, b1, k1, ⟨n1, n2, n3⟩, l1⟩ := h
  have hw := rs_wf hp h1 h2 a1 (b1 t h1 h2).1 hm hc
  refine ⟨⟨hw, a2, ?_, fun q hq g => by rw [ht0 q g]; exact a3.2 q hq g⟩, b1, k1, ⟨n1, by omega, n3⟩, l1⟩
  have d := (b1 t h1 h2).2
  obtain ⟨⟨p1, p2, p3, p4, p5⟩, p6, p7, p8⟩ := hp
  refine ⟨?_, fun q hq t0 => ?_⟩
  · have e : cntP (fun q => (st1 q).toInt = 1) (FT t) = cntP (fun q => (V t 1 q).toInt = 1) (FT t) := cntP_cg (fun q hq => by rw [(hc q hq).2.1])
    rw [e]; exact d.1
  · obtain ⟨c1, c2, c3, c4, c5, c6⟩ := hc q hq
    by_cases o : (V t 1 q).toInt = 0
    · have e := p8 t h1 h2 q hq (Or.inl o)
      have hqf : q < ft := by rw [p4]; exact Nat.lt_of_lt_of_le e.1 (p6 bs dn (Nat.le_refl _) p1 p2)
      rw [(c6 o).1, c1, e.2.1, (p7 q hqf).1]; exact a3.1.2 q hqf t0
    · rw [(c5 ⟨o, t0⟩).1, c1]; exact d.2 q hq t0
end
theorem ub_s {U Sn AD C s : Nat} (h : U ≤ Sn * (28 * (AD + C) + 1000) + 200 * (AD + C)) (hs : s ≤ 28 * (AD + C) + 1000) : U + s ≤ (Sn + 1) * (28 * (AD + C) + 1000) + 200 * (AD + C) := by
  rw [Nat.succ_mul]; omega
theorem ub_f {U Sn AD C AD1 C1 s : Nat} (h : U ≤ Sn * (28 * (AD + C) + 1000) + 200 * (AD + C)) (h1 : AD + C + 1 ≤ AD1 + C1) (hs : s ≤ 200) : U + s ≤ Sn * (28 * (AD1 + C1) + 1000) + 200 * (AD1 + C1) := by
  have h2 : Sn * (28 * (AD + C) + 1000) ≤ Sn * (28 * (AD1 + C1) + 1000) := Nat.mul_le_mul (Nat.le_refl _) (by omega)
  omega
end
section
/-! PLAINER and RUN keep a state sound, and how many corners they take -/
theorem smN_1 {c c1 : Nat → Nat} {g m : Nat} (hg : c1 g + m = c g) (ho : ∀ q, q ≠ g → c1 q = c q) : ∀ n, (g < n → smN c1 n + m = smN c n) ∧ (n ≤ g → smN c1 n = smN c n) := by
  intro n
  induction n with
  | zero => exact ⟨fun h => absurd h (Nat.not_lt_zero _), fun _ => rfl⟩
  | succ n ih =>
    show (g < n + 1 → smN c1 n + c1 n + m = smN c n + c n) ∧ (n + 1 ≤ g → smN c1 n + c1 n = smN c n + c n)
    refine ⟨fun h => ?_, fun h => ?_⟩
    · by_cases e : n = g
      · have h1 := ih.2 (by omega)
        rw [e] at h1 ⊢; omega
      · have h1 := ih.1 (by omega)
        rw [ho n e]; omega
    · rw [ih.2 (by omega), ho n (by omega)]
theorem smN_mono {c d : Nat → Nat} : ∀ n, (∀ q, q < n → c q ≤ d q) → smN c n ≤ smN d n := by
  intro n
  induction n with
  | zero => intro _; exact Nat.le_refl _
  | succ n ih =>
    intro h
    have h1 := ih (fun q hq => h q (by omega))
    have h2 := h n (by omega)
    show smN c n + c n ≤ smN d n + d n
    omega
noncomputable def rnC (ft : Nat) (st tn kd mn : Nat → Int32) (q : Nat) : Nat := @ite Nat (lvF ft st tn q ∧ ¬ (kd q).toInt = 0 ∧ ¬ (kd q).toInt = 6) (Classical.propDecidable _) (nN (mn q)) 0
section
variable {ft f L m n1 : Nat} {kd st tn mn it cx cy mn1 cx1 cy1 : Nat → Int32}
theorem pl_wf (h : wfS ft kd st tn mn it cx cy) (hl : lvF ft st tn f) (h0 : ¬ (kd f).toInt = 0) (h6 : ¬ (kd f).toInt = 6) (hp : plN ft st tn kd f L m mn cx cy (nN (mn f)) mn1 cx1 cy1 n1) : wfS ft kd st tn mn1 it cx1 cy1 ∧ (∀ q, q ≠ f → mn1 q = mn q) ∧ nN (mn1 f) + m = nN (mn f) := by
  have hk := (h f hl.1).1
  have hok := wfS_ok h
  have ho := okA_s hok hl (by omega) hp
  have he := plN_end _ _ _ _ _ _ _ _ _ (allI_p (okA_al hok) hl) hp
  have hn : nN (mn1 f) = n1 := by rw [he.1.1, nN_nI (by have := he.1.2.1; omega)]
  have hs := (ho f hl).2
  rw [hn] at hs
  exact ⟨wfS_row (m := 0) h hl he.2.2.1 he.2.2.2.1 he.1.1 he.1.2.1.2 he.1.2.2.1 hs, he.2.2.1, by rw [hn]; exact he.2.1⟩
theorem rn1_w {g : Nat} (h : wfS ft kd st tn mn it cx cy) (hr : rn1 ft st tn kd L g mn cx cy m mn1 cx1 cy1) : wfS ft kd st tn mn1 it cx1 cy1 ∧ smN (rnC ft st tn kd mn1) ft + m = smN (rnC ft st tn kd mn) ft ∧ ∀ q, nN (mn1 q) ≤ nN (mn q) ∧ (¬ lvF ft st tn q → mn1 q = mn q) := by
  by_cases b : lvF ft st tn g ∧ ¬ (kd g).toInt = 0 ∧ ¬ (kd g).toInt = 6
  · obtain ⟨n1, hp⟩ := hr.1 b
    obtain ⟨w1, w2, w3⟩ := pl_wf h b.1 b.2.1 b.2.2 hp
    refine ⟨w1, (smN_1 (g := g) ?_ (fun q hq => ?_) ft).1 b.1.1, fun q => ?_⟩
    · unfold rnC; rw [if_pos b, if_pos b]; exact w3
    · unfold rnC; rw [w2 q hq]
    · by_cases e : q = g
      · rw [e]; exact ⟨by omega, fun g => absurd b.1 g⟩
      · exact ⟨by rw [w2 q e]; exact Nat.le_refl _, fun _ => w2 q e⟩
  · obtain ⟨rfl, rfl, rfl, rfl⟩ := hr.2 b
    exact ⟨h, rfl, fun q => ⟨Nat.le_refl _, fun _ => rfl⟩⟩
end
section
variable {ft L : Nat} {kd st tn it : Nat → Int32}
theorem rnP_w : ∀ (j : Nat) (mn cx cy : Nat → Int32) (t : Nat) (mn1 cx1 cy1 : Nat → Int32), wfS ft kd st tn mn it cx cy → rnP ft st tn kd L j mn cx cy t mn1 cx1 cy1 → wfS ft kd st tn mn1 it cx1 cy1 ∧ smN (rnC ft st tn kd mn1) ft + t = smN (rnC ft st tn kd mn) ft ∧ ∀ q, nN (mn1 q) ≤ nN (mn q) ∧ (¬ lvF ft st tn q → mn1 q = mn q) := by
  intro j
  induction j with
  | zero =>
    intro mn cx cy t mn1 cx1 cy1 h hr
    obtain ⟨rfl, rfl, rfl, rfl⟩ := hr
    exact ⟨h, rfl, fun q => ⟨Nat.le_refl _, fun _ => rfl⟩⟩
  | succ j ih =>
    intro mn cx cy t mn1 cx1 cy1 h hr
    obtain ⟨m, mn2, cx2, cy2, t2, h1, h2, h3⟩ := hr
    obtain ⟨a1, a2, a3⟩ := rn1_w h h1
    obtain ⟨b1, b2, b3⟩ := ih _ _ _ _ _ _ _ a1 h2
    exact ⟨b1, by omega, fun q => ⟨Nat.le_trans (b3 q).1 (a3 q).1, fun g => ((b3 q).2 g).trans ((a3 q).2 g)⟩⟩
theorem rnA_w : ∀ (p : Nat) (mn cx cy : Nat → Int32) (t : Nat) (mn1 cx1 cy1 : Nat → Int32), wfS ft kd st tn mn it cx cy → rnA ft st tn kd L p mn cx cy t mn1 cx1 cy1 → wfS ft kd st tn mn1 it cx1 cy1 ∧ smN (rnC ft st tn kd mn1) ft + t = smN (rnC ft st tn kd mn) ft ∧ ∀ q, nN (mn1 q) ≤ nN (mn q) ∧ (¬ lvF ft st tn q → mn1 q = mn q) := by
  intro p
  induction p with
  | zero => intro mn cx cy t mn1 cx1 cy1 _ hr; exact absurd hr (fun g => g)
  | succ p ih =>
    intro mn cx cy t mn1 cx1 cy1 h hr
    obtain ⟨t2, mn2, cx2, cy2, h1, h2⟩ := hr
    obtain ⟨a1, a2, a3⟩ := rnP_w _ _ _ _ _ _ _ _ h h1
    rcases h2 with ⟨e1, e2, rfl, rfl, rfl⟩ | ⟨_, t3, h3, h4⟩
    · exact ⟨a1, by omega, a3⟩
    · obtain ⟨b1, b2, b3⟩ := ih _ _ _ _ _ _ _ a1 h3
      exact ⟨b1, by omega, fun q => ⟨Nat.le_trans (b3 q).1 (a3 q).1, fun g => ((b3 q).2 g).trans ((a3 q).2 g)⟩⟩
theorem rnC_le {cc : Nat → Nat} {AD : Nat} {mn : Nat → Int32} (h : bdC cc AD ft kd st mn tn) (hk : ∀ q, q < ft → (kd q).toInt ≤ 6) : smN (rnC ft st tn kd mn) ft ≤ smN cc ft := smN_mono ft (fun q hq => by
  unfold rnC
  by_cases b : lvF ft st tn q ∧ ¬ (kd q).toInt = 0 ∧ ¬ (kd q).toInt = 6
  · rw [if_pos b]; exact (h.2 q hq b.1.2.2).2 (by have := hk q hq; omega)
  · rw [if_neg b]; omega)
end
end
section
/-! a sheet is kept, and nothing came of it -/
section
variable {K Sn AD C : Nat} {cc W : Nat → Nat} {bs dn T ft cp ln cl c1 P1 : Nat} {FT : Nat → Nat} {V : Nat → Nat → Nat → Int32} {VX VY : Nat → Nat → Int32} {tn rk wd tw pa pb kd st gb it mn cx cy sa sh lb lc sh1 lb1 lc1 : Nat → Int32}
theorem nnV_dn (hD : HiD dn ft V VX VY kd st gb it tn mn cx cy) : ∀ g, g < ft → nnV V tn dn g = nnF st tn mn g := fun g hg => by
  have d := hD g hg
  show nnF (V dn 1) tn (V dn 4) g = _
  unfold nnF
  rw [d.2.1]
  by_cases c : (tn g).toInt = 0 ∧ ¬ (st g).toInt = 0
  · rw [if_pos c, if_pos c]; exact (d.2.2.2.2 c.2 c.1).1
  · rw [if_neg c, if_neg c]
theorem INV_fit1 (h : INV K Sn AD C cc W bs T ft cp ln cl FT V VX VY tn rk wd tw pa pb kd st it mn cx cy sa sh lb lc) (hK : K + 1 ≤ 512) (hp : poS bs dn T ft FT V VX VY tn kd st gb it mn cx cy) :
    ∃ c1, pw cp c1 ∧ W dn ≤ 4096 * cp ∧ psN (nnF st tn mn) (W dn) ft ≤ 4096 * c1 ∧ (c1 = cp ∨ 2048 * c1 < psN (nnF st tn mn) (W dn) ft) ∧ c1 ≤ 512 ∧ pw 1 c1 ∧ (c1 = 1 ∨ 2048 * c1 ≤ capC Sn AD C) := by
  obtain ⟨⟨q1, q2, q3, q4, q5⟩, q6, q7, q8⟩ := hp
  have h200 : ∀ t, bs ≤ t → t ≤ T → FT t ≤ 200 := fun t t1 t2 => Nat.le_trans (q6 t T t1 t2 (Nat.le_refl _)) q5
  have hcp := INV_cp h (by omega)
  have hW := INV_W h h200 (dn - bs) (by omega)
  rw [show bs + (dn - bs) = dn by omega] at hW
  have hWT := kpB_le h.2.2.1.1 q1 q2 (Nat.le_refl _)
  have hf := h200 dn q1 q2
  obtain ⟨⟨_, _, a3, _⟩, _, ⟨h1, h2, h3, h4, h5, h6⟩, ⟨h7, h8, h9⟩, _⟩ := h
  have e1 := bdC_p2 a3 (by omega) h7 (w := W dn)
  generalize psN (nnF st tn mn) (W dn) ft = P1 at e1 ⊢
  have hm : (dn - bs) * (1 + 18 * AD + 2 * C) + (1 + 18 * AD + 2 * C) ≤ capC Sn AD C := by
    unfold capC
    rw [← Nat.succ_mul]
    exact Nat.mul_le_mul (by omega) (Nat.le_refl _)
  have hB := capC_b (Sn := Sn) (AD := AD) (C := C) (by omega)
  obtain ⟨c1, g1, g2, g3⟩ := pw_ex P1 P1 cp h2 (by omega)
  have p1 : pw 1 c1 := pw_tr h3 g1
  have c1b : c1 ≤ 512 := pw_512 p1 (by omega)
  exact ⟨c1, g1, by omega, g2, g3, c1b, p1, by omega⟩
theorem INV_keep (h : INV K Sn AD C cc W bs T ft cp ln cl FT V VX VY tn rk wd tw pa pb kd st it mn cx cy sa sh lb lc) (hp : poS bs dn T ft FT V VX VY tn kd st gb it mn cx cy) (hP1 : P1 = psN (nnF st tn mn) (W dn) ft)
    (p0 : sh1 (W dn) = nI ft) (p1 : ∀ j, j < W dn → sh1 j = sh j) (p2 : ∀ g, g < ft → ∀ j, j < 10 + 2 * nnF st tn mn g → sh1 (psN (nnF st tn mn) (W dn) g + j) = (shD kd st gb it pa pb rk wd tw (nnF st tn mn) cx cy) g j) (po : ∀ j, psN (nnF st tn mn) (W dn) ft ≤ j → j < 4096 * cp → sh1 j = sh j)
    (hl : (∀ j, j < ln → pl (lb j) ∧ pl (lc j)) → ∀ j, j < ln → pl (lb1 j) ∧ pl (lc1 j)) (hc0 : pw cp c1) (hc1 : pw 1 c1) (hc2 : c1 = 1 ∨ 2048 * c1 ≤ capC Sn AD C) :
    INV (K + 1) Sn AD C cc W bs T ft c1 ln cl FT V VX VY tn rk wd tw pa pb kd st it mn cx cy (upd sa (dn - bs + 1) (nI P1)) sh1 lb1 lc1 := by
  obtain ⟨a, b1, ⟨k1, k2, k3, k4, k5, k6⟩, ⟨n1, n2, n3⟩, l1, l2, l3, l4, l5⟩ := h
  obtain ⟨⟨q1, q2, q3, q4, q5⟩, q6, q7, q8⟩ := hp
  have hnn := nnV_dn q7
  have hps : psN (nnV V tn dn) (W dn) (FT dn) = psN (nnF st tn mn) (W dn) ft := by rw [← q4]; exact psN_cg hnn ft (Nat.le_refl _)
  have hle := pw_le hc0
  have hW1 : dn < T → W (dn + 1) = P1 := fun g => by rw [k1.2.2.1 dn q1 g, hps, hP1]
  refine ⟨a, b1, ⟨⟨k1.1, fun t t1 t2 => ?_, k1.2.2.1, fun g t t1 t2 => ?_⟩, by omega, hc1, by omega, fun g => by have := k5 g; omega, hc2⟩, ⟨n1, by omega, n3⟩, l1, l2, l3, l4, hl l5⟩
  · by_cases e : t = dn + 1
    · rw [e, show dn + 1 - bs = dn - bs + 1 by omega, up_at, hW1 (by omega)]
    · rw [upo9 (by omega)]; exact k1.2.1 t t1 t2
  · have hb := k1.2.2.2 g t t1 t2
    rcases Nat.lt_trichotomy t dn with c | c | c
    · have hw : psN (nnV V tn t) (W t) (FT t) ≤ W dn := by rw [← k1.2.2.1 t t1 (by omega)]; exact kpB_le k1 (by omega) (by omega) q2
      exact blK_cg hb (fun j _ hj => p1 j (by have : j < psN (nnV V tn t) (W t) (FT t) := hj; omega)) (fun g hg => ⟨rfl, rfl, rfl, rfl, rfl, rfl⟩) (fun g hg => ⟨rfl, rfl, rfl, rfl, rfl, fun k _ => ⟨rfl, rfl⟩⟩)
    · rw [c]
      have b : blK sh1 pa pb rk wd tw tn ft (vC kd st gb it mn) cx cy (W dn) := ⟨p0, p2⟩
      rw [← q4]
      refine blK_cg b (fun j _ _ => rfl) (fun g hg => ⟨rfl, rfl, rfl, rfl, rfl, rfl⟩) (fun g hg => ?_)
      have d := q7 g hg
      refine ⟨d.1, d.2.1, d.2.2.1, d.2.2.2.1, hnn g hg, fun k hk => ?_⟩
      have hk : k < nnF st tn mn g := hk
      unfold nnF at hk
      by_cases c : (tn g).toInt = 0 ∧ ¬ (st g).toInt = 0
      · rw [if_pos c] at hk
        exact (d.2.2.2.2 c.2 c.1).2 k hk
      · rw [if_neg c] at hk; omega
    · have hw1 : P1 ≤ W t := by rw [← hW1 (by omega)]; exact kpB_le k1 (by omega) (by omega) t2
      have hw2 : psN (nnV V tn t) (W t) (FT t) ≤ 4096 * cp := by
        by_cases e : t = T
        · rw [e]; exact k5 g
        · rw [← k1.2.2.1 t t1 (by omega)]
          have := kpB_le k1 (show bs ≤ t + 1 by omega) (show t + 1 ≤ T by omega) (Nat.le_refl _); omega
      exact blK_cg hb (fun j hj1 hj => po j (by omega) (by have : j < psN (nnV V tn t) (W t) (FT t) := hj; omega)) (fun g hg => ⟨rfl, rfl, rfl, rfl, rfl, rfl⟩) (fun g hg => ⟨rfl, rfl, rfl, rfl, rfl, fun k _ => ⟨rfl, rfl⟩⟩)
end
/-! room -/
theorem mul_3 {S a c : Nat} (h : a + c + S ≤ 512) : S * (100 * a + 52 * c) ≤ 6604900 := by
  have h1 : S * (100 * a + 52 * c) ≤ S * (100 * (a + c)) := Nat.mul_le_mul (Nat.le_refl _) (by omega)
  have h2 := mul_514 (a := S) (b := a + c) (by omega)
  have h3 : S * (100 * (a + c)) = 100 * (S * (a + c)) := by rw [Nat.mul_left_comm]
  omega
theorem rm_e (S a c : Nat) : 4 * ((S + 1) * (1 + 18 * a + 2 * c)) + 16 * (S * c) + S * (28 * (a + c) + 1000) = S * (100 * a + 52 * c) + 1004 * S + 4 + 72 * a + 8 * c := by grind
theorem room_c {Sn AD C c cl U : Nat} (h : AD + C + Sn ≤ 512) (hc : c = 1 ∨ 2048 * c ≤ capC Sn AD C) (hl : cl = 1 ∨ 32 * cl ≤ Sn * C) (hU : U ≤ Sn * (28 * (AD + C) + 1000) + 200 * (AD + C)) : 45000 + 8192 * c + 512 * cl + U ≤ 7302250 := by
  have h1 := mul_3 (S := Sn) (a := AD) (c := C) (by omega)
  have h2 := rm_e Sn AD C
  unfold capC at hc
  generalize (Sn + 1) * (1 + 18 * AD + 2 * C) = A at hc h2
  generalize Sn * C = B at hl h2
  generalize Sn * (28 * (AD + C) + 1000) = D at hU h2
  omega
end
section
/-! the moves keep what holds of a state -/
section
variable {ft f : Nat} {kd st tn mn it cx cy VX VY : Nat → Int32} {cc : Nat → Nat} {AD : Nat}
theorem wfS_mv (h : wfS ft kd st tn mn it cx cy) (hl : lvF ft st tn f) (hlw : lwM ft st tn kd mn cx cy f (nN (mn f)) VX VY) : wfS ft kd st tn mn it (fgX f (nN (mn f)) VX cx) (fgX f (nN (mn f)) VY cy) := by
  have m := wfS_wf h f hl
  have m2 := m.2.1.2
  exact wfS_row (m := 0) h hl (fun _ _ => rfl) (fun j hj => ⟨fgX_o (by omega), fgX_o (by omega)⟩) m.1 m2 hlw.1 hlw.2.1
theorem wfS_sq {z1 z2 z3 z4 : Int32} (h : wfS ft kd st tn mn it cx cy) (hlw : lwS ft st tn kd mn cx cy f (nN (mn f))) (e1 : z1 = iI (bL (cF40 cx f) (nN (mn f)))) (e2 : z2 = iI (bL (cF40 cy f) (nN (mn f)))) (e3 : z3 = iI (bH (cF40 cx f) (nN (mn f)))) (e4 : z4 = iI (bH (cF40 cy f) (nN (mn f)))) : wfS ft (upd kd f 6) st tn (upd mn f 4) it (bxX f z1 z3 4 cx) (bxY f z2 z4 4 cy) := by
  obtain ⟨p, s, _⟩ := hlw
  rw [← e1, ← e2, ← e3, ← e4] at p s
  refine wfS_1 (f := f) h (fun p _ e => ⟨upo9 e, rfl, rfl, upo9 e, rfl, fun k hk => ⟨show bxX f z1 z3 4 cx (40 * p + k) = cx (40 * p + k) from bxX_o (by omega), show bxY f z2 z4 4 cy (40 * p + k) = cy (40 * p + k) from bxY_o (by omega)⟩⟩) (fun hf => ?_)
  obtain ⟨h1, h2, h3, h4⟩ := h f hf
  rw [up_at] at s
  rw [up_at, up_at]
  have n4 : nN (4 : Int32) = 4 := by decide
  have e6 : (6 : Int32).toInt = 6 := by decide
  refine ⟨by rw [e6]; omega, h2, fun ht => ?_, h4⟩
  rw [n4]
  exact ⟨⟨by decide, by omega, fun g => by rw [e6] at g; omega, p⟩, fun _ => s⟩
theorem bdC_sq (h : bdC cc AD ft kd st mn tn) : bdC cc AD ft (upd kd f 6) st (upd mn f 4) tn := bdC_cg h (fun _ _ g => g) (fun q _ g => by
  by_cases e : q = f
  · rw [e, up_at, up_at]; exact Or.inr ⟨by decide, by decide⟩
  · rw [upo9 e, upo9 e]; exact Or.inl ⟨g, rfl, Nat.le_refl _⟩)
/-- a house that grows moves -/
theorem gw_mv {n : Nat} {X Y : Nat → Int32} (h : mSm 6 n X Y) : mvd n (fun i => 2 * X i - X 0) (fun i => 2 * Y i - Y 0) X Y := by
  obtain ⟨⟨i, j, hi, hj, hlt⟩, _⟩ := ho_nd h
  have key : ∀ k, 2 * X k - X 0 = X k → X k = X 0 := fun k hk => by
    have h1 : 2 * X k - X 0 - X k + X 0 = X k - X k + X 0 := by rw [hk]
    have h2 : 2 * X k - X 0 - X k + X 0 = X k := by grind
    have h3 : X k - X k + X 0 = X 0 := by grind
    rw [← h2, h1, h3]
  by_cases g : X i = X 0
  · refine ⟨j, hj, fun e => ?_⟩
    have := key j e.1
    rw [g, this] at hlt
    omega
  · exact ⟨i, hi, fun e => g (key i e.1)⟩
/-- room for a corner -/
theorem cor_lt {kd st tn mn it : Int32} {X Y : Nat → Int32} (h : wfQ kd st tn mn it X Y) (ht : tn.toInt = 0) (hn : ¬ nN mn = cpk kd.toInt) : nN mn < (if kd.toInt = 0 then 1 else 40) := by
  obtain ⟨⟨_, a2, a3, _⟩, _⟩ := h.2.2.1 ht
  unfold cpk at hn
  by_cases e : kd.toInt = 0
  · rw [if_pos e] at hn ⊢
    have := a3 e; omega
  · rw [if_neg e] at hn ⊢
    omega
theorem cor_ne {n : Nat} {k : Int} (h : n < (if k = 0 then 1 else 40)) : ¬ n = cpk k := by
  unfold cpk
  intro e
  rw [← e] at h
  omega
end
theorem up_same {I : Nat → Int32} {k : Nat} {v : Int32} (h : I k = v) : upd I k v = I := by
  funext j
  unfold upd
  by_cases e : j = k
  · rw [if_pos e, e, h]
  · rw [if_neg e]
theorem smN_q {c : Nat → Nat} {q n : Nat} (h : q < n) : c q ≤ smN c n := Nat.le_trans (show c q ≤ smN c (q + 1) from Nat.le_add_left (c q) (smN c q)) (smN_le c h)
/-! a position's sheet -/
section
variable {K Sn AD C : Nat} {cc W : Nat → Nat} {bs dn T ft cp ln cl t : Nat} {FT : Nat → Nat} {V : Nat → Nat → Nat → Int32} {VX VY : Nat → Nat → Int32} {tn rk wd tw pa pb kd st gb it mn cx cy sa sh lb lc : Nat → Int32}
theorem INV_at (h : INV K Sn AD C cc W bs T ft cp ln cl FT V VX VY tn rk wd tw pa pb kd st it mn cx cy sa sh lb lc) (hT : bs < T) (t1 : bs ≤ t) (t2 : t ≤ T) : sa (t - bs) = nI (W t) ∧ sh (W t) = nI (FT t) ∧ (∀ g, g < FT t → ∀ j, j < 10 + 2 * nnV V tn t g → sh (psN (nnV V tn t) (W t) g + j) = DV V VX VY pa pb rk wd tw tn t g j) ∧ psN (nnV V tn t) (W t) (FT t) ≤ 4096 * cp := by
  obtain ⟨_, _, ⟨k1, k2, k3, k4, k5, k6⟩, _, _⟩ := h
  have b := k1.2.2.2 hT t t1 t2
  refine ⟨k1.2.1 t t1 t2, b.1, b.2, ?_⟩
  by_cases e : t = T
  · rw [e]; exact k5 hT
  · rw [← k1.2.2.1 t t1 (by omega)]
    exact Nat.le_trans (kpB_le k1 (show bs ≤ t + 1 by omega) (show t + 1 ≤ T by omega) (Nat.le_refl _)) k4
theorem rsM_e (hV : wfV FT V VX VY tn t) : (∀ q, q < FT t → (¬ (V t 1 q).toInt = 0 ∧ (tn q).toInt = 0) → rsM (FT t) (DV V VX VY pa pb rk wd tw tn t) (nnV V tn t) tn mn q = nI (nN (rsM (FT t) (DV V VX VY pa pb rk wd tw tn t) (nnV V tn t) tn mn q))) ∧ ∀ q, ¬ (tn q).toInt = 0 → rsM (FT t) (DV V VX VY pa pb rk wd tw tn t) (nnV V tn t) tn mn q = mn q := by
  refine ⟨fun q hq hs => ?_, fun q g => ?_⟩
  · have e : rsM (FT t) (DV V VX VY pa pb rk wd tw tn t) (nnV V tn t) tn mn q = nI (nnV V tn t q) := by unfold rsM; exact if_pos ⟨hq, hs.1, hs.2⟩
    rw [e, nN_nI (by have := nnV_40 hV hq; omega)]
  · unfold rsM; exact if_neg (fun c => g c.2.2)
/-- what a run asks for -/
theorem smd_b (h : bdC cc AD ft kd st mn tn) (h0 : ∀ q, q < 200 → ¬ (tn q).toInt = 0 → mn q = 0) (hf : ft ≤ 200) : ∀ k, k ≤ ft → smd (fun _ => 1) (fun q => nN (mn q)) k ≤ 18 * k + 2 * smN cc k := by
  intro k
  induction k with
  | zero => intro _; exact Nat.le_refl _
  | succ k ih =>
    intro hk
    have h1 := ih (by omega)
    have h2 : smd (fun _ => 1) (fun q => nN (mn q)) (k + 1) = smd (fun _ => 1) (fun q => nN (mn q)) k + (2 * nN (mn k) + 10) := rfl
    have h3 : smN cc (k + 1) = smN cc k + cc k := rfl
    have h4 : nN (mn k) ≤ 4 + cc k := by
      by_cases t0 : (tn k).toInt = 0
      · exact (h.2 k (by omega) t0).1
      · rw [h0 k (by omega) t0, show nN (0 : Int32) = 0 by decide]; exact Nat.zero_le _
    omega
end
end
section
/-! arrays that agree as far as features go -/
def agS (ft : Nat) (kd st gb it mn cx cy kd1 st1 gb1 it1 mn1 cx1 cy1 : Nat → Int32) : Prop :=
  ∀ q, q < ft → kd1 q = kd q ∧ st1 q = st q ∧ gb1 q = gb q ∧ it1 q = it q ∧ mn1 q = mn q ∧ ∀ k, k < 40 → cF40 cx1 q k = cF40 cx q k ∧ cF40 cy1 q k = cF40 cy q k
section
variable {cI cO : ClassId} {L : List Nat} {f : Nat → va_E} {e0 ea : Nat} {FA : Nat → Option Nat} {bs dn T ft : Nat} {FT : Nat → Nat} {V : Nat → Nat → Nat → Int32} {VX VY : Nat → Nat → Int32} {tn rk wd tw pa pb wh of9 we kd st gb it mn cx cy kd1 st1 gb1 it1 mn1 cx1 cy1 : Nat → Int32} {sa sh lb lc : Nat → Int32} {W cc : Nat → Nat} {K Sn AD C cp ln cl : Nat}
theorem shB_fx (h : shB cI cO L f e0 FA ea bs dn T ft FT V VX VY tn rk wd tw pa pb wh of9 we kd st gb it mn cx cy) : ∀ q, q < ft → ∃ a, FA q = some a := by
  obtain ⟨own, fe, cl, la, sp, SA, ⟨h1, h2, h3, h4, h5, h6, h7⟩, h8, h9⟩ := h
  exact fun q hq => ⟨_, h7 q hq⟩
theorem shB_cg (h : shB cI cO L f e0 FA ea bs dn T ft FT V VX VY tn rk wd tw pa pb wh of9 we kd st gb it mn cx cy) (hn : ∀ q, q < ft → (tn q).toInt = 0 → ¬ (st q).toInt = 0 → mn q = nI (nN (mn q)) ∧ nN (mn q) ≤ 40) (ha : agS ft kd st gb it mn cx cy kd1 st1 gb1 it1 mn1 cx1 cy1) : shB cI cO L f e0 FA ea bs dn T ft FT V VX VY tn rk wd tw pa pb wh of9 we kd1 st1 gb1 it1 mn1 cx1 cy1 := by
  obtain ⟨own, fe, cl, la, sp, SA, ⟨h1, h2, h3, h4, h5, h6, h7⟩, h8, h9⟩ := h
  refine ⟨own, fe, cl, la, sp, SA, ⟨h1, fun q hq => ?_, h3, h4, h5, h6, h7⟩, fun q hq => ?_, h9⟩
  · obtain ⟨a1, a2, a3, a4, a5, a6⟩ := ha q hq
    rw [a1, a2, a3, a4, a5]
    exact lkG_cg a6 (h2 q hq)
  · obtain ⟨a1, a2, a3, a4, a5, a6⟩ := ha q hq
    obtain ⟨b1, b2, b3, b4, b5⟩ := h8 q hq
    rw [a1, a2, a3, a4, a5]
    refine ⟨b1, b2, b3, b4, fun s t => ⟨(b5 s t).1, fun k hk => ?_⟩⟩
    have h40 := (hn q hq t s).2
    have c := a6 k (by omega)
    rw [c.1, c.2]
    exact (b5 s t).2 k hk
theorem INV_cg (h : INV K Sn AD C cc W bs T ft cp ln cl FT V VX VY tn rk wd tw pa pb kd st it mn cx cy sa sh lb lc) (ha : agS ft kd st gb it mn cx cy kd1 st1 gb1 it1 mn1 cx1 cy1) (h0 : ∀ q, q < 200 → ¬ (tn q).toInt = 0 → mn1 q = 0) : INV K Sn AD C cc W bs T ft cp ln cl FT V VX VY tn rk wd tw pa pb kd1 st1 it1 mn1 cx1 cy1 sa sh lb lc := by
  obtain ⟨⟨a1, a2, a3, a4⟩, b⟩ := h
  refine ⟨⟨wfS_cg a1 (fun p hp => ?_), a2, bdC_cg a3 (fun q hq g => ?_) (fun q hq g => ?_), h0⟩, b⟩
  · have c := ha p hp
    exact ⟨c.1, c.2.1, rfl, c.2.2.2.2.1, c.2.2.2.1, c.2.2.2.2.2⟩
  · rw [← (ha q hq).2.1]; exact g
  · exact Or.inl ⟨g, (ha q hq).1, by rw [(ha q hq).2.2.2.2.1]; exact Nat.le_refl _⟩
theorem bxX_p {f : Nat} {a b : Int32} {c c1 : Nat → Int32} {j : Nat} (h : c1 j = c j) : bxX f a b 4 c1 j = bxX f a b 4 c j := by unfold bxX; rw [h]
theorem bxY_p {f : Nat} {a b : Int32} {c c1 : Nat → Int32} {j : Nat} (h : c1 j = c j) : bxY f a b 4 c1 j = bxY f a b 4 c j := by unfold bxY; rw [h]
theorem ag_200 {z1 z2 z3 z4 : Int32} (h : ft ≤ 200) : agS ft kd st gb it mn cx cy (upd kd 200 6) st gb it (upd mn 200 4) (bxX 200 z1 z3 4 cx) (bxY 200 z2 z4 4 cy) := fun q hq =>
  ⟨upo9 (by omega), rfl, rfl, rfl, upo9 (by omega), fun k hk => ⟨show bxX 200 z1 z3 4 cx (40 * q + k) = cx (40 * q + k) from bxX_o (by omega), show bxY 200 z2 z4 4 cy (40 * q + k) = cy (40 * q + k) from bxY_o (by omega)⟩⟩
theorem ag_join {z1 z2 z3 z4 : Int32} (h : ft < 200) : agS (ft + 1) (upd kd ft 6) st gb it (upd mn ft 4) (bxX ft z1 z3 4 cx) (bxY ft z2 z4 4 cy) (upd (upd kd 200 6) ft 6) st gb it (upd (upd mn 200 4) ft 4) (bxX ft z1 z3 4 (bxX 200 z1 z3 4 cx)) (bxY ft z2 z4 4 (bxY 200 z2 z4 4 cy)) := fun q hq => by
  have e : ∀ (c : Nat → Int32) (x : Int32), upd (upd c 200 x) ft x q = upd c ft x q := fun c x => by
    by_cases g : q = ft
    · rw [g, up_at, up_at]
    · rw [upo9 g, upo9 g, upo9 (show q ≠ 200 by omega)]
  exact ⟨e kd 6, rfl, rfl, rfl, e mn 4, fun k hk => ⟨show bxX ft z1 z3 4 (bxX 200 z1 z3 4 cx) (40 * q + k) = bxX ft z1 z3 4 cx (40 * q + k) from bxX_p (bxX_o (by omega)), show bxY ft z2 z4 4 (bxY 200 z2 z4 4 cy) (40 * q + k) = bxY ft z2 z4 4 cy (40 * q + k) from bxY_p (bxY_o (by omega))⟩⟩
theorem upd3 {s : Nat → Int32} {a b c : Nat} {x y z : Int32} (h1 : b ≠ a) (h2 : c ≠ a) : upd (upd (upd s a x) b y) c z = upd (upd (upd s b y) c z) a x := by
  funext j
  by_cases e : j = a
  · rw [e, upo9 (fun g => h2 g.symm), upo9 (fun g => h1 g.symm), up_at, up_at]
  · rw [upo9 (m := upd (upd s b y) c z) e]
    by_cases g : j = c
    · rw [g, up_at, up_at]
    · rw [upo9 g, upo9 g]
      by_cases i : j = b
      · rw [i, up_at, up_at]
      · rw [upo9 i, upo9 i, upo9 e]
theorem nnF_ag (ha : agS ft kd st gb it mn cx cy kd1 st1 gb1 it1 mn1 cx1 cy1) (g : Nat) (hg : g < ft) : nnF st1 tn mn1 g = nnF st tn mn g := by
  unfold nnF
  rw [(ha g hg).2.1, (ha g hg).2.2.2.2.1]
theorem blK_ag {w : Nat} (ha : agS ft kd st gb it mn cx cy kd1 st1 gb1 it1 mn1 cx1 cy1) (h : blK sh pa pb rk wd tw tn ft (vC kd1 st1 gb1 it1 mn1) cx1 cy1 w) (hw : wfS ft kd st tn mn it cx cy) : blK sh pa pb rk wd tw tn ft (vC kd st gb it mn) cx cy w := by
  refine blK_cg h (fun j _ _ => rfl) (fun g _ => ⟨rfl, rfl, rfl, rfl, rfl, rfl⟩) (fun g hg => ?_)
  have c := ha g hg
  refine ⟨c.1.symm, c.2.1.symm, c.2.2.1.symm, c.2.2.2.1.symm, (nnF_ag ha g hg).symm, fun k hk => ?_⟩
  have hk : k < nnF st1 tn mn1 g := hk
  rw [nnF_ag ha g hg] at hk
  have h40 : nnF st tn mn g ≤ 40 := by
    unfold nnF
    by_cases d : (tn g).toInt = 0 ∧ ¬ (st g).toInt = 0
    · rw [if_pos d]; exact (wfS_mn hw g hg d.1 d.2).2
    · rw [if_neg d]; omega
  have e := c.2.2.2.2.2 k (by omega)
  exact ⟨e.1.symm, e.2.symm⟩
theorem wfS_join {f g : Nat} {z1 z2 z3 z4 : Int32} (h : wfS ft kd st tn mn it cx cy) (hf : f < ft) (hg : g < ft) (hs : (st f).toInt = 1) (hs2 : (st g).toInt = 1) (hgf : g ≠ f) (p1 : pl z1) (p2 : pl z2) (p3 : pl z3) (p4 : pl z4) (l1 : z1.toInt < z3.toInt) (l2 : z2.toInt < z4.toInt) : wfS (ft + 1) (upd kd ft 6) (upd (upd (upd st f 2) g 2) ft 1) (upd tn ft 0) (upd mn ft 4) (upd (upd (upd it f (nI ft)) g (nI ft)) ft (-1)) (bxX ft z1 z3 4 cx) (bxY ft z2 z4 4 cy) := by
  intro q hq
  by_cases e : q = ft
  · rw [e, up_at, up_at, up_at, up_at, up_at]
    have n4 : nN (4 : Int32) = 4 := by decide
    have e6 : (6 : Int32).toInt = 6 := by decide
    have e1 : (1 : Int32).toInt = 1 := by decide
    have c0 : cF40 (bxX ft z1 z3 4 cx) ft 0 = z1 ∧ cF40 (bxX ft z1 z3 4 cx) ft 1 = z3 ∧ cF40 (bxX ft z1 z3 4 cx) ft 2 = z3 ∧ cF40 (bxX ft z1 z3 4 cx) ft 3 = z1 := by
      refine ⟨?_, ?_, ?_, ?_⟩
      · show bxX ft z1 z3 4 cx (40 * ft + 0) = z1; unfold bxX; rw [if_pos (by omega), if_neg (by omega)]
      · show bxX ft z1 z3 4 cx (40 * ft + 1) = z3; unfold bxX; rw [if_pos (by omega), if_pos (by omega)]
      · show bxX ft z1 z3 4 cx (40 * ft + 2) = z3; unfold bxX; rw [if_pos (by omega), if_pos (by omega)]
      · show bxX ft z1 z3 4 cx (40 * ft + 3) = z1; unfold bxX; rw [if_pos (by omega), if_neg (by omega)]
    have d0 : cF40 (bxY ft z2 z4 4 cy) ft 0 = z2 ∧ cF40 (bxY ft z2 z4 4 cy) ft 1 = z2 ∧ cF40 (bxY ft z2 z4 4 cy) ft 2 = z4 ∧ cF40 (bxY ft z2 z4 4 cy) ft 3 = z4 := by
      refine ⟨?_, ?_, ?_, ?_⟩
      · show bxY ft z2 z4 4 cy (40 * ft + 0) = z2; unfold bxY; rw [if_pos (by omega), if_neg (by omega)]
      · show bxY ft z2 z4 4 cy (40 * ft + 1) = z2; unfold bxY; rw [if_pos (by omega), if_neg (by omega)]
      · show bxY ft z2 z4 4 cy (40 * ft + 2) = z4; unfold bxY; rw [if_pos (by omega), if_pos (by omega)]
      · show bxY ft z2 z4 4 cy (40 * ft + 3) = z4; unfold bxY; rw [if_pos (by omega), if_pos (by omega)]
    have sm := bx_sm c0 d0 l1 l2
    refine ⟨by rw [e6]; omega, by rw [e1]; omega, fun _ => ?_, fun _ => rfl⟩
    rw [n4, e6]
    refine ⟨⟨by decide, by omega, fun g => by omega, fun k hk => ?_⟩, fun _ => sm⟩
    rcases (show k = 0 ∨ k = 1 ∨ k = 2 ∨ k = 3 by omega) with rfl | rfl | rfl | rfl
    · rw [c0.1, d0.1]; exact ⟨p1, p2⟩
    · rw [c0.2.1, d0.2.1]; exact ⟨p3, p2⟩
    · rw [c0.2.2.1, d0.2.2.1]; exact ⟨p3, p4⟩
    · rw [c0.2.2.2, d0.2.2.2]; exact ⟨p1, p4⟩
  · rw [upo9 e, upo9 e, upo9 e, upo9 e, upo9 e]
    have hw := h q (by omega)
    refine wfQ_cg (fun k hk => ⟨show bxX ft z1 z3 4 cx (40 * q + k) = cx (40 * q + k) from bxX_o (by omega), show bxY ft z2 z4 4 cy (40 * q + k) = cy (40 * q + k) from bxY_o (by omega)⟩) ?_
    by_cases e2 : q = g
    · rw [e2, up_at, up_at]
      rw [e2] at hw
      exact wfQ_go hw hs2 _
    · rw [upo9 e2, upo9 e2]
      by_cases e3 : q = f
      · rw [e3, up_at, up_at]
        rw [e3] at hw
        exact wfQ_go hw hs _
      · rw [upo9 e3, upo9 e3]; exact hw
end
theorem eO_6 {k : Int} {n : Nat} (h : k = 6) (hn : 1 ≤ n) : 1 ≤ eO k n := by
  rw [h]; unfold eO; rw [if_neg (by decide), if_pos (by decide)]; exact hn
theorem cntP_no {P : Nat → Prop} {n : Nat} (h : cntP P n = 0) (q : Nat) (hq : q < n) : ¬ P q := fun hp => by
  have := cntP_lt (P := P) (Q := fun _ => False) (fun _ g => g.elim) hq hp (fun g => g)
  omega
theorem gn_1 {M : Nat → Prop} {ft q : Nat} {st : Nat → Int32} (h : M q → (st q).toInt = 1) (g : (gnA M ft 2 st q).toInt = 1) : (st q).toInt = 1 := by
  by_cases m : M q
  · exact h m
  · rw [show gnA M ft 2 st q = st q by unfold gnA; rw [if_neg (fun c => m c.2)]] at g; exact g
/-! a run that takes nothing -/
section
variable {ft L : Nat} {kd st tn : Nat → Int32}
theorem rnP_no : ∀ (j : Nat) (mn cx cy mn1 cx1 cy1 : Nat → Int32), j ≤ ft → rnP ft st tn kd L j mn cx cy 0 mn1 cx1 cy1 → ∀ q, ft - j ≤ q → q < ft → lvF ft st tn q → ¬ (kd q).toInt = 0 → ¬ (kd q).toInt = 6 → plN ft st tn kd q L 0 mn cx cy (nN (mn q)) mn cx cy (nN (mn q)) := by
  intro j
  induction j with
  | zero => intro mn cx cy mn1 cx1 cy1 _ _ q h1 h2; omega
  | succ j ih =>
    intro mn cx cy mn1 cx1 cy1 hj hr q h1 h2 hl k0 k6
    obtain ⟨m, mn2, cx2, cy2, t2, r1, r2, r3⟩ := hr
    have em : m = 0 := by omega
    have et : t2 = 0 := by omega
    subst em et
    have e : mn2 = mn ∧ cx2 = cx ∧ cy2 = cy := by
      by_cases b : lvF ft st tn (ft - (j + 1)) ∧ ¬ (kd (ft - (j + 1))).toInt = 0 ∧ ¬ (kd (ft - (j + 1))).toInt = 6
      · obtain ⟨n1, hp⟩ := r1.1 b
        have z := plN_z rfl hp
        exact ⟨z.1, z.2.1, z.2.2.1⟩
      · exact (r1.2 b).2
    obtain ⟨rfl, rfl, rfl⟩ := e
    by_cases g : q = ft - (j + 1)
    · have b : lvF ft st tn (ft - (j + 1)) ∧ ¬ (kd (ft - (j + 1))).toInt = 0 ∧ ¬ (kd (ft - (j + 1))).toInt = 6 := by rw [← g]; exact ⟨hl, k0, k6⟩
      obtain ⟨n1, hp⟩ := r1.1 b
      have z := plN_z rfl hp
      rw [z.2.2.2.1, ← g] at hp
      exact hp
    · exact ih _ _ _ _ _ _ (by omega) r2 q (by omega) h2 hl k0 k6
theorem rnA_no {p : Nat} {mn cx cy mn1 cx1 cy1 : Nat → Int32} (h : rnA ft st tn kd L p mn cx cy 0 mn1 cx1 cy1) (hk : ∀ q, q < ft → 0 ≤ (kd q).toInt ∧ (kd q).toInt ≤ 6) : ∀ q, lvF ft st tn q → (1 ≤ (kd q).toInt ∧ (kd q).toInt ≤ 5) → plN ft st tn kd q L 0 mn cx cy (nN (mn q)) mn cx cy (nN (mn q)) := by
  intro q hl hb
  cases p with
  | zero => exact absurd h (fun g => g)
  | succ p =>
    obtain ⟨t2, mn2, cx2, cy2, h1, h2⟩ := h
    have e : t2 = 0 := by
      rcases h2 with ⟨e, _⟩ | ⟨_, t3, _, e⟩
      · exact e
      · omega
    rw [e] at h1
    exact rnP_no ft _ _ _ _ _ _ (Nat.le_refl _) h1 q (by omega) hl.1 hl (by omega) (by omega)
end
theorem eO_1 {k : Int} {n : Nat} (h : (k = 0 ∧ n = 1) ∨ (¬ k = 0 ∧ 2 ≤ n)) : 1 ≤ eO k n := by
  unfold eO
  by_cases e : k = 0
  · rw [if_pos e]; exact Nat.le_refl _
  · rw [if_neg e]; split <;> omega
end
section
/-! numbers of the script -/
theorem nI_ex {v : Int32} {n : Nat} (h : 0 ≤ v.toInt ∧ v.toInt < ((n : Nat) : Int)) : ∃ f, f < n ∧ v = nI f := by
  have h2 := Int32.toInt_lt v
  exact ⟨v.toInt.toNat, by omega, Int32.toInt_inj.mp (by rw [nI_toInt (by omega)]; omega)⟩
theorem nI_ge9 {v : Int32} (h : 0 ≤ v.toInt) : ∃ n, n ≤ 2147483647 ∧ v = nI n := by
  have h2 := Int32.toInt_lt v
  exact ⟨v.toInt.toNat, by omega, Int32.toInt_inj.mp (by rw [nI_toInt (by omega)]; omega)⟩
theorem lw_sub6 {L : Nat} (h : L ≤ 3072) : (Int32.ofNat L - 6).toInt = ((L : Nat) : Int) - 6 := by
  have e1 : (Int32.ofNat L).toInt = ((L : Nat) : Int) := nI_toInt (by omega)
  have e2 : (6 : Int32).toInt = 6 := by decide
  rw [fb_subI (by rw [e1, e2]; omega) (by rw [e1, e2]; omega), e1, e2]
/-! at the start -/
theorem shB_0 {cI cO : ClassId} {f : Nat → va_E} {e0 : Nat} {V : Nat → Nat → Nat → Int32} {VX VY : Nat → Nat → Int32} {tn rk wd tw pa pb wh of9 we kd st gb it mn cx cy : Nat → Int32} : shB cI cO [] f e0 (fun _ => none) e0 0 0 0 0 (fun _ => 0) V VX VY tn rk wd tw pa pb wh of9 we kd st gb it mn cx cy := by
  refine ⟨fun _ => 0, fun _ => 0, fun _ => 0, fun _ _ => 0, fun _ => 0, fun _ => none, ⟨?_, ?_, ?_, ?_, ?_, ?_, ?_⟩, ?_, rfl⟩
  · intro q hq; exact absurd hq (Nat.not_lt_zero _)
  · intro q hq; exact absurd hq (Nat.not_lt_zero _)
  · intro t _ _ q hq; exact absurd hq (Nat.not_lt_zero _)
  · intro t h1 h2; omega
  · exact Or.inl ⟨rfl, rfl⟩
  · exact ⟨Nat.le_refl _, Nat.le_refl _, Nat.zero_le _, fun _ _ _ => Nat.le_refl _, Nat.le_refl _, Nat.zero_le _⟩
  · intro q hq; exact absurd hq (Nat.not_lt_zero _)
  · intro q hq; exact absurd hq (Nat.not_lt_zero _)
theorem smN_00 : ∀ n, smN (fun _ => 0) n = 0 := by
  intro n
  induction n with
  | zero => rfl
  | succ n ih => show smN (fun _ => 0) n + 0 = 0; rw [ih]
theorem INV_0 {V : Nat → Nat → Nat → Int32} {VX VY : Nat → Nat → Int32} {rk wd tw pa pb kd st it mn cx cy sh lb lc : Nat → Int32} : INV 0 0 0 0 (fun _ => 0) (fun _ => 0) 0 0 0 1 0 1 (fun _ => 0) V VX VY (fun _ => 0) rk wd tw pa pb kd st it mn cx cy (fun _ => 0) sh lb lc := by
  have e0 : (0 : Int32).toInt = 0 := by decide
  have hb : ∀ (k s m : Nat → Int32), bdC (fun _ => 0) 0 0 k s m (fun _ => 0) := fun k s m => ⟨Nat.le_refl _, fun q hq => absurd hq (Nat.not_lt_zero _)⟩
  refine ⟨⟨fun q hq => absurd hq (Nat.not_lt_zero _), fun q hq => absurd hq (Nat.not_lt_zero _), hb _ _ _, fun q _ g => absurd e0 g⟩, fun t _ _ => ⟨fun q hq => absurd hq (Nat.not_lt_zero _), hb _ _ _⟩, ⟨⟨rfl, fun t _ _ => rfl, fun t _ h => absurd h (Nat.not_lt_zero _), fun h => absurd h (Nat.lt_irrefl _)⟩, Nat.le_refl _, ⟨0, rfl⟩, Nat.zero_le _, fun h => absurd h (Nat.lt_irrefl _), Or.inl rfl⟩, ⟨by rw [smN_00]; exact Nat.le_refl _, Nat.le_refl _, Nat.le_refl _⟩, ⟨Nat.zero_le _, Nat.le_refl _, Nat.zero_le _, Or.inl rfl, fun j hj => absurd hj (Nat.not_lt_zero _)⟩⟩
theorem lw_e0 {A : Array Value} {s : State} {t : Term} {e0 : Nat} {cell0 : Cell} (hl : (Cond.eq (.length t) (.int 0)).before A s = true) (ha : (Cond.arrayOf t (.object "java/lang/Object")).before A s = true) (ht : t.eval A s none [] s = some (.ref e0)) (hc : s.arrayAt? e0 = some cell0) : zE0 e0 (fun q : Nat => s.heap.size ≤ q) s s.heap := by
  have hv := va_eqt hl
  have hcb := (State.arrayAt?_spec hc).1
  have h31 : cell0.slots.size < 2147483648 ∧ cell0.slots.size.toInt32 = 0 := by
    simp only [Term.eval, ht, hc, Option.bind_eq_bind, Option.bind_some] at hv
    by_cases hlt : cell0.slots.size < 2147483648
    · rw [if_pos hlt] at hv
      have h1 := Option.some.inj hv
      injection h1 with h2
      exact ⟨hlt, h2⟩
    · rw [if_neg hlt] at hv
      cases hv
  have e : (nI cell0.slots.size).toInt = ((cell0.slots.size : Nat) : Int) := nI_toInt h31.1
  have e2 : nI cell0.slots.size = 0 := h31.2
  rw [e2] at e
  have e3 : (0 : Int32).toInt = 0 := by decide
  exact ⟨cell0, hcb, by omega, (Cond.arrayOf_spec ha ht hcb).1, fun h => absurd (Array.getElem?_eq_some_iff.mp hcb).1 (Nat.not_lt.mpr h)⟩
section
variable {ft L : Nat} {kd st tn : Nat → Int32}
theorem rnP_e : ∀ (j : Nat) (mn cx cy mn1 cx1 cy1 : Nat → Int32), rnP ft st tn kd L j mn cx cy 0 mn1 cx1 cy1 → mn1 = mn ∧ cx1 = cx ∧ cy1 = cy := by
  intro j
  induction j with
  | zero => intro mn cx cy mn1 cx1 cy1 h; exact h.2
  | succ j ih =>
    intro mn cx cy mn1 cx1 cy1 hr
    obtain ⟨m, mn2, cx2, cy2, t2, r1, r2, r3⟩ := hr
    have em : m = 0 := by omega
    have et : t2 = 0 := by omega
    subst em et
    have e : mn2 = mn ∧ cx2 = cx ∧ cy2 = cy := by
      by_cases b : lvF ft st tn (ft - (j + 1)) ∧ ¬ (kd (ft - (j + 1))).toInt = 0 ∧ ¬ (kd (ft - (j + 1))).toInt = 6
      · obtain ⟨n1, hp⟩ := r1.1 b
        have z := plN_z rfl hp
        exact ⟨z.1, z.2.1, z.2.2.1⟩
      · exact (r1.2 b).2
    have i := ih _ _ _ _ _ _ r2
    exact ⟨i.1.trans e.1, i.2.1.trans e.2.1, i.2.2.trans e.2.2⟩
theorem rnA_e {p : Nat} {mn cx cy mn1 cx1 cy1 : Nat → Int32} (h : rnA ft st tn kd L p mn cx cy 0 mn1 cx1 cy1) : mn1 = mn ∧ cx1 = cx ∧ cy1 = cy := by
  cases p with
  | zero => exact absurd h (fun g => g)
  | succ p =>
    obtain ⟨t2, mn2, cx2, cy2, h1, h2⟩ := h
    rcases h2 with ⟨e, _, e1, e2, e3⟩ | ⟨g, t3, _, e⟩
    · rw [e] at h1
      have i := rnP_e _ _ _ _ _ _ _ h1
      exact ⟨e1.trans i.1, e2.trans i.2.1, e3.trans i.2.2⟩
    · omega
end
end
section
/-! what the answers of the asking calls want besides -/
theorem mtF_self {k : Int} {n : Nat} {X Y : Nat → Int32} (h : 1 ≤ eO k n) : mtF k n X Y k n X Y := by
  unfold mtF
  exact ⟨0, h, 0, h, eMt_self⟩
end
section
/-! corners beyond a row's own do not matter -/
def agC (ft : Nat) (mn cx cy cx1 cy1 : Nat → Int32) : Prop := ∀ q, q < ft → ∀ k, k < nN (mn q) → cF40 cx1 q k = cF40 cx q k ∧ cF40 cy1 q k = cF40 cy q k
section
variable {cI cO : ClassId} {L : List Nat} {f : Nat → va_E} {e0 ea : Nat} {FA : Nat → Option Nat} {bs dn T ft : Nat} {FT : Nat → Nat} {V : Nat → Nat → Nat → Int32} {VX VY : Nat → Nat → Int32} {tn rk wd tw pa pb wh of9 we kd st gb it mn cx cy cx1 cy1 : Nat → Int32} {sa sh lb lc : Nat → Int32} {W cc : Nat → Nat} {K Sn AD C cp ln cl : Nat}
theorem shB_cx (h : shB cI cO L f e0 FA ea bs dn T ft FT V VX VY tn rk wd tw pa pb wh of9 we kd st gb it mn cx cy) (ha : agC ft mn cx cy cx1 cy1) : shB cI cO L f e0 FA ea bs dn T ft FT V VX VY tn rk wd tw pa pb wh of9 we kd st gb it mn cx1 cy1 := by
  obtain ⟨own, fe, cl, la, sp, SA, ⟨h1, h2, h3, h4, h5, h6, h7⟩, h8, h9⟩ := h
  refine ⟨own, fe, cl, la, sp, SA, ⟨h1, fun q hq => ?_, h3, h4, h5, h6, h7⟩, fun q hq => ?_, h9⟩
  · obtain ⟨we9, rv, g1, g2, g3, g4⟩ := h2 q hq
    refine ⟨we9, rv, g1, g2, g3, g4.1, fun h0 => ?_⟩
    obtain ⟨r, rx, ry, cap, X, Y, i1, i2, i3, i4, i5, i6, i7⟩ := g4.2 h0
    exact ⟨r, rx, ry, cap, X, Y, i1, i2, i3, i4, i5, fun k hk => ⟨(i6 k hk).1.trans (ha q hq k hk).1.symm, (i6 k hk).2.trans (ha q hq k hk).2.symm⟩, i7⟩
  · obtain ⟨b1, b2, b3, b4, b5⟩ := h8 q hq
    exact ⟨b1, b2, b3, b4, fun s t => ⟨(b5 s t).1, fun k hk => ⟨((b5 s t).2 k hk).1.trans (ha q hq k hk).1.symm, ((b5 s t).2 k hk).2.trans (ha q hq k hk).2.symm⟩⟩⟩
theorem INV_cx (h : INV K Sn AD C cc W bs T ft cp ln cl FT V VX VY tn rk wd tw pa pb kd st it mn cx cy sa sh lb lc) (ha : agC ft mn cx cy cx1 cy1) : INV K Sn AD C cc W bs T ft cp ln cl FT V VX VY tn rk wd tw pa pb kd st it mn cx1 cy1 sa sh lb lc := by
  obtain ⟨⟨a1, a2, a3, a4⟩, b⟩ := h
  refine ⟨⟨fun q hq => ?_, a2, a3, a4⟩, b⟩
  obtain ⟨w1, w2, w3, w4⟩ := a1 q hq
  refine ⟨w1, w2, fun t => ?_, w4⟩
  obtain ⟨⟨c1, c2, c3, c4⟩, c5⟩ := w3 t
  have hc2 : ∀ k, k < nN (mn q) → cF40 cx q k = cF40 cx1 q k ∧ cF40 cy q k = cF40 cy1 q k := fun k hk => ⟨(ha q hq k hk).1.symm, (ha q hq k hk).2.symm⟩
  exact ⟨⟨c1, c2, c3, (pls_cg hc2).mp c4⟩, fun s => mSm_cg hc2 (c5 s)⟩
theorem ag_sq {f0 : Nat} {z1 z2 z3 z4 : Int32} (h40 : ∀ q, q < ft → nN (mn q) ≤ 40) (hf : f0 < ft) : agC ft mn cx cy (fgX f0 (nN (mn f0)) (cF40 cx f0) (bxX f0 z1 z3 4 cx)) (fgX f0 (nN (mn f0)) (cF40 cy f0) (bxY f0 z2 z4 4 cy)) := fun q hq k hk => by
  have h4 := h40 q hq
  have h5 := h40 f0 hf
  by_cases e : q = f0
  · subst e
    exact ⟨fgX_f k hk, fgX_f k hk⟩
  · exact ⟨show fgX f0 (nN (mn f0)) (cF40 cx f0) (bxX f0 z1 z3 4 cx) (40 * q + k) = cx (40 * q + k) from (fgX_o (by omega)).trans (bxX_o (by omega)), show fgX f0 (nN (mn f0)) (cF40 cy f0) (bxY f0 z2 z4 4 cy) (40 * q + k) = cy (40 * q + k) from (fgX_o (by omega)).trans (bxY_o (by omega))⟩
end
/-! bounds that every outcome of the law asks for -/
theorem r9_k {k L : Nat} (h : 6 * k + 6 ≤ L) (g : L ≤ 3072) : k + 1 ≤ 512 := by omega
theorem r9_s {AD C Sn K : Nat} (h : AD + C + Sn ≤ K) (g : K + 1 ≤ 512) : AD + C + Sn ≤ 512 ∧ Sn + C ≤ 514 ∧ AD + C + (Sn + 1) ≤ 512 := by omega
theorem r9_d {AD C Sn K T dn : Nat} (h : AD + C + Sn ≤ K ∧ T ≤ Sn) (g : K + 1 ≤ 512) (d : dn ≤ T) : dn + 1 ≤ 512 := by omega
theorem r9_c {cl b : Nat} (h : cl = 1 ∨ 32 * cl ≤ b) (g : b ≤ 66049) : cl ≤ 100000 := by omega
theorem r9_l {cl a b : Nat} (h : cl = 1 ∨ 32 * cl ≤ a) (g : a ≤ b) : cl = 1 ∨ 32 * cl ≤ b := by omega
end
section
/-! clashes: boxes that lie too far apart, and the pairs by their places -/
section
variable {ft : Nat} {st tn kd mn cx cy wd : Nat → Int32} {gp9 : Int32} {f0 g0 : Nat}
end
/-! pairs by their places -/
section
variable {P : Nat → Nat → Prop} {ft : Nat}
end
/-! a distance of nothing is a meeting -/
theorem cr_a (a1 a2 b1 b2 : Int) : cr a1 a2 b1 b2 a1 a2 = 0 := by unfold cr; simp
theorem cr_b (a1 a2 b1 b2 : Int) : cr a1 a2 b1 b2 b1 b2 = 0 := by unfold cr; rw [Int.mul_comm (b1 - a1)]; exact Int.sub_self _
end
section
/-! where nothing moves all is lawful -/
theorem mt_pt {a1 a2 c1 c2 d1 d2 : Int} (h : mtC a1 a2 a1 a2 c1 c2 d1 d2) : onS c1 c2 d1 d2 a1 a2 := by
  rcases mtM_of_C h with ⟨h1, _⟩ | h1 | h1 | h1 | h1
  · have e : ∀ x y, cr a1 a2 a1 a2 x y = 0 := fun x y => by unfold cr; simp
    rw [e, e] at h1
    omega
  · obtain ⟨_, p1, p2, p3, p4⟩ := h1
    have e1 : c1 = a1 := by omega
    have e2 : c2 = a2 := by omega
    subst e1
    subst e2
    exact ⟨cr_a _ _ _ _, by omega, by omega, by omega, by omega⟩
  · obtain ⟨_, p1, p2, p3, p4⟩ := h1
    have e1 : d1 = a1 := by omega
    have e2 : d2 = a2 := by omega
    subst e1
    subst e2
    exact ⟨cr_b _ _ _ _, by omega, by omega, by omega, by omega⟩
  · exact h1
  · exact h1
theorem lwM_id {ft : Nat} {st tn kd mn cx cy VX VY : Nat → Int32} {f : Nat} (hw : wfM mn cx cy f) (hs : mSm (kd f).toInt (nN (mn f)) (cF40 cx f) (cF40 cy f)) (h : ¬ mvd (nN (mn f)) VX VY (cF40 cx f) (cF40 cy f)) : lwM ft st tn kd mn cx cy f (nN (mn f)) VX VY := by
  have hv : ∀ k, k < nN (mn f) → VX k = cx (40 * f + k) ∧ VY k = cy (40 * f + k) := fun k hk => Classical.byContradiction fun g => h ⟨k, hk, g⟩
  unfold lwM
  rw [fgX_same (fun k hk => (hv k hk).1), fgX_same (fun k hk => (hv k hk).2)]
  unfold lwA
  refine ⟨hw.2.2, hs, fun q _ _ => ?_⟩
  unfold lawTo
  refine ⟨Iff.rfl, fun _ => Iff.rfl, fun k _ => ⟨fun _ => Iff.rfl, fun _ g => ?_⟩, fun _ k _ => ?_⟩
  · obtain ⟨e, _, g⟩ := g
    exact g.1 (Or.inl ⟨⟨rfl, rfl⟩, rfl, rfl⟩)
  · unfold fWy
    intro hm
    exact ⟨mt_pt hm, Or.inl ⟨rfl, rfl⟩⟩
end
section
-- ===== end of PART A; then your names; then what follows =====
/-! THE CLAIM OUT OF ONE WALK OF THE LAW'S BODY. Your part is whole_start (and what it stands on); all else here is the same for every law, but numbers. -/
def R_law : String := "ScaleShopLaw"
def lw_P (b : Addr) (xs : List Int32) (args : Array Value) (s : State) : Prop := args = #[.ref b] ∧ s.IntsAt b xs ∧ xs.length ≤ 3072 ∧ (Jvm.Cond.and given_1 narrow_1).before args s = true
def lw_Q (_ : Array Value) (s : State) (o : Outcome) (t : State) : Prop := o = .returned (some (.int 1)) ∧ Framed s o t [] 600000 7302250
def lw_Z (below : List Frame) (a : Array Value) (s : State) : State → Prop := fun t => ∃ o, t.status = .running ∧ Ended t below o ∧ lw_Q a s o t
/-- the law's own end, with 1 on the stack, nothing written that was there before, its room as the claim has it -/
theorem lw_ret {p : Program} {l : Launch} {e : Env} {s : State} {m : MethodId} {below : List Frame} {meth : Method} {c : Code} {b : Nat} (hx : p.tables.exec = Jvm.exec) (hb : c.code = code) (hr : meth.sig.returnType = ret) (hlocks : meth.locks = false) {pc : Nat} {H : Heap} {ls : Array Slot} (hdg : decode code pc = .ok (.ireturn, 1)) : W p l e room_1 s m #[Value.ref b] below meth c H [] 600000 7302250 (lw_Z below #[Value.ref b] s) (F0 m pc ls [.int 1]) := by
  intro T hT X
  obtain ⟨fs, hret, hrun, hended, hW, hframe⟩ := X.leave (v := some (.int 1)) (hlocks := hlocks) (fun h => by rw [hr] at h; cases h)
  have hmeth' : T.vm.method? m = some meth := X.method'
  refine ⟨T.setFrames fs, ?_, .returned (some (.int 1)), hrun, hended, rfl, ⟨_, rfl⟩, hW, hframe⟩
  jvm_step X.here [X.here.top, hx, hb, hdg, hmeth', hr, ret, narrow_b1]
  (try refine ⟨rfl, ?_⟩); (try refine ⟨rfl, ?_⟩)
  first | (intro acts; rw [hret _ acts rfl rfl rfl]) | rw [hret _ _ rfl rfl rfl]
  exact Steps.refl _
/-- what holds at the law's entry: the machine, the code, the tables' words (any of lw_tbl by 'hts w (by decide +kernel)'), the script of L ints xs at the cell b, what the Statement gives of the start (any of its parts by flat_of_before) -/
def lw_At (p : Program) (s : State) (m : MethodId) (meth : Method) (c : Code) (b L : Nat) (xs : Nat → Int32) : Prop :=
  p.tables.exec = Jvm.exec ∧ c.code = code ∧ meth.sig.returnType = ret ∧ c.maxLocals = 4 ∧ s.vm.findClass R_law = some m.cls ∧ (∀ w ∈ lw_tbl, w.before #[Value.ref b] s = true) ∧ va_X b L xs s s.heap ∧ b < s.heap.size ∧ meth.locks = false ∧ (Jvm.Cond.and given_1 narrow_1).before #[Value.ref b] s = true
end
section
/-! what holds between two calls -/
set_option maxRecDepth 100000 in
abbrev lawI (s : State) (dC : Nat → ClassId) (dI : Nat → Nat → Nat) (cI cZ cF cO : ClassId) (e0 mi : Nat) (x sl sh fa lw dr dx dy tg tx ty wy wx wz br bo aa ro za zw zx zy zg bq bp dq dp lv k0 : Nat) (K cp cl U : Nat) (H : Heap) : Prop := ∃ (L : List Nat), ∃ (f : Nat → va_E), ∃ (FA : Nat → Option Nat), ∃ (RA : Nat → Option Nat), ∃ (FT : Nat → Nat), ∃ (cc : Nat → Nat), ∃ (W9 : Nat → Nat), ∃ (V : Nat → Nat → Nat → Int32), ∃ (VX : Nat → Nat → Int32), ∃ (VY : Nat → Nat → Int32), ∃ (a : Nat → Nat), ∃ (I0 : Nat → Int32), ∃ (J0 : Nat → Int64), ∃ (n9 : Nat → Nat), ∃ (z9 : Nat → Int32), ∃ (y9 : Nat → Int64), ∃ (R9 : Nat → Nat → Int32), (va_P (dC, dI) classes (((oc8 x (.ref sh) (.ref lw) (.ref ro) (.ref bq) (.ref bp) (.ref dq) (.ref dp) (.ref lv) (.ref sl) (nI (n9 5)) (nI (n9 4)) (z9 0) (z9 1)) :: (oc10 sl (z9 2) (.ref (n9 0)) (nI (n9 6))) :: (oc7 sh (.ref fa) (nI (n9 7))) :: (oq fa cF 200 FA) :: (oc3 lw (.ref dr) (.ref tg) (.ref wy) (.ref br) (.ref bo) (.ref aa)) :: (oc6 dr (.ref dx) (.ref dy) (nI (n9 1)) (z9 3)) :: (oa dx cI 40 (R9 0)) :: (oa dy cI 40 (R9 1)) :: (oc6 tg (.ref tx) (.ref ty) (nI (n9 2)) (z9 4)) :: (oa tx cI 3 (R9 2)) :: (oa ty cI 3 (R9 3)) :: (oc6 wy (.ref wx) (.ref wz) (nI (n9 3)) (z9 5)) :: (oa wx cI 2 (R9 4)) :: (oa wz cI 2 (R9 5)) :: (oc0 br (z9 6) (z9 7) (z9 8) (z9 9)) :: (oc0 bo (z9 10) (z9 11) (z9 12) (z9 13)) :: (oa aa cI 40 (R9 6)) :: (oc5 ro (.ref za) (.ref zw) (.ref zx) (.ref zy) (.ref zg) (z9 22)) :: (oq za cF 200 RA) :: (oa zw cI 200 (R9 7)) :: (oa zx cI 400 (R9 8)) :: (oa zy cI 400 (R9 9)) :: (oa zg cI 400 (R9 10)) :: (oc0 bq (z9 14) (z9 15) (z9 16) (z9 17)) :: (oc0 bp (z9 18) (z9 19) (z9 20) (z9 21)) :: (oc2 dq (y9 0) (y9 1)) :: (oc2 dp (y9 2) (y9 3)) :: (oa lv cZ 200 (R9 11)) :: (om k0 a (upd I0 26 (nI (n9 11))) J0) :: (oa (a 1) cI 201 (R9 12)) :: (oa (a 5) cI 201 (R9 13)) :: (oa (a 7) cI 201 (R9 14)) :: (oa (a 10) cI 201 (R9 15)) :: (oa (a 8) cI 201 (R9 16)) :: (oa (a 9) cI 201 (R9 17)) :: (oa (a 2) cI 201 (R9 18)) :: (oa (a 3) cI 201 (R9 19)) :: (oa (a 4) cI 201 (R9 20)) :: (oa (a 6) cZ 201 (R9 21)) :: (oa (a 11) cI 201 (R9 22)) :: (oa (a 12) cI 8040 (R9 23)) :: (oa (a 13) cI 8040 (R9 24)) :: (oa (a 27) cI 516 (R9 25)) :: (oa (a 28) cI (4096 * cp) (R9 26)) :: (oa (a 16) cI 514 (R9 27)) :: (oa (a 17) cI 514 (R9 28)) :: (oa (a 18) cI 514 (R9 29)) :: (oa (a 22) cI (64 * cl) (R9 30)) :: (oa (a 23) cI (64 * cl) (R9 31)) :: (oa (a 24) cI (64 * cl) (R9 32)) :: (oa (a 25) cI (64 * cl) (R9 33)) :: (oa (a 29) cI 42 (R9 34)) :: (oa (a 30) cI 42 (R9 35)) :: (oa (a 32) cI 8 (R9 36)) :: (oa (a 33) cI 42 (R9 37)) :: (oa (a 34) cI 42 (R9 38)) :: (oa (a 37) cZ 201 (R9 39)) :: (oa (a 38) cZ 201 (R9 40)) :: (oa (a 39) cZ 8040 (R9 41)) :: (oa (a 40) cI 6 (R9 42)) :: (oa (a 43) cZ 40 (R9 43)) :: (oa (a 50) cZ 201 (R9 44)) :: (oa (a 51) cI 402 (R9 45)) :: (oa (a 52) cI 402 (R9 46)) :: (oa (a 53) cI 402 (R9 47)) :: []) ++ va_pl L f) H ∧ va_D (fun q : Nat => s.heap.size ≤ q) (((oc8 x (.ref sh) (.ref lw) (.ref ro) (.ref bq) (.ref bp) (.ref dq) (.ref dp) (.ref lv) (.ref sl) (nI (n9 5)) (nI (n9 4)) (z9 0) (z9 1)) :: (oc10 sl (z9 2) (.ref (n9 0)) (nI (n9 6))) :: (oc7 sh (.ref fa) (nI (n9 7))) :: (oq fa cF 200 FA) :: (oc3 lw (.ref dr) (.ref tg) (.ref wy) (.ref br) (.ref bo) (.ref aa)) :: (oc6 dr (.ref dx) (.ref dy) (nI (n9 1)) (z9 3)) :: (oa dx cI 40 (R9 0)) :: (oa dy cI 40 (R9 1)) :: (oc6 tg (.ref tx) (.ref ty) (nI (n9 2)) (z9 4)) :: (oa tx cI 3 (R9 2)) :: (oa ty cI 3 (R9 3)) :: (oc6 wy (.ref wx) (.ref wz) (nI (n9 3)) (z9 5)) :: (oa wx cI 2 (R9 4)) :: (oa wz cI 2 (R9 5)) :: (oc0 br (z9 6) (z9 7) (z9 8) (z9 9)) :: (oc0 bo (z9 10) (z9 11) (z9 12) (z9 13)) :: (oa aa cI 40 (R9 6)) :: (oc5 ro (.ref za) (.ref zw) (.ref zx) (.ref zy) (.ref zg) (z9 22)) :: (oq za cF 200 RA) :: (oa zw cI 200 (R9 7)) :: (oa zx cI 400 (R9 8)) :: (oa zy cI 400 (R9 9)) :: (oa zg cI 400 (R9 10)) :: (oc0 bq (z9 14) (z9 15) (z9 16) (z9 17)) :: (oc0 bp (z9 18) (z9 19) (z9 20) (z9 21)) :: (oc2 dq (y9 0) (y9 1)) :: (oc2 dp (y9 2) (y9 3)) :: (oa lv cZ 200 (R9 11)) :: (om k0 a (upd I0 26 (nI (n9 11))) J0) :: (oa (a 1) cI 201 (R9 12)) :: (oa (a 5) cI 201 (R9 13)) :: (oa (a 7) cI 201 (R9 14)) :: (oa (a 10) cI 201 (R9 15)) :: (oa (a 8) cI 201 (R9 16)) :: (oa (a 9) cI 201 (R9 17)) :: (oa (a 2) cI 201 (R9 18)) :: (oa (a 3) cI 201 (R9 19)) :: (oa (a 4) cI 201 (R9 20)) :: (oa (a 6) cZ 201 (R9 21)) :: (oa (a 11) cI 201 (R9 22)) :: (oa (a 12) cI 8040 (R9 23)) :: (oa (a 13) cI 8040 (R9 24)) :: (oa (a 27) cI 516 (R9 25)) :: (oa (a 28) cI (4096 * cp) (R9 26)) :: (oa (a 16) cI 514 (R9 27)) :: (oa (a 17) cI 514 (R9 28)) :: (oa (a 18) cI 514 (R9 29)) :: (oa (a 22) cI (64 * cl) (R9 30)) :: (oa (a 23) cI (64 * cl) (R9 31)) :: (oa (a 24) cI (64 * cl) (R9 32)) :: (oa (a 25) cI (64 * cl) (R9 33)) :: (oa (a 29) cI 42 (R9 34)) :: (oa (a 30) cI 42 (R9 35)) :: (oa (a 32) cI 8 (R9 36)) :: (oa (a 33) cI 42 (R9 37)) :: (oa (a 34) cI 42 (R9 38)) :: (oa (a 37) cZ 201 (R9 39)) :: (oa (a 38) cZ 201 (R9 40)) :: (oa (a 39) cZ 8040 (R9 41)) :: (oa (a 40) cI 6 (R9 42)) :: (oa (a 43) cZ 40 (R9 43)) :: (oa (a 50) cZ 201 (R9 44)) :: (oa (a 51) cI 402 (R9 45)) :: (oa (a 52) cI 402 (R9 46)) :: (oa (a 53) cI 402 (R9 47)) :: []) ++ va_pl L f)) ∧ shB cI cO L f e0 FA (n9 0) (n9 4) (n9 5) (n9 6) (n9 7) FT V VX VY (R9 21) (R9 18) (R9 19) (R9 20) (R9 16) (R9 17) (R9 27) (R9 28) (R9 29) (R9 12) (R9 13) (R9 14) (R9 15) (R9 22) (R9 23) (R9 24) ∧ INV K (n9 8) (n9 9) (n9 10) cc W9 (n9 4) (n9 6) (n9 7) cp (n9 11) cl FT V VX VY (R9 21) (R9 18) (R9 19) (R9 20) (R9 16) (R9 17) (R9 12) (R9 13) (R9 15) (R9 22) (R9 23) (R9 24) (R9 25) (R9 26) (R9 31) (R9 32) ∧ (I0 0 = nI (n9 7) ∧ I0 19 = nI (n9 5) ∧ I0 20 = nI ((n9 6) - (n9 5)) ∧ I0 21 = nI (n9 4) ∧ I0 15 = (z9 0)) ∧ U ≤ (n9 8) * (28 * ((n9 9) + (n9 10)) + 1000) + 200 * ((n9 9) + (n9 10))
set_option maxRecDepth 100000 in
set_option maxHeartbeats 4000000 in
theorem lawI_in {s : State} {dC : Nat → ClassId} {dI : Nat → Nat → Nat} {cI cZ cF cO : ClassId} {e0 mi : Nat} {x sl sh fa lw dr dx dy tg tx ty wy wx wz br bo aa ro za zw zx zy zg bq bp dq dp lv k0 : Nat} {K cp cl U : Nat} {H : Heap} (L : List Nat) (f : Nat → va_E) (FA : Nat → Option Nat) (ea : Nat) (nd : Nat) (nt : Nat) (nw : Nat) (ul : Int32) (su : Int32) (mc9 : Int32) (rd : Int32) (rt : Int32) (rw : Int32) (P : Nat → Int32) (Q : Nat → Int32) (TX : Nat → Int32) (TY : Nat → Int32) (WX : Nat → Int32) (WY : Nat → Int32) (AR : Nat → Int32) (b1 : Int32) (b2 : Int32) (b3 : Int32) (b4 : Int32) (b5 : Int32) (b6 : Int32) (b7 : Int32) (b8 : Int32) (c1 : Int32) (c2 : Int32) (c3 : Int32) (c4 : Int32) (a1 : Int32) (a2 : Int32) (a3 : Int32) (a4 : Int32) (nv : Int32) (RA : Nat → Option Nat) (WT : Nat → Int32) (EX : Nat → Int32) (EY : Nat → Int32) (GR : Nat → Int32) (LV : Nat → Int32) (y1 : Int64) (y2 : Int64) (y3 : Int64) (y4 : Int64) (a : Nat → Nat) (I0 : Nat → Int32) (J0 : Nat → Int64) (kd : Nat → Int32) (st : Nat → Int32) (gb : Nat → Int32) (it : Nat → Int32) (pa : Nat → Int32) (pb : Nat → Int32) (rk : Nat → Int32) (wd : Nat → Int32) (tw : Nat → Int32) (tn : Nat → Int32) (mn : Nat → Int32) (cx : Nat → Int32) (cy : Nat → Int32) (sa : Nat → Int32) (shs : Nat → Int32) (wh : Nat → Int32) (of9 : Nat → Int32) (we : Nat → Int32) (la : Nat → Int32) (lb : Nat → Int32) (lc : Nat → Int32) (ld : Nat → Int32) (P0 : Nat → Int32) (Q0 : Nat → Int32) (S0 : Nat → Int32) (ox : Nat → Int32) (oy : Nat → Int32) (mt : Nat → Int32) (wi : Nat → Int32) (ins : Nat → Int32) (T0 : Nat → Int32) (fl : Nat → Int32) (mk : Nat → Int32) (jx : Nat → Int32) (jy : Nat → Int32) (gr : Nat → Int32) (bs : Nat) (dn : Nat) (T : Nat) (ft : Nat) (Sn : Nat) (AD : Nat) (C : Nat) (ln : Nat) (FT : Nat → Nat) (cc : Nat → Nat) (W9 : Nat → Nat) (V : Nat → Nat → Nat → Int32) (VX : Nat → Nat → Int32) (VY : Nat → Nat → Int32) (hP : va_P (dC, dI) classes (((oc8 x (.ref sh) (.ref lw) (.ref ro) (.ref bq) (.ref bp) (.ref dq) (.ref dp) (.ref lv) (.ref sl) (nI dn) (nI bs) ul su) :: (oc10 sl mc9 (.ref ea) (nI T)) :: (oc7 sh (.ref fa) (nI ft)) :: (oq fa cF 200 FA) :: (oc3 lw (.ref dr) (.ref tg) (.ref wy) (.ref br) (.ref bo) (.ref aa)) :: (oc6 dr (.ref dx) (.ref dy) (nI nd) rd) :: (oa dx cI 40 P) :: (oa dy cI 40 Q) :: (oc6 tg (.ref tx) (.ref ty) (nI nt) rt) :: (oa tx cI 3 TX) :: (oa ty cI 3 TY) :: (oc6 wy (.ref wx) (.ref wz) (nI nw) rw) :: (oa wx cI 2 WX) :: (oa wz cI 2 WY) :: (oc0 br b1 b2 b3 b4) :: (oc0 bo b5 b6 b7 b8) :: (oa aa cI 40 AR) :: (oc5 ro (.ref za) (.ref zw) (.ref zx) (.ref zy) (.ref zg) nv) :: (oq za cF 200 RA) :: (oa zw cI 200 WT) :: (oa zx cI 400 EX) :: (oa zy cI 400 EY) :: (oa zg cI 400 GR) :: (oc0 bq c1 c2 c3 c4) :: (oc0 bp a1 a2 a3 a4) :: (oc2 dq y1 y2) :: (oc2 dp y3 y4) :: (oa lv cZ 200 LV) :: (om k0 a (upd I0 26 (nI ln)) J0) :: (oa (a 1) cI 201 kd) :: (oa (a 5) cI 201 st) :: (oa (a 7) cI 201 gb) :: (oa (a 10) cI 201 it) :: (oa (a 8) cI 201 pa) :: (oa (a 9) cI 201 pb) :: (oa (a 2) cI 201 rk) :: (oa (a 3) cI 201 wd) :: (oa (a 4) cI 201 tw) :: (oa (a 6) cZ 201 tn) :: (oa (a 11) cI 201 mn) :: (oa (a 12) cI 8040 cx) :: (oa (a 13) cI 8040 cy) :: (oa (a 27) cI 516 sa) :: (oa (a 28) cI (4096 * cp) shs) :: (oa (a 16) cI 514 wh) :: (oa (a 17) cI 514 of9) :: (oa (a 18) cI 514 we) :: (oa (a 22) cI (64 * cl) la) :: (oa (a 23) cI (64 * cl) lb) :: (oa (a 24) cI (64 * cl) lc) :: (oa (a 25) cI (64 * cl) ld) :: (oa (a 29) cI 42 P0) :: (oa (a 30) cI 42 Q0) :: (oa (a 32) cI 8 S0) :: (oa (a 33) cI 42 ox) :: (oa (a 34) cI 42 oy) :: (oa (a 37) cZ 201 mt) :: (oa (a 38) cZ 201 wi) :: (oa (a 39) cZ 8040 ins) :: (oa (a 40) cI 6 T0) :: (oa (a 43) cZ 40 fl) :: (oa (a 50) cZ 201 mk) :: (oa (a 51) cI 402 jx) :: (oa (a 52) cI 402 jy) :: (oa (a 53) cI 402 gr) :: []) ++ va_pl L f) H) (hD : va_D (fun q : Nat => s.heap.size ≤ q) (((oc8 x (.ref sh) (.ref lw) (.ref ro) (.ref bq) (.ref bp) (.ref dq) (.ref dp) (.ref lv) (.ref sl) (nI dn) (nI bs) ul su) :: (oc10 sl mc9 (.ref ea) (nI T)) :: (oc7 sh (.ref fa) (nI ft)) :: (oq fa cF 200 FA) :: (oc3 lw (.ref dr) (.ref tg) (.ref wy) (.ref br) (.ref bo) (.ref aa)) :: (oc6 dr (.ref dx) (.ref dy) (nI nd) rd) :: (oa dx cI 40 P) :: (oa dy cI 40 Q) :: (oc6 tg (.ref tx) (.ref ty) (nI nt) rt) :: (oa tx cI 3 TX) :: (oa ty cI 3 TY) :: (oc6 wy (.ref wx) (.ref wz) (nI nw) rw) :: (oa wx cI 2 WX) :: (oa wz cI 2 WY) :: (oc0 br b1 b2 b3 b4) :: (oc0 bo b5 b6 b7 b8) :: (oa aa cI 40 AR) :: (oc5 ro (.ref za) (.ref zw) (.ref zx) (.ref zy) (.ref zg) nv) :: (oq za cF 200 RA) :: (oa zw cI 200 WT) :: (oa zx cI 400 EX) :: (oa zy cI 400 EY) :: (oa zg cI 400 GR) :: (oc0 bq c1 c2 c3 c4) :: (oc0 bp a1 a2 a3 a4) :: (oc2 dq y1 y2) :: (oc2 dp y3 y4) :: (oa lv cZ 200 LV) :: (om k0 a (upd I0 26 (nI ln)) J0) :: (oa (a 1) cI 201 kd) :: (oa (a 5) cI 201 st) :: (oa (a 7) cI 201 gb) :: (oa (a 10) cI 201 it) :: (oa (a 8) cI 201 pa) :: (oa (a 9) cI 201 pb) :: (oa (a 2) cI 201 rk) :: (oa (a 3) cI 201 wd) :: (oa (a 4) cI 201 tw) :: (oa (a 6) cZ 201 tn) :: (oa (a 11) cI 201 mn) :: (oa (a 12) cI 8040 cx) :: (oa (a 13) cI 8040 cy) :: (oa (a 27) cI 516 sa) :: (oa (a 28) cI (4096 * cp) shs) :: (oa (a 16) cI 514 wh) :: (oa (a 17) cI 514 of9) :: (oa (a 18) cI 514 we) :: (oa (a 22) cI (64 * cl) la) :: (oa (a 23) cI (64 * cl) lb) :: (oa (a 24) cI (64 * cl) lc) :: (oa (a 25) cI (64 * cl) ld) :: (oa (a 29) cI 42 P0) :: (oa (a 30) cI 42 Q0) :: (oa (a 32) cI 8 S0) :: (oa (a 33) cI 42 ox) :: (oa (a 34) cI 42 oy) :: (oa (a 37) cZ 201 mt) :: (oa (a 38) cZ 201 wi) :: (oa (a 39) cZ 8040 ins) :: (oa (a 40) cI 6 T0) :: (oa (a 43) cZ 40 fl) :: (oa (a 50) cZ 201 mk) :: (oa (a 51) cI 402 jx) :: (oa (a 52) cI 402 jy) :: (oa (a 53) cI 402 gr) :: []) ++ va_pl L f)) (hB : shB cI cO L f e0 FA ea bs dn T ft FT V VX VY tn rk wd tw pa pb wh of9 we kd st gb it mn cx cy) (hI : INV K Sn AD C cc W9 bs T ft cp ln cl FT V VX VY tn rk wd tw pa pb kd st it mn cx cy sa shs lb lc) (hM : I0 0 = nI ft ∧ I0 19 = nI dn ∧ I0 20 = nI (T - dn) ∧ I0 21 = nI bs ∧ I0 15 = ul) (hU : U ≤ Sn * (28 * (AD + C) + 1000) + 200 * (AD + C)) : lawI s dC dI cI cZ cF cO e0 mi x sl sh fa lw dr dx dy tg tx ty wy wx wz br bo aa ro za zw zx zy zg bq bp dq dp lv k0 K cp cl U H := ⟨L, f, FA, RA, FT, cc, W9, V, VX, VY, a, I0, J0, (fun i => match i with | 0 => ea | 1 => nd | 2 => nt | 3 => nw | 4 => bs | 5 => dn | 6 => T | 7 => ft | 8 => Sn | 9 => AD | 10 => C | _ => ln), (fun i => match i with | 0 => ul | 1 => su | 2 => mc9 | 3 => rd | 4 => rt | 5 => rw | 6 => b1 | 7 => b2 | 8 => b3 | 9 => b4 | 10 => b5 | 11 => b6 | 12 => b7 | 13 => b8 | 14 => c1 | 15 => c2 | 16 => c3 | 17 => c4 | 18 => a1 | 19 => a2 | 20 => a3 | 21 => a4 | _ => nv), (fun i => match i with | 0 => y1 | 1 => y2 | 2 => y3 | _ => y4), (fun i => match i with | 0 => P | 1 => Q | 2 => TX | 3 => TY | 4 => WX | 5 => WY | 6 => AR | 7 => WT | 8 => EX | 9 => EY | 10 => GR | 11 => LV | 12 => kd | 13 => st | 14 => gb | 15 => it | 16 => pa | 17 => pb | 18 => rk | 19 => wd | 20 => tw | 21 => tn | 22 => mn | 23 => cx | 24 => cy | 25 => sa | 26 => shs | 27 => wh | 28 => of9 | 29 => we | 30 => la | 31 => lb | 32 => lc | 33 => ld | 34 => P0 | 35 => Q0 | 36 => S0 | 37 => ox | 38 => oy | 39 => mt | 40 => wi | 41 => ins | 42 => T0 | 43 => fl | 44 => mk | 45 => jx | 46 => jy | _ => gr), ⟨hP, hD⟩, hB, hI, hM, hU⟩
set_option maxRecDepth 100000 in
set_option maxHeartbeats 4000000 in
theorem lawI_el {s : State} {dC : Nat → ClassId} {dI : Nat → Nat → Nat} {cI cZ cF cO : ClassId} {e0 mi : Nat} {x sl sh fa lw dr dx dy tg tx ty wy wx wz br bo aa ro za zw zx zy zg bq bp dq dp lv k0 : Nat} {K cp cl U : Nat} {H : Heap} (h : lawI s dC dI cI cZ cF cO e0 mi x sl sh fa lw dr dx dy tg tx ty wy wx wz br bo aa ro za zw zx zy zg bq bp dq dp lv k0 K cp cl U H) {Z : Prop} (k : ∀ (L : List Nat) (f : Nat → va_E) (FA : Nat → Option Nat) (ea : Nat) (nd : Nat) (nt : Nat) (nw : Nat) (ul : Int32) (su : Int32) (mc9 : Int32) (rd : Int32) (rt : Int32) (rw : Int32) (P : Nat → Int32) (Q : Nat → Int32) (TX : Nat → Int32) (TY : Nat → Int32) (WX : Nat → Int32) (WY : Nat → Int32) (AR : Nat → Int32) (b1 : Int32) (b2 : Int32) (b3 : Int32) (b4 : Int32) (b5 : Int32) (b6 : Int32) (b7 : Int32) (b8 : Int32) (c1 : Int32) (c2 : Int32) (c3 : Int32) (c4 : Int32) (a1 : Int32) (a2 : Int32) (a3 : Int32) (a4 : Int32) (nv : Int32) (RA : Nat → Option Nat) (WT : Nat → Int32) (EX : Nat → Int32) (EY : Nat → Int32) (GR : Nat → Int32) (LV : Nat → Int32) (y1 : Int64) (y2 : Int64) (y3 : Int64) (y4 : Int64) (a : Nat → Nat) (I0 : Nat → Int32) (J0 : Nat → Int64) (kd : Nat → Int32) (st : Nat → Int32) (gb : Nat → Int32) (it : Nat → Int32) (pa : Nat → Int32) (pb : Nat → Int32) (rk : Nat → Int32) (wd : Nat → Int32) (tw : Nat → Int32) (tn : Nat → Int32) (mn : Nat → Int32) (cx : Nat → Int32) (cy : Nat → Int32) (sa : Nat → Int32) (shs : Nat → Int32) (wh : Nat → Int32) (of9 : Nat → Int32) (we : Nat → Int32) (la : Nat → Int32) (lb : Nat → Int32) (lc : Nat → Int32) (ld : Nat → Int32) (P0 : Nat → Int32) (Q0 : Nat → Int32) (S0 : Nat → Int32) (ox : Nat → Int32) (oy : Nat → Int32) (mt : Nat → Int32) (wi : Nat → Int32) (ins : Nat → Int32) (T0 : Nat → Int32) (fl : Nat → Int32) (mk : Nat → Int32) (jx : Nat → Int32) (jy : Nat → Int32) (gr : Nat → Int32) (bs : Nat) (dn : Nat) (T : Nat) (ft : Nat) (Sn : Nat) (AD : Nat) (C : Nat) (ln : Nat) (FT : Nat → Nat) (cc : Nat → Nat) (W9 : Nat → Nat) (V : Nat → Nat → Nat → Int32) (VX : Nat → Nat → Int32) (VY : Nat → Nat → Int32), (va_P (dC, dI) classes (((oc8 x (.ref sh) (.ref lw) (.ref ro) (.ref bq) (.ref bp) (.ref dq) (.ref dp) (.ref lv) (.ref sl) (nI dn) (nI bs) ul su) :: (oc10 sl mc9 (.ref ea) (nI T)) :: (oc7 sh (.ref fa) (nI ft)) :: (oq fa cF 200 FA) :: (oc3 lw (.ref dr) (.ref tg) (.ref wy) (.ref br) (.ref bo) (.ref aa)) :: (oc6 dr (.ref dx) (.ref dy) (nI nd) rd) :: (oa dx cI 40 P) :: (oa dy cI 40 Q) :: (oc6 tg (.ref tx) (.ref ty) (nI nt) rt) :: (oa tx cI 3 TX) :: (oa ty cI 3 TY) :: (oc6 wy (.ref wx) (.ref wz) (nI nw) rw) :: (oa wx cI 2 WX) :: (oa wz cI 2 WY) :: (oc0 br b1 b2 b3 b4) :: (oc0 bo b5 b6 b7 b8) :: (oa aa cI 40 AR) :: (oc5 ro (.ref za) (.ref zw) (.ref zx) (.ref zy) (.ref zg) nv) :: (oq za cF 200 RA) :: (oa zw cI 200 WT) :: (oa zx cI 400 EX) :: (oa zy cI 400 EY) :: (oa zg cI 400 GR) :: (oc0 bq c1 c2 c3 c4) :: (oc0 bp a1 a2 a3 a4) :: (oc2 dq y1 y2) :: (oc2 dp y3 y4) :: (oa lv cZ 200 LV) :: (om k0 a (upd I0 26 (nI ln)) J0) :: (oa (a 1) cI 201 kd) :: (oa (a 5) cI 201 st) :: (oa (a 7) cI 201 gb) :: (oa (a 10) cI 201 it) :: (oa (a 8) cI 201 pa) :: (oa (a 9) cI 201 pb) :: (oa (a 2) cI 201 rk) :: (oa (a 3) cI 201 wd) :: (oa (a 4) cI 201 tw) :: (oa (a 6) cZ 201 tn) :: (oa (a 11) cI 201 mn) :: (oa (a 12) cI 8040 cx) :: (oa (a 13) cI 8040 cy) :: (oa (a 27) cI 516 sa) :: (oa (a 28) cI (4096 * cp) shs) :: (oa (a 16) cI 514 wh) :: (oa (a 17) cI 514 of9) :: (oa (a 18) cI 514 we) :: (oa (a 22) cI (64 * cl) la) :: (oa (a 23) cI (64 * cl) lb) :: (oa (a 24) cI (64 * cl) lc) :: (oa (a 25) cI (64 * cl) ld) :: (oa (a 29) cI 42 P0) :: (oa (a 30) cI 42 Q0) :: (oa (a 32) cI 8 S0) :: (oa (a 33) cI 42 ox) :: (oa (a 34) cI 42 oy) :: (oa (a 37) cZ 201 mt) :: (oa (a 38) cZ 201 wi) :: (oa (a 39) cZ 8040 ins) :: (oa (a 40) cI 6 T0) :: (oa (a 43) cZ 40 fl) :: (oa (a 50) cZ 201 mk) :: (oa (a 51) cI 402 jx) :: (oa (a 52) cI 402 jy) :: (oa (a 53) cI 402 gr) :: []) ++ va_pl L f) H) → (va_D (fun q : Nat => s.heap.size ≤ q) (((oc8 x (.ref sh) (.ref lw) (.ref ro) (.ref bq) (.ref bp) (.ref dq) (.ref dp) (.ref lv) (.ref sl) (nI dn) (nI bs) ul su) :: (oc10 sl mc9 (.ref ea) (nI T)) :: (oc7 sh (.ref fa) (nI ft)) :: (oq fa cF 200 FA) :: (oc3 lw (.ref dr) (.ref tg) (.ref wy) (.ref br) (.ref bo) (.ref aa)) :: (oc6 dr (.ref dx) (.ref dy) (nI nd) rd) :: (oa dx cI 40 P) :: (oa dy cI 40 Q) :: (oc6 tg (.ref tx) (.ref ty) (nI nt) rt) :: (oa tx cI 3 TX) :: (oa ty cI 3 TY) :: (oc6 wy (.ref wx) (.ref wz) (nI nw) rw) :: (oa wx cI 2 WX) :: (oa wz cI 2 WY) :: (oc0 br b1 b2 b3 b4) :: (oc0 bo b5 b6 b7 b8) :: (oa aa cI 40 AR) :: (oc5 ro (.ref za) (.ref zw) (.ref zx) (.ref zy) (.ref zg) nv) :: (oq za cF 200 RA) :: (oa zw cI 200 WT) :: (oa zx cI 400 EX) :: (oa zy cI 400 EY) :: (oa zg cI 400 GR) :: (oc0 bq c1 c2 c3 c4) :: (oc0 bp a1 a2 a3 a4) :: (oc2 dq y1 y2) :: (oc2 dp y3 y4) :: (oa lv cZ 200 LV) :: (om k0 a (upd I0 26 (nI ln)) J0) :: (oa (a 1) cI 201 kd) :: (oa (a 5) cI 201 st) :: (oa (a 7) cI 201 gb) :: (oa (a 10) cI 201 it) :: (oa (a 8) cI 201 pa) :: (oa (a 9) cI 201 pb) :: (oa (a 2) cI 201 rk) :: (oa (a 3) cI 201 wd) :: (oa (a 4) cI 201 tw) :: (oa (a 6) cZ 201 tn) :: (oa (a 11) cI 201 mn) :: (oa (a 12) cI 8040 cx) :: (oa (a 13) cI 8040 cy) :: (oa (a 27) cI 516 sa) :: (oa (a 28) cI (4096 * cp) shs) :: (oa (a 16) cI 514 wh) :: (oa (a 17) cI 514 of9) :: (oa (a 18) cI 514 we) :: (oa (a 22) cI (64 * cl) la) :: (oa (a 23) cI (64 * cl) lb) :: (oa (a 24) cI (64 * cl) lc) :: (oa (a 25) cI (64 * cl) ld) :: (oa (a 29) cI 42 P0) :: (oa (a 30) cI 42 Q0) :: (oa (a 32) cI 8 S0) :: (oa (a 33) cI 42 ox) :: (oa (a 34) cI 42 oy) :: (oa (a 37) cZ 201 mt) :: (oa (a 38) cZ 201 wi) :: (oa (a 39) cZ 8040 ins) :: (oa (a 40) cI 6 T0) :: (oa (a 43) cZ 40 fl) :: (oa (a 50) cZ 201 mk) :: (oa (a 51) cI 402 jx) :: (oa (a 52) cI 402 jy) :: (oa (a 53) cI 402 gr) :: []) ++ va_pl L f)) → (shB cI cO L f e0 FA ea bs dn T ft FT V VX VY tn rk wd tw pa pb wh of9 we kd st gb it mn cx cy) → (INV K Sn AD C cc W9 bs T ft cp ln cl FT V VX VY tn rk wd tw pa pb kd st it mn cx cy sa shs lb lc) → (I0 0 = nI ft ∧ I0 19 = nI dn ∧ I0 20 = nI (T - dn) ∧ I0 21 = nI bs ∧ I0 15 = ul) → (U ≤ Sn * (28 * (AD + C) + 1000) + 200 * (AD + C)) → Z) : Z := by
  obtain ⟨L, f, FA, RA, FT, cc, W9, V, VX, VY, a, I0, J0, n9, z9, y9, R9, ⟨hP, hD⟩, hB, hI, hM, hU⟩ := h
  exact k L f FA (n9 0) (n9 1) (n9 2) (n9 3) (z9 0) (z9 1) (z9 2) (z9 3) (z9 4) (z9 5) (R9 0) (R9 1) (R9 2) (R9 3) (R9 4) (R9 5) (R9 6) (z9 6) (z9 7) (z9 8) (z9 9) (z9 10) (z9 11) (z9 12) (z9 13) (z9 14) (z9 15) (z9 16) (z9 17) (z9 18) (z9 19) (z9 20) (z9 21) (z9 22) RA (R9 7) (R9 8) (R9 9) (R9 10) (R9 11) (y9 0) (y9 1) (y9 2) (y9 3) a I0 J0 (R9 12) (R9 13) (R9 14) (R9 15) (R9 16) (R9 17) (R9 18) (R9 19) (R9 20) (R9 21) (R9 22) (R9 23) (R9 24) (R9 25) (R9 26) (R9 27) (R9 28) (R9 29) (R9 30) (R9 31) (R9 32) (R9 33) (R9 34) (R9 35) (R9 36) (R9 37) (R9 38) (R9 39) (R9 40) (R9 41) (R9 42) (R9 43) (R9 44) (R9 45) (R9 46) (R9 47) (n9 4) (n9 5) (n9 6) (n9 7) (n9 8) (n9 9) (n9 10) (n9 11) FT cc W9 V VX VY hP hD hB hI hM hU
set_option maxRecDepth 100000 in
set_option maxHeartbeats 4000000 in
theorem law_room1 {s : State} {K cp cl U L9 : Nat} {H : Heap} {dC : Nat → ClassId} {dI : Nat → Nat → Nat} {cI cZ cF cO : ClassId} {e0 mi : Nat} {x sl sh fa lw dr dx dy tg tx ty wy wx wz br bo aa ro za zw zx zy zg bq bp dq dp lv k0 : Nat} (hL9 : L9 ≤ 3072) (hk : 6 * K ≤ L9) (h : lawI s dC dI cI cZ cF cO e0 mi x sl sh fa lw dr dx dy tg tx ty wy wx wz br bo aa ro za zw zx zy zg bq bp dq dp lv k0 K cp cl U H) : 1000 + 1010 * K + cp + 4 * cl ≤ 600000 := by
  refine lawI_el h (fun L f FA ea nd nt nw ul su mc9 rd rt rw P Q TX TY WX WY AR b1 b2 b3 b4 b5 b6 b7 b8 c1 c2 c3 c4 a1 a2 a3 a4 nv RA WT EX EY GR LV y1 y2 y3 y4 a I0 J0 kd st gb it pa pb rk wd tw tn mn cx cy sa shs wh of9 we la lb lc ld P0 Q0 S0 ox oy mt wi ins T0 fl mk jx jy gr bs dn T ft Sn AD C ln FT cc W9 V VX VY hP hD hB hI hM hU => ?_)
  have h1 := INV_cp hI (by omega)
  have h2 := mul_514 (a := Sn) (b := C) (by have := hI.2.2.2.1; omega)
  have h3 := hI.2.2.2.2
  omega
set_option maxRecDepth 100000 in
set_option maxHeartbeats 4000000 in
theorem law_room2 {s : State} {K cp cl U L9 : Nat} {H : Heap} {dC : Nat → ClassId} {dI : Nat → Nat → Nat} {cI cZ cF cO : ClassId} {e0 mi : Nat} {x sl sh fa lw dr dx dy tg tx ty wy wx wz br bo aa ro za zw zx zy zg bq bp dq dp lv k0 : Nat} (hL9 : L9 ≤ 3072) (hk : 6 * K ≤ L9) (h : lawI s dC dI cI cZ cF cO e0 mi x sl sh fa lw dr dx dy tg tx ty wy wx wz br bo aa ro za zw zx zy zg bq bp dq dp lv k0 K cp cl U H) : 45000 + 8192 * cp + 512 * cl + U ≤ 7302250 := by
  refine lawI_el h (fun L f FA ea nd nt nw ul su mc9 rd rt rw P Q TX TY WX WY AR b1 b2 b3 b4 b5 b6 b7 b8 c1 c2 c3 c4 a1 a2 a3 a4 nv RA WT EX EY GR LV y1 y2 y3 y4 a I0 J0 kd st gb it pa pb rk wd tw tn mn cx cy sa shs wh of9 we la lb lc ld P0 Q0 S0 ox oy mt wi ins T0 fl mk jx jy gr bs dn T ft Sn AD C ln FT cc W9 V VX VY hP hD hB hI hM hU => ?_)
  exact room_c (Sn := Sn) (AD := AD) (C := C) (by have := hI.2.2.2.1; omega) hI.2.2.1.2.2.2.2.2 hI.2.2.2.2.2.2.2.1 hU
end
section
theorem la_0_1 {p : Program} {e : Env} {s : State} {m : MethodId} {below : List Frame} {meth : Method} {c : Code} (l : Launch) {b L9 : Nat} {xs : Nat → Int32} (C0 : lw_At p s m meth c b L9 xs) {x k0 k9 ce sl : Nat} (hk9 : 6 * k9 + 6 ≤ L9) (hL9 : L9 ≤ 3072) {H : Heap} {locs : List Loc} {ls : Array Slot} {rest : List Value} (hS : va_S (fun q : Nat => s.heap.size ≤ q) s.heap H locs) (hl : lv_has ls 4 [(3, .int (nI (6 * k9))), (2, .ref k0), (1, .ref x), (0, .ref b)]) {v1 : Int32} {v2 : Int32} {v3 : Int32} {v4 : Int32} (h1 : xs (6 * k9 + 1) = v1) (h2 : xs (6 * k9 + 2) = v2) (h3 : xs (6 * k9 + 3) = v3) (h4 : xs (6 * k9 + 4) = v4) (k : W p l e room_1 s m #[Value.ref b] below meth c H locs ce sl (lw_Z below #[Value.ref b] s) (F0 m 185 ls (.int v4 :: .int v3 :: .int v2 :: .int v1 :: .ref x :: rest))) : W p l e room_1 s m #[Value.ref b] below meth c H locs ce sl (lw_Z below #[Value.ref b] s) (F0 m 164 ls (rest)) := by
  obtain ⟨hx, hb, hr, hml, hown, hts1, hX, hbl, hlocks, hgv⟩ := id C0
  have hbA : ¬ (fun q : Nat => s.heap.size ≤ q) b := Nat.not_le.mpr hbl
  refine lv_aload_n hx hb dL_law_164 rfl (lv_at hl 2 rfl) ?_
  refine lv_aload_n hx hb dL_law_165 rfl (lv_at hl 3 rfl) ?_
  refine lv_iload_n hx hb dL_law_166 rfl (lv_at hl 0 rfl) ?_
  refine lv_iconst (v := 1) hx hb dL_law_167 rfl ?_
  refine lv_iadd hx hb dL_law_168 ?_
  refine zz_i (v := nI (6 * k9 + 1)) (nI_add (6 * k9) 1) ?_
  refine va_sld hx hb hX hbl hbA hS (vp_in_nI (n := 6 * k9 + 1) (N := L9) (by omega) (by omega)) dL_law_169 ?_
  refine zz_i (v := v1) ((congrArg xs (nI_clamp (by omega))).trans h1) ?_
  refine lv_aload_n hx hb dL_law_170 rfl (lv_at hl 3 rfl) ?_
  refine lv_iload_n hx hb dL_law_171 rfl (lv_at hl 0 rfl) ?_
  refine lv_iconst (v := 2) hx hb dL_law_172 rfl ?_
  refine lv_iadd hx hb dL_law_173 ?_
  refine zz_i (v := nI (6 * k9 + 2)) (nI_add (6 * k9) 2) ?_
  refine va_sld hx hb hX hbl hbA hS (vp_in_nI (n := 6 * k9 + 2) (N := L9) (by omega) (by omega)) dL_law_174 ?_
  refine zz_i (v := v2) ((congrArg xs (nI_clamp (by omega))).trans h2) ?_
  refine lv_aload_n hx hb dL_law_175 rfl (lv_at hl 3 rfl) ?_
  refine lv_iload_n hx hb dL_law_176 rfl (lv_at hl 0 rfl) ?_
  refine lv_iconst (v := 3) hx hb dL_law_177 rfl ?_
  refine lv_iadd hx hb dL_law_178 ?_
  refine zz_i (v := nI (6 * k9 + 3)) (nI_add (6 * k9) 3) ?_
  refine va_sld hx hb hX hbl hbA hS (vp_in_nI (n := 6 * k9 + 3) (N := L9) (by omega) (by omega)) dL_law_179 ?_
  refine zz_i (v := v3) ((congrArg xs (nI_clamp (by omega))).trans h3) ?_
  refine lv_aload_n hx hb dL_law_180 rfl (lv_at hl 3 rfl) ?_
  refine lv_iload_n hx hb dL_law_181 rfl (lv_at hl 0 rfl) ?_
  refine lv_iconst (v := 4) hx hb dL_law_182 rfl ?_
  refine lv_iadd hx hb dL_law_183 ?_
  refine zz_i (v := nI (6 * k9 + 4)) (nI_add (6 * k9) 4) ?_
  refine va_sld hx hb hX hbl hbA hS (vp_in_nI (n := 6 * k9 + 4) (N := L9) (by omega) (by omega)) dL_law_184 ?_
  refine zz_i (v := v4) ((congrArg xs (nI_clamp (by omega))).trans h4) ?_
  exact k
theorem la_0_2 {p : Program} {e : Env} {s : State} {m : MethodId} {below : List Frame} {meth : Method} {c : Code} (l : Launch) {b L9 : Nat} {xs : Nat → Int32} (C0 : lw_At p s m meth c b L9 xs) {x k0 k9 ce sl : Nat} (hk9 : 6 * k9 + 6 ≤ L9) (hL9 : L9 ≤ 3072) {H : Heap} {locs : List Loc} {ls : Array Slot} {rest : List Value} (hS : va_S (fun q : Nat => s.heap.size ≤ q) s.heap H locs) (hl : lv_has ls 4 [(3, .int (nI (6 * k9))), (2, .ref k0), (1, .ref x), (0, .ref b)]) {v1 : Int32} {v2 : Int32} {v3 : Int32} {v4 : Int32} (h1 : xs (6 * k9 + 1) = v1) (h2 : xs (6 * k9 + 2) = v2) (h3 : xs (6 * k9 + 3) = v3) (h4 : xs (6 * k9 + 4) = v4) (k : W p l e room_1 s m #[Value.ref b] below meth c H locs ce sl (lw_Z below #[Value.ref b] s) (F0 m 210 ls (.int v4 :: .int v3 :: .int v2 :: .int v1 :: .ref k0 :: rest))) : W p l e room_1 s m #[Value.ref b] below meth c H locs ce sl (lw_Z below #[Value.ref b] s) (F0 m 189 ls (rest)) := by
  obtain ⟨hx, hb, hr, hml, hown, hts1, hX, hbl, hlocks, hgv⟩ := id C0
  have hbA : ¬ (fun q : Nat => s.heap.size ≤ q) b := Nat.not_le.mpr hbl
  refine lv_aload_n hx hb dL_law_189 rfl (lv_at hl 1 rfl) ?_
  refine lv_aload_n hx hb dL_law_190 rfl (lv_at hl 3 rfl) ?_
  refine lv_iload_n hx hb dL_law_191 rfl (lv_at hl 0 rfl) ?_
  refine lv_iconst (v := 1) hx hb dL_law_192 rfl ?_
  refine lv_iadd hx hb dL_law_193 ?_
  refine zz_i (v := nI (6 * k9 + 1)) (nI_add (6 * k9) 1) ?_
  refine va_sld hx hb hX hbl hbA hS (vp_in_nI (n := 6 * k9 + 1) (N := L9) (by omega) (by omega)) dL_law_194 ?_
  refine zz_i (v := v1) ((congrArg xs (nI_clamp (by omega))).trans h1) ?_
  refine lv_aload_n hx hb dL_law_195 rfl (lv_at hl 3 rfl) ?_
  refine lv_iload_n hx hb dL_law_196 rfl (lv_at hl 0 rfl) ?_
  refine lv_iconst (v := 2) hx hb dL_law_197 rfl ?_
  refine lv_iadd hx hb dL_law_198 ?_
  refine zz_i (v := nI (6 * k9 + 2)) (nI_add (6 * k9) 2) ?_
  refine va_sld hx hb hX hbl hbA hS (vp_in_nI (n := 6 * k9 + 2) (N := L9) (by omega) (by omega)) dL_law_199 ?_
  refine zz_i (v := v2) ((congrArg xs (nI_clamp (by omega))).trans h2) ?_
  refine lv_aload_n hx hb dL_law_200 rfl (lv_at hl 3 rfl) ?_
  refine lv_iload_n hx hb dL_law_201 rfl (lv_at hl 0 rfl) ?_
  refine lv_iconst (v := 3) hx hb dL_law_202 rfl ?_
  refine lv_iadd hx hb dL_law_203 ?_
  refine zz_i (v := nI (6 * k9 + 3)) (nI_add (6 * k9) 3) ?_
  refine va_sld hx hb hX hbl hbA hS (vp_in_nI (n := 6 * k9 + 3) (N := L9) (by omega) (by omega)) dL_law_204 ?_
  refine zz_i (v := v3) ((congrArg xs (nI_clamp (by omega))).trans h3) ?_
  refine lv_aload_n hx hb dL_law_205 rfl (lv_at hl 3 rfl) ?_
  refine lv_iload_n hx hb dL_law_206 rfl (lv_at hl 0 rfl) ?_
  refine lv_iconst (v := 4) hx hb dL_law_207 rfl ?_
  refine lv_iadd hx hb dL_law_208 ?_
  refine zz_i (v := nI (6 * k9 + 4)) (nI_add (6 * k9) 4) ?_
  refine va_sld hx hb hX hbl hbA hS (vp_in_nI (n := 6 * k9 + 4) (N := L9) (by omega) (by omega)) dL_law_209 ?_
  refine zz_i (v := v4) ((congrArg xs (nI_clamp (by omega))).trans h4) ?_
  exact k
theorem la_1_1 {p : Program} {e : Env} {s : State} {m : MethodId} {below : List Frame} {meth : Method} {c : Code} (l : Launch) {b L9 : Nat} {xs : Nat → Int32} (C0 : lw_At p s m meth c b L9 xs) {x k0 k9 ce sl : Nat} (hk9 : 6 * k9 + 6 ≤ L9) (hL9 : L9 ≤ 3072) {H : Heap} {locs : List Loc} {ls : Array Slot} {rest : List Value} (hS : va_S (fun q : Nat => s.heap.size ≤ q) s.heap H locs) (hl : lv_has ls 4 [(3, .int (nI (6 * k9))), (2, .ref k0), (1, .ref x), (0, .ref b)]) {v1 : Int32} {v2 : Int32} {v3 : Int32} (h1 : xs (6 * k9 + 1) = v1) (h2 : xs (6 * k9 + 2) = v2) (h3 : xs (6 * k9 + 3) = v3) (k : W p l e room_1 s m #[Value.ref b] below meth c H locs ce sl (lw_Z below #[Value.ref b] s) (F0 m 233 ls (.int v3 :: .int v2 :: .int v1 :: .ref x :: rest))) : W p l e room_1 s m #[Value.ref b] below meth c H locs ce sl (lw_Z below #[Value.ref b] s) (F0 m 217 ls (rest)) := by
  obtain ⟨hx, hb, hr, hml, hown, hts1, hX, hbl, hlocks, hgv⟩ := id C0
  have hbA : ¬ (fun q : Nat => s.heap.size ≤ q) b := Nat.not_le.mpr hbl
  refine lv_aload_n hx hb dL_law_217 rfl (lv_at hl 2 rfl) ?_
  refine lv_aload_n hx hb dL_law_218 rfl (lv_at hl 3 rfl) ?_
  refine lv_iload_n hx hb dL_law_219 rfl (lv_at hl 0 rfl) ?_
  refine lv_iconst (v := 1) hx hb dL_law_220 rfl ?_
  refine lv_iadd hx hb dL_law_221 ?_
  refine zz_i (v := nI (6 * k9 + 1)) (nI_add (6 * k9) 1) ?_
  refine va_sld hx hb hX hbl hbA hS (vp_in_nI (n := 6 * k9 + 1) (N := L9) (by omega) (by omega)) dL_law_222 ?_
  refine zz_i (v := v1) ((congrArg xs (nI_clamp (by omega))).trans h1) ?_
  refine lv_aload_n hx hb dL_law_223 rfl (lv_at hl 3 rfl) ?_
  refine lv_iload_n hx hb dL_law_224 rfl (lv_at hl 0 rfl) ?_
  refine lv_iconst (v := 2) hx hb dL_law_225 rfl ?_
  refine lv_iadd hx hb dL_law_226 ?_
  refine zz_i (v := nI (6 * k9 + 2)) (nI_add (6 * k9) 2) ?_
  refine va_sld hx hb hX hbl hbA hS (vp_in_nI (n := 6 * k9 + 2) (N := L9) (by omega) (by omega)) dL_law_227 ?_
  refine zz_i (v := v2) ((congrArg xs (nI_clamp (by omega))).trans h2) ?_
  refine lv_aload_n hx hb dL_law_228 rfl (lv_at hl 3 rfl) ?_
  refine lv_iload_n hx hb dL_law_229 rfl (lv_at hl 0 rfl) ?_
  refine lv_iconst (v := 3) hx hb dL_law_230 rfl ?_
  refine lv_iadd hx hb dL_law_231 ?_
  refine zz_i (v := nI (6 * k9 + 3)) (nI_add (6 * k9) 3) ?_
  refine va_sld hx hb hX hbl hbA hS (vp_in_nI (n := 6 * k9 + 3) (N := L9) (by omega) (by omega)) dL_law_232 ?_
  refine zz_i (v := v3) ((congrArg xs (nI_clamp (by omega))).trans h3) ?_
  exact k
theorem la_1_2 {p : Program} {e : Env} {s : State} {m : MethodId} {below : List Frame} {meth : Method} {c : Code} (l : Launch) {b L9 : Nat} {xs : Nat → Int32} (C0 : lw_At p s m meth c b L9 xs) {x k0 k9 ce sl : Nat} (hk9 : 6 * k9 + 6 ≤ L9) (hL9 : L9 ≤ 3072) {H : Heap} {locs : List Loc} {ls : Array Slot} {rest : List Value} (hS : va_S (fun q : Nat => s.heap.size ≤ q) s.heap H locs) (hl : lv_has ls 4 [(3, .int (nI (6 * k9))), (2, .ref k0), (1, .ref x), (0, .ref b)]) {v1 : Int32} {v2 : Int32} {v3 : Int32} (h1 : xs (6 * k9 + 1) = v1) (h2 : xs (6 * k9 + 2) = v2) (h3 : xs (6 * k9 + 3) = v3) (k : W p l e room_1 s m #[Value.ref b] below meth c H locs ce sl (lw_Z below #[Value.ref b] s) (F0 m 253 ls (.int v3 :: .int v2 :: .int v1 :: .ref k0 :: rest))) : W p l e room_1 s m #[Value.ref b] below meth c H locs ce sl (lw_Z below #[Value.ref b] s) (F0 m 237 ls (rest)) := by
  obtain ⟨hx, hb, hr, hml, hown, hts1, hX, hbl, hlocks, hgv⟩ := id C0
  have hbA : ¬ (fun q : Nat => s.heap.size ≤ q) b := Nat.not_le.mpr hbl
  refine lv_aload_n hx hb dL_law_237 rfl (lv_at hl 1 rfl) ?_
  refine lv_aload_n hx hb dL_law_238 rfl (lv_at hl 3 rfl) ?_
  refine lv_iload_n hx hb dL_law_239 rfl (lv_at hl 0 rfl) ?_
  refine lv_iconst (v := 1) hx hb dL_law_240 rfl ?_
  refine lv_iadd hx hb dL_law_241 ?_
  refine zz_i (v := nI (6 * k9 + 1)) (nI_add (6 * k9) 1) ?_
  refine va_sld hx hb hX hbl hbA hS (vp_in_nI (n := 6 * k9 + 1) (N := L9) (by omega) (by omega)) dL_law_242 ?_
  refine zz_i (v := v1) ((congrArg xs (nI_clamp (by omega))).trans h1) ?_
  refine lv_aload_n hx hb dL_law_243 rfl (lv_at hl 3 rfl) ?_
  refine lv_iload_n hx hb dL_law_244 rfl (lv_at hl 0 rfl) ?_
  refine lv_iconst (v := 2) hx hb dL_law_245 rfl ?_
  refine lv_iadd hx hb dL_law_246 ?_
  refine zz_i (v := nI (6 * k9 + 2)) (nI_add (6 * k9) 2) ?_
  refine va_sld hx hb hX hbl hbA hS (vp_in_nI (n := 6 * k9 + 2) (N := L9) (by omega) (by omega)) dL_law_247 ?_
  refine zz_i (v := v2) ((congrArg xs (nI_clamp (by omega))).trans h2) ?_
  refine lv_aload_n hx hb dL_law_248 rfl (lv_at hl 3 rfl) ?_
  refine lv_iload_n hx hb dL_law_249 rfl (lv_at hl 0 rfl) ?_
  refine lv_iconst (v := 3) hx hb dL_law_250 rfl ?_
  refine lv_iadd hx hb dL_law_251 ?_
  refine zz_i (v := nI (6 * k9 + 3)) (nI_add (6 * k9) 3) ?_
  refine va_sld hx hb hX hbl hbA hS (vp_in_nI (n := 6 * k9 + 3) (N := L9) (by omega) (by omega)) dL_law_252 ?_
  refine zz_i (v := v3) ((congrArg xs (nI_clamp (by omega))).trans h3) ?_
  exact k
theorem la_2_1 {p : Program} {e : Env} {s : State} {m : MethodId} {below : List Frame} {meth : Method} {c : Code} (l : Launch) {b L9 : Nat} {xs : Nat → Int32} (C0 : lw_At p s m meth c b L9 xs) {x k0 k9 ce sl : Nat} (hk9 : 6 * k9 + 6 ≤ L9) (hL9 : L9 ≤ 3072) {H : Heap} {locs : List Loc} {ls : Array Slot} {rest : List Value} (hS : va_S (fun q : Nat => s.heap.size ≤ q) s.heap H locs) (hl : lv_has ls 4 [(3, .int (nI (6 * k9))), (2, .ref k0), (1, .ref x), (0, .ref b)]) {v1 : Int32} (h1 : xs (6 * k9 + 1) = v1) (k : W p l e room_1 s m #[Value.ref b] below meth c H locs ce sl (lw_Z below #[Value.ref b] s) (F0 m 266 ls (.int v1 :: .ref x :: rest))) : W p l e room_1 s m #[Value.ref b] below meth c H locs ce sl (lw_Z below #[Value.ref b] s) (F0 m 260 ls (rest)) := by
  obtain ⟨hx, hb, hr, hml, hown, hts1, hX, hbl, hlocks, hgv⟩ := id C0
  have hbA : ¬ (fun q : Nat => s.heap.size ≤ q) b := Nat.not_le.mpr hbl
  refine lv_aload_n hx hb dL_law_260 rfl (lv_at hl 2 rfl) ?_
  refine lv_aload_n hx hb dL_law_261 rfl (lv_at hl 3 rfl) ?_
  refine lv_iload_n hx hb dL_law_262 rfl (lv_at hl 0 rfl) ?_
  refine lv_iconst (v := 1) hx hb dL_law_263 rfl ?_
  refine lv_iadd hx hb dL_law_264 ?_
  refine zz_i (v := nI (6 * k9 + 1)) (nI_add (6 * k9) 1) ?_
  refine va_sld hx hb hX hbl hbA hS (vp_in_nI (n := 6 * k9 + 1) (N := L9) (by omega) (by omega)) dL_law_265 ?_
  refine zz_i (v := v1) ((congrArg xs (nI_clamp (by omega))).trans h1) ?_
  exact k
theorem la_2_2 {p : Program} {e : Env} {s : State} {m : MethodId} {below : List Frame} {meth : Method} {c : Code} (l : Launch) {b L9 : Nat} {xs : Nat → Int32} (C0 : lw_At p s m meth c b L9 xs) {x k0 k9 ce sl : Nat} (hk9 : 6 * k9 + 6 ≤ L9) (hL9 : L9 ≤ 3072) {H : Heap} {locs : List Loc} {ls : Array Slot} {rest : List Value} (hS : va_S (fun q : Nat => s.heap.size ≤ q) s.heap H locs) (hl : lv_has ls 4 [(3, .int (nI (6 * k9))), (2, .ref k0), (1, .ref x), (0, .ref b)]) {v1 : Int32} (h1 : xs (6 * k9 + 1) = v1) (k : W p l e room_1 s m #[Value.ref b] below meth c H locs ce sl (lw_Z below #[Value.ref b] s) (F0 m 276 ls (.int v1 :: .ref k0 :: rest))) : W p l e room_1 s m #[Value.ref b] below meth c H locs ce sl (lw_Z below #[Value.ref b] s) (F0 m 270 ls (rest)) := by
  obtain ⟨hx, hb, hr, hml, hown, hts1, hX, hbl, hlocks, hgv⟩ := id C0
  have hbA : ¬ (fun q : Nat => s.heap.size ≤ q) b := Nat.not_le.mpr hbl
  refine lv_aload_n hx hb dL_law_270 rfl (lv_at hl 1 rfl) ?_
  refine lv_aload_n hx hb dL_law_271 rfl (lv_at hl 3 rfl) ?_
  refine lv_iload_n hx hb dL_law_272 rfl (lv_at hl 0 rfl) ?_
  refine lv_iconst (v := 1) hx hb dL_law_273 rfl ?_
  refine lv_iadd hx hb dL_law_274 ?_
  refine zz_i (v := nI (6 * k9 + 1)) (nI_add (6 * k9) 1) ?_
  refine va_sld hx hb hX hbl hbA hS (vp_in_nI (n := 6 * k9 + 1) (N := L9) (by omega) (by omega)) dL_law_275 ?_
  refine zz_i (v := v1) ((congrArg xs (nI_clamp (by omega))).trans h1) ?_
  exact k
theorem la_3_1 {p : Program} {e : Env} {s : State} {m : MethodId} {below : List Frame} {meth : Method} {c : Code} (l : Launch) {b L9 : Nat} {xs : Nat → Int32} (C0 : lw_At p s m meth c b L9 xs) {x k0 k9 ce sl : Nat} (hk9 : 6 * k9 + 6 ≤ L9) (hL9 : L9 ≤ 3072) {H : Heap} {locs : List Loc} {ls : Array Slot} {rest : List Value} (hS : va_S (fun q : Nat => s.heap.size ≤ q) s.heap H locs) (hl : lv_has ls 4 [(3, .int (nI (6 * k9))), (2, .ref k0), (1, .ref x), (0, .ref b)]) {v1 : Int32} (h1 : xs (6 * k9 + 1) = v1) (k : W p l e room_1 s m #[Value.ref b] below meth c H locs ce sl (lw_Z below #[Value.ref b] s) (F0 m 289 ls (.int v1 :: .ref x :: rest))) : W p l e room_1 s m #[Value.ref b] below meth c H locs ce sl (lw_Z below #[Value.ref b] s) (F0 m 283 ls (rest)) := by
  obtain ⟨hx, hb, hr, hml, hown, hts1, hX, hbl, hlocks, hgv⟩ := id C0
  have hbA : ¬ (fun q : Nat => s.heap.size ≤ q) b := Nat.not_le.mpr hbl
  refine lv_aload_n hx hb dL_law_283 rfl (lv_at hl 2 rfl) ?_
  refine lv_aload_n hx hb dL_law_284 rfl (lv_at hl 3 rfl) ?_
  refine lv_iload_n hx hb dL_law_285 rfl (lv_at hl 0 rfl) ?_
  refine lv_iconst (v := 1) hx hb dL_law_286 rfl ?_
  refine lv_iadd hx hb dL_law_287 ?_
  refine zz_i (v := nI (6 * k9 + 1)) (nI_add (6 * k9) 1) ?_
  refine va_sld hx hb hX hbl hbA hS (vp_in_nI (n := 6 * k9 + 1) (N := L9) (by omega) (by omega)) dL_law_288 ?_
  refine zz_i (v := v1) ((congrArg xs (nI_clamp (by omega))).trans h1) ?_
  exact k
theorem la_3_2 {p : Program} {e : Env} {s : State} {m : MethodId} {below : List Frame} {meth : Method} {c : Code} (l : Launch) {b L9 : Nat} {xs : Nat → Int32} (C0 : lw_At p s m meth c b L9 xs) {x k0 k9 ce sl : Nat} (hk9 : 6 * k9 + 6 ≤ L9) (hL9 : L9 ≤ 3072) {H : Heap} {locs : List Loc} {ls : Array Slot} {rest : List Value} (hS : va_S (fun q : Nat => s.heap.size ≤ q) s.heap H locs) (hl : lv_has ls 4 [(3, .int (nI (6 * k9))), (2, .ref k0), (1, .ref x), (0, .ref b)]) {v1 : Int32} (h1 : xs (6 * k9 + 1) = v1) (k : W p l e room_1 s m #[Value.ref b] below meth c H locs ce sl (lw_Z below #[Value.ref b] s) (F0 m 299 ls (.int v1 :: .ref k0 :: rest))) : W p l e room_1 s m #[Value.ref b] below meth c H locs ce sl (lw_Z below #[Value.ref b] s) (F0 m 293 ls (rest)) := by
  obtain ⟨hx, hb, hr, hml, hown, hts1, hX, hbl, hlocks, hgv⟩ := id C0
  have hbA : ¬ (fun q : Nat => s.heap.size ≤ q) b := Nat.not_le.mpr hbl
  refine lv_aload_n hx hb dL_law_293 rfl (lv_at hl 1 rfl) ?_
  refine lv_aload_n hx hb dL_law_294 rfl (lv_at hl 3 rfl) ?_
  refine lv_iload_n hx hb dL_law_295 rfl (lv_at hl 0 rfl) ?_
  refine lv_iconst (v := 1) hx hb dL_law_296 rfl ?_
  refine lv_iadd hx hb dL_law_297 ?_
  refine zz_i (v := nI (6 * k9 + 1)) (nI_add (6 * k9) 1) ?_
  refine va_sld hx hb hX hbl hbA hS (vp_in_nI (n := 6 * k9 + 1) (N := L9) (by omega) (by omega)) dL_law_298 ?_
  refine zz_i (v := v1) ((congrArg xs (nI_clamp (by omega))).trans h1) ?_
  exact k
theorem la_4_1 {p : Program} {e : Env} {s : State} {m : MethodId} {below : List Frame} {meth : Method} {c : Code} (l : Launch) {b L9 : Nat} {xs : Nat → Int32} (C0 : lw_At p s m meth c b L9 xs) {x k0 k9 ce sl : Nat} (hk9 : 6 * k9 + 6 ≤ L9) (hL9 : L9 ≤ 3072) {H : Heap} {locs : List Loc} {ls : Array Slot} {rest : List Value} (hS : va_S (fun q : Nat => s.heap.size ≤ q) s.heap H locs) (hl : lv_has ls 4 [(3, .int (nI (6 * k9))), (2, .ref k0), (1, .ref x), (0, .ref b)]) {v1 : Int32} {v2 : Int32} (h1 : xs (6 * k9 + 1) = v1) (h2 : xs (6 * k9 + 2) = v2) (k : W p l e room_1 s m #[Value.ref b] below meth c H locs ce sl (lw_Z below #[Value.ref b] s) (F0 m 317 ls (.int v2 :: .int v1 :: .ref x :: rest))) : W p l e room_1 s m #[Value.ref b] below meth c H locs ce sl (lw_Z below #[Value.ref b] s) (F0 m 306 ls (rest)) := by
  obtain ⟨hx, hb, hr, hml, hown, hts1, hX, hbl, hlocks, hgv⟩ := id C0
  have hbA : ¬ (fun q : Nat => s.heap.size ≤ q) b := Nat.not_le.mpr hbl
  refine lv_aload_n hx hb dL_law_306 rfl (lv_at hl 2 rfl) ?_
  refine lv_aload_n hx hb dL_law_307 rfl (lv_at hl 3 rfl) ?_
  refine lv_iload_n hx hb dL_law_308 rfl (lv_at hl 0 rfl) ?_
  refine lv_iconst (v := 1) hx hb dL_law_309 rfl ?_
  refine lv_iadd hx hb dL_law_310 ?_
  refine zz_i (v := nI (6 * k9 + 1)) (nI_add (6 * k9) 1) ?_
  refine va_sld hx hb hX hbl hbA hS (vp_in_nI (n := 6 * k9 + 1) (N := L9) (by omega) (by omega)) dL_law_311 ?_
  refine zz_i (v := v1) ((congrArg xs (nI_clamp (by omega))).trans h1) ?_
  refine lv_aload_n hx hb dL_law_312 rfl (lv_at hl 3 rfl) ?_
  refine lv_iload_n hx hb dL_law_313 rfl (lv_at hl 0 rfl) ?_
  refine lv_iconst (v := 2) hx hb dL_law_314 rfl ?_
  refine lv_iadd hx hb dL_law_315 ?_
  refine zz_i (v := nI (6 * k9 + 2)) (nI_add (6 * k9) 2) ?_
  refine va_sld hx hb hX hbl hbA hS (vp_in_nI (n := 6 * k9 + 2) (N := L9) (by omega) (by omega)) dL_law_316 ?_
  refine zz_i (v := v2) ((congrArg xs (nI_clamp (by omega))).trans h2) ?_
  exact k
theorem la_4_2 {p : Program} {e : Env} {s : State} {m : MethodId} {below : List Frame} {meth : Method} {c : Code} (l : Launch) {b L9 : Nat} {xs : Nat → Int32} (C0 : lw_At p s m meth c b L9 xs) {x k0 k9 ce sl : Nat} (hk9 : 6 * k9 + 6 ≤ L9) (hL9 : L9 ≤ 3072) {H : Heap} {locs : List Loc} {ls : Array Slot} {rest : List Value} (hS : va_S (fun q : Nat => s.heap.size ≤ q) s.heap H locs) (hl : lv_has ls 4 [(3, .int (nI (6 * k9))), (2, .ref k0), (1, .ref x), (0, .ref b)]) {v1 : Int32} {v2 : Int32} (h1 : xs (6 * k9 + 1) = v1) (h2 : xs (6 * k9 + 2) = v2) (k : W p l e room_1 s m #[Value.ref b] below meth c H locs ce sl (lw_Z below #[Value.ref b] s) (F0 m 332 ls (.int v2 :: .int v1 :: .ref k0 :: rest))) : W p l e room_1 s m #[Value.ref b] below meth c H locs ce sl (lw_Z below #[Value.ref b] s) (F0 m 321 ls (rest)) := by
  obtain ⟨hx, hb, hr, hml, hown, hts1, hX, hbl, hlocks, hgv⟩ := id C0
  have hbA : ¬ (fun q : Nat => s.heap.size ≤ q) b := Nat.not_le.mpr hbl
  refine lv_aload_n hx hb dL_law_321 rfl (lv_at hl 1 rfl) ?_
  refine lv_aload_n hx hb dL_law_322 rfl (lv_at hl 3 rfl) ?_
  refine lv_iload_n hx hb dL_law_323 rfl (lv_at hl 0 rfl) ?_
  refine lv_iconst (v := 1) hx hb dL_law_324 rfl ?_
  refine lv_iadd hx hb dL_law_325 ?_
  refine zz_i (v := nI (6 * k9 + 1)) (nI_add (6 * k9) 1) ?_
  refine va_sld hx hb hX hbl hbA hS (vp_in_nI (n := 6 * k9 + 1) (N := L9) (by omega) (by omega)) dL_law_326 ?_
  refine zz_i (v := v1) ((congrArg xs (nI_clamp (by omega))).trans h1) ?_
  refine lv_aload_n hx hb dL_law_327 rfl (lv_at hl 3 rfl) ?_
  refine lv_iload_n hx hb dL_law_328 rfl (lv_at hl 0 rfl) ?_
  refine lv_iconst (v := 2) hx hb dL_law_329 rfl ?_
  refine lv_iadd hx hb dL_law_330 ?_
  refine zz_i (v := nI (6 * k9 + 2)) (nI_add (6 * k9) 2) ?_
  refine va_sld hx hb hX hbl hbA hS (vp_in_nI (n := 6 * k9 + 2) (N := L9) (by omega) (by omega)) dL_law_331 ?_
  refine zz_i (v := v2) ((congrArg xs (nI_clamp (by omega))).trans h2) ?_
  exact k
theorem la_5_1 {p : Program} {e : Env} {s : State} {m : MethodId} {below : List Frame} {meth : Method} {c : Code} (l : Launch) {b L9 : Nat} {xs : Nat → Int32} (C0 : lw_At p s m meth c b L9 xs) {x k0 k9 ce sl : Nat} (hk9 : 6 * k9 + 6 ≤ L9) (hL9 : L9 ≤ 3072) {H : Heap} {locs : List Loc} {ls : Array Slot} {rest : List Value} (hS : va_S (fun q : Nat => s.heap.size ≤ q) s.heap H locs) (hl : lv_has ls 4 [(3, .int (nI (6 * k9))), (2, .ref k0), (1, .ref x), (0, .ref b)]) {v1 : Int32} (h1 : xs (6 * k9 + 1) = v1) (k : W p l e room_1 s m #[Value.ref b] below meth c H locs ce sl (lw_Z below #[Value.ref b] s) (F0 m 345 ls (.int v1 :: .ref x :: rest))) : W p l e room_1 s m #[Value.ref b] below meth c H locs ce sl (lw_Z below #[Value.ref b] s) (F0 m 339 ls (rest)) := by
  obtain ⟨hx, hb, hr, hml, hown, hts1, hX, hbl, hlocks, hgv⟩ := id C0
  have hbA : ¬ (fun q : Nat => s.heap.size ≤ q) b := Nat.not_le.mpr hbl
  refine lv_aload_n hx hb dL_law_339 rfl (lv_at hl 2 rfl) ?_
  refine lv_aload_n hx hb dL_law_340 rfl (lv_at hl 3 rfl) ?_
  refine lv_iload_n hx hb dL_law_341 rfl (lv_at hl 0 rfl) ?_
  refine lv_iconst (v := 1) hx hb dL_law_342 rfl ?_
  refine lv_iadd hx hb dL_law_343 ?_
  refine zz_i (v := nI (6 * k9 + 1)) (nI_add (6 * k9) 1) ?_
  refine va_sld hx hb hX hbl hbA hS (vp_in_nI (n := 6 * k9 + 1) (N := L9) (by omega) (by omega)) dL_law_344 ?_
  refine zz_i (v := v1) ((congrArg xs (nI_clamp (by omega))).trans h1) ?_
  exact k
theorem la_5_2 {p : Program} {e : Env} {s : State} {m : MethodId} {below : List Frame} {meth : Method} {c : Code} (l : Launch) {b L9 : Nat} {xs : Nat → Int32} (C0 : lw_At p s m meth c b L9 xs) {x k0 k9 ce sl : Nat} (hk9 : 6 * k9 + 6 ≤ L9) (hL9 : L9 ≤ 3072) {H : Heap} {locs : List Loc} {ls : Array Slot} {rest : List Value} (hS : va_S (fun q : Nat => s.heap.size ≤ q) s.heap H locs) (hl : lv_has ls 4 [(3, .int (nI (6 * k9))), (2, .ref k0), (1, .ref x), (0, .ref b)]) {v1 : Int32} (h1 : xs (6 * k9 + 1) = v1) (k : W p l e room_1 s m #[Value.ref b] below meth c H locs ce sl (lw_Z below #[Value.ref b] s) (F0 m 355 ls (.int v1 :: .ref k0 :: rest))) : W p l e room_1 s m #[Value.ref b] below meth c H locs ce sl (lw_Z below #[Value.ref b] s) (F0 m 349 ls (rest)) := by
  obtain ⟨hx, hb, hr, hml, hown, hts1, hX, hbl, hlocks, hgv⟩ := id C0
  have hbA : ¬ (fun q : Nat => s.heap.size ≤ q) b := Nat.not_le.mpr hbl
  refine lv_aload_n hx hb dL_law_349 rfl (lv_at hl 1 rfl) ?_
  refine lv_aload_n hx hb dL_law_350 rfl (lv_at hl 3 rfl) ?_
  refine lv_iload_n hx hb dL_law_351 rfl (lv_at hl 0 rfl) ?_
  refine lv_iconst (v := 1) hx hb dL_law_352 rfl ?_
  refine lv_iadd hx hb dL_law_353 ?_
  refine zz_i (v := nI (6 * k9 + 1)) (nI_add (6 * k9) 1) ?_
  refine va_sld hx hb hX hbl hbA hS (vp_in_nI (n := 6 * k9 + 1) (N := L9) (by omega) (by omega)) dL_law_354 ?_
  refine zz_i (v := v1) ((congrArg xs (nI_clamp (by omega))).trans h1) ?_
  exact k
theorem la_6_1 {p : Program} {e : Env} {s : State} {m : MethodId} {below : List Frame} {meth : Method} {c : Code} (l : Launch) {b L9 : Nat} {xs : Nat → Int32} (C0 : lw_At p s m meth c b L9 xs) {x k0 k9 ce sl : Nat} (hk9 : 6 * k9 + 6 ≤ L9) (hL9 : L9 ≤ 3072) {H : Heap} {locs : List Loc} {ls : Array Slot} {rest : List Value} (hS : va_S (fun q : Nat => s.heap.size ≤ q) s.heap H locs) (hl : lv_has ls 4 [(3, .int (nI (6 * k9))), (2, .ref k0), (1, .ref x), (0, .ref b)]) {v1 : Int32} {v2 : Int32} {v3 : Int32} {v4 : Int32} {v5 : Int32} (h1 : xs (6 * k9 + 1) = v1) (h2 : xs (6 * k9 + 2) = v2) (h3 : xs (6 * k9 + 3) = v3) (h4 : xs (6 * k9 + 4) = v4) (h5 : xs (6 * k9 + 5) = v5) (k : W p l e room_1 s m #[Value.ref b] below meth c H locs ce sl (lw_Z below #[Value.ref b] s) (F0 m 388 ls (.int v5 :: .int v4 :: .int v3 :: .int v2 :: .int v1 :: .ref x :: rest))) : W p l e room_1 s m #[Value.ref b] below meth c H locs ce sl (lw_Z below #[Value.ref b] s) (F0 m 362 ls (rest)) := by
  obtain ⟨hx, hb, hr, hml, hown, hts1, hX, hbl, hlocks, hgv⟩ := id C0
  have hbA : ¬ (fun q : Nat => s.heap.size ≤ q) b := Nat.not_le.mpr hbl
  refine lv_aload_n hx hb dL_law_362 rfl (lv_at hl 2 rfl) ?_
  refine lv_aload_n hx hb dL_law_363 rfl (lv_at hl 3 rfl) ?_
  refine lv_iload_n hx hb dL_law_364 rfl (lv_at hl 0 rfl) ?_
  refine lv_iconst (v := 1) hx hb dL_law_365 rfl ?_
  refine lv_iadd hx hb dL_law_366 ?_
  refine zz_i (v := nI (6 * k9 + 1)) (nI_add (6 * k9) 1) ?_
  refine va_sld hx hb hX hbl hbA hS (vp_in_nI (n := 6 * k9 + 1) (N := L9) (by omega) (by omega)) dL_law_367 ?_
  refine zz_i (v := v1) ((congrArg xs (nI_clamp (by omega))).trans h1) ?_
  refine lv_aload_n hx hb dL_law_368 rfl (lv_at hl 3 rfl) ?_
  refine lv_iload_n hx hb dL_law_369 rfl (lv_at hl 0 rfl) ?_
  refine lv_iconst (v := 2) hx hb dL_law_370 rfl ?_
  refine lv_iadd hx hb dL_law_371 ?_
  refine zz_i (v := nI (6 * k9 + 2)) (nI_add (6 * k9) 2) ?_
  refine va_sld hx hb hX hbl hbA hS (vp_in_nI (n := 6 * k9 + 2) (N := L9) (by omega) (by omega)) dL_law_372 ?_
  refine zz_i (v := v2) ((congrArg xs (nI_clamp (by omega))).trans h2) ?_
  refine lv_aload_n hx hb dL_law_373 rfl (lv_at hl 3 rfl) ?_
  refine lv_iload_n hx hb dL_law_374 rfl (lv_at hl 0 rfl) ?_
  refine lv_iconst (v := 3) hx hb dL_law_375 rfl ?_
  refine lv_iadd hx hb dL_law_376 ?_
  refine zz_i (v := nI (6 * k9 + 3)) (nI_add (6 * k9) 3) ?_
  refine va_sld hx hb hX hbl hbA hS (vp_in_nI (n := 6 * k9 + 3) (N := L9) (by omega) (by omega)) dL_law_377 ?_
  refine zz_i (v := v3) ((congrArg xs (nI_clamp (by omega))).trans h3) ?_
  refine lv_aload_n hx hb dL_law_378 rfl (lv_at hl 3 rfl) ?_
  refine lv_iload_n hx hb dL_law_379 rfl (lv_at hl 0 rfl) ?_
  refine lv_iconst (v := 4) hx hb dL_law_380 rfl ?_
  refine lv_iadd hx hb dL_law_381 ?_
  refine zz_i (v := nI (6 * k9 + 4)) (nI_add (6 * k9) 4) ?_
  refine va_sld hx hb hX hbl hbA hS (vp_in_nI (n := 6 * k9 + 4) (N := L9) (by omega) (by omega)) dL_law_382 ?_
  refine zz_i (v := v4) ((congrArg xs (nI_clamp (by omega))).trans h4) ?_
  refine lv_aload_n hx hb dL_law_383 rfl (lv_at hl 3 rfl) ?_
  refine lv_iload_n hx hb dL_law_384 rfl (lv_at hl 0 rfl) ?_
  refine lv_iconst (v := 5) hx hb dL_law_385 rfl ?_
  refine lv_iadd hx hb dL_law_386 ?_
  refine zz_i (v := nI (6 * k9 + 5)) (nI_add (6 * k9) 5) ?_
  refine va_sld hx hb hX hbl hbA hS (vp_in_nI (n := 6 * k9 + 5) (N := L9) (by omega) (by omega)) dL_law_387 ?_
  refine zz_i (v := v5) ((congrArg xs (nI_clamp (by omega))).trans h5) ?_
  exact k
theorem la_6_2 {p : Program} {e : Env} {s : State} {m : MethodId} {below : List Frame} {meth : Method} {c : Code} (l : Launch) {b L9 : Nat} {xs : Nat → Int32} (C0 : lw_At p s m meth c b L9 xs) {x k0 k9 ce sl : Nat} (hk9 : 6 * k9 + 6 ≤ L9) (hL9 : L9 ≤ 3072) {H : Heap} {locs : List Loc} {ls : Array Slot} {rest : List Value} (hS : va_S (fun q : Nat => s.heap.size ≤ q) s.heap H locs) (hl : lv_has ls 4 [(3, .int (nI (6 * k9))), (2, .ref k0), (1, .ref x), (0, .ref b)]) {v1 : Int32} {v2 : Int32} {v3 : Int32} {v4 : Int32} {v5 : Int32} (h1 : xs (6 * k9 + 1) = v1) (h2 : xs (6 * k9 + 2) = v2) (h3 : xs (6 * k9 + 3) = v3) (h4 : xs (6 * k9 + 4) = v4) (h5 : xs (6 * k9 + 5) = v5) (k : W p l e room_1 s m #[Value.ref b] below meth c H locs ce sl (lw_Z below #[Value.ref b] s) (F0 m 418 ls (.int v5 :: .int v4 :: .int v3 :: .int v2 :: .int v1 :: .ref k0 :: rest))) : W p l e room_1 s m #[Value.ref b] below meth c H locs ce sl (lw_Z below #[Value.ref b] s) (F0 m 392 ls (rest)) := by
  obtain ⟨hx, hb, hr, hml, hown, hts1, hX, hbl, hlocks, hgv⟩ := id C0
  have hbA : ¬ (fun q : Nat => s.heap.size ≤ q) b := Nat.not_le.mpr hbl
  refine lv_aload_n hx hb dL_law_392 rfl (lv_at hl 1 rfl) ?_
  refine lv_aload_n hx hb dL_law_393 rfl (lv_at hl 3 rfl) ?_
  refine lv_iload_n hx hb dL_law_394 rfl (lv_at hl 0 rfl) ?_
  refine lv_iconst (v := 1) hx hb dL_law_395 rfl ?_
  refine lv_iadd hx hb dL_law_396 ?_
  refine zz_i (v := nI (6 * k9 + 1)) (nI_add (6 * k9) 1) ?_
  refine va_sld hx hb hX hbl hbA hS (vp_in_nI (n := 6 * k9 + 1) (N := L9) (by omega) (by omega)) dL_law_397 ?_
  refine zz_i (v := v1) ((congrArg xs (nI_clamp (by omega))).trans h1) ?_
  refine lv_aload_n hx hb dL_law_398 rfl (lv_at hl 3 rfl) ?_
  refine lv_iload_n hx hb dL_law_399 rfl (lv_at hl 0 rfl) ?_
  refine lv_iconst (v := 2) hx hb dL_law_400 rfl ?_
  refine lv_iadd hx hb dL_law_401 ?_
  refine zz_i (v := nI (6 * k9 + 2)) (nI_add (6 * k9) 2) ?_
  refine va_sld hx hb hX hbl hbA hS (vp_in_nI (n := 6 * k9 + 2) (N := L9) (by omega) (by omega)) dL_law_402 ?_
  refine zz_i (v := v2) ((congrArg xs (nI_clamp (by omega))).trans h2) ?_
  refine lv_aload_n hx hb dL_law_403 rfl (lv_at hl 3 rfl) ?_
  refine lv_iload_n hx hb dL_law_404 rfl (lv_at hl 0 rfl) ?_
  refine lv_iconst (v := 3) hx hb dL_law_405 rfl ?_
  refine lv_iadd hx hb dL_law_406 ?_
  refine zz_i (v := nI (6 * k9 + 3)) (nI_add (6 * k9) 3) ?_
  refine va_sld hx hb hX hbl hbA hS (vp_in_nI (n := 6 * k9 + 3) (N := L9) (by omega) (by omega)) dL_law_407 ?_
  refine zz_i (v := v3) ((congrArg xs (nI_clamp (by omega))).trans h3) ?_
  refine lv_aload_n hx hb dL_law_408 rfl (lv_at hl 3 rfl) ?_
  refine lv_iload_n hx hb dL_law_409 rfl (lv_at hl 0 rfl) ?_
  refine lv_iconst (v := 4) hx hb dL_law_410 rfl ?_
  refine lv_iadd hx hb dL_law_411 ?_
  refine zz_i (v := nI (6 * k9 + 4)) (nI_add (6 * k9) 4) ?_
  refine va_sld hx hb hX hbl hbA hS (vp_in_nI (n := 6 * k9 + 4) (N := L9) (by omega) (by omega)) dL_law_412 ?_
  refine zz_i (v := v4) ((congrArg xs (nI_clamp (by omega))).trans h4) ?_
  refine lv_aload_n hx hb dL_law_413 rfl (lv_at hl 3 rfl) ?_
  refine lv_iload_n hx hb dL_law_414 rfl (lv_at hl 0 rfl) ?_
  refine lv_iconst (v := 5) hx hb dL_law_415 rfl ?_
  refine lv_iadd hx hb dL_law_416 ?_
  refine zz_i (v := nI (6 * k9 + 5)) (nI_add (6 * k9) 5) ?_
  refine va_sld hx hb hX hbl hbA hS (vp_in_nI (n := 6 * k9 + 5) (N := L9) (by omega) (by omega)) dL_law_417 ?_
  refine zz_i (v := v5) ((congrArg xs (nI_clamp (by omega))).trans h5) ?_
  exact k
theorem la_7_1 {p : Program} {e : Env} {s : State} {m : MethodId} {below : List Frame} {meth : Method} {c : Code} (l : Launch) {b L9 : Nat} {xs : Nat → Int32} (C0 : lw_At p s m meth c b L9 xs) {x k0 k9 ce sl : Nat} (hk9 : 6 * k9 + 6 ≤ L9) (hL9 : L9 ≤ 3072) {H : Heap} {locs : List Loc} {ls : Array Slot} {rest : List Value} (hS : va_S (fun q : Nat => s.heap.size ≤ q) s.heap H locs) (hl : lv_has ls 4 [(3, .int (nI (6 * k9))), (2, .ref k0), (1, .ref x), (0, .ref b)]) {v1 : Int32} (h1 : xs (6 * k9 + 1) = v1) (k : W p l e room_1 s m #[Value.ref b] below meth c H locs ce sl (lw_Z below #[Value.ref b] s) (F0 m 431 ls (.int v1 :: .ref x :: rest))) : W p l e room_1 s m #[Value.ref b] below meth c H locs ce sl (lw_Z below #[Value.ref b] s) (F0 m 425 ls (rest)) := by
  obtain ⟨hx, hb, hr, hml, hown, hts1, hX, hbl, hlocks, hgv⟩ := id C0
  have hbA : ¬ (fun q : Nat => s.heap.size ≤ q) b := Nat.not_le.mpr hbl
  refine lv_aload_n hx hb dL_law_425 rfl (lv_at hl 2 rfl) ?_
  refine lv_aload_n hx hb dL_law_426 rfl (lv_at hl 3 rfl) ?_
  refine lv_iload_n hx hb dL_law_427 rfl (lv_at hl 0 rfl) ?_
  refine lv_iconst (v := 1) hx hb dL_law_428 rfl ?_
  refine lv_iadd hx hb dL_law_429 ?_
  refine zz_i (v := nI (6 * k9 + 1)) (nI_add (6 * k9) 1) ?_
  refine va_sld hx hb hX hbl hbA hS (vp_in_nI (n := 6 * k9 + 1) (N := L9) (by omega) (by omega)) dL_law_430 ?_
  refine zz_i (v := v1) ((congrArg xs (nI_clamp (by omega))).trans h1) ?_
  exact k
theorem la_7_2 {p : Program} {e : Env} {s : State} {m : MethodId} {below : List Frame} {meth : Method} {c : Code} (l : Launch) {b L9 : Nat} {xs : Nat → Int32} (C0 : lw_At p s m meth c b L9 xs) {x k0 k9 ce sl : Nat} (hk9 : 6 * k9 + 6 ≤ L9) (hL9 : L9 ≤ 3072) {H : Heap} {locs : List Loc} {ls : Array Slot} {rest : List Value} (hS : va_S (fun q : Nat => s.heap.size ≤ q) s.heap H locs) (hl : lv_has ls 4 [(3, .int (nI (6 * k9))), (2, .ref k0), (1, .ref x), (0, .ref b)]) {v1 : Int32} (h1 : xs (6 * k9 + 1) = v1) (k : W p l e room_1 s m #[Value.ref b] below meth c H locs ce sl (lw_Z below #[Value.ref b] s) (F0 m 441 ls (.int v1 :: .ref k0 :: rest))) : W p l e room_1 s m #[Value.ref b] below meth c H locs ce sl (lw_Z below #[Value.ref b] s) (F0 m 435 ls (rest)) := by
  obtain ⟨hx, hb, hr, hml, hown, hts1, hX, hbl, hlocks, hgv⟩ := id C0
  have hbA : ¬ (fun q : Nat => s.heap.size ≤ q) b := Nat.not_le.mpr hbl
  refine lv_aload_n hx hb dL_law_435 rfl (lv_at hl 1 rfl) ?_
  refine lv_aload_n hx hb dL_law_436 rfl (lv_at hl 3 rfl) ?_
  refine lv_iload_n hx hb dL_law_437 rfl (lv_at hl 0 rfl) ?_
  refine lv_iconst (v := 1) hx hb dL_law_438 rfl ?_
  refine lv_iadd hx hb dL_law_439 ?_
  refine zz_i (v := nI (6 * k9 + 1)) (nI_add (6 * k9) 1) ?_
  refine va_sld hx hb hX hbl hbA hS (vp_in_nI (n := 6 * k9 + 1) (N := L9) (by omega) (by omega)) dL_law_440 ?_
  refine zz_i (v := v1) ((congrArg xs (nI_clamp (by omega))).trans h1) ?_
  exact k
theorem la_8_1 {p : Program} {e : Env} {s : State} {m : MethodId} {below : List Frame} {meth : Method} {c : Code} (l : Launch) {b L9 : Nat} {xs : Nat → Int32} (C0 : lw_At p s m meth c b L9 xs) {x k0 k9 ce sl : Nat} (hk9 : 6 * k9 + 6 ≤ L9) (hL9 : L9 ≤ 3072) {H : Heap} {locs : List Loc} {ls : Array Slot} {rest : List Value} (hS : va_S (fun q : Nat => s.heap.size ≤ q) s.heap H locs) (hl : lv_has ls 4 [(3, .int (nI (6 * k9))), (2, .ref k0), (1, .ref x), (0, .ref b)]) {v1 : Int32} {v2 : Int32} (h1 : xs (6 * k9 + 1) = v1) (h2 : xs (6 * k9 + 2) = v2) (k : W p l e room_1 s m #[Value.ref b] below meth c H locs ce sl (lw_Z below #[Value.ref b] s) (F0 m 459 ls (.int v2 :: .int v1 :: .ref x :: rest))) : W p l e room_1 s m #[Value.ref b] below meth c H locs ce sl (lw_Z below #[Value.ref b] s) (F0 m 448 ls (rest)) := by
  obtain ⟨hx, hb, hr, hml, hown, hts1, hX, hbl, hlocks, hgv⟩ := id C0
  have hbA : ¬ (fun q : Nat => s.heap.size ≤ q) b := Nat.not_le.mpr hbl
  refine lv_aload_n hx hb dL_law_448 rfl (lv_at hl 2 rfl) ?_
  refine lv_aload_n hx hb dL_law_449 rfl (lv_at hl 3 rfl) ?_
  refine lv_iload_n hx hb dL_law_450 rfl (lv_at hl 0 rfl) ?_
  refine lv_iconst (v := 1) hx hb dL_law_451 rfl ?_
  refine lv_iadd hx hb dL_law_452 ?_
  refine zz_i (v := nI (6 * k9 + 1)) (nI_add (6 * k9) 1) ?_
  refine va_sld hx hb hX hbl hbA hS (vp_in_nI (n := 6 * k9 + 1) (N := L9) (by omega) (by omega)) dL_law_453 ?_
  refine zz_i (v := v1) ((congrArg xs (nI_clamp (by omega))).trans h1) ?_
  refine lv_aload_n hx hb dL_law_454 rfl (lv_at hl 3 rfl) ?_
  refine lv_iload_n hx hb dL_law_455 rfl (lv_at hl 0 rfl) ?_
  refine lv_iconst (v := 2) hx hb dL_law_456 rfl ?_
  refine lv_iadd hx hb dL_law_457 ?_
  refine zz_i (v := nI (6 * k9 + 2)) (nI_add (6 * k9) 2) ?_
  refine va_sld hx hb hX hbl hbA hS (vp_in_nI (n := 6 * k9 + 2) (N := L9) (by omega) (by omega)) dL_law_458 ?_
  refine zz_i (v := v2) ((congrArg xs (nI_clamp (by omega))).trans h2) ?_
  exact k
theorem la_8_2 {p : Program} {e : Env} {s : State} {m : MethodId} {below : List Frame} {meth : Method} {c : Code} (l : Launch) {b L9 : Nat} {xs : Nat → Int32} (C0 : lw_At p s m meth c b L9 xs) {x k0 k9 ce sl : Nat} (hk9 : 6 * k9 + 6 ≤ L9) (hL9 : L9 ≤ 3072) {H : Heap} {locs : List Loc} {ls : Array Slot} {rest : List Value} (hS : va_S (fun q : Nat => s.heap.size ≤ q) s.heap H locs) (hl : lv_has ls 4 [(3, .int (nI (6 * k9))), (2, .ref k0), (1, .ref x), (0, .ref b)]) {v1 : Int32} {v2 : Int32} (h1 : xs (6 * k9 + 1) = v1) (h2 : xs (6 * k9 + 2) = v2) (k : W p l e room_1 s m #[Value.ref b] below meth c H locs ce sl (lw_Z below #[Value.ref b] s) (F0 m 474 ls (.int v2 :: .int v1 :: .ref k0 :: rest))) : W p l e room_1 s m #[Value.ref b] below meth c H locs ce sl (lw_Z below #[Value.ref b] s) (F0 m 463 ls (rest)) := by
  obtain ⟨hx, hb, hr, hml, hown, hts1, hX, hbl, hlocks, hgv⟩ := id C0
  have hbA : ¬ (fun q : Nat => s.heap.size ≤ q) b := Nat.not_le.mpr hbl
  refine lv_aload_n hx hb dL_law_463 rfl (lv_at hl 1 rfl) ?_
  refine lv_aload_n hx hb dL_law_464 rfl (lv_at hl 3 rfl) ?_
  refine lv_iload_n hx hb dL_law_465 rfl (lv_at hl 0 rfl) ?_
  refine lv_iconst (v := 1) hx hb dL_law_466 rfl ?_
  refine lv_iadd hx hb dL_law_467 ?_
  refine zz_i (v := nI (6 * k9 + 1)) (nI_add (6 * k9) 1) ?_
  refine va_sld hx hb hX hbl hbA hS (vp_in_nI (n := 6 * k9 + 1) (N := L9) (by omega) (by omega)) dL_law_468 ?_
  refine zz_i (v := v1) ((congrArg xs (nI_clamp (by omega))).trans h1) ?_
  refine lv_aload_n hx hb dL_law_469 rfl (lv_at hl 3 rfl) ?_
  refine lv_iload_n hx hb dL_law_470 rfl (lv_at hl 0 rfl) ?_
  refine lv_iconst (v := 2) hx hb dL_law_471 rfl ?_
  refine lv_iadd hx hb dL_law_472 ?_
  refine zz_i (v := nI (6 * k9 + 2)) (nI_add (6 * k9) 2) ?_
  refine va_sld hx hb hX hbl hbA hS (vp_in_nI (n := 6 * k9 + 2) (N := L9) (by omega) (by omega)) dL_law_473 ?_
  refine zz_i (v := v2) ((congrArg xs (nI_clamp (by omega))).trans h2) ?_
  exact k
theorem la_9_1 {p : Program} {e : Env} {s : State} {m : MethodId} {below : List Frame} {meth : Method} {c : Code} (l : Launch) {b L9 : Nat} {xs : Nat → Int32} (C0 : lw_At p s m meth c b L9 xs) {x k0 k9 ce sl : Nat} (hk9 : 6 * k9 + 6 ≤ L9) (hL9 : L9 ≤ 3072) {H : Heap} {locs : List Loc} {ls : Array Slot} {rest : List Value} (hS : va_S (fun q : Nat => s.heap.size ≤ q) s.heap H locs) (hl : lv_has ls 4 [(3, .int (nI (6 * k9))), (2, .ref k0), (1, .ref x), (0, .ref b)]) {v1 : Int32} {v2 : Int32} {v3 : Int32} (h1 : xs (6 * k9 + 1) = v1) (h2 : xs (6 * k9 + 2) = v2) (h3 : xs (6 * k9 + 3) = v3) (k : W p l e room_1 s m #[Value.ref b] below meth c H locs ce sl (lw_Z below #[Value.ref b] s) (F0 m 497 ls (.int v3 :: .int v2 :: .int v1 :: .ref x :: rest))) : W p l e room_1 s m #[Value.ref b] below meth c H locs ce sl (lw_Z below #[Value.ref b] s) (F0 m 481 ls (rest)) := by
  obtain ⟨hx, hb, hr, hml, hown, hts1, hX, hbl, hlocks, hgv⟩ := id C0
  have hbA : ¬ (fun q : Nat => s.heap.size ≤ q) b := Nat.not_le.mpr hbl
  refine lv_aload_n hx hb dL_law_481 rfl (lv_at hl 2 rfl) ?_
  refine lv_aload_n hx hb dL_law_482 rfl (lv_at hl 3 rfl) ?_
  refine lv_iload_n hx hb dL_law_483 rfl (lv_at hl 0 rfl) ?_
  refine lv_iconst (v := 1) hx hb dL_law_484 rfl ?_
  refine lv_iadd hx hb dL_law_485 ?_
  refine zz_i (v := nI (6 * k9 + 1)) (nI_add (6 * k9) 1) ?_
  refine va_sld hx hb hX hbl hbA hS (vp_in_nI (n := 6 * k9 + 1) (N := L9) (by omega) (by omega)) dL_law_486 ?_
  refine zz_i (v := v1) ((congrArg xs (nI_clamp (by omega))).trans h1) ?_
  refine lv_aload_n hx hb dL_law_487 rfl (lv_at hl 3 rfl) ?_
  refine lv_iload_n hx hb dL_law_488 rfl (lv_at hl 0 rfl) ?_
  refine lv_iconst (v := 2) hx hb dL_law_489 rfl ?_
  refine lv_iadd hx hb dL_law_490 ?_
  refine zz_i (v := nI (6 * k9 + 2)) (nI_add (6 * k9) 2) ?_
  refine va_sld hx hb hX hbl hbA hS (vp_in_nI (n := 6 * k9 + 2) (N := L9) (by omega) (by omega)) dL_law_491 ?_
  refine zz_i (v := v2) ((congrArg xs (nI_clamp (by omega))).trans h2) ?_
  refine lv_aload_n hx hb dL_law_492 rfl (lv_at hl 3 rfl) ?_
  refine lv_iload_n hx hb dL_law_493 rfl (lv_at hl 0 rfl) ?_
  refine lv_iconst (v := 3) hx hb dL_law_494 rfl ?_
  refine lv_iadd hx hb dL_law_495 ?_
  refine zz_i (v := nI (6 * k9 + 3)) (nI_add (6 * k9) 3) ?_
  refine va_sld hx hb hX hbl hbA hS (vp_in_nI (n := 6 * k9 + 3) (N := L9) (by omega) (by omega)) dL_law_496 ?_
  refine zz_i (v := v3) ((congrArg xs (nI_clamp (by omega))).trans h3) ?_
  exact k
theorem la_9_2 {p : Program} {e : Env} {s : State} {m : MethodId} {below : List Frame} {meth : Method} {c : Code} (l : Launch) {b L9 : Nat} {xs : Nat → Int32} (C0 : lw_At p s m meth c b L9 xs) {x k0 k9 ce sl : Nat} (hk9 : 6 * k9 + 6 ≤ L9) (hL9 : L9 ≤ 3072) {H : Heap} {locs : List Loc} {ls : Array Slot} {rest : List Value} (hS : va_S (fun q : Nat => s.heap.size ≤ q) s.heap H locs) (hl : lv_has ls 4 [(3, .int (nI (6 * k9))), (2, .ref k0), (1, .ref x), (0, .ref b)]) {v1 : Int32} {v2 : Int32} {v3 : Int32} (h1 : xs (6 * k9 + 1) = v1) (h2 : xs (6 * k9 + 2) = v2) (h3 : xs (6 * k9 + 3) = v3) (k : W p l e room_1 s m #[Value.ref b] below meth c H locs ce sl (lw_Z below #[Value.ref b] s) (F0 m 517 ls (.int v3 :: .int v2 :: .int v1 :: .ref k0 :: rest))) : W p l e room_1 s m #[Value.ref b] below meth c H locs ce sl (lw_Z below #[Value.ref b] s) (F0 m 501 ls (rest)) := by
  obtain ⟨hx, hb, hr, hml, hown, hts1, hX, hbl, hlocks, hgv⟩ := id C0
  have hbA : ¬ (fun q : Nat => s.heap.size ≤ q) b := Nat.not_le.mpr hbl
  refine lv_aload_n hx hb dL_law_501 rfl (lv_at hl 1 rfl) ?_
  refine lv_aload_n hx hb dL_law_502 rfl (lv_at hl 3 rfl) ?_
  refine lv_iload_n hx hb dL_law_503 rfl (lv_at hl 0 rfl) ?_
  refine lv_iconst (v := 1) hx hb dL_law_504 rfl ?_
  refine lv_iadd hx hb dL_law_505 ?_
  refine zz_i (v := nI (6 * k9 + 1)) (nI_add (6 * k9) 1) ?_
  refine va_sld hx hb hX hbl hbA hS (vp_in_nI (n := 6 * k9 + 1) (N := L9) (by omega) (by omega)) dL_law_506 ?_
  refine zz_i (v := v1) ((congrArg xs (nI_clamp (by omega))).trans h1) ?_
  refine lv_aload_n hx hb dL_law_507 rfl (lv_at hl 3 rfl) ?_
  refine lv_iload_n hx hb dL_law_508 rfl (lv_at hl 0 rfl) ?_
  refine lv_iconst (v := 2) hx hb dL_law_509 rfl ?_
  refine lv_iadd hx hb dL_law_510 ?_
  refine zz_i (v := nI (6 * k9 + 2)) (nI_add (6 * k9) 2) ?_
  refine va_sld hx hb hX hbl hbA hS (vp_in_nI (n := 6 * k9 + 2) (N := L9) (by omega) (by omega)) dL_law_511 ?_
  refine zz_i (v := v2) ((congrArg xs (nI_clamp (by omega))).trans h2) ?_
  refine lv_aload_n hx hb dL_law_512 rfl (lv_at hl 3 rfl) ?_
  refine lv_iload_n hx hb dL_law_513 rfl (lv_at hl 0 rfl) ?_
  refine lv_iconst (v := 3) hx hb dL_law_514 rfl ?_
  refine lv_iadd hx hb dL_law_515 ?_
  refine zz_i (v := nI (6 * k9 + 3)) (nI_add (6 * k9) 3) ?_
  refine va_sld hx hb hX hbl hbA hS (vp_in_nI (n := 6 * k9 + 3) (N := L9) (by omega) (by omega)) dL_law_516 ?_
  refine zz_i (v := v3) ((congrArg xs (nI_clamp (by omega))).trans h3) ?_
  exact k
theorem la_10_1 {p : Program} {e : Env} {s : State} {m : MethodId} {below : List Frame} {meth : Method} {c : Code} (l : Launch) {b L9 : Nat} {xs : Nat → Int32} (C0 : lw_At p s m meth c b L9 xs) {x k0 k9 ce sl : Nat} (hk9 : 6 * k9 + 6 ≤ L9) (hL9 : L9 ≤ 3072) {H : Heap} {locs : List Loc} {ls : Array Slot} {rest : List Value} (hS : va_S (fun q : Nat => s.heap.size ≤ q) s.heap H locs) (hl : lv_has ls 4 [(3, .int (nI (6 * k9))), (2, .ref k0), (1, .ref x), (0, .ref b)]) {v1 : Int32} (h1 : xs (6 * k9 + 1) = v1) (k : W p l e room_1 s m #[Value.ref b] below meth c H locs ce sl (lw_Z below #[Value.ref b] s) (F0 m 530 ls (.int v1 :: .ref x :: rest))) : W p l e room_1 s m #[Value.ref b] below meth c H locs ce sl (lw_Z below #[Value.ref b] s) (F0 m 524 ls (rest)) := by
  obtain ⟨hx, hb, hr, hml, hown, hts1, hX, hbl, hlocks, hgv⟩ := id C0
  have hbA : ¬ (fun q : Nat => s.heap.size ≤ q) b := Nat.not_le.mpr hbl
  refine lv_aload_n hx hb dL_law_524 rfl (lv_at hl 2 rfl) ?_
  refine lv_aload_n hx hb dL_law_525 rfl (lv_at hl 3 rfl) ?_
  refine lv_iload_n hx hb dL_law_526 rfl (lv_at hl 0 rfl) ?_
  refine lv_iconst (v := 1) hx hb dL_law_527 rfl ?_
  refine lv_iadd hx hb dL_law_528 ?_
  refine zz_i (v := nI (6 * k9 + 1)) (nI_add (6 * k9) 1) ?_
  refine va_sld hx hb hX hbl hbA hS (vp_in_nI (n := 6 * k9 + 1) (N := L9) (by omega) (by omega)) dL_law_529 ?_
  refine zz_i (v := v1) ((congrArg xs (nI_clamp (by omega))).trans h1) ?_
  exact k
theorem la_10_2 {p : Program} {e : Env} {s : State} {m : MethodId} {below : List Frame} {meth : Method} {c : Code} (l : Launch) {b L9 : Nat} {xs : Nat → Int32} (C0 : lw_At p s m meth c b L9 xs) {x k0 k9 ce sl : Nat} (hk9 : 6 * k9 + 6 ≤ L9) (hL9 : L9 ≤ 3072) {H : Heap} {locs : List Loc} {ls : Array Slot} {rest : List Value} (hS : va_S (fun q : Nat => s.heap.size ≤ q) s.heap H locs) (hl : lv_has ls 4 [(3, .int (nI (6 * k9))), (2, .ref k0), (1, .ref x), (0, .ref b)]) {v1 : Int32} (h1 : xs (6 * k9 + 1) = v1) (k : W p l e room_1 s m #[Value.ref b] below meth c H locs ce sl (lw_Z below #[Value.ref b] s) (F0 m 540 ls (.int v1 :: .ref k0 :: rest))) : W p l e room_1 s m #[Value.ref b] below meth c H locs ce sl (lw_Z below #[Value.ref b] s) (F0 m 534 ls (rest)) := by
  obtain ⟨hx, hb, hr, hml, hown, hts1, hX, hbl, hlocks, hgv⟩ := id C0
  have hbA : ¬ (fun q : Nat => s.heap.size ≤ q) b := Nat.not_le.mpr hbl
  refine lv_aload_n hx hb dL_law_534 rfl (lv_at hl 1 rfl) ?_
  refine lv_aload_n hx hb dL_law_535 rfl (lv_at hl 3 rfl) ?_
  refine lv_iload_n hx hb dL_law_536 rfl (lv_at hl 0 rfl) ?_
  refine lv_iconst (v := 1) hx hb dL_law_537 rfl ?_
  refine lv_iadd hx hb dL_law_538 ?_
  refine zz_i (v := nI (6 * k9 + 1)) (nI_add (6 * k9) 1) ?_
  refine va_sld hx hb hX hbl hbA hS (vp_in_nI (n := 6 * k9 + 1) (N := L9) (by omega) (by omega)) dL_law_539 ?_
  refine zz_i (v := v1) ((congrArg xs (nI_clamp (by omega))).trans h1) ?_
  exact k
theorem la_11_1 {p : Program} {e : Env} {s : State} {m : MethodId} {below : List Frame} {meth : Method} {c : Code} (l : Launch) {b L9 : Nat} {xs : Nat → Int32} (C0 : lw_At p s m meth c b L9 xs) {x k0 k9 ce sl : Nat} (hk9 : 6 * k9 + 6 ≤ L9) (hL9 : L9 ≤ 3072) {H : Heap} {locs : List Loc} {ls : Array Slot} {rest : List Value} (hS : va_S (fun q : Nat => s.heap.size ≤ q) s.heap H locs) (hl : lv_has ls 4 [(3, .int (nI (6 * k9))), (2, .ref k0), (1, .ref x), (0, .ref b)]) {v1 : Int32} {v2 : Int32} (h1 : xs (6 * k9 + 1) = v1) (h2 : xs (6 * k9 + 2) = v2) (k : W p l e room_1 s m #[Value.ref b] below meth c H locs ce sl (lw_Z below #[Value.ref b] s) (F0 m 558 ls (.int v2 :: .int v1 :: .ref x :: rest))) : W p l e room_1 s m #[Value.ref b] below meth c H locs ce sl (lw_Z below #[Value.ref b] s) (F0 m 547 ls (rest)) := by
  obtain ⟨hx, hb, hr, hml, hown, hts1, hX, hbl, hlocks, hgv⟩ := id C0
  have hbA : ¬ (fun q : Nat => s.heap.size ≤ q) b := Nat.not_le.mpr hbl
  refine lv_aload_n hx hb dL_law_547 rfl (lv_at hl 2 rfl) ?_
  refine lv_aload_n hx hb dL_law_548 rfl (lv_at hl 3 rfl) ?_
  refine lv_iload_n hx hb dL_law_549 rfl (lv_at hl 0 rfl) ?_
  refine lv_iconst (v := 1) hx hb dL_law_550 rfl ?_
  refine lv_iadd hx hb dL_law_551 ?_
  refine zz_i (v := nI (6 * k9 + 1)) (nI_add (6 * k9) 1) ?_
  refine va_sld hx hb hX hbl hbA hS (vp_in_nI (n := 6 * k9 + 1) (N := L9) (by omega) (by omega)) dL_law_552 ?_
  refine zz_i (v := v1) ((congrArg xs (nI_clamp (by omega))).trans h1) ?_
  refine lv_aload_n hx hb dL_law_553 rfl (lv_at hl 3 rfl) ?_
  refine lv_iload_n hx hb dL_law_554 rfl (lv_at hl 0 rfl) ?_
  refine lv_iconst (v := 2) hx hb dL_law_555 rfl ?_
  refine lv_iadd hx hb dL_law_556 ?_
  refine zz_i (v := nI (6 * k9 + 2)) (nI_add (6 * k9) 2) ?_
  refine va_sld hx hb hX hbl hbA hS (vp_in_nI (n := 6 * k9 + 2) (N := L9) (by omega) (by omega)) dL_law_557 ?_
  refine zz_i (v := v2) ((congrArg xs (nI_clamp (by omega))).trans h2) ?_
  exact k
theorem la_11_2 {p : Program} {e : Env} {s : State} {m : MethodId} {below : List Frame} {meth : Method} {c : Code} (l : Launch) {b L9 : Nat} {xs : Nat → Int32} (C0 : lw_At p s m meth c b L9 xs) {x k0 k9 ce sl : Nat} (hk9 : 6 * k9 + 6 ≤ L9) (hL9 : L9 ≤ 3072) {H : Heap} {locs : List Loc} {ls : Array Slot} {rest : List Value} (hS : va_S (fun q : Nat => s.heap.size ≤ q) s.heap H locs) (hl : lv_has ls 4 [(3, .int (nI (6 * k9))), (2, .ref k0), (1, .ref x), (0, .ref b)]) {v1 : Int32} {v2 : Int32} (h1 : xs (6 * k9 + 1) = v1) (h2 : xs (6 * k9 + 2) = v2) (k : W p l e room_1 s m #[Value.ref b] below meth c H locs ce sl (lw_Z below #[Value.ref b] s) (F0 m 573 ls (.int v2 :: .int v1 :: .ref k0 :: rest))) : W p l e room_1 s m #[Value.ref b] below meth c H locs ce sl (lw_Z below #[Value.ref b] s) (F0 m 562 ls (rest)) := by
  obtain ⟨hx, hb, hr, hml, hown, hts1, hX, hbl, hlocks, hgv⟩ := id C0
  have hbA : ¬ (fun q : Nat => s.heap.size ≤ q) b := Nat.not_le.mpr hbl
  refine lv_aload_n hx hb dL_law_562 rfl (lv_at hl 1 rfl) ?_
  refine lv_aload_n hx hb dL_law_563 rfl (lv_at hl 3 rfl) ?_
  refine lv_iload_n hx hb dL_law_564 rfl (lv_at hl 0 rfl) ?_
  refine lv_iconst (v := 1) hx hb dL_law_565 rfl ?_
  refine lv_iadd hx hb dL_law_566 ?_
  refine zz_i (v := nI (6 * k9 + 1)) (nI_add (6 * k9) 1) ?_
  refine va_sld hx hb hX hbl hbA hS (vp_in_nI (n := 6 * k9 + 1) (N := L9) (by omega) (by omega)) dL_law_567 ?_
  refine zz_i (v := v1) ((congrArg xs (nI_clamp (by omega))).trans h1) ?_
  refine lv_aload_n hx hb dL_law_568 rfl (lv_at hl 3 rfl) ?_
  refine lv_iload_n hx hb dL_law_569 rfl (lv_at hl 0 rfl) ?_
  refine lv_iconst (v := 2) hx hb dL_law_570 rfl ?_
  refine lv_iadd hx hb dL_law_571 ?_
  refine zz_i (v := nI (6 * k9 + 2)) (nI_add (6 * k9) 2) ?_
  refine va_sld hx hb hX hbl hbA hS (vp_in_nI (n := 6 * k9 + 2) (N := L9) (by omega) (by omega)) dL_law_572 ?_
  refine zz_i (v := v2) ((congrArg xs (nI_clamp (by omega))).trans h2) ?_
  exact k
theorem la_12_1 {p : Program} {e : Env} {s : State} {m : MethodId} {below : List Frame} {meth : Method} {c : Code} (l : Launch) {b L9 : Nat} {xs : Nat → Int32} (C0 : lw_At p s m meth c b L9 xs) {x k0 k9 ce sl : Nat} (hk9 : 6 * k9 + 6 ≤ L9) (hL9 : L9 ≤ 3072) {H : Heap} {locs : List Loc} {ls : Array Slot} {rest : List Value} (hS : va_S (fun q : Nat => s.heap.size ≤ q) s.heap H locs) (hl : lv_has ls 4 [(3, .int (nI (6 * k9))), (2, .ref k0), (1, .ref x), (0, .ref b)]) (k : W p l e room_1 s m #[Value.ref b] below meth c H locs ce sl (lw_Z below #[Value.ref b] s) (F0 m 581 ls (.ref x :: rest))) : W p l e room_1 s m #[Value.ref b] below meth c H locs ce sl (lw_Z below #[Value.ref b] s) (F0 m 580 ls (rest)) := by
  obtain ⟨hx, hb, hr, hml, hown, hts1, hX, hbl, hlocks, hgv⟩ := id C0
  have hbA : ¬ (fun q : Nat => s.heap.size ≤ q) b := Nat.not_le.mpr hbl
  refine lv_aload_n hx hb dL_law_580 rfl (lv_at hl 2 rfl) ?_
  exact k
theorem la_12_2 {p : Program} {e : Env} {s : State} {m : MethodId} {below : List Frame} {meth : Method} {c : Code} (l : Launch) {b L9 : Nat} {xs : Nat → Int32} (C0 : lw_At p s m meth c b L9 xs) {x k0 k9 ce sl : Nat} (hk9 : 6 * k9 + 6 ≤ L9) (hL9 : L9 ≤ 3072) {H : Heap} {locs : List Loc} {ls : Array Slot} {rest : List Value} (hS : va_S (fun q : Nat => s.heap.size ≤ q) s.heap H locs) (hl : lv_has ls 4 [(3, .int (nI (6 * k9))), (2, .ref k0), (1, .ref x), (0, .ref b)]) (k : W p l e room_1 s m #[Value.ref b] below meth c H locs ce sl (lw_Z below #[Value.ref b] s) (F0 m 586 ls (.ref k0 :: rest))) : W p l e room_1 s m #[Value.ref b] below meth c H locs ce sl (lw_Z below #[Value.ref b] s) (F0 m 585 ls (rest)) := by
  obtain ⟨hx, hb, hr, hml, hown, hts1, hX, hbl, hlocks, hgv⟩ := id C0
  have hbA : ¬ (fun q : Nat => s.heap.size ≤ q) b := Nat.not_le.mpr hbl
  refine lv_aload_n hx hb dL_law_585 rfl (lv_at hl 1 rfl) ?_
  exact k
theorem la_13_1 {p : Program} {e : Env} {s : State} {m : MethodId} {below : List Frame} {meth : Method} {c : Code} (l : Launch) {b L9 : Nat} {xs : Nat → Int32} (C0 : lw_At p s m meth c b L9 xs) {x k0 k9 ce sl : Nat} (hk9 : 6 * k9 + 6 ≤ L9) (hL9 : L9 ≤ 3072) {H : Heap} {locs : List Loc} {ls : Array Slot} {rest : List Value} (hS : va_S (fun q : Nat => s.heap.size ≤ q) s.heap H locs) (hl : lv_has ls 4 [(3, .int (nI (6 * k9))), (2, .ref k0), (1, .ref x), (0, .ref b)]) {v1 : Int32} (h1 : xs (6 * k9 + 1) = v1) (k : W p l e room_1 s m #[Value.ref b] below meth c H locs ce sl (lw_Z below #[Value.ref b] s) (F0 m 599 ls (.int v1 :: .ref x :: rest))) : W p l e room_1 s m #[Value.ref b] below meth c H locs ce sl (lw_Z below #[Value.ref b] s) (F0 m 593 ls (rest)) := by
  obtain ⟨hx, hb, hr, hml, hown, hts1, hX, hbl, hlocks, hgv⟩ := id C0
  have hbA : ¬ (fun q : Nat => s.heap.size ≤ q) b := Nat.not_le.mpr hbl
  refine lv_aload_n hx hb dL_law_593 rfl (lv_at hl 2 rfl) ?_
  refine lv_aload_n hx hb dL_law_594 rfl (lv_at hl 3 rfl) ?_
  refine lv_iload_n hx hb dL_law_595 rfl (lv_at hl 0 rfl) ?_
  refine lv_iconst (v := 1) hx hb dL_law_596 rfl ?_
  refine lv_iadd hx hb dL_law_597 ?_
  refine zz_i (v := nI (6 * k9 + 1)) (nI_add (6 * k9) 1) ?_
  refine va_sld hx hb hX hbl hbA hS (vp_in_nI (n := 6 * k9 + 1) (N := L9) (by omega) (by omega)) dL_law_598 ?_
  refine zz_i (v := v1) ((congrArg xs (nI_clamp (by omega))).trans h1) ?_
  exact k
theorem la_13_2 {p : Program} {e : Env} {s : State} {m : MethodId} {below : List Frame} {meth : Method} {c : Code} (l : Launch) {b L9 : Nat} {xs : Nat → Int32} (C0 : lw_At p s m meth c b L9 xs) {x k0 k9 ce sl : Nat} (hk9 : 6 * k9 + 6 ≤ L9) (hL9 : L9 ≤ 3072) {H : Heap} {locs : List Loc} {ls : Array Slot} {rest : List Value} (hS : va_S (fun q : Nat => s.heap.size ≤ q) s.heap H locs) (hl : lv_has ls 4 [(3, .int (nI (6 * k9))), (2, .ref k0), (1, .ref x), (0, .ref b)]) {v1 : Int32} (h1 : xs (6 * k9 + 1) = v1) (k : W p l e room_1 s m #[Value.ref b] below meth c H locs ce sl (lw_Z below #[Value.ref b] s) (F0 m 609 ls (.int v1 :: .ref k0 :: rest))) : W p l e room_1 s m #[Value.ref b] below meth c H locs ce sl (lw_Z below #[Value.ref b] s) (F0 m 603 ls (rest)) := by
  obtain ⟨hx, hb, hr, hml, hown, hts1, hX, hbl, hlocks, hgv⟩ := id C0
  have hbA : ¬ (fun q : Nat => s.heap.size ≤ q) b := Nat.not_le.mpr hbl
  refine lv_aload_n hx hb dL_law_603 rfl (lv_at hl 1 rfl) ?_
  refine lv_aload_n hx hb dL_law_604 rfl (lv_at hl 3 rfl) ?_
  refine lv_iload_n hx hb dL_law_605 rfl (lv_at hl 0 rfl) ?_
  refine lv_iconst (v := 1) hx hb dL_law_606 rfl ?_
  refine lv_iadd hx hb dL_law_607 ?_
  refine zz_i (v := nI (6 * k9 + 1)) (nI_add (6 * k9) 1) ?_
  refine va_sld hx hb hX hbl hbA hS (vp_in_nI (n := 6 * k9 + 1) (N := L9) (by omega) (by omega)) dL_law_608 ?_
  refine zz_i (v := v1) ((congrArg xs (nI_clamp (by omega))).trans h1) ?_
  exact k
theorem la_14_1 {p : Program} {e : Env} {s : State} {m : MethodId} {below : List Frame} {meth : Method} {c : Code} (l : Launch) {b L9 : Nat} {xs : Nat → Int32} (C0 : lw_At p s m meth c b L9 xs) {x k0 k9 ce sl : Nat} (hk9 : 6 * k9 + 6 ≤ L9) (hL9 : L9 ≤ 3072) {H : Heap} {locs : List Loc} {ls : Array Slot} {rest : List Value} (hS : va_S (fun q : Nat => s.heap.size ≤ q) s.heap H locs) (hl : lv_has ls 4 [(3, .int (nI (6 * k9))), (2, .ref k0), (1, .ref x), (0, .ref b)]) (k : W p l e room_1 s m #[Value.ref b] below meth c H locs ce sl (lw_Z below #[Value.ref b] s) (F0 m 617 ls (.ref x :: rest))) : W p l e room_1 s m #[Value.ref b] below meth c H locs ce sl (lw_Z below #[Value.ref b] s) (F0 m 616 ls (rest)) := by
  obtain ⟨hx, hb, hr, hml, hown, hts1, hX, hbl, hlocks, hgv⟩ := id C0
  have hbA : ¬ (fun q : Nat => s.heap.size ≤ q) b := Nat.not_le.mpr hbl
  refine lv_aload_n hx hb dL_law_616 rfl (lv_at hl 2 rfl) ?_
  exact k
theorem la_14_2 {p : Program} {e : Env} {s : State} {m : MethodId} {below : List Frame} {meth : Method} {c : Code} (l : Launch) {b L9 : Nat} {xs : Nat → Int32} (C0 : lw_At p s m meth c b L9 xs) {x k0 k9 ce sl : Nat} (hk9 : 6 * k9 + 6 ≤ L9) (hL9 : L9 ≤ 3072) {H : Heap} {locs : List Loc} {ls : Array Slot} {rest : List Value} (hS : va_S (fun q : Nat => s.heap.size ≤ q) s.heap H locs) (hl : lv_has ls 4 [(3, .int (nI (6 * k9))), (2, .ref k0), (1, .ref x), (0, .ref b)]) (k : W p l e room_1 s m #[Value.ref b] below meth c H locs ce sl (lw_Z below #[Value.ref b] s) (F0 m 622 ls (.ref k0 :: rest))) : W p l e room_1 s m #[Value.ref b] below meth c H locs ce sl (lw_Z below #[Value.ref b] s) (F0 m 621 ls (rest)) := by
  obtain ⟨hx, hb, hr, hml, hown, hts1, hX, hbl, hlocks, hgv⟩ := id C0
  have hbA : ¬ (fun q : Nat => s.heap.size ≤ q) b := Nat.not_le.mpr hbl
  refine lv_aload_n hx hb dL_law_621 rfl (lv_at hl 1 rfl) ?_
  exact k
theorem la_15_1 {p : Program} {e : Env} {s : State} {m : MethodId} {below : List Frame} {meth : Method} {c : Code} (l : Launch) {b L9 : Nat} {xs : Nat → Int32} (C0 : lw_At p s m meth c b L9 xs) {x k0 k9 ce sl : Nat} (hk9 : 6 * k9 + 6 ≤ L9) (hL9 : L9 ≤ 3072) {H : Heap} {locs : List Loc} {ls : Array Slot} {rest : List Value} (hS : va_S (fun q : Nat => s.heap.size ≤ q) s.heap H locs) (hl : lv_has ls 4 [(3, .int (nI (6 * k9))), (2, .ref k0), (1, .ref x), (0, .ref b)]) (k : W p l e room_1 s m #[Value.ref b] below meth c H locs ce sl (lw_Z below #[Value.ref b] s) (F0 m 630 ls (.ref x :: rest))) : W p l e room_1 s m #[Value.ref b] below meth c H locs ce sl (lw_Z below #[Value.ref b] s) (F0 m 629 ls (rest)) := by
  obtain ⟨hx, hb, hr, hml, hown, hts1, hX, hbl, hlocks, hgv⟩ := id C0
  have hbA : ¬ (fun q : Nat => s.heap.size ≤ q) b := Nat.not_le.mpr hbl
  refine lv_aload_n hx hb dL_law_629 rfl (lv_at hl 2 rfl) ?_
  exact k
theorem la_15_2 {p : Program} {e : Env} {s : State} {m : MethodId} {below : List Frame} {meth : Method} {c : Code} (l : Launch) {b L9 : Nat} {xs : Nat → Int32} (C0 : lw_At p s m meth c b L9 xs) {x k0 k9 ce sl : Nat} (hk9 : 6 * k9 + 6 ≤ L9) (hL9 : L9 ≤ 3072) {H : Heap} {locs : List Loc} {ls : Array Slot} {rest : List Value} (hS : va_S (fun q : Nat => s.heap.size ≤ q) s.heap H locs) (hl : lv_has ls 4 [(3, .int (nI (6 * k9))), (2, .ref k0), (1, .ref x), (0, .ref b)]) (k : W p l e room_1 s m #[Value.ref b] below meth c H locs ce sl (lw_Z below #[Value.ref b] s) (F0 m 635 ls (.ref k0 :: rest))) : W p l e room_1 s m #[Value.ref b] below meth c H locs ce sl (lw_Z below #[Value.ref b] s) (F0 m 634 ls (rest)) := by
  obtain ⟨hx, hb, hr, hml, hown, hts1, hX, hbl, hlocks, hgv⟩ := id C0
  have hbA : ¬ (fun q : Nat => s.heap.size ≤ q) b := Nat.not_le.mpr hbl
  refine lv_aload_n hx hb dL_law_634 rfl (lv_at hl 1 rfl) ?_
  exact k
theorem la_16_1 {p : Program} {e : Env} {s : State} {m : MethodId} {below : List Frame} {meth : Method} {c : Code} (l : Launch) {b L9 : Nat} {xs : Nat → Int32} (C0 : lw_At p s m meth c b L9 xs) {x k0 k9 ce sl : Nat} (hk9 : 6 * k9 + 6 ≤ L9) (hL9 : L9 ≤ 3072) {H : Heap} {locs : List Loc} {ls : Array Slot} {rest : List Value} (hS : va_S (fun q : Nat => s.heap.size ≤ q) s.heap H locs) (hl : lv_has ls 4 [(3, .int (nI (6 * k9))), (2, .ref k0), (1, .ref x), (0, .ref b)]) {v1 : Int32} {v2 : Int32} (h1 : xs (6 * k9 + 1) = v1) (h2 : xs (6 * k9 + 2) = v2) (k : W p l e room_1 s m #[Value.ref b] below meth c H locs ce sl (lw_Z below #[Value.ref b] s) (F0 m 653 ls (.int v2 :: .int v1 :: .ref x :: rest))) : W p l e room_1 s m #[Value.ref b] below meth c H locs ce sl (lw_Z below #[Value.ref b] s) (F0 m 642 ls (rest)) := by
  obtain ⟨hx, hb, hr, hml, hown, hts1, hX, hbl, hlocks, hgv⟩ := id C0
  have hbA : ¬ (fun q : Nat => s.heap.size ≤ q) b := Nat.not_le.mpr hbl
  refine lv_aload_n hx hb dL_law_642 rfl (lv_at hl 2 rfl) ?_
  refine lv_aload_n hx hb dL_law_643 rfl (lv_at hl 3 rfl) ?_
  refine lv_iload_n hx hb dL_law_644 rfl (lv_at hl 0 rfl) ?_
  refine lv_iconst (v := 1) hx hb dL_law_645 rfl ?_
  refine lv_iadd hx hb dL_law_646 ?_
  refine zz_i (v := nI (6 * k9 + 1)) (nI_add (6 * k9) 1) ?_
  refine va_sld hx hb hX hbl hbA hS (vp_in_nI (n := 6 * k9 + 1) (N := L9) (by omega) (by omega)) dL_law_647 ?_
  refine zz_i (v := v1) ((congrArg xs (nI_clamp (by omega))).trans h1) ?_
  refine lv_aload_n hx hb dL_law_648 rfl (lv_at hl 3 rfl) ?_
  refine lv_iload_n hx hb dL_law_649 rfl (lv_at hl 0 rfl) ?_
  refine lv_iconst (v := 2) hx hb dL_law_650 rfl ?_
  refine lv_iadd hx hb dL_law_651 ?_
  refine zz_i (v := nI (6 * k9 + 2)) (nI_add (6 * k9) 2) ?_
  refine va_sld hx hb hX hbl hbA hS (vp_in_nI (n := 6 * k9 + 2) (N := L9) (by omega) (by omega)) dL_law_652 ?_
  refine zz_i (v := v2) ((congrArg xs (nI_clamp (by omega))).trans h2) ?_
  exact k
theorem la_16_2 {p : Program} {e : Env} {s : State} {m : MethodId} {below : List Frame} {meth : Method} {c : Code} (l : Launch) {b L9 : Nat} {xs : Nat → Int32} (C0 : lw_At p s m meth c b L9 xs) {x k0 k9 ce sl : Nat} (hk9 : 6 * k9 + 6 ≤ L9) (hL9 : L9 ≤ 3072) {H : Heap} {locs : List Loc} {ls : Array Slot} {rest : List Value} (hS : va_S (fun q : Nat => s.heap.size ≤ q) s.heap H locs) (hl : lv_has ls 4 [(3, .int (nI (6 * k9))), (2, .ref k0), (1, .ref x), (0, .ref b)]) {v1 : Int32} {v2 : Int32} (h1 : xs (6 * k9 + 1) = v1) (h2 : xs (6 * k9 + 2) = v2) (k : W p l e room_1 s m #[Value.ref b] below meth c H locs ce sl (lw_Z below #[Value.ref b] s) (F0 m 668 ls (.int v2 :: .int v1 :: .ref k0 :: rest))) : W p l e room_1 s m #[Value.ref b] below meth c H locs ce sl (lw_Z below #[Value.ref b] s) (F0 m 657 ls (rest)) := by
  obtain ⟨hx, hb, hr, hml, hown, hts1, hX, hbl, hlocks, hgv⟩ := id C0
  have hbA : ¬ (fun q : Nat => s.heap.size ≤ q) b := Nat.not_le.mpr hbl
  refine lv_aload_n hx hb dL_law_657 rfl (lv_at hl 1 rfl) ?_
  refine lv_aload_n hx hb dL_law_658 rfl (lv_at hl 3 rfl) ?_
  refine lv_iload_n hx hb dL_law_659 rfl (lv_at hl 0 rfl) ?_
  refine lv_iconst (v := 1) hx hb dL_law_660 rfl ?_
  refine lv_iadd hx hb dL_law_661 ?_
  refine zz_i (v := nI (6 * k9 + 1)) (nI_add (6 * k9) 1) ?_
  refine va_sld hx hb hX hbl hbA hS (vp_in_nI (n := 6 * k9 + 1) (N := L9) (by omega) (by omega)) dL_law_662 ?_
  refine zz_i (v := v1) ((congrArg xs (nI_clamp (by omega))).trans h1) ?_
  refine lv_aload_n hx hb dL_law_663 rfl (lv_at hl 3 rfl) ?_
  refine lv_iload_n hx hb dL_law_664 rfl (lv_at hl 0 rfl) ?_
  refine lv_iconst (v := 2) hx hb dL_law_665 rfl ?_
  refine lv_iadd hx hb dL_law_666 ?_
  refine zz_i (v := nI (6 * k9 + 2)) (nI_add (6 * k9) 2) ?_
  refine va_sld hx hb hX hbl hbA hS (vp_in_nI (n := 6 * k9 + 2) (N := L9) (by omega) (by omega)) dL_law_667 ?_
  refine zz_i (v := v2) ((congrArg xs (nI_clamp (by omega))).trans h2) ?_
  exact k
theorem la_17_1 {p : Program} {e : Env} {s : State} {m : MethodId} {below : List Frame} {meth : Method} {c : Code} (l : Launch) {b L9 : Nat} {xs : Nat → Int32} (C0 : lw_At p s m meth c b L9 xs) {x k0 k9 ce sl : Nat} (hk9 : 6 * k9 + 6 ≤ L9) (hL9 : L9 ≤ 3072) {H : Heap} {locs : List Loc} {ls : Array Slot} {rest : List Value} (hS : va_S (fun q : Nat => s.heap.size ≤ q) s.heap H locs) (hl : lv_has ls 4 [(3, .int (nI (6 * k9))), (2, .ref k0), (1, .ref x), (0, .ref b)]) {v1 : Int32} {v2 : Int32} {v3 : Int32} (h1 : xs (6 * k9 + 1) = v1) (h2 : xs (6 * k9 + 2) = v2) (h3 : xs (6 * k9 + 3) = v3) (k : W p l e room_1 s m #[Value.ref b] below meth c H locs ce sl (lw_Z below #[Value.ref b] s) (F0 m 691 ls (.int v3 :: .int v2 :: .int v1 :: .ref x :: rest))) : W p l e room_1 s m #[Value.ref b] below meth c H locs ce sl (lw_Z below #[Value.ref b] s) (F0 m 675 ls (rest)) := by
  obtain ⟨hx, hb, hr, hml, hown, hts1, hX, hbl, hlocks, hgv⟩ := id C0
  have hbA : ¬ (fun q : Nat => s.heap.size ≤ q) b := Nat.not_le.mpr hbl
  refine lv_aload_n hx hb dL_law_675 rfl (lv_at hl 2 rfl) ?_
  refine lv_aload_n hx hb dL_law_676 rfl (lv_at hl 3 rfl) ?_
  refine lv_iload_n hx hb dL_law_677 rfl (lv_at hl 0 rfl) ?_
  refine lv_iconst (v := 1) hx hb dL_law_678 rfl ?_
  refine lv_iadd hx hb dL_law_679 ?_
  refine zz_i (v := nI (6 * k9 + 1)) (nI_add (6 * k9) 1) ?_
  refine va_sld hx hb hX hbl hbA hS (vp_in_nI (n := 6 * k9 + 1) (N := L9) (by omega) (by omega)) dL_law_680 ?_
  refine zz_i (v := v1) ((congrArg xs (nI_clamp (by omega))).trans h1) ?_
  refine lv_aload_n hx hb dL_law_681 rfl (lv_at hl 3 rfl) ?_
  refine lv_iload_n hx hb dL_law_682 rfl (lv_at hl 0 rfl) ?_
  refine lv_iconst (v := 2) hx hb dL_law_683 rfl ?_
  refine lv_iadd hx hb dL_law_684 ?_
  refine zz_i (v := nI (6 * k9 + 2)) (nI_add (6 * k9) 2) ?_
  refine va_sld hx hb hX hbl hbA hS (vp_in_nI (n := 6 * k9 + 2) (N := L9) (by omega) (by omega)) dL_law_685 ?_
  refine zz_i (v := v2) ((congrArg xs (nI_clamp (by omega))).trans h2) ?_
  refine lv_aload_n hx hb dL_law_686 rfl (lv_at hl 3 rfl) ?_
  refine lv_iload_n hx hb dL_law_687 rfl (lv_at hl 0 rfl) ?_
  refine lv_iconst (v := 3) hx hb dL_law_688 rfl ?_
  refine lv_iadd hx hb dL_law_689 ?_
  refine zz_i (v := nI (6 * k9 + 3)) (nI_add (6 * k9) 3) ?_
  refine va_sld hx hb hX hbl hbA hS (vp_in_nI (n := 6 * k9 + 3) (N := L9) (by omega) (by omega)) dL_law_690 ?_
  refine zz_i (v := v3) ((congrArg xs (nI_clamp (by omega))).trans h3) ?_
  exact k
theorem la_17_2 {p : Program} {e : Env} {s : State} {m : MethodId} {below : List Frame} {meth : Method} {c : Code} (l : Launch) {b L9 : Nat} {xs : Nat → Int32} (C0 : lw_At p s m meth c b L9 xs) {x k0 k9 ce sl : Nat} (hk9 : 6 * k9 + 6 ≤ L9) (hL9 : L9 ≤ 3072) {H : Heap} {locs : List Loc} {ls : Array Slot} {rest : List Value} (hS : va_S (fun q : Nat => s.heap.size ≤ q) s.heap H locs) (hl : lv_has ls 4 [(3, .int (nI (6 * k9))), (2, .ref k0), (1, .ref x), (0, .ref b)]) {v1 : Int32} {v2 : Int32} {v3 : Int32} (h1 : xs (6 * k9 + 1) = v1) (h2 : xs (6 * k9 + 2) = v2) (h3 : xs (6 * k9 + 3) = v3) (k : W p l e room_1 s m #[Value.ref b] below meth c H locs ce sl (lw_Z below #[Value.ref b] s) (F0 m 711 ls (.int v3 :: .int v2 :: .int v1 :: .ref k0 :: rest))) : W p l e room_1 s m #[Value.ref b] below meth c H locs ce sl (lw_Z below #[Value.ref b] s) (F0 m 695 ls (rest)) := by
  obtain ⟨hx, hb, hr, hml, hown, hts1, hX, hbl, hlocks, hgv⟩ := id C0
  have hbA : ¬ (fun q : Nat => s.heap.size ≤ q) b := Nat.not_le.mpr hbl
  refine lv_aload_n hx hb dL_law_695 rfl (lv_at hl 1 rfl) ?_
  refine lv_aload_n hx hb dL_law_696 rfl (lv_at hl 3 rfl) ?_
  refine lv_iload_n hx hb dL_law_697 rfl (lv_at hl 0 rfl) ?_
  refine lv_iconst (v := 1) hx hb dL_law_698 rfl ?_
  refine lv_iadd hx hb dL_law_699 ?_
  refine zz_i (v := nI (6 * k9 + 1)) (nI_add (6 * k9) 1) ?_
  refine va_sld hx hb hX hbl hbA hS (vp_in_nI (n := 6 * k9 + 1) (N := L9) (by omega) (by omega)) dL_law_700 ?_
  refine zz_i (v := v1) ((congrArg xs (nI_clamp (by omega))).trans h1) ?_
  refine lv_aload_n hx hb dL_law_701 rfl (lv_at hl 3 rfl) ?_
  refine lv_iload_n hx hb dL_law_702 rfl (lv_at hl 0 rfl) ?_
  refine lv_iconst (v := 2) hx hb dL_law_703 rfl ?_
  refine lv_iadd hx hb dL_law_704 ?_
  refine zz_i (v := nI (6 * k9 + 2)) (nI_add (6 * k9) 2) ?_
  refine va_sld hx hb hX hbl hbA hS (vp_in_nI (n := 6 * k9 + 2) (N := L9) (by omega) (by omega)) dL_law_705 ?_
  refine zz_i (v := v2) ((congrArg xs (nI_clamp (by omega))).trans h2) ?_
  refine lv_aload_n hx hb dL_law_706 rfl (lv_at hl 3 rfl) ?_
  refine lv_iload_n hx hb dL_law_707 rfl (lv_at hl 0 rfl) ?_
  refine lv_iconst (v := 3) hx hb dL_law_708 rfl ?_
  refine lv_iadd hx hb dL_law_709 ?_
  refine zz_i (v := nI (6 * k9 + 3)) (nI_add (6 * k9) 3) ?_
  refine va_sld hx hb hX hbl hbA hS (vp_in_nI (n := 6 * k9 + 3) (N := L9) (by omega) (by omega)) dL_law_710 ?_
  refine zz_i (v := v3) ((congrArg xs (nI_clamp (by omega))).trans h3) ?_
  exact k
theorem la_18_1 {p : Program} {e : Env} {s : State} {m : MethodId} {below : List Frame} {meth : Method} {c : Code} (l : Launch) {b L9 : Nat} {xs : Nat → Int32} (C0 : lw_At p s m meth c b L9 xs) {x k0 k9 ce sl : Nat} (hk9 : 6 * k9 + 6 ≤ L9) (hL9 : L9 ≤ 3072) {H : Heap} {locs : List Loc} {ls : Array Slot} {rest : List Value} (hS : va_S (fun q : Nat => s.heap.size ≤ q) s.heap H locs) (hl : lv_has ls 4 [(3, .int (nI (6 * k9))), (2, .ref k0), (1, .ref x), (0, .ref b)]) {v1 : Int32} {v2 : Int32} {v3 : Int32} {v4 : Int32} (h1 : xs (6 * k9 + 1) = v1) (h2 : xs (6 * k9 + 2) = v2) (h3 : xs (6 * k9 + 3) = v3) (h4 : xs (6 * k9 + 4) = v4) (k : W p l e room_1 s m #[Value.ref b] below meth c H locs ce sl (lw_Z below #[Value.ref b] s) (F0 m 739 ls (.int v4 :: .int v3 :: .int v2 :: .int v1 :: .ref x :: rest))) : W p l e room_1 s m #[Value.ref b] below meth c H locs ce sl (lw_Z below #[Value.ref b] s) (F0 m 718 ls (rest)) := by
  obtain ⟨hx, hb, hr, hml, hown, hts1, hX, hbl, hlocks, hgv⟩ := id C0
  have hbA : ¬ (fun q : Nat => s.heap.size ≤ q) b := Nat.not_le.mpr hbl
  refine lv_aload_n hx hb dL_law_718 rfl (lv_at hl 2 rfl) ?_
  refine lv_aload_n hx hb dL_law_719 rfl (lv_at hl 3 rfl) ?_
  refine lv_iload_n hx hb dL_law_720 rfl (lv_at hl 0 rfl) ?_
  refine lv_iconst (v := 1) hx hb dL_law_721 rfl ?_
  refine lv_iadd hx hb dL_law_722 ?_
  refine zz_i (v := nI (6 * k9 + 1)) (nI_add (6 * k9) 1) ?_
  refine va_sld hx hb hX hbl hbA hS (vp_in_nI (n := 6 * k9 + 1) (N := L9) (by omega) (by omega)) dL_law_723 ?_
  refine zz_i (v := v1) ((congrArg xs (nI_clamp (by omega))).trans h1) ?_
  refine lv_aload_n hx hb dL_law_724 rfl (lv_at hl 3 rfl) ?_
  refine lv_iload_n hx hb dL_law_725 rfl (lv_at hl 0 rfl) ?_
  refine lv_iconst (v := 2) hx hb dL_law_726 rfl ?_
  refine lv_iadd hx hb dL_law_727 ?_
  refine zz_i (v := nI (6 * k9 + 2)) (nI_add (6 * k9) 2) ?_
  refine va_sld hx hb hX hbl hbA hS (vp_in_nI (n := 6 * k9 + 2) (N := L9) (by omega) (by omega)) dL_law_728 ?_
  refine zz_i (v := v2) ((congrArg xs (nI_clamp (by omega))).trans h2) ?_
  refine lv_aload_n hx hb dL_law_729 rfl (lv_at hl 3 rfl) ?_
  refine lv_iload_n hx hb dL_law_730 rfl (lv_at hl 0 rfl) ?_
  refine lv_iconst (v := 3) hx hb dL_law_731 rfl ?_
  refine lv_iadd hx hb dL_law_732 ?_
  refine zz_i (v := nI (6 * k9 + 3)) (nI_add (6 * k9) 3) ?_
  refine va_sld hx hb hX hbl hbA hS (vp_in_nI (n := 6 * k9 + 3) (N := L9) (by omega) (by omega)) dL_law_733 ?_
  refine zz_i (v := v3) ((congrArg xs (nI_clamp (by omega))).trans h3) ?_
  refine lv_aload_n hx hb dL_law_734 rfl (lv_at hl 3 rfl) ?_
  refine lv_iload_n hx hb dL_law_735 rfl (lv_at hl 0 rfl) ?_
  refine lv_iconst (v := 4) hx hb dL_law_736 rfl ?_
  refine lv_iadd hx hb dL_law_737 ?_
  refine zz_i (v := nI (6 * k9 + 4)) (nI_add (6 * k9) 4) ?_
  refine va_sld hx hb hX hbl hbA hS (vp_in_nI (n := 6 * k9 + 4) (N := L9) (by omega) (by omega)) dL_law_738 ?_
  refine zz_i (v := v4) ((congrArg xs (nI_clamp (by omega))).trans h4) ?_
  exact k
theorem la_18_2 {p : Program} {e : Env} {s : State} {m : MethodId} {below : List Frame} {meth : Method} {c : Code} (l : Launch) {b L9 : Nat} {xs : Nat → Int32} (C0 : lw_At p s m meth c b L9 xs) {x k0 k9 ce sl : Nat} (hk9 : 6 * k9 + 6 ≤ L9) (hL9 : L9 ≤ 3072) {H : Heap} {locs : List Loc} {ls : Array Slot} {rest : List Value} (hS : va_S (fun q : Nat => s.heap.size ≤ q) s.heap H locs) (hl : lv_has ls 4 [(3, .int (nI (6 * k9))), (2, .ref k0), (1, .ref x), (0, .ref b)]) {v1 : Int32} {v2 : Int32} {v3 : Int32} {v4 : Int32} (h1 : xs (6 * k9 + 1) = v1) (h2 : xs (6 * k9 + 2) = v2) (h3 : xs (6 * k9 + 3) = v3) (h4 : xs (6 * k9 + 4) = v4) (k : W p l e room_1 s m #[Value.ref b] below meth c H locs ce sl (lw_Z below #[Value.ref b] s) (F0 m 764 ls (.int v4 :: .int v3 :: .int v2 :: .int v1 :: .ref k0 :: rest))) : W p l e room_1 s m #[Value.ref b] below meth c H locs ce sl (lw_Z below #[Value.ref b] s) (F0 m 743 ls (rest)) := by
  obtain ⟨hx, hb, hr, hml, hown, hts1, hX, hbl, hlocks, hgv⟩ := id C0
  have hbA : ¬ (fun q : Nat => s.heap.size ≤ q) b := Nat.not_le.mpr hbl
  refine lv_aload_n hx hb dL_law_743 rfl (lv_at hl 1 rfl) ?_
  refine lv_aload_n hx hb dL_law_744 rfl (lv_at hl 3 rfl) ?_
  refine lv_iload_n hx hb dL_law_745 rfl (lv_at hl 0 rfl) ?_
  refine lv_iconst (v := 1) hx hb dL_law_746 rfl ?_
  refine lv_iadd hx hb dL_law_747 ?_
  refine zz_i (v := nI (6 * k9 + 1)) (nI_add (6 * k9) 1) ?_
  refine va_sld hx hb hX hbl hbA hS (vp_in_nI (n := 6 * k9 + 1) (N := L9) (by omega) (by omega)) dL_law_748 ?_
  refine zz_i (v := v1) ((congrArg xs (nI_clamp (by omega))).trans h1) ?_
  refine lv_aload_n hx hb dL_law_749 rfl (lv_at hl 3 rfl) ?_
  refine lv_iload_n hx hb dL_law_750 rfl (lv_at hl 0 rfl) ?_
  refine lv_iconst (v := 2) hx hb dL_law_751 rfl ?_
  refine lv_iadd hx hb dL_law_752 ?_
  refine zz_i (v := nI (6 * k9 + 2)) (nI_add (6 * k9) 2) ?_
  refine va_sld hx hb hX hbl hbA hS (vp_in_nI (n := 6 * k9 + 2) (N := L9) (by omega) (by omega)) dL_law_753 ?_
  refine zz_i (v := v2) ((congrArg xs (nI_clamp (by omega))).trans h2) ?_
  refine lv_aload_n hx hb dL_law_754 rfl (lv_at hl 3 rfl) ?_
  refine lv_iload_n hx hb dL_law_755 rfl (lv_at hl 0 rfl) ?_
  refine lv_iconst (v := 3) hx hb dL_law_756 rfl ?_
  refine lv_iadd hx hb dL_law_757 ?_
  refine zz_i (v := nI (6 * k9 + 3)) (nI_add (6 * k9) 3) ?_
  refine va_sld hx hb hX hbl hbA hS (vp_in_nI (n := 6 * k9 + 3) (N := L9) (by omega) (by omega)) dL_law_758 ?_
  refine zz_i (v := v3) ((congrArg xs (nI_clamp (by omega))).trans h3) ?_
  refine lv_aload_n hx hb dL_law_759 rfl (lv_at hl 3 rfl) ?_
  refine lv_iload_n hx hb dL_law_760 rfl (lv_at hl 0 rfl) ?_
  refine lv_iconst (v := 4) hx hb dL_law_761 rfl ?_
  refine lv_iadd hx hb dL_law_762 ?_
  refine zz_i (v := nI (6 * k9 + 4)) (nI_add (6 * k9) 4) ?_
  refine va_sld hx hb hX hbl hbA hS (vp_in_nI (n := 6 * k9 + 4) (N := L9) (by omega) (by omega)) dL_law_763 ?_
  refine zz_i (v := v4) ((congrArg xs (nI_clamp (by omega))).trans h4) ?_
  exact k
theorem la_19_1 {p : Program} {e : Env} {s : State} {m : MethodId} {below : List Frame} {meth : Method} {c : Code} (l : Launch) {b L9 : Nat} {xs : Nat → Int32} (C0 : lw_At p s m meth c b L9 xs) {x k0 k9 ce sl : Nat} (hk9 : 6 * k9 + 6 ≤ L9) (hL9 : L9 ≤ 3072) {H : Heap} {locs : List Loc} {ls : Array Slot} {rest : List Value} (hS : va_S (fun q : Nat => s.heap.size ≤ q) s.heap H locs) (hl : lv_has ls 4 [(3, .int (nI (6 * k9))), (2, .ref k0), (1, .ref x), (0, .ref b)]) {v1 : Int32} {v2 : Int32} {v3 : Int32} (h1 : xs (6 * k9 + 1) = v1) (h2 : xs (6 * k9 + 2) = v2) (h3 : xs (6 * k9 + 3) = v3) (k : W p l e room_1 s m #[Value.ref b] below meth c H locs ce sl (lw_Z below #[Value.ref b] s) (F0 m 787 ls (.int v3 :: .int v2 :: .int v1 :: .ref x :: rest))) : W p l e room_1 s m #[Value.ref b] below meth c H locs ce sl (lw_Z below #[Value.ref b] s) (F0 m 771 ls (rest)) := by
  obtain ⟨hx, hb, hr, hml, hown, hts1, hX, hbl, hlocks, hgv⟩ := id C0
  have hbA : ¬ (fun q : Nat => s.heap.size ≤ q) b := Nat.not_le.mpr hbl
  refine lv_aload_n hx hb dL_law_771 rfl (lv_at hl 2 rfl) ?_
  refine lv_aload_n hx hb dL_law_772 rfl (lv_at hl 3 rfl) ?_
  refine lv_iload_n hx hb dL_law_773 rfl (lv_at hl 0 rfl) ?_
  refine lv_iconst (v := 1) hx hb dL_law_774 rfl ?_
  refine lv_iadd hx hb dL_law_775 ?_
  refine zz_i (v := nI (6 * k9 + 1)) (nI_add (6 * k9) 1) ?_
  refine va_sld hx hb hX hbl hbA hS (vp_in_nI (n := 6 * k9 + 1) (N := L9) (by omega) (by omega)) dL_law_776 ?_
  refine zz_i (v := v1) ((congrArg xs (nI_clamp (by omega))).trans h1) ?_
  refine lv_aload_n hx hb dL_law_777 rfl (lv_at hl 3 rfl) ?_
  refine lv_iload_n hx hb dL_law_778 rfl (lv_at hl 0 rfl) ?_
  refine lv_iconst (v := 2) hx hb dL_law_779 rfl ?_
  refine lv_iadd hx hb dL_law_780 ?_
  refine zz_i (v := nI (6 * k9 + 2)) (nI_add (6 * k9) 2) ?_
  refine va_sld hx hb hX hbl hbA hS (vp_in_nI (n := 6 * k9 + 2) (N := L9) (by omega) (by omega)) dL_law_781 ?_
  refine zz_i (v := v2) ((congrArg xs (nI_clamp (by omega))).trans h2) ?_
  refine lv_aload_n hx hb dL_law_782 rfl (lv_at hl 3 rfl) ?_
  refine lv_iload_n hx hb dL_law_783 rfl (lv_at hl 0 rfl) ?_
  refine lv_iconst (v := 3) hx hb dL_law_784 rfl ?_
  refine lv_iadd hx hb dL_law_785 ?_
  refine zz_i (v := nI (6 * k9 + 3)) (nI_add (6 * k9) 3) ?_
  refine va_sld hx hb hX hbl hbA hS (vp_in_nI (n := 6 * k9 + 3) (N := L9) (by omega) (by omega)) dL_law_786 ?_
  refine zz_i (v := v3) ((congrArg xs (nI_clamp (by omega))).trans h3) ?_
  exact k
theorem la_19_2 {p : Program} {e : Env} {s : State} {m : MethodId} {below : List Frame} {meth : Method} {c : Code} (l : Launch) {b L9 : Nat} {xs : Nat → Int32} (C0 : lw_At p s m meth c b L9 xs) {x k0 k9 ce sl : Nat} (hk9 : 6 * k9 + 6 ≤ L9) (hL9 : L9 ≤ 3072) {H : Heap} {locs : List Loc} {ls : Array Slot} {rest : List Value} (hS : va_S (fun q : Nat => s.heap.size ≤ q) s.heap H locs) (hl : lv_has ls 4 [(3, .int (nI (6 * k9))), (2, .ref k0), (1, .ref x), (0, .ref b)]) {v1 : Int32} {v2 : Int32} {v3 : Int32} (h1 : xs (6 * k9 + 1) = v1) (h2 : xs (6 * k9 + 2) = v2) (h3 : xs (6 * k9 + 3) = v3) (k : W p l e room_1 s m #[Value.ref b] below meth c H locs ce sl (lw_Z below #[Value.ref b] s) (F0 m 807 ls (.int v3 :: .int v2 :: .int v1 :: .ref k0 :: rest))) : W p l e room_1 s m #[Value.ref b] below meth c H locs ce sl (lw_Z below #[Value.ref b] s) (F0 m 791 ls (rest)) := by
  obtain ⟨hx, hb, hr, hml, hown, hts1, hX, hbl, hlocks, hgv⟩ := id C0
  have hbA : ¬ (fun q : Nat => s.heap.size ≤ q) b := Nat.not_le.mpr hbl
  refine lv_aload_n hx hb dL_law_791 rfl (lv_at hl 1 rfl) ?_
  refine lv_aload_n hx hb dL_law_792 rfl (lv_at hl 3 rfl) ?_
  refine lv_iload_n hx hb dL_law_793 rfl (lv_at hl 0 rfl) ?_
  refine lv_iconst (v := 1) hx hb dL_law_794 rfl ?_
  refine lv_iadd hx hb dL_law_795 ?_
  refine zz_i (v := nI (6 * k9 + 1)) (nI_add (6 * k9) 1) ?_
  refine va_sld hx hb hX hbl hbA hS (vp_in_nI (n := 6 * k9 + 1) (N := L9) (by omega) (by omega)) dL_law_796 ?_
  refine zz_i (v := v1) ((congrArg xs (nI_clamp (by omega))).trans h1) ?_
  refine lv_aload_n hx hb dL_law_797 rfl (lv_at hl 3 rfl) ?_
  refine lv_iload_n hx hb dL_law_798 rfl (lv_at hl 0 rfl) ?_
  refine lv_iconst (v := 2) hx hb dL_law_799 rfl ?_
  refine lv_iadd hx hb dL_law_800 ?_
  refine zz_i (v := nI (6 * k9 + 2)) (nI_add (6 * k9) 2) ?_
  refine va_sld hx hb hX hbl hbA hS (vp_in_nI (n := 6 * k9 + 2) (N := L9) (by omega) (by omega)) dL_law_801 ?_
  refine zz_i (v := v2) ((congrArg xs (nI_clamp (by omega))).trans h2) ?_
  refine lv_aload_n hx hb dL_law_802 rfl (lv_at hl 3 rfl) ?_
  refine lv_iload_n hx hb dL_law_803 rfl (lv_at hl 0 rfl) ?_
  refine lv_iconst (v := 3) hx hb dL_law_804 rfl ?_
  refine lv_iadd hx hb dL_law_805 ?_
  refine zz_i (v := nI (6 * k9 + 3)) (nI_add (6 * k9) 3) ?_
  refine va_sld hx hb hX hbl hbA hS (vp_in_nI (n := 6 * k9 + 3) (N := L9) (by omega) (by omega)) dL_law_806 ?_
  refine zz_i (v := v3) ((congrArg xs (nI_clamp (by omega))).trans h3) ?_
  exact k
theorem la_20_1 {p : Program} {e : Env} {s : State} {m : MethodId} {below : List Frame} {meth : Method} {c : Code} (l : Launch) {b L9 : Nat} {xs : Nat → Int32} (C0 : lw_At p s m meth c b L9 xs) {x k0 k9 ce sl : Nat} (hk9 : 6 * k9 + 6 ≤ L9) (hL9 : L9 ≤ 3072) {H : Heap} {locs : List Loc} {ls : Array Slot} {rest : List Value} (hS : va_S (fun q : Nat => s.heap.size ≤ q) s.heap H locs) (hl : lv_has ls 4 [(3, .int (nI (6 * k9))), (2, .ref k0), (1, .ref x), (0, .ref b)]) {v1 : Int32} (h1 : xs (6 * k9 + 1) = v1) (k : W p l e room_1 s m #[Value.ref b] below meth c H locs ce sl (lw_Z below #[Value.ref b] s) (F0 m 820 ls (.int v1 :: .ref x :: rest))) : W p l e room_1 s m #[Value.ref b] below meth c H locs ce sl (lw_Z below #[Value.ref b] s) (F0 m 814 ls (rest)) := by
  obtain ⟨hx, hb, hr, hml, hown, hts1, hX, hbl, hlocks, hgv⟩ := id C0
  have hbA : ¬ (fun q : Nat => s.heap.size ≤ q) b := Nat.not_le.mpr hbl
  refine lv_aload_n hx hb dL_law_814 rfl (lv_at hl 2 rfl) ?_
  refine lv_aload_n hx hb dL_law_815 rfl (lv_at hl 3 rfl) ?_
  refine lv_iload_n hx hb dL_law_816 rfl (lv_at hl 0 rfl) ?_
  refine lv_iconst (v := 1) hx hb dL_law_817 rfl ?_
  refine lv_iadd hx hb dL_law_818 ?_
  refine zz_i (v := nI (6 * k9 + 1)) (nI_add (6 * k9) 1) ?_
  refine va_sld hx hb hX hbl hbA hS (vp_in_nI (n := 6 * k9 + 1) (N := L9) (by omega) (by omega)) dL_law_819 ?_
  refine zz_i (v := v1) ((congrArg xs (nI_clamp (by omega))).trans h1) ?_
  exact k
theorem la_20_2 {p : Program} {e : Env} {s : State} {m : MethodId} {below : List Frame} {meth : Method} {c : Code} (l : Launch) {b L9 : Nat} {xs : Nat → Int32} (C0 : lw_At p s m meth c b L9 xs) {x k0 k9 ce sl : Nat} (hk9 : 6 * k9 + 6 ≤ L9) (hL9 : L9 ≤ 3072) {H : Heap} {locs : List Loc} {ls : Array Slot} {rest : List Value} (hS : va_S (fun q : Nat => s.heap.size ≤ q) s.heap H locs) (hl : lv_has ls 4 [(3, .int (nI (6 * k9))), (2, .ref k0), (1, .ref x), (0, .ref b)]) {v1 : Int32} (h1 : xs (6 * k9 + 1) = v1) (k : W p l e room_1 s m #[Value.ref b] below meth c H locs ce sl (lw_Z below #[Value.ref b] s) (F0 m 830 ls (.int v1 :: .ref k0 :: rest))) : W p l e room_1 s m #[Value.ref b] below meth c H locs ce sl (lw_Z below #[Value.ref b] s) (F0 m 824 ls (rest)) := by
  obtain ⟨hx, hb, hr, hml, hown, hts1, hX, hbl, hlocks, hgv⟩ := id C0
  have hbA : ¬ (fun q : Nat => s.heap.size ≤ q) b := Nat.not_le.mpr hbl
  refine lv_aload_n hx hb dL_law_824 rfl (lv_at hl 1 rfl) ?_
  refine lv_aload_n hx hb dL_law_825 rfl (lv_at hl 3 rfl) ?_
  refine lv_iload_n hx hb dL_law_826 rfl (lv_at hl 0 rfl) ?_
  refine lv_iconst (v := 1) hx hb dL_law_827 rfl ?_
  refine lv_iadd hx hb dL_law_828 ?_
  refine zz_i (v := nI (6 * k9 + 1)) (nI_add (6 * k9) 1) ?_
  refine va_sld hx hb hX hbl hbA hS (vp_in_nI (n := 6 * k9 + 1) (N := L9) (by omega) (by omega)) dL_law_829 ?_
  refine zz_i (v := v1) ((congrArg xs (nI_clamp (by omega))).trans h1) ?_
  exact k
theorem la_21_1 {p : Program} {e : Env} {s : State} {m : MethodId} {below : List Frame} {meth : Method} {c : Code} (l : Launch) {b L9 : Nat} {xs : Nat → Int32} (C0 : lw_At p s m meth c b L9 xs) {x k0 k9 ce sl : Nat} (hk9 : 6 * k9 + 6 ≤ L9) (hL9 : L9 ≤ 3072) {H : Heap} {locs : List Loc} {ls : Array Slot} {rest : List Value} (hS : va_S (fun q : Nat => s.heap.size ≤ q) s.heap H locs) (hl : lv_has ls 4 [(3, .int (nI (6 * k9))), (2, .ref k0), (1, .ref x), (0, .ref b)]) {v1 : Int32} {v2 : Int32} {v3 : Int32} (h1 : xs (6 * k9 + 1) = v1) (h2 : xs (6 * k9 + 2) = v2) (h3 : xs (6 * k9 + 3) = v3) (k : W p l e room_1 s m #[Value.ref b] below meth c H locs ce sl (lw_Z below #[Value.ref b] s) (F0 m 853 ls (.int v3 :: .int v2 :: .int v1 :: .ref x :: rest))) : W p l e room_1 s m #[Value.ref b] below meth c H locs ce sl (lw_Z below #[Value.ref b] s) (F0 m 837 ls (rest)) := by
  obtain ⟨hx, hb, hr, hml, hown, hts1, hX, hbl, hlocks, hgv⟩ := id C0
  have hbA : ¬ (fun q : Nat => s.heap.size ≤ q) b := Nat.not_le.mpr hbl
  refine lv_aload_n hx hb dL_law_837 rfl (lv_at hl 2 rfl) ?_
  refine lv_aload_n hx hb dL_law_838 rfl (lv_at hl 3 rfl) ?_
  refine lv_iload_n hx hb dL_law_839 rfl (lv_at hl 0 rfl) ?_
  refine lv_iconst (v := 1) hx hb dL_law_840 rfl ?_
  refine lv_iadd hx hb dL_law_841 ?_
  refine zz_i (v := nI (6 * k9 + 1)) (nI_add (6 * k9) 1) ?_
  refine va_sld hx hb hX hbl hbA hS (vp_in_nI (n := 6 * k9 + 1) (N := L9) (by omega) (by omega)) dL_law_842 ?_
  refine zz_i (v := v1) ((congrArg xs (nI_clamp (by omega))).trans h1) ?_
  refine lv_aload_n hx hb dL_law_843 rfl (lv_at hl 3 rfl) ?_
  refine lv_iload_n hx hb dL_law_844 rfl (lv_at hl 0 rfl) ?_
  refine lv_iconst (v := 2) hx hb dL_law_845 rfl ?_
  refine lv_iadd hx hb dL_law_846 ?_
  refine zz_i (v := nI (6 * k9 + 2)) (nI_add (6 * k9) 2) ?_
  refine va_sld hx hb hX hbl hbA hS (vp_in_nI (n := 6 * k9 + 2) (N := L9) (by omega) (by omega)) dL_law_847 ?_
  refine zz_i (v := v2) ((congrArg xs (nI_clamp (by omega))).trans h2) ?_
  refine lv_aload_n hx hb dL_law_848 rfl (lv_at hl 3 rfl) ?_
  refine lv_iload_n hx hb dL_law_849 rfl (lv_at hl 0 rfl) ?_
  refine lv_iconst (v := 3) hx hb dL_law_850 rfl ?_
  refine lv_iadd hx hb dL_law_851 ?_
  refine zz_i (v := nI (6 * k9 + 3)) (nI_add (6 * k9) 3) ?_
  refine va_sld hx hb hX hbl hbA hS (vp_in_nI (n := 6 * k9 + 3) (N := L9) (by omega) (by omega)) dL_law_852 ?_
  refine zz_i (v := v3) ((congrArg xs (nI_clamp (by omega))).trans h3) ?_
  exact k
theorem la_21_2 {p : Program} {e : Env} {s : State} {m : MethodId} {below : List Frame} {meth : Method} {c : Code} (l : Launch) {b L9 : Nat} {xs : Nat → Int32} (C0 : lw_At p s m meth c b L9 xs) {x k0 k9 ce sl : Nat} (hk9 : 6 * k9 + 6 ≤ L9) (hL9 : L9 ≤ 3072) {H : Heap} {locs : List Loc} {ls : Array Slot} {rest : List Value} (hS : va_S (fun q : Nat => s.heap.size ≤ q) s.heap H locs) (hl : lv_has ls 4 [(3, .int (nI (6 * k9))), (2, .ref k0), (1, .ref x), (0, .ref b)]) {v1 : Int32} {v2 : Int32} {v3 : Int32} (h1 : xs (6 * k9 + 1) = v1) (h2 : xs (6 * k9 + 2) = v2) (h3 : xs (6 * k9 + 3) = v3) (k : W p l e room_1 s m #[Value.ref b] below meth c H locs ce sl (lw_Z below #[Value.ref b] s) (F0 m 873 ls (.int v3 :: .int v2 :: .int v1 :: .ref k0 :: rest))) : W p l e room_1 s m #[Value.ref b] below meth c H locs ce sl (lw_Z below #[Value.ref b] s) (F0 m 857 ls (rest)) := by
  obtain ⟨hx, hb, hr, hml, hown, hts1, hX, hbl, hlocks, hgv⟩ := id C0
  have hbA : ¬ (fun q : Nat => s.heap.size ≤ q) b := Nat.not_le.mpr hbl
  refine lv_aload_n hx hb dL_law_857 rfl (lv_at hl 1 rfl) ?_
  refine lv_aload_n hx hb dL_law_858 rfl (lv_at hl 3 rfl) ?_
  refine lv_iload_n hx hb dL_law_859 rfl (lv_at hl 0 rfl) ?_
  refine lv_iconst (v := 1) hx hb dL_law_860 rfl ?_
  refine lv_iadd hx hb dL_law_861 ?_
  refine zz_i (v := nI (6 * k9 + 1)) (nI_add (6 * k9) 1) ?_
  refine va_sld hx hb hX hbl hbA hS (vp_in_nI (n := 6 * k9 + 1) (N := L9) (by omega) (by omega)) dL_law_862 ?_
  refine zz_i (v := v1) ((congrArg xs (nI_clamp (by omega))).trans h1) ?_
  refine lv_aload_n hx hb dL_law_863 rfl (lv_at hl 3 rfl) ?_
  refine lv_iload_n hx hb dL_law_864 rfl (lv_at hl 0 rfl) ?_
  refine lv_iconst (v := 2) hx hb dL_law_865 rfl ?_
  refine lv_iadd hx hb dL_law_866 ?_
  refine zz_i (v := nI (6 * k9 + 2)) (nI_add (6 * k9) 2) ?_
  refine va_sld hx hb hX hbl hbA hS (vp_in_nI (n := 6 * k9 + 2) (N := L9) (by omega) (by omega)) dL_law_867 ?_
  refine zz_i (v := v2) ((congrArg xs (nI_clamp (by omega))).trans h2) ?_
  refine lv_aload_n hx hb dL_law_868 rfl (lv_at hl 3 rfl) ?_
  refine lv_iload_n hx hb dL_law_869 rfl (lv_at hl 0 rfl) ?_
  refine lv_iconst (v := 3) hx hb dL_law_870 rfl ?_
  refine lv_iadd hx hb dL_law_871 ?_
  refine zz_i (v := nI (6 * k9 + 3)) (nI_add (6 * k9) 3) ?_
  refine va_sld hx hb hX hbl hbA hS (vp_in_nI (n := 6 * k9 + 3) (N := L9) (by omega) (by omega)) dL_law_872 ?_
  refine zz_i (v := v3) ((congrArg xs (nI_clamp (by omega))).trans h3) ?_
  exact k
theorem la_22_1 {p : Program} {e : Env} {s : State} {m : MethodId} {below : List Frame} {meth : Method} {c : Code} (l : Launch) {b L9 : Nat} {xs : Nat → Int32} (C0 : lw_At p s m meth c b L9 xs) {x k0 k9 ce sl : Nat} (hk9 : 6 * k9 + 6 ≤ L9) (hL9 : L9 ≤ 3072) {H : Heap} {locs : List Loc} {ls : Array Slot} {rest : List Value} (hS : va_S (fun q : Nat => s.heap.size ≤ q) s.heap H locs) (hl : lv_has ls 4 [(3, .int (nI (6 * k9))), (2, .ref k0), (1, .ref x), (0, .ref b)]) {v1 : Int32} {v2 : Int32} (h1 : xs (6 * k9 + 1) = v1) (h2 : xs (6 * k9 + 2) = v2) (k : W p l e room_1 s m #[Value.ref b] below meth c H locs ce sl (lw_Z below #[Value.ref b] s) (F0 m 891 ls (.int v2 :: .int v1 :: .ref x :: rest))) : W p l e room_1 s m #[Value.ref b] below meth c H locs ce sl (lw_Z below #[Value.ref b] s) (F0 m 880 ls (rest)) := by
  obtain ⟨hx, hb, hr, hml, hown, hts1, hX, hbl, hlocks, hgv⟩ := id C0
  have hbA : ¬ (fun q : Nat => s.heap.size ≤ q) b := Nat.not_le.mpr hbl
  refine lv_aload_n hx hb dL_law_880 rfl (lv_at hl 2 rfl) ?_
  refine lv_aload_n hx hb dL_law_881 rfl (lv_at hl 3 rfl) ?_
  refine lv_iload_n hx hb dL_law_882 rfl (lv_at hl 0 rfl) ?_
  refine lv_iconst (v := 1) hx hb dL_law_883 rfl ?_
  refine lv_iadd hx hb dL_law_884 ?_
  refine zz_i (v := nI (6 * k9 + 1)) (nI_add (6 * k9) 1) ?_
  refine va_sld hx hb hX hbl hbA hS (vp_in_nI (n := 6 * k9 + 1) (N := L9) (by omega) (by omega)) dL_law_885 ?_
  refine zz_i (v := v1) ((congrArg xs (nI_clamp (by omega))).trans h1) ?_
  refine lv_aload_n hx hb dL_law_886 rfl (lv_at hl 3 rfl) ?_
  refine lv_iload_n hx hb dL_law_887 rfl (lv_at hl 0 rfl) ?_
  refine lv_iconst (v := 2) hx hb dL_law_888 rfl ?_
  refine lv_iadd hx hb dL_law_889 ?_
  refine zz_i (v := nI (6 * k9 + 2)) (nI_add (6 * k9) 2) ?_
  refine va_sld hx hb hX hbl hbA hS (vp_in_nI (n := 6 * k9 + 2) (N := L9) (by omega) (by omega)) dL_law_890 ?_
  refine zz_i (v := v2) ((congrArg xs (nI_clamp (by omega))).trans h2) ?_
  exact k
theorem la_22_2 {p : Program} {e : Env} {s : State} {m : MethodId} {below : List Frame} {meth : Method} {c : Code} (l : Launch) {b L9 : Nat} {xs : Nat → Int32} (C0 : lw_At p s m meth c b L9 xs) {x k0 k9 ce sl : Nat} (hk9 : 6 * k9 + 6 ≤ L9) (hL9 : L9 ≤ 3072) {H : Heap} {locs : List Loc} {ls : Array Slot} {rest : List Value} (hS : va_S (fun q : Nat => s.heap.size ≤ q) s.heap H locs) (hl : lv_has ls 4 [(3, .int (nI (6 * k9))), (2, .ref k0), (1, .ref x), (0, .ref b)]) {v1 : Int32} {v2 : Int32} (h1 : xs (6 * k9 + 1) = v1) (h2 : xs (6 * k9 + 2) = v2) (k : W p l e room_1 s m #[Value.ref b] below meth c H locs ce sl (lw_Z below #[Value.ref b] s) (F0 m 906 ls (.int v2 :: .int v1 :: .ref k0 :: rest))) : W p l e room_1 s m #[Value.ref b] below meth c H locs ce sl (lw_Z below #[Value.ref b] s) (F0 m 895 ls (rest)) := by
  obtain ⟨hx, hb, hr, hml, hown, hts1, hX, hbl, hlocks, hgv⟩ := id C0
  have hbA : ¬ (fun q : Nat => s.heap.size ≤ q) b := Nat.not_le.mpr hbl
  refine lv_aload_n hx hb dL_law_895 rfl (lv_at hl 1 rfl) ?_
  refine lv_aload_n hx hb dL_law_896 rfl (lv_at hl 3 rfl) ?_
  refine lv_iload_n hx hb dL_law_897 rfl (lv_at hl 0 rfl) ?_
  refine lv_iconst (v := 1) hx hb dL_law_898 rfl ?_
  refine lv_iadd hx hb dL_law_899 ?_
  refine zz_i (v := nI (6 * k9 + 1)) (nI_add (6 * k9) 1) ?_
  refine va_sld hx hb hX hbl hbA hS (vp_in_nI (n := 6 * k9 + 1) (N := L9) (by omega) (by omega)) dL_law_900 ?_
  refine zz_i (v := v1) ((congrArg xs (nI_clamp (by omega))).trans h1) ?_
  refine lv_aload_n hx hb dL_law_901 rfl (lv_at hl 3 rfl) ?_
  refine lv_iload_n hx hb dL_law_902 rfl (lv_at hl 0 rfl) ?_
  refine lv_iconst (v := 2) hx hb dL_law_903 rfl ?_
  refine lv_iadd hx hb dL_law_904 ?_
  refine zz_i (v := nI (6 * k9 + 2)) (nI_add (6 * k9) 2) ?_
  refine va_sld hx hb hX hbl hbA hS (vp_in_nI (n := 6 * k9 + 2) (N := L9) (by omega) (by omega)) dL_law_905 ?_
  refine zz_i (v := v2) ((congrArg xs (nI_clamp (by omega))).trans h2) ?_
  exact k
theorem la_23_1 {p : Program} {e : Env} {s : State} {m : MethodId} {below : List Frame} {meth : Method} {c : Code} (l : Launch) {b L9 : Nat} {xs : Nat → Int32} (C0 : lw_At p s m meth c b L9 xs) {x k0 k9 ce sl : Nat} (hk9 : 6 * k9 + 6 ≤ L9) (hL9 : L9 ≤ 3072) {H : Heap} {locs : List Loc} {ls : Array Slot} {rest : List Value} (hS : va_S (fun q : Nat => s.heap.size ≤ q) s.heap H locs) (hl : lv_has ls 4 [(3, .int (nI (6 * k9))), (2, .ref k0), (1, .ref x), (0, .ref b)]) {v1 : Int32} (h1 : xs (6 * k9 + 1) = v1) (k : W p l e room_1 s m #[Value.ref b] below meth c H locs ce sl (lw_Z below #[Value.ref b] s) (F0 m 919 ls (.int v1 :: .ref x :: rest))) : W p l e room_1 s m #[Value.ref b] below meth c H locs ce sl (lw_Z below #[Value.ref b] s) (F0 m 913 ls (rest)) := by
  obtain ⟨hx, hb, hr, hml, hown, hts1, hX, hbl, hlocks, hgv⟩ := id C0
  have hbA : ¬ (fun q : Nat => s.heap.size ≤ q) b := Nat.not_le.mpr hbl
  refine lv_aload_n hx hb dL_law_913 rfl (lv_at hl 2 rfl) ?_
  refine lv_aload_n hx hb dL_law_914 rfl (lv_at hl 3 rfl) ?_
  refine lv_iload_n hx hb dL_law_915 rfl (lv_at hl 0 rfl) ?_
  refine lv_iconst (v := 1) hx hb dL_law_916 rfl ?_
  refine lv_iadd hx hb dL_law_917 ?_
  refine zz_i (v := nI (6 * k9 + 1)) (nI_add (6 * k9) 1) ?_
  refine va_sld hx hb hX hbl hbA hS (vp_in_nI (n := 6 * k9 + 1) (N := L9) (by omega) (by omega)) dL_law_918 ?_
  refine zz_i (v := v1) ((congrArg xs (nI_clamp (by omega))).trans h1) ?_
  exact k
theorem la_23_2 {p : Program} {e : Env} {s : State} {m : MethodId} {below : List Frame} {meth : Method} {c : Code} (l : Launch) {b L9 : Nat} {xs : Nat → Int32} (C0 : lw_At p s m meth c b L9 xs) {x k0 k9 ce sl : Nat} (hk9 : 6 * k9 + 6 ≤ L9) (hL9 : L9 ≤ 3072) {H : Heap} {locs : List Loc} {ls : Array Slot} {rest : List Value} (hS : va_S (fun q : Nat => s.heap.size ≤ q) s.heap H locs) (hl : lv_has ls 4 [(3, .int (nI (6 * k9))), (2, .ref k0), (1, .ref x), (0, .ref b)]) {v1 : Int32} (h1 : xs (6 * k9 + 1) = v1) (k : W p l e room_1 s m #[Value.ref b] below meth c H locs ce sl (lw_Z below #[Value.ref b] s) (F0 m 929 ls (.int v1 :: .ref k0 :: rest))) : W p l e room_1 s m #[Value.ref b] below meth c H locs ce sl (lw_Z below #[Value.ref b] s) (F0 m 923 ls (rest)) := by
  obtain ⟨hx, hb, hr, hml, hown, hts1, hX, hbl, hlocks, hgv⟩ := id C0
  have hbA : ¬ (fun q : Nat => s.heap.size ≤ q) b := Nat.not_le.mpr hbl
  refine lv_aload_n hx hb dL_law_923 rfl (lv_at hl 1 rfl) ?_
  refine lv_aload_n hx hb dL_law_924 rfl (lv_at hl 3 rfl) ?_
  refine lv_iload_n hx hb dL_law_925 rfl (lv_at hl 0 rfl) ?_
  refine lv_iconst (v := 1) hx hb dL_law_926 rfl ?_
  refine lv_iadd hx hb dL_law_927 ?_
  refine zz_i (v := nI (6 * k9 + 1)) (nI_add (6 * k9) 1) ?_
  refine va_sld hx hb hX hbl hbA hS (vp_in_nI (n := 6 * k9 + 1) (N := L9) (by omega) (by omega)) dL_law_928 ?_
  refine zz_i (v := v1) ((congrArg xs (nI_clamp (by omega))).trans h1) ?_
  exact k
theorem la_24_1 {p : Program} {e : Env} {s : State} {m : MethodId} {below : List Frame} {meth : Method} {c : Code} (l : Launch) {b L9 : Nat} {xs : Nat → Int32} (C0 : lw_At p s m meth c b L9 xs) {x k0 k9 ce sl : Nat} (hk9 : 6 * k9 + 6 ≤ L9) (hL9 : L9 ≤ 3072) {H : Heap} {locs : List Loc} {ls : Array Slot} {rest : List Value} (hS : va_S (fun q : Nat => s.heap.size ≤ q) s.heap H locs) (hl : lv_has ls 4 [(3, .int (nI (6 * k9))), (2, .ref k0), (1, .ref x), (0, .ref b)]) {v1 : Int32} {v2 : Int32} {v3 : Int32} (h1 : xs (6 * k9 + 1) = v1) (h2 : xs (6 * k9 + 2) = v2) (h3 : xs (6 * k9 + 3) = v3) (k : W p l e room_1 s m #[Value.ref b] below meth c H locs ce sl (lw_Z below #[Value.ref b] s) (F0 m 952 ls (.int v3 :: .int v2 :: .int v1 :: .ref x :: rest))) : W p l e room_1 s m #[Value.ref b] below meth c H locs ce sl (lw_Z below #[Value.ref b] s) (F0 m 936 ls (rest)) := by
  obtain ⟨hx, hb, hr, hml, hown, hts1, hX, hbl, hlocks, hgv⟩ := id C0
  have hbA : ¬ (fun q : Nat => s.heap.size ≤ q) b := Nat.not_le.mpr hbl
  refine lv_aload_n hx hb dL_law_936 rfl (lv_at hl 2 rfl) ?_
  refine lv_aload_n hx hb dL_law_937 rfl (lv_at hl 3 rfl) ?_
  refine lv_iload_n hx hb dL_law_938 rfl (lv_at hl 0 rfl) ?_
  refine lv_iconst (v := 1) hx hb dL_law_939 rfl ?_
  refine lv_iadd hx hb dL_law_940 ?_
  refine zz_i (v := nI (6 * k9 + 1)) (nI_add (6 * k9) 1) ?_
  refine va_sld hx hb hX hbl hbA hS (vp_in_nI (n := 6 * k9 + 1) (N := L9) (by omega) (by omega)) dL_law_941 ?_
  refine zz_i (v := v1) ((congrArg xs (nI_clamp (by omega))).trans h1) ?_
  refine lv_aload_n hx hb dL_law_942 rfl (lv_at hl 3 rfl) ?_
  refine lv_iload_n hx hb dL_law_943 rfl (lv_at hl 0 rfl) ?_
  refine lv_iconst (v := 2) hx hb dL_law_944 rfl ?_
  refine lv_iadd hx hb dL_law_945 ?_
  refine zz_i (v := nI (6 * k9 + 2)) (nI_add (6 * k9) 2) ?_
  refine va_sld hx hb hX hbl hbA hS (vp_in_nI (n := 6 * k9 + 2) (N := L9) (by omega) (by omega)) dL_law_946 ?_
  refine zz_i (v := v2) ((congrArg xs (nI_clamp (by omega))).trans h2) ?_
  refine lv_aload_n hx hb dL_law_947 rfl (lv_at hl 3 rfl) ?_
  refine lv_iload_n hx hb dL_law_948 rfl (lv_at hl 0 rfl) ?_
  refine lv_iconst (v := 3) hx hb dL_law_949 rfl ?_
  refine lv_iadd hx hb dL_law_950 ?_
  refine zz_i (v := nI (6 * k9 + 3)) (nI_add (6 * k9) 3) ?_
  refine va_sld hx hb hX hbl hbA hS (vp_in_nI (n := 6 * k9 + 3) (N := L9) (by omega) (by omega)) dL_law_951 ?_
  refine zz_i (v := v3) ((congrArg xs (nI_clamp (by omega))).trans h3) ?_
  exact k
theorem la_24_2 {p : Program} {e : Env} {s : State} {m : MethodId} {below : List Frame} {meth : Method} {c : Code} (l : Launch) {b L9 : Nat} {xs : Nat → Int32} (C0 : lw_At p s m meth c b L9 xs) {x k0 k9 ce sl : Nat} (hk9 : 6 * k9 + 6 ≤ L9) (hL9 : L9 ≤ 3072) {H : Heap} {locs : List Loc} {ls : Array Slot} {rest : List Value} (hS : va_S (fun q : Nat => s.heap.size ≤ q) s.heap H locs) (hl : lv_has ls 4 [(3, .int (nI (6 * k9))), (2, .ref k0), (1, .ref x), (0, .ref b)]) {v1 : Int32} {v2 : Int32} {v3 : Int32} (h1 : xs (6 * k9 + 1) = v1) (h2 : xs (6 * k9 + 2) = v2) (h3 : xs (6 * k9 + 3) = v3) (k : W p l e room_1 s m #[Value.ref b] below meth c H locs ce sl (lw_Z below #[Value.ref b] s) (F0 m 972 ls (.int v3 :: .int v2 :: .int v1 :: .ref k0 :: rest))) : W p l e room_1 s m #[Value.ref b] below meth c H locs ce sl (lw_Z below #[Value.ref b] s) (F0 m 956 ls (rest)) := by
  obtain ⟨hx, hb, hr, hml, hown, hts1, hX, hbl, hlocks, hgv⟩ := id C0
  have hbA : ¬ (fun q : Nat => s.heap.size ≤ q) b := Nat.not_le.mpr hbl
  refine lv_aload_n hx hb dL_law_956 rfl (lv_at hl 1 rfl) ?_
  refine lv_aload_n hx hb dL_law_957 rfl (lv_at hl 3 rfl) ?_
  refine lv_iload_n hx hb dL_law_958 rfl (lv_at hl 0 rfl) ?_
  refine lv_iconst (v := 1) hx hb dL_law_959 rfl ?_
  refine lv_iadd hx hb dL_law_960 ?_
  refine zz_i (v := nI (6 * k9 + 1)) (nI_add (6 * k9) 1) ?_
  refine va_sld hx hb hX hbl hbA hS (vp_in_nI (n := 6 * k9 + 1) (N := L9) (by omega) (by omega)) dL_law_961 ?_
  refine zz_i (v := v1) ((congrArg xs (nI_clamp (by omega))).trans h1) ?_
  refine lv_aload_n hx hb dL_law_962 rfl (lv_at hl 3 rfl) ?_
  refine lv_iload_n hx hb dL_law_963 rfl (lv_at hl 0 rfl) ?_
  refine lv_iconst (v := 2) hx hb dL_law_964 rfl ?_
  refine lv_iadd hx hb dL_law_965 ?_
  refine zz_i (v := nI (6 * k9 + 2)) (nI_add (6 * k9) 2) ?_
  refine va_sld hx hb hX hbl hbA hS (vp_in_nI (n := 6 * k9 + 2) (N := L9) (by omega) (by omega)) dL_law_966 ?_
  refine zz_i (v := v2) ((congrArg xs (nI_clamp (by omega))).trans h2) ?_
  refine lv_aload_n hx hb dL_law_967 rfl (lv_at hl 3 rfl) ?_
  refine lv_iload_n hx hb dL_law_968 rfl (lv_at hl 0 rfl) ?_
  refine lv_iconst (v := 3) hx hb dL_law_969 rfl ?_
  refine lv_iadd hx hb dL_law_970 ?_
  refine zz_i (v := nI (6 * k9 + 3)) (nI_add (6 * k9) 3) ?_
  refine va_sld hx hb hX hbl hbA hS (vp_in_nI (n := 6 * k9 + 3) (N := L9) (by omega) (by omega)) dL_law_971 ?_
  refine zz_i (v := v3) ((congrArg xs (nI_clamp (by omega))).trans h3) ?_
  exact k
theorem la_25_1 {p : Program} {e : Env} {s : State} {m : MethodId} {below : List Frame} {meth : Method} {c : Code} (l : Launch) {b L9 : Nat} {xs : Nat → Int32} (C0 : lw_At p s m meth c b L9 xs) {x k0 k9 ce sl : Nat} (hk9 : 6 * k9 + 6 ≤ L9) (hL9 : L9 ≤ 3072) {H : Heap} {locs : List Loc} {ls : Array Slot} {rest : List Value} (hS : va_S (fun q : Nat => s.heap.size ≤ q) s.heap H locs) (hl : lv_has ls 4 [(3, .int (nI (6 * k9))), (2, .ref k0), (1, .ref x), (0, .ref b)]) {v1 : Int32} {v2 : Int32} (h1 : xs (6 * k9 + 1) = v1) (h2 : xs (6 * k9 + 2) = v2) (k : W p l e room_1 s m #[Value.ref b] below meth c H locs ce sl (lw_Z below #[Value.ref b] s) (F0 m 990 ls (.int v2 :: .int v1 :: .ref x :: rest))) : W p l e room_1 s m #[Value.ref b] below meth c H locs ce sl (lw_Z below #[Value.ref b] s) (F0 m 979 ls (rest)) := by
  obtain ⟨hx, hb, hr, hml, hown, hts1, hX, hbl, hlocks, hgv⟩ := id C0
  have hbA : ¬ (fun q : Nat => s.heap.size ≤ q) b := Nat.not_le.mpr hbl
  refine lv_aload_n hx hb dL_law_979 rfl (lv_at hl 2 rfl) ?_
  refine lv_aload_n hx hb dL_law_980 rfl (lv_at hl 3 rfl) ?_
  refine lv_iload_n hx hb dL_law_981 rfl (lv_at hl 0 rfl) ?_
  refine lv_iconst (v := 1) hx hb dL_law_982 rfl ?_
  refine lv_iadd hx hb dL_law_983 ?_
  refine zz_i (v := nI (6 * k9 + 1)) (nI_add (6 * k9) 1) ?_
  refine va_sld hx hb hX hbl hbA hS (vp_in_nI (n := 6 * k9 + 1) (N := L9) (by omega) (by omega)) dL_law_984 ?_
  refine zz_i (v := v1) ((congrArg xs (nI_clamp (by omega))).trans h1) ?_
  refine lv_aload_n hx hb dL_law_985 rfl (lv_at hl 3 rfl) ?_
  refine lv_iload_n hx hb dL_law_986 rfl (lv_at hl 0 rfl) ?_
  refine lv_iconst (v := 2) hx hb dL_law_987 rfl ?_
  refine lv_iadd hx hb dL_law_988 ?_
  refine zz_i (v := nI (6 * k9 + 2)) (nI_add (6 * k9) 2) ?_
  refine va_sld hx hb hX hbl hbA hS (vp_in_nI (n := 6 * k9 + 2) (N := L9) (by omega) (by omega)) dL_law_989 ?_
  refine zz_i (v := v2) ((congrArg xs (nI_clamp (by omega))).trans h2) ?_
  exact k
theorem la_25_2 {p : Program} {e : Env} {s : State} {m : MethodId} {below : List Frame} {meth : Method} {c : Code} (l : Launch) {b L9 : Nat} {xs : Nat → Int32} (C0 : lw_At p s m meth c b L9 xs) {x k0 k9 ce sl : Nat} (hk9 : 6 * k9 + 6 ≤ L9) (hL9 : L9 ≤ 3072) {H : Heap} {locs : List Loc} {ls : Array Slot} {rest : List Value} (hS : va_S (fun q : Nat => s.heap.size ≤ q) s.heap H locs) (hl : lv_has ls 4 [(3, .int (nI (6 * k9))), (2, .ref k0), (1, .ref x), (0, .ref b)]) {v1 : Int32} {v2 : Int32} (h1 : xs (6 * k9 + 1) = v1) (h2 : xs (6 * k9 + 2) = v2) (k : W p l e room_1 s m #[Value.ref b] below meth c H locs ce sl (lw_Z below #[Value.ref b] s) (F0 m 1005 ls (.int v2 :: .int v1 :: .ref k0 :: rest))) : W p l e room_1 s m #[Value.ref b] below meth c H locs ce sl (lw_Z below #[Value.ref b] s) (F0 m 994 ls (rest)) := by
  obtain ⟨hx, hb, hr, hml, hown, hts1, hX, hbl, hlocks, hgv⟩ := id C0
  have hbA : ¬ (fun q : Nat => s.heap.size ≤ q) b := Nat.not_le.mpr hbl
  refine lv_aload_n hx hb dL_law_994 rfl (lv_at hl 1 rfl) ?_
  refine lv_aload_n hx hb dL_law_995 rfl (lv_at hl 3 rfl) ?_
  refine lv_iload_n hx hb dL_law_996 rfl (lv_at hl 0 rfl) ?_
  refine lv_iconst (v := 1) hx hb dL_law_997 rfl ?_
  refine lv_iadd hx hb dL_law_998 ?_
  refine zz_i (v := nI (6 * k9 + 1)) (nI_add (6 * k9) 1) ?_
  refine va_sld hx hb hX hbl hbA hS (vp_in_nI (n := 6 * k9 + 1) (N := L9) (by omega) (by omega)) dL_law_999 ?_
  refine zz_i (v := v1) ((congrArg xs (nI_clamp (by omega))).trans h1) ?_
  refine lv_aload_n hx hb dL_law_1000 rfl (lv_at hl 3 rfl) ?_
  refine lv_iload_n hx hb dL_law_1001 rfl (lv_at hl 0 rfl) ?_
  refine lv_iconst (v := 2) hx hb dL_law_1002 rfl ?_
  refine lv_iadd hx hb dL_law_1003 ?_
  refine zz_i (v := nI (6 * k9 + 2)) (nI_add (6 * k9) 2) ?_
  refine va_sld hx hb hX hbl hbA hS (vp_in_nI (n := 6 * k9 + 2) (N := L9) (by omega) (by omega)) dL_law_1004 ?_
  refine zz_i (v := v2) ((congrArg xs (nI_clamp (by omega))).trans h2) ?_
  exact k
theorem la_26_1 {p : Program} {e : Env} {s : State} {m : MethodId} {below : List Frame} {meth : Method} {c : Code} (l : Launch) {b L9 : Nat} {xs : Nat → Int32} (C0 : lw_At p s m meth c b L9 xs) {x k0 k9 ce sl : Nat} (hk9 : 6 * k9 + 6 ≤ L9) (hL9 : L9 ≤ 3072) {H : Heap} {locs : List Loc} {ls : Array Slot} {rest : List Value} (hS : va_S (fun q : Nat => s.heap.size ≤ q) s.heap H locs) (hl : lv_has ls 4 [(3, .int (nI (6 * k9))), (2, .ref k0), (1, .ref x), (0, .ref b)]) {v1 : Int32} {v2 : Int32} (h1 : xs (6 * k9 + 1) = v1) (h2 : xs (6 * k9 + 2) = v2) (k : W p l e room_1 s m #[Value.ref b] below meth c H locs ce sl (lw_Z below #[Value.ref b] s) (F0 m 1023 ls (.int v2 :: .int v1 :: .ref x :: rest))) : W p l e room_1 s m #[Value.ref b] below meth c H locs ce sl (lw_Z below #[Value.ref b] s) (F0 m 1012 ls (rest)) := by
  obtain ⟨hx, hb, hr, hml, hown, hts1, hX, hbl, hlocks, hgv⟩ := id C0
  have hbA : ¬ (fun q : Nat => s.heap.size ≤ q) b := Nat.not_le.mpr hbl
  refine lv_aload_n hx hb dL_law_1012 rfl (lv_at hl 2 rfl) ?_
  refine lv_aload_n hx hb dL_law_1013 rfl (lv_at hl 3 rfl) ?_
  refine lv_iload_n hx hb dL_law_1014 rfl (lv_at hl 0 rfl) ?_
  refine lv_iconst (v := 1) hx hb dL_law_1015 rfl ?_
  refine lv_iadd hx hb dL_law_1016 ?_
  refine zz_i (v := nI (6 * k9 + 1)) (nI_add (6 * k9) 1) ?_
  refine va_sld hx hb hX hbl hbA hS (vp_in_nI (n := 6 * k9 + 1) (N := L9) (by omega) (by omega)) dL_law_1017 ?_
  refine zz_i (v := v1) ((congrArg xs (nI_clamp (by omega))).trans h1) ?_
  refine lv_aload_n hx hb dL_law_1018 rfl (lv_at hl 3 rfl) ?_
  refine lv_iload_n hx hb dL_law_1019 rfl (lv_at hl 0 rfl) ?_
  refine lv_iconst (v := 2) hx hb dL_law_1020 rfl ?_
  refine lv_iadd hx hb dL_law_1021 ?_
  refine zz_i (v := nI (6 * k9 + 2)) (nI_add (6 * k9) 2) ?_
  refine va_sld hx hb hX hbl hbA hS (vp_in_nI (n := 6 * k9 + 2) (N := L9) (by omega) (by omega)) dL_law_1022 ?_
  refine zz_i (v := v2) ((congrArg xs (nI_clamp (by omega))).trans h2) ?_
  exact k
theorem la_26_2 {p : Program} {e : Env} {s : State} {m : MethodId} {below : List Frame} {meth : Method} {c : Code} (l : Launch) {b L9 : Nat} {xs : Nat → Int32} (C0 : lw_At p s m meth c b L9 xs) {x k0 k9 ce sl : Nat} (hk9 : 6 * k9 + 6 ≤ L9) (hL9 : L9 ≤ 3072) {H : Heap} {locs : List Loc} {ls : Array Slot} {rest : List Value} (hS : va_S (fun q : Nat => s.heap.size ≤ q) s.heap H locs) (hl : lv_has ls 4 [(3, .int (nI (6 * k9))), (2, .ref k0), (1, .ref x), (0, .ref b)]) {v1 : Int32} {v2 : Int32} (h1 : xs (6 * k9 + 1) = v1) (h2 : xs (6 * k9 + 2) = v2) (k : W p l e room_1 s m #[Value.ref b] below meth c H locs ce sl (lw_Z below #[Value.ref b] s) (F0 m 1038 ls (.int v2 :: .int v1 :: .ref k0 :: rest))) : W p l e room_1 s m #[Value.ref b] below meth c H locs ce sl (lw_Z below #[Value.ref b] s) (F0 m 1027 ls (rest)) := by
  obtain ⟨hx, hb, hr, hml, hown, hts1, hX, hbl, hlocks, hgv⟩ := id C0
  have hbA : ¬ (fun q : Nat => s.heap.size ≤ q) b := Nat.not_le.mpr hbl
  refine lv_aload_n hx hb dL_law_1027 rfl (lv_at hl 1 rfl) ?_
  refine lv_aload_n hx hb dL_law_1028 rfl (lv_at hl 3 rfl) ?_
  refine lv_iload_n hx hb dL_law_1029 rfl (lv_at hl 0 rfl) ?_
  refine lv_iconst (v := 1) hx hb dL_law_1030 rfl ?_
  refine lv_iadd hx hb dL_law_1031 ?_
  refine zz_i (v := nI (6 * k9 + 1)) (nI_add (6 * k9) 1) ?_
  refine va_sld hx hb hX hbl hbA hS (vp_in_nI (n := 6 * k9 + 1) (N := L9) (by omega) (by omega)) dL_law_1032 ?_
  refine zz_i (v := v1) ((congrArg xs (nI_clamp (by omega))).trans h1) ?_
  refine lv_aload_n hx hb dL_law_1033 rfl (lv_at hl 3 rfl) ?_
  refine lv_iload_n hx hb dL_law_1034 rfl (lv_at hl 0 rfl) ?_
  refine lv_iconst (v := 2) hx hb dL_law_1035 rfl ?_
  refine lv_iadd hx hb dL_law_1036 ?_
  refine zz_i (v := nI (6 * k9 + 2)) (nI_add (6 * k9) 2) ?_
  refine va_sld hx hb hX hbl hbA hS (vp_in_nI (n := 6 * k9 + 2) (N := L9) (by omega) (by omega)) dL_law_1037 ?_
  refine zz_i (v := v2) ((congrArg xs (nI_clamp (by omega))).trans h2) ?_
  exact k
theorem la_27_1 {p : Program} {e : Env} {s : State} {m : MethodId} {below : List Frame} {meth : Method} {c : Code} (l : Launch) {b L9 : Nat} {xs : Nat → Int32} (C0 : lw_At p s m meth c b L9 xs) {x k0 k9 ce sl : Nat} (hk9 : 6 * k9 + 6 ≤ L9) (hL9 : L9 ≤ 3072) {H : Heap} {locs : List Loc} {ls : Array Slot} {rest : List Value} (hS : va_S (fun q : Nat => s.heap.size ≤ q) s.heap H locs) (hl : lv_has ls 4 [(3, .int (nI (6 * k9))), (2, .ref k0), (1, .ref x), (0, .ref b)]) {v1 : Int32} (h1 : xs (6 * k9 + 1) = v1) (k : W p l e room_1 s m #[Value.ref b] below meth c H locs ce sl (lw_Z below #[Value.ref b] s) (F0 m 1051 ls (.int v1 :: .ref x :: rest))) : W p l e room_1 s m #[Value.ref b] below meth c H locs ce sl (lw_Z below #[Value.ref b] s) (F0 m 1045 ls (rest)) := by
  obtain ⟨hx, hb, hr, hml, hown, hts1, hX, hbl, hlocks, hgv⟩ := id C0
  have hbA : ¬ (fun q : Nat => s.heap.size ≤ q) b := Nat.not_le.mpr hbl
  refine lv_aload_n hx hb dL_law_1045 rfl (lv_at hl 2 rfl) ?_
  refine lv_aload_n hx hb dL_law_1046 rfl (lv_at hl 3 rfl) ?_
  refine lv_iload_n hx hb dL_law_1047 rfl (lv_at hl 0 rfl) ?_
  refine lv_iconst (v := 1) hx hb dL_law_1048 rfl ?_
  refine lv_iadd hx hb dL_law_1049 ?_
  refine zz_i (v := nI (6 * k9 + 1)) (nI_add (6 * k9) 1) ?_
  refine va_sld hx hb hX hbl hbA hS (vp_in_nI (n := 6 * k9 + 1) (N := L9) (by omega) (by omega)) dL_law_1050 ?_
  refine zz_i (v := v1) ((congrArg xs (nI_clamp (by omega))).trans h1) ?_
  exact k
theorem la_27_2 {p : Program} {e : Env} {s : State} {m : MethodId} {below : List Frame} {meth : Method} {c : Code} (l : Launch) {b L9 : Nat} {xs : Nat → Int32} (C0 : lw_At p s m meth c b L9 xs) {x k0 k9 ce sl : Nat} (hk9 : 6 * k9 + 6 ≤ L9) (hL9 : L9 ≤ 3072) {H : Heap} {locs : List Loc} {ls : Array Slot} {rest : List Value} (hS : va_S (fun q : Nat => s.heap.size ≤ q) s.heap H locs) (hl : lv_has ls 4 [(3, .int (nI (6 * k9))), (2, .ref k0), (1, .ref x), (0, .ref b)]) {v1 : Int32} (h1 : xs (6 * k9 + 1) = v1) (k : W p l e room_1 s m #[Value.ref b] below meth c H locs ce sl (lw_Z below #[Value.ref b] s) (F0 m 1060 ls (.int v1 :: .ref k0 :: rest))) : W p l e room_1 s m #[Value.ref b] below meth c H locs ce sl (lw_Z below #[Value.ref b] s) (F0 m 1054 ls (rest)) := by
  obtain ⟨hx, hb, hr, hml, hown, hts1, hX, hbl, hlocks, hgv⟩ := id C0
  have hbA : ¬ (fun q : Nat => s.heap.size ≤ q) b := Nat.not_le.mpr hbl
  refine lv_aload_n hx hb dL_law_1054 rfl (lv_at hl 1 rfl) ?_
  refine lv_aload_n hx hb dL_law_1055 rfl (lv_at hl 3 rfl) ?_
  refine lv_iload_n hx hb dL_law_1056 rfl (lv_at hl 0 rfl) ?_
  refine lv_iconst (v := 1) hx hb dL_law_1057 rfl ?_
  refine lv_iadd hx hb dL_law_1058 ?_
  refine zz_i (v := nI (6 * k9 + 1)) (nI_add (6 * k9) 1) ?_
  refine va_sld hx hb hX hbl hbA hS (vp_in_nI (n := 6 * k9 + 1) (N := L9) (by omega) (by omega)) dL_law_1059 ?_
  refine zz_i (v := v1) ((congrArg xs (nI_clamp (by omega))).trans h1) ?_
  exact k
theorem la_28_1 {p : Program} {e : Env} {s : State} {m : MethodId} {below : List Frame} {meth : Method} {c : Code} (l : Launch) {b L9 : Nat} {xs : Nat → Int32} (C0 : lw_At p s m meth c b L9 xs) {x k0 k9 ce sl : Nat} (hk9 : 6 * k9 + 6 ≤ L9) (hL9 : L9 ≤ 3072) {H : Heap} {locs : List Loc} {ls : Array Slot} {rest : List Value} (hS : va_S (fun q : Nat => s.heap.size ≤ q) s.heap H locs) (hl : lv_has ls 4 [(3, .int (nI (6 * k9))), (2, .ref k0), (1, .ref x), (0, .ref b)]) (k : W p l e room_1 s m #[Value.ref b] below meth c H locs ce sl (lw_Z below #[Value.ref b] s) (F0 m 1069 ls (.ref x :: rest))) : W p l e room_1 s m #[Value.ref b] below meth c H locs ce sl (lw_Z below #[Value.ref b] s) (F0 m 1068 ls (rest)) := by
  obtain ⟨hx, hb, hr, hml, hown, hts1, hX, hbl, hlocks, hgv⟩ := id C0
  have hbA : ¬ (fun q : Nat => s.heap.size ≤ q) b := Nat.not_le.mpr hbl
  refine lv_aload_n hx hb dL_law_1068 rfl (lv_at hl 2 rfl) ?_
  exact k
theorem la_28_2 {p : Program} {e : Env} {s : State} {m : MethodId} {below : List Frame} {meth : Method} {c : Code} (l : Launch) {b L9 : Nat} {xs : Nat → Int32} (C0 : lw_At p s m meth c b L9 xs) {x k0 k9 ce sl : Nat} (hk9 : 6 * k9 + 6 ≤ L9) (hL9 : L9 ≤ 3072) {H : Heap} {locs : List Loc} {ls : Array Slot} {rest : List Value} (hS : va_S (fun q : Nat => s.heap.size ≤ q) s.heap H locs) (hl : lv_has ls 4 [(3, .int (nI (6 * k9))), (2, .ref k0), (1, .ref x), (0, .ref b)]) (k : W p l e room_1 s m #[Value.ref b] below meth c H locs ce sl (lw_Z below #[Value.ref b] s) (F0 m 1074 ls (.ref k0 :: rest))) : W p l e room_1 s m #[Value.ref b] below meth c H locs ce sl (lw_Z below #[Value.ref b] s) (F0 m 1073 ls (rest)) := by
  obtain ⟨hx, hb, hr, hml, hown, hts1, hX, hbl, hlocks, hgv⟩ := id C0
  have hbA : ¬ (fun q : Nat => s.heap.size ≤ q) b := Nat.not_le.mpr hbl
  refine lv_aload_n hx hb dL_law_1073 rfl (lv_at hl 1 rfl) ?_
  exact k
end
section
set_option maxHeartbeats 4000000 in
set_option maxRecDepth 100000 in
theorem zs_1 {A0 : Nat → Prop} {D : va_G} {cl : List vw_C} {v0 v1 v2 v3 v4 v5 v6 v7 v8 v9 v10 v11 v12 v13 v14 v15 v16 v17 v18 v19 v20 v21 v22 v23 v24 v25 v26 v27 v28 v29 v30 v31 v32 v33 v34 v35 v36 v37 v38 v39 v40 v41 v42 v43 v44 v45 v46 v47 v48 v49 v50 v51 v52 v53 v54 v55 v56 v57 v58 v59 v60 v61 v62 v63 v64 : Nat × va_E} {u0 u2 u3 : Nat × va_E} {pl : va_W} {H H1 : Heap} (hP : va_P D cl ((v0 :: v1 :: v2 :: v3 :: v4 :: v5 :: v6 :: v7 :: v8 :: v9 :: v10 :: v11 :: v12 :: v13 :: v14 :: v15 :: v16 :: v17 :: v18 :: v19 :: v20 :: v21 :: v22 :: v23 :: v24 :: v25 :: v26 :: v27 :: v28 :: v29 :: v30 :: v31 :: v32 :: v33 :: v34 :: v35 :: v36 :: v37 :: v38 :: v39 :: v40 :: v41 :: v42 :: v43 :: v44 :: v45 :: v46 :: v47 :: v48 :: v49 :: v50 :: v51 :: v52 :: v53 :: v54 :: v55 :: v56 :: v57 :: v58 :: v59 :: v60 :: v61 :: v62 :: v63 :: v64 :: []) ++ pl) H) (hD : va_D A0 ((v0 :: v1 :: v2 :: v3 :: v4 :: v5 :: v6 :: v7 :: v8 :: v9 :: v10 :: v11 :: v12 :: v13 :: v14 :: v15 :: v16 :: v17 :: v18 :: v19 :: v20 :: v21 :: v22 :: v23 :: v24 :: v25 :: v26 :: v27 :: v28 :: v29 :: v30 :: v31 :: v32 :: v33 :: v34 :: v35 :: v36 :: v37 :: v38 :: v39 :: v40 :: v41 :: v42 :: v43 :: v44 :: v45 :: v46 :: v47 :: v48 :: v49 :: v50 :: v51 :: v52 :: v53 :: v54 :: v55 :: v56 :: v57 :: v58 :: v59 :: v60 :: v61 :: v62 :: v63 :: v64 :: []) ++ pl)) (hk : ∀ q : Nat, q < H.size → ¬ va_A ([v0, v2, v3]) H.size q → H1[q]? = H[q]?) (hF : ∀ q, va_A ([v0, v2, v3]) H.size q → A0 q) (hP1 : va_P D cl ([u0, u2, u3]) H1) (hD1 : va_D (va_A ([v0, v2, v3]) H.size) ([u0, u2, u3])) : va_P D cl ((u0 :: v1 :: u2 :: u3 :: v4 :: v5 :: v6 :: v7 :: v8 :: v9 :: v10 :: v11 :: v12 :: v13 :: v14 :: v15 :: v16 :: v17 :: v18 :: v19 :: v20 :: v21 :: v22 :: v23 :: v24 :: v25 :: v26 :: v27 :: v28 :: v29 :: v30 :: v31 :: v32 :: v33 :: v34 :: v35 :: v36 :: v37 :: v38 :: v39 :: v40 :: v41 :: v42 :: v43 :: v44 :: v45 :: v46 :: v47 :: v48 :: v49 :: v50 :: v51 :: v52 :: v53 :: v54 :: v55 :: v56 :: v57 :: v58 :: v59 :: v60 :: v61 :: v62 :: v63 :: v64 :: []) ++ pl) H1 ∧ va_D A0 ((u0 :: v1 :: u2 :: u3 :: v4 :: v5 :: v6 :: v7 :: v8 :: v9 :: v10 :: v11 :: v12 :: v13 :: v14 :: v15 :: v16 :: v17 :: v18 :: v19 :: v20 :: v21 :: v22 :: v23 :: v24 :: v25 :: v26 :: v27 :: v28 :: v29 :: v30 :: v31 :: v32 :: v33 :: v34 :: v35 :: v36 :: v37 :: v38 :: v39 :: v40 :: v41 :: v42 :: v43 :: v44 :: v45 :: v46 :: v47 :: v48 :: v49 :: v50 :: v51 :: v52 :: v53 :: v54 :: v55 :: v56 :: v57 :: v58 :: v59 :: v60 :: v61 :: v62 :: v63 :: v64 :: []) ++ pl) :=
  znQ (W2 := (u0 :: v1 :: u2 :: u3 :: v4 :: v5 :: v6 :: v7 :: v8 :: v9 :: v10 :: v11 :: v12 :: v13 :: v14 :: v15 :: v16 :: v17 :: v18 :: v19 :: v20 :: v21 :: v22 :: v23 :: v24 :: v25 :: v26 :: v27 :: v28 :: v29 :: v30 :: v31 :: v32 :: v33 :: v34 :: v35 :: v36 :: v37 :: v38 :: v39 :: v40 :: v41 :: v42 :: v43 :: v44 :: v45 :: v46 :: v47 :: v48 :: v49 :: v50 :: v51 :: v52 :: v53 :: v54 :: v55 :: v56 :: v57 :: v58 :: v59 :: v60 :: v61 :: v62 :: v63 :: v64 :: [])) hP hD hk hF hP1 hD1 [0, 2, 3] (false :: true :: false :: false :: true :: true :: true :: true :: true :: true :: true :: true :: true :: true :: true :: true :: true :: true :: true :: true :: true :: true :: true :: true :: true :: true :: true :: true :: true :: true :: true :: true :: true :: true :: true :: true :: true :: true :: true :: true :: true :: true :: true :: true :: true :: true :: true :: true :: true :: true :: true :: true :: true :: true :: true :: true :: true :: true :: true :: true :: true :: true :: true :: true :: true :: []) (false :: true :: false :: false :: true :: true :: true :: true :: true :: true :: true :: true :: true :: true :: true :: true :: true :: true :: true :: true :: true :: true :: true :: true :: true :: true :: true :: true :: true :: true :: true :: true :: true :: true :: true :: true :: true :: true :: true :: true :: true :: true :: true :: true :: true :: true :: true :: true :: true :: true :: true :: true :: true :: true :: true :: true :: true :: true :: true :: true :: true :: true :: true :: true :: true :: []) [0, 2, 3] (by decide +kernel) rfl rfl rfl rfl rfl
set_option maxHeartbeats 4000000 in
set_option maxRecDepth 100000 in
theorem zs_2 {A0 : Nat → Prop} {D : va_G} {cl : List vw_C} {v0 v1 v2 v3 v4 v5 v6 v7 v8 v9 v10 v11 v12 v13 v14 v15 v16 v17 v18 v19 v20 v21 v22 v23 v24 v25 v26 v27 v28 v29 v30 v31 v32 v33 v34 v35 v36 v37 v38 v39 v40 v41 v42 v43 v44 v45 v46 v47 v48 v49 v50 v51 v52 v53 v54 v55 v56 v57 v58 v59 v60 v61 v62 v63 v64 : Nat × va_E} {u28 : Nat × va_E} {pl : va_W} {H H1 : Heap} (hP : va_P D cl ((v0 :: v1 :: v2 :: v3 :: v4 :: v5 :: v6 :: v7 :: v8 :: v9 :: v10 :: v11 :: v12 :: v13 :: v14 :: v15 :: v16 :: v17 :: v18 :: v19 :: v20 :: v21 :: v22 :: v23 :: v24 :: v25 :: v26 :: v27 :: v28 :: v29 :: v30 :: v31 :: v32 :: v33 :: v34 :: v35 :: v36 :: v37 :: v38 :: v39 :: v40 :: v41 :: v42 :: v43 :: v44 :: v45 :: v46 :: v47 :: v48 :: v49 :: v50 :: v51 :: v52 :: v53 :: v54 :: v55 :: v56 :: v57 :: v58 :: v59 :: v60 :: v61 :: v62 :: v63 :: v64 :: []) ++ pl) H) (hD : va_D A0 ((v0 :: v1 :: v2 :: v3 :: v4 :: v5 :: v6 :: v7 :: v8 :: v9 :: v10 :: v11 :: v12 :: v13 :: v14 :: v15 :: v16 :: v17 :: v18 :: v19 :: v20 :: v21 :: v22 :: v23 :: v24 :: v25 :: v26 :: v27 :: v28 :: v29 :: v30 :: v31 :: v32 :: v33 :: v34 :: v35 :: v36 :: v37 :: v38 :: v39 :: v40 :: v41 :: v42 :: v43 :: v44 :: v45 :: v46 :: v47 :: v48 :: v49 :: v50 :: v51 :: v52 :: v53 :: v54 :: v55 :: v56 :: v57 :: v58 :: v59 :: v60 :: v61 :: v62 :: v63 :: v64 :: []) ++ pl)) (hk : ∀ q : Nat, q < H.size → ¬ va_A ([v28]) H.size q → H1[q]? = H[q]?) (hF : ∀ q, va_A ([v28]) H.size q → A0 q) (hP1 : va_P D cl ([u28]) H1) (hD1 : va_D (va_A ([v28]) H.size) ([u28])) : va_P D cl ((v0 :: v1 :: v2 :: v3 :: v4 :: v5 :: v6 :: v7 :: v8 :: v9 :: v10 :: v11 :: v12 :: v13 :: v14 :: v15 :: v16 :: v17 :: v18 :: v19 :: v20 :: v21 :: v22 :: v23 :: v24 :: v25 :: v26 :: v27 :: u28 :: v29 :: v30 :: v31 :: v32 :: v33 :: v34 :: v35 :: v36 :: v37 :: v38 :: v39 :: v40 :: v41 :: v42 :: v43 :: v44 :: v45 :: v46 :: v47 :: v48 :: v49 :: v50 :: v51 :: v52 :: v53 :: v54 :: v55 :: v56 :: v57 :: v58 :: v59 :: v60 :: v61 :: v62 :: v63 :: v64 :: []) ++ pl) H1 ∧ va_D A0 ((v0 :: v1 :: v2 :: v3 :: v4 :: v5 :: v6 :: v7 :: v8 :: v9 :: v10 :: v11 :: v12 :: v13 :: v14 :: v15 :: v16 :: v17 :: v18 :: v19 :: v20 :: v21 :: v22 :: v23 :: v24 :: v25 :: v26 :: v27 :: u28 :: v29 :: v30 :: v31 :: v32 :: v33 :: v34 :: v35 :: v36 :: v37 :: v38 :: v39 :: v40 :: v41 :: v42 :: v43 :: v44 :: v45 :: v46 :: v47 :: v48 :: v49 :: v50 :: v51 :: v52 :: v53 :: v54 :: v55 :: v56 :: v57 :: v58 :: v59 :: v60 :: v61 :: v62 :: v63 :: v64 :: []) ++ pl) :=
  znQ (W2 := (v0 :: v1 :: v2 :: v3 :: v4 :: v5 :: v6 :: v7 :: v8 :: v9 :: v10 :: v11 :: v12 :: v13 :: v14 :: v15 :: v16 :: v17 :: v18 :: v19 :: v20 :: v21 :: v22 :: v23 :: v24 :: v25 :: v26 :: v27 :: u28 :: v29 :: v30 :: v31 :: v32 :: v33 :: v34 :: v35 :: v36 :: v37 :: v38 :: v39 :: v40 :: v41 :: v42 :: v43 :: v44 :: v45 :: v46 :: v47 :: v48 :: v49 :: v50 :: v51 :: v52 :: v53 :: v54 :: v55 :: v56 :: v57 :: v58 :: v59 :: v60 :: v61 :: v62 :: v63 :: v64 :: [])) hP hD hk hF hP1 hD1 [28] (true :: true :: true :: true :: true :: true :: true :: true :: true :: true :: true :: true :: true :: true :: true :: true :: true :: true :: true :: true :: true :: true :: true :: true :: true :: true :: true :: true :: false :: true :: true :: true :: true :: true :: true :: true :: true :: true :: true :: true :: true :: true :: true :: true :: true :: true :: true :: true :: true :: true :: true :: true :: true :: true :: true :: true :: true :: true :: true :: true :: true :: true :: true :: true :: true :: []) (true :: true :: true :: true :: true :: true :: true :: true :: true :: true :: true :: true :: true :: true :: true :: true :: true :: true :: true :: true :: true :: true :: true :: true :: true :: true :: true :: true :: false :: true :: true :: true :: true :: true :: true :: true :: true :: true :: true :: true :: true :: true :: true :: true :: true :: true :: true :: true :: true :: true :: true :: true :: true :: true :: true :: true :: true :: true :: true :: true :: true :: true :: true :: true :: true :: []) [28] (by decide +kernel) rfl rfl rfl rfl rfl
set_option maxHeartbeats 4000000 in
set_option maxRecDepth 100000 in
theorem zs_3 {A0 : Nat → Prop} {D : va_G} {cl : List vw_C} {v0 v1 v2 v3 v4 v5 v6 v7 v8 v9 v10 v11 v12 v13 v14 v15 v16 v17 v18 v19 v20 v21 v22 v23 v24 v25 v26 v27 v28 v29 v30 v31 v32 v33 v34 v35 v36 v37 v38 v39 v40 v41 v42 v43 v44 v45 v46 v47 v48 v49 v50 v51 v52 v53 v54 v55 v56 v57 v58 v59 v60 v61 v62 v63 v64 : Nat × va_E} {u0 u2 u3 : Nat × va_E} {pl pl1 : va_W} {H H1 : Heap} (hP : va_P D cl ((v0 :: v1 :: v2 :: v3 :: v4 :: v5 :: v6 :: v7 :: v8 :: v9 :: v10 :: v11 :: v12 :: v13 :: v14 :: v15 :: v16 :: v17 :: v18 :: v19 :: v20 :: v21 :: v22 :: v23 :: v24 :: v25 :: v26 :: v27 :: v28 :: v29 :: v30 :: v31 :: v32 :: v33 :: v34 :: v35 :: v36 :: v37 :: v38 :: v39 :: v40 :: v41 :: v42 :: v43 :: v44 :: v45 :: v46 :: v47 :: v48 :: v49 :: v50 :: v51 :: v52 :: v53 :: v54 :: v55 :: v56 :: v57 :: v58 :: v59 :: v60 :: v61 :: v62 :: v63 :: v64 :: []) ++ pl) H) (hD : va_D A0 ((v0 :: v1 :: v2 :: v3 :: v4 :: v5 :: v6 :: v7 :: v8 :: v9 :: v10 :: v11 :: v12 :: v13 :: v14 :: v15 :: v16 :: v17 :: v18 :: v19 :: v20 :: v21 :: v22 :: v23 :: v24 :: v25 :: v26 :: v27 :: v28 :: v29 :: v30 :: v31 :: v32 :: v33 :: v34 :: v35 :: v36 :: v37 :: v38 :: v39 :: v40 :: v41 :: v42 :: v43 :: v44 :: v45 :: v46 :: v47 :: v48 :: v49 :: v50 :: v51 :: v52 :: v53 :: v54 :: v55 :: v56 :: v57 :: v58 :: v59 :: v60 :: v61 :: v62 :: v63 :: v64 :: []) ++ pl)) (hk : ∀ q : Nat, q < H.size → ¬ va_A ([v0, v2, v3] ++ pl) H.size q → H1[q]? = H[q]?) (hF : ∀ q, va_A ([v0, v2, v3] ++ pl) H.size q → A0 q) (hP1 : va_P D cl ([u0, u2, u3] ++ pl1) H1) (hD1 : va_D (va_A ([v0, v2, v3] ++ pl) H.size) ([u0, u2, u3] ++ pl1)) : va_P D cl ((u0 :: v1 :: u2 :: u3 :: v4 :: v5 :: v6 :: v7 :: v8 :: v9 :: v10 :: v11 :: v12 :: v13 :: v14 :: v15 :: v16 :: v17 :: v18 :: v19 :: v20 :: v21 :: v22 :: v23 :: v24 :: v25 :: v26 :: v27 :: v28 :: v29 :: v30 :: v31 :: v32 :: v33 :: v34 :: v35 :: v36 :: v37 :: v38 :: v39 :: v40 :: v41 :: v42 :: v43 :: v44 :: v45 :: v46 :: v47 :: v48 :: v49 :: v50 :: v51 :: v52 :: v53 :: v54 :: v55 :: v56 :: v57 :: v58 :: v59 :: v60 :: v61 :: v62 :: v63 :: v64 :: []) ++ pl1) H1 ∧ va_D A0 ((u0 :: v1 :: u2 :: u3 :: v4 :: v5 :: v6 :: v7 :: v8 :: v9 :: v10 :: v11 :: v12 :: v13 :: v14 :: v15 :: v16 :: v17 :: v18 :: v19 :: v20 :: v21 :: v22 :: v23 :: v24 :: v25 :: v26 :: v27 :: v28 :: v29 :: v30 :: v31 :: v32 :: v33 :: v34 :: v35 :: v36 :: v37 :: v38 :: v39 :: v40 :: v41 :: v42 :: v43 :: v44 :: v45 :: v46 :: v47 :: v48 :: v49 :: v50 :: v51 :: v52 :: v53 :: v54 :: v55 :: v56 :: v57 :: v58 :: v59 :: v60 :: v61 :: v62 :: v63 :: v64 :: []) ++ pl1) :=
  znP (W2 := (u0 :: v1 :: u2 :: u3 :: v4 :: v5 :: v6 :: v7 :: v8 :: v9 :: v10 :: v11 :: v12 :: v13 :: v14 :: v15 :: v16 :: v17 :: v18 :: v19 :: v20 :: v21 :: v22 :: v23 :: v24 :: v25 :: v26 :: v27 :: v28 :: v29 :: v30 :: v31 :: v32 :: v33 :: v34 :: v35 :: v36 :: v37 :: v38 :: v39 :: v40 :: v41 :: v42 :: v43 :: v44 :: v45 :: v46 :: v47 :: v48 :: v49 :: v50 :: v51 :: v52 :: v53 :: v54 :: v55 :: v56 :: v57 :: v58 :: v59 :: v60 :: v61 :: v62 :: v63 :: v64 :: [])) hP hD hk hF hP1 hD1 [0, 2, 3] (false :: true :: false :: false :: true :: true :: true :: true :: true :: true :: true :: true :: true :: true :: true :: true :: true :: true :: true :: true :: true :: true :: true :: true :: true :: true :: true :: true :: true :: true :: true :: true :: true :: true :: true :: true :: true :: true :: true :: true :: true :: true :: true :: true :: true :: true :: true :: true :: true :: true :: true :: true :: true :: true :: true :: true :: true :: true :: true :: true :: true :: true :: true :: true :: true :: []) (false :: true :: false :: false :: true :: true :: true :: true :: true :: true :: true :: true :: true :: true :: true :: true :: true :: true :: true :: true :: true :: true :: true :: true :: true :: true :: true :: true :: true :: true :: true :: true :: true :: true :: true :: true :: true :: true :: true :: true :: true :: true :: true :: true :: true :: true :: true :: true :: true :: true :: true :: true :: true :: true :: true :: true :: true :: true :: true :: true :: true :: true :: true :: true :: true :: []) [0, 2, 3] (by decide +kernel) rfl rfl rfl rfl rfl
set_option maxHeartbeats 4000000 in
set_option maxRecDepth 100000 in
theorem zs_4 {A0 : Nat → Prop} {D : va_G} {cl : List vw_C} {v0 v1 v2 v3 v4 v5 v6 v7 v8 v9 v10 v11 v12 v13 v14 v15 v16 v17 v18 v19 v20 v21 v22 v23 v24 v25 v26 v27 v28 v29 v30 v31 v32 v33 v34 v35 v36 v37 v38 v39 v40 v41 v42 v43 v44 v45 v46 v47 v48 v49 v50 v51 v52 v53 v54 v55 v56 v57 v58 v59 v60 v61 v62 v63 v64 : Nat × va_E} {u28 u30 u38 : Nat × va_E} {pl : va_W} {H H1 : Heap} (hP : va_P D cl ((v0 :: v1 :: v2 :: v3 :: v4 :: v5 :: v6 :: v7 :: v8 :: v9 :: v10 :: v11 :: v12 :: v13 :: v14 :: v15 :: v16 :: v17 :: v18 :: v19 :: v20 :: v21 :: v22 :: v23 :: v24 :: v25 :: v26 :: v27 :: v28 :: v29 :: v30 :: v31 :: v32 :: v33 :: v34 :: v35 :: v36 :: v37 :: v38 :: v39 :: v40 :: v41 :: v42 :: v43 :: v44 :: v45 :: v46 :: v47 :: v48 :: v49 :: v50 :: v51 :: v52 :: v53 :: v54 :: v55 :: v56 :: v57 :: v58 :: v59 :: v60 :: v61 :: v62 :: v63 :: v64 :: []) ++ pl) H) (hD : va_D A0 ((v0 :: v1 :: v2 :: v3 :: v4 :: v5 :: v6 :: v7 :: v8 :: v9 :: v10 :: v11 :: v12 :: v13 :: v14 :: v15 :: v16 :: v17 :: v18 :: v19 :: v20 :: v21 :: v22 :: v23 :: v24 :: v25 :: v26 :: v27 :: v28 :: v29 :: v30 :: v31 :: v32 :: v33 :: v34 :: v35 :: v36 :: v37 :: v38 :: v39 :: v40 :: v41 :: v42 :: v43 :: v44 :: v45 :: v46 :: v47 :: v48 :: v49 :: v50 :: v51 :: v52 :: v53 :: v54 :: v55 :: v56 :: v57 :: v58 :: v59 :: v60 :: v61 :: v62 :: v63 :: v64 :: []) ++ pl)) (hk : ∀ q : Nat, q < H.size → ¬ va_A ([v28, v30, v38]) H.size q → H1[q]? = H[q]?) (hF : ∀ q, va_A ([v28, v30, v38]) H.size q → A0 q) (hP1 : va_P D cl ([u28, u30, u38]) H1) (hD1 : va_D (va_A ([v28, v30, v38]) H.size) ([u28, u30, u38])) : va_P D cl ((v0 :: v1 :: v2 :: v3 :: v4 :: v5 :: v6 :: v7 :: v8 :: v9 :: v10 :: v11 :: v12 :: v13 :: v14 :: v15 :: v16 :: v17 :: v18 :: v19 :: v20 :: v21 :: v22 :: v23 :: v24 :: v25 :: v26 :: v27 :: u28 :: v29 :: u30 :: v31 :: v32 :: v33 :: v34 :: v35 :: v36 :: v37 :: u38 :: v39 :: v40 :: v41 :: v42 :: v43 :: v44 :: v45 :: v46 :: v47 :: v48 :: v49 :: v50 :: v51 :: v52 :: v53 :: v54 :: v55 :: v56 :: v57 :: v58 :: v59 :: v60 :: v61 :: v62 :: v63 :: v64 :: []) ++ pl) H1 ∧ va_D A0 ((v0 :: v1 :: v2 :: v3 :: v4 :: v5 :: v6 :: v7 :: v8 :: v9 :: v10 :: v11 :: v12 :: v13 :: v14 :: v15 :: v16 :: v17 :: v18 :: v19 :: v20 :: v21 :: v22 :: v23 :: v24 :: v25 :: v26 :: v27 :: u28 :: v29 :: u30 :: v31 :: v32 :: v33 :: v34 :: v35 :: v36 :: v37 :: u38 :: v39 :: v40 :: v41 :: v42 :: v43 :: v44 :: v45 :: v46 :: v47 :: v48 :: v49 :: v50 :: v51 :: v52 :: v53 :: v54 :: v55 :: v56 :: v57 :: v58 :: v59 :: v60 :: v61 :: v62 :: v63 :: v64 :: []) ++ pl) :=
  znQ (W2 := (v0 :: v1 :: v2 :: v3 :: v4 :: v5 :: v6 :: v7 :: v8 :: v9 :: v10 :: v11 :: v12 :: v13 :: v14 :: v15 :: v16 :: v17 :: v18 :: v19 :: v20 :: v21 :: v22 :: v23 :: v24 :: v25 :: v26 :: v27 :: u28 :: v29 :: u30 :: v31 :: v32 :: v33 :: v34 :: v35 :: v36 :: v37 :: u38 :: v39 :: v40 :: v41 :: v42 :: v43 :: v44 :: v45 :: v46 :: v47 :: v48 :: v49 :: v50 :: v51 :: v52 :: v53 :: v54 :: v55 :: v56 :: v57 :: v58 :: v59 :: v60 :: v61 :: v62 :: v63 :: v64 :: [])) hP hD hk hF hP1 hD1 [28, 30, 38] (true :: true :: true :: true :: true :: true :: true :: true :: true :: true :: true :: true :: true :: true :: true :: true :: true :: true :: true :: true :: true :: true :: true :: true :: true :: true :: true :: true :: false :: true :: false :: true :: true :: true :: true :: true :: true :: true :: false :: true :: true :: true :: true :: true :: true :: true :: true :: true :: true :: true :: true :: true :: true :: true :: true :: true :: true :: true :: true :: true :: true :: true :: true :: true :: true :: []) (true :: true :: true :: true :: true :: true :: true :: true :: true :: true :: true :: true :: true :: true :: true :: true :: true :: true :: true :: true :: true :: true :: true :: true :: true :: true :: true :: true :: false :: true :: false :: true :: true :: true :: true :: true :: true :: true :: false :: true :: true :: true :: true :: true :: true :: true :: true :: true :: true :: true :: true :: true :: true :: true :: true :: true :: true :: true :: true :: true :: true :: true :: true :: true :: true :: []) [28, 30, 38] (by decide +kernel) rfl rfl rfl rfl rfl
set_option maxHeartbeats 4000000 in
set_option maxRecDepth 100000 in
theorem zs_5 {A0 : Nat → Prop} {D : va_G} {cl : List vw_C} {v0 v1 v2 v3 v4 v5 v6 v7 v8 v9 v10 v11 v12 v13 v14 v15 v16 v17 v18 v19 v20 v21 v22 v23 v24 v25 v26 v27 v28 v29 v30 v31 v32 v33 v34 v35 v36 v37 v38 v39 v40 v41 v42 v43 v44 v45 v46 v47 v48 v49 v50 v51 v52 v53 v54 v55 v56 v57 v58 v59 v60 v61 v62 v63 v64 : Nat × va_E} {u28 u30 u38 u29 : Nat × va_E} {pl : va_W} {H H1 : Heap} (hP : va_P D cl ((v0 :: v1 :: v2 :: v3 :: v4 :: v5 :: v6 :: v7 :: v8 :: v9 :: v10 :: v11 :: v12 :: v13 :: v14 :: v15 :: v16 :: v17 :: v18 :: v19 :: v20 :: v21 :: v22 :: v23 :: v24 :: v25 :: v26 :: v27 :: v28 :: v29 :: v30 :: v31 :: v32 :: v33 :: v34 :: v35 :: v36 :: v37 :: v38 :: v39 :: v40 :: v41 :: v42 :: v43 :: v44 :: v45 :: v46 :: v47 :: v48 :: v49 :: v50 :: v51 :: v52 :: v53 :: v54 :: v55 :: v56 :: v57 :: v58 :: v59 :: v60 :: v61 :: v62 :: v63 :: v64 :: []) ++ pl) H) (hD : va_D A0 ((v0 :: v1 :: v2 :: v3 :: v4 :: v5 :: v6 :: v7 :: v8 :: v9 :: v10 :: v11 :: v12 :: v13 :: v14 :: v15 :: v16 :: v17 :: v18 :: v19 :: v20 :: v21 :: v22 :: v23 :: v24 :: v25 :: v26 :: v27 :: v28 :: v29 :: v30 :: v31 :: v32 :: v33 :: v34 :: v35 :: v36 :: v37 :: v38 :: v39 :: v40 :: v41 :: v42 :: v43 :: v44 :: v45 :: v46 :: v47 :: v48 :: v49 :: v50 :: v51 :: v52 :: v53 :: v54 :: v55 :: v56 :: v57 :: v58 :: v59 :: v60 :: v61 :: v62 :: v63 :: v64 :: []) ++ pl)) (hk : ∀ q : Nat, q < H.size → ¬ va_A ([v28, v30, v38, v29]) H.size q → H1[q]? = H[q]?) (hF : ∀ q, va_A ([v28, v30, v38, v29]) H.size q → A0 q) (hP1 : va_P D cl ([u28, u30, u38, u29]) H1) (hD1 : va_D (va_A ([v28, v30, v38, v29]) H.size) ([u28, u30, u38, u29])) : va_P D cl ((v0 :: v1 :: v2 :: v3 :: v4 :: v5 :: v6 :: v7 :: v8 :: v9 :: v10 :: v11 :: v12 :: v13 :: v14 :: v15 :: v16 :: v17 :: v18 :: v19 :: v20 :: v21 :: v22 :: v23 :: v24 :: v25 :: v26 :: v27 :: u28 :: u29 :: u30 :: v31 :: v32 :: v33 :: v34 :: v35 :: v36 :: v37 :: u38 :: v39 :: v40 :: v41 :: v42 :: v43 :: v44 :: v45 :: v46 :: v47 :: v48 :: v49 :: v50 :: v51 :: v52 :: v53 :: v54 :: v55 :: v56 :: v57 :: v58 :: v59 :: v60 :: v61 :: v62 :: v63 :: v64 :: []) ++ pl) H1 ∧ va_D A0 ((v0 :: v1 :: v2 :: v3 :: v4 :: v5 :: v6 :: v7 :: v8 :: v9 :: v10 :: v11 :: v12 :: v13 :: v14 :: v15 :: v16 :: v17 :: v18 :: v19 :: v20 :: v21 :: v22 :: v23 :: v24 :: v25 :: v26 :: v27 :: u28 :: u29 :: u30 :: v31 :: v32 :: v33 :: v34 :: v35 :: v36 :: v37 :: u38 :: v39 :: v40 :: v41 :: v42 :: v43 :: v44 :: v45 :: v46 :: v47 :: v48 :: v49 :: v50 :: v51 :: v52 :: v53 :: v54 :: v55 :: v56 :: v57 :: v58 :: v59 :: v60 :: v61 :: v62 :: v63 :: v64 :: []) ++ pl) :=
  znQ (W2 := (v0 :: v1 :: v2 :: v3 :: v4 :: v5 :: v6 :: v7 :: v8 :: v9 :: v10 :: v11 :: v12 :: v13 :: v14 :: v15 :: v16 :: v17 :: v18 :: v19 :: v20 :: v21 :: v22 :: v23 :: v24 :: v25 :: v26 :: v27 :: u28 :: u29 :: u30 :: v31 :: v32 :: v33 :: v34 :: v35 :: v36 :: v37 :: u38 :: v39 :: v40 :: v41 :: v42 :: v43 :: v44 :: v45 :: v46 :: v47 :: v48 :: v49 :: v50 :: v51 :: v52 :: v53 :: v54 :: v55 :: v56 :: v57 :: v58 :: v59 :: v60 :: v61 :: v62 :: v63 :: v64 :: [])) hP hD hk hF hP1 hD1 [28, 30, 38, 29] (true :: true :: true :: true :: true :: true :: true :: true :: true :: true :: true :: true :: true :: true :: true :: true :: true :: true :: true :: true :: true :: true :: true :: true :: true :: true :: true :: true :: false :: false :: false :: true :: true :: true :: true :: true :: true :: true :: false :: true :: true :: true :: true :: true :: true :: true :: true :: true :: true :: true :: true :: true :: true :: true :: true :: true :: true :: true :: true :: true :: true :: true :: true :: true :: true :: []) (true :: true :: true :: true :: true :: true :: true :: true :: true :: true :: true :: true :: true :: true :: true :: true :: true :: true :: true :: true :: true :: true :: true :: true :: true :: true :: true :: true :: false :: false :: false :: true :: true :: true :: true :: true :: true :: true :: false :: true :: true :: true :: true :: true :: true :: true :: true :: true :: true :: true :: true :: true :: true :: true :: true :: true :: true :: true :: true :: true :: true :: true :: true :: true :: true :: []) [28, 30, 38, 29] (by decide +kernel) rfl rfl rfl rfl rfl
set_option maxHeartbeats 4000000 in
set_option maxRecDepth 100000 in
theorem zs_6 {A0 : Nat → Prop} {D : va_G} {cl : List vw_C} {v0 v1 v2 v3 v4 v5 v6 v7 v8 v9 v10 v11 v12 v13 v14 v15 v16 v17 v18 v19 v20 v21 v22 v23 v24 v25 v26 v27 v28 v29 v30 v31 v32 v33 v34 v35 v36 v37 v38 v39 v40 v41 v42 v43 v44 v45 v46 v47 v48 v49 v50 v51 v52 v53 v54 v55 v56 v57 v58 v59 v60 v61 v62 v63 v64 : Nat × va_E} {u0 u1 u2 u3 : Nat × va_E} {pl pl1 : va_W} {H H1 : Heap} (hP : va_P D cl ((v0 :: v1 :: v2 :: v3 :: v4 :: v5 :: v6 :: v7 :: v8 :: v9 :: v10 :: v11 :: v12 :: v13 :: v14 :: v15 :: v16 :: v17 :: v18 :: v19 :: v20 :: v21 :: v22 :: v23 :: v24 :: v25 :: v26 :: v27 :: v28 :: v29 :: v30 :: v31 :: v32 :: v33 :: v34 :: v35 :: v36 :: v37 :: v38 :: v39 :: v40 :: v41 :: v42 :: v43 :: v44 :: v45 :: v46 :: v47 :: v48 :: v49 :: v50 :: v51 :: v52 :: v53 :: v54 :: v55 :: v56 :: v57 :: v58 :: v59 :: v60 :: v61 :: v62 :: v63 :: v64 :: []) ++ pl) H) (hD : va_D A0 ((v0 :: v1 :: v2 :: v3 :: v4 :: v5 :: v6 :: v7 :: v8 :: v9 :: v10 :: v11 :: v12 :: v13 :: v14 :: v15 :: v16 :: v17 :: v18 :: v19 :: v20 :: v21 :: v22 :: v23 :: v24 :: v25 :: v26 :: v27 :: v28 :: v29 :: v30 :: v31 :: v32 :: v33 :: v34 :: v35 :: v36 :: v37 :: v38 :: v39 :: v40 :: v41 :: v42 :: v43 :: v44 :: v45 :: v46 :: v47 :: v48 :: v49 :: v50 :: v51 :: v52 :: v53 :: v54 :: v55 :: v56 :: v57 :: v58 :: v59 :: v60 :: v61 :: v62 :: v63 :: v64 :: []) ++ pl)) (hk : ∀ q : Nat, q < H.size → ¬ va_A ([v0, v1, v2, v3] ++ pl) H.size q → H1[q]? = H[q]?) (hF : ∀ q, va_A ([v0, v1, v2, v3] ++ pl) H.size q → A0 q) (hP1 : va_P D cl ([u0, u1, u2, u3] ++ pl1) H1) (hD1 : va_D (va_A ([v0, v1, v2, v3] ++ pl) H.size) ([u0, u1, u2, u3] ++ pl1)) : va_P D cl ((u0 :: u1 :: u2 :: u3 :: v4 :: v5 :: v6 :: v7 :: v8 :: v9 :: v10 :: v11 :: v12 :: v13 :: v14 :: v15 :: v16 :: v17 :: v18 :: v19 :: v20 :: v21 :: v22 :: v23 :: v24 :: v25 :: v26 :: v27 :: v28 :: v29 :: v30 :: v31 :: v32 :: v33 :: v34 :: v35 :: v36 :: v37 :: v38 :: v39 :: v40 :: v41 :: v42 :: v43 :: v44 :: v45 :: v46 :: v47 :: v48 :: v49 :: v50 :: v51 :: v52 :: v53 :: v54 :: v55 :: v56 :: v57 :: v58 :: v59 :: v60 :: v61 :: v62 :: v63 :: v64 :: []) ++ pl1) H1 ∧ va_D A0 ((u0 :: u1 :: u2 :: u3 :: v4 :: v5 :: v6 :: v7 :: v8 :: v9 :: v10 :: v11 :: v12 :: v13 :: v14 :: v15 :: v16 :: v17 :: v18 :: v19 :: v20 :: v21 :: v22 :: v23 :: v24 :: v25 :: v26 :: v27 :: v28 :: v29 :: v30 :: v31 :: v32 :: v33 :: v34 :: v35 :: v36 :: v37 :: v38 :: v39 :: v40 :: v41 :: v42 :: v43 :: v44 :: v45 :: v46 :: v47 :: v48 :: v49 :: v50 :: v51 :: v52 :: v53 :: v54 :: v55 :: v56 :: v57 :: v58 :: v59 :: v60 :: v61 :: v62 :: v63 :: v64 :: []) ++ pl1) :=
  znP (W2 := (u0 :: u1 :: u2 :: u3 :: v4 :: v5 :: v6 :: v7 :: v8 :: v9 :: v10 :: v11 :: v12 :: v13 :: v14 :: v15 :: v16 :: v17 :: v18 :: v19 :: v20 :: v21 :: v22 :: v23 :: v24 :: v25 :: v26 :: v27 :: v28 :: v29 :: v30 :: v31 :: v32 :: v33 :: v34 :: v35 :: v36 :: v37 :: v38 :: v39 :: v40 :: v41 :: v42 :: v43 :: v44 :: v45 :: v46 :: v47 :: v48 :: v49 :: v50 :: v51 :: v52 :: v53 :: v54 :: v55 :: v56 :: v57 :: v58 :: v59 :: v60 :: v61 :: v62 :: v63 :: v64 :: [])) hP hD hk hF hP1 hD1 [0, 1, 2, 3] (false :: false :: false :: false :: true :: true :: true :: true :: true :: true :: true :: true :: true :: true :: true :: true :: true :: true :: true :: true :: true :: true :: true :: true :: true :: true :: true :: true :: true :: true :: true :: true :: true :: true :: true :: true :: true :: true :: true :: true :: true :: true :: true :: true :: true :: true :: true :: true :: true :: true :: true :: true :: true :: true :: true :: true :: true :: true :: true :: true :: true :: true :: true :: true :: true :: []) (false :: false :: false :: false :: true :: true :: true :: true :: true :: true :: true :: true :: true :: true :: true :: true :: true :: true :: true :: true :: true :: true :: true :: true :: true :: true :: true :: true :: true :: true :: true :: true :: true :: true :: true :: true :: true :: true :: true :: true :: true :: true :: true :: true :: true :: true :: true :: true :: true :: true :: true :: true :: true :: true :: true :: true :: true :: true :: true :: true :: true :: true :: true :: true :: true :: []) [0, 1, 2, 3] (by decide +kernel) rfl rfl rfl rfl rfl
set_option maxHeartbeats 4000000 in
set_option maxRecDepth 100000 in
theorem zs_7 {A0 : Nat → Prop} {D : va_G} {cl : List vw_C} {v0 v1 v2 v3 v4 v5 v6 v7 v8 v9 v10 v11 v12 v13 v14 v15 v16 v17 v18 v19 v20 v21 v22 v23 v24 v25 v26 v27 v28 v29 v30 v31 v32 v33 v34 v35 v36 v37 v38 v39 v40 v41 v42 v43 v44 v45 v46 v47 v48 v49 v50 v51 v52 v53 v54 v55 v56 v57 v58 v59 v60 v61 v62 v63 v64 : Nat × va_E} {u28 u30 u38 u29 u39 u40 u41 u53 : Nat × va_E} {pl : va_W} {H H1 : Heap} (hP : va_P D cl ((v0 :: v1 :: v2 :: v3 :: v4 :: v5 :: v6 :: v7 :: v8 :: v9 :: v10 :: v11 :: v12 :: v13 :: v14 :: v15 :: v16 :: v17 :: v18 :: v19 :: v20 :: v21 :: v22 :: v23 :: v24 :: v25 :: v26 :: v27 :: v28 :: v29 :: v30 :: v31 :: v32 :: v33 :: v34 :: v35 :: v36 :: v37 :: v38 :: v39 :: v40 :: v41 :: v42 :: v43 :: v44 :: v45 :: v46 :: v47 :: v48 :: v49 :: v50 :: v51 :: v52 :: v53 :: v54 :: v55 :: v56 :: v57 :: v58 :: v59 :: v60 :: v61 :: v62 :: v63 :: v64 :: []) ++ pl) H) (hD : va_D A0 ((v0 :: v1 :: v2 :: v3 :: v4 :: v5 :: v6 :: v7 :: v8 :: v9 :: v10 :: v11 :: v12 :: v13 :: v14 :: v15 :: v16 :: v17 :: v18 :: v19 :: v20 :: v21 :: v22 :: v23 :: v24 :: v25 :: v26 :: v27 :: v28 :: v29 :: v30 :: v31 :: v32 :: v33 :: v34 :: v35 :: v36 :: v37 :: v38 :: v39 :: v40 :: v41 :: v42 :: v43 :: v44 :: v45 :: v46 :: v47 :: v48 :: v49 :: v50 :: v51 :: v52 :: v53 :: v54 :: v55 :: v56 :: v57 :: v58 :: v59 :: v60 :: v61 :: v62 :: v63 :: v64 :: []) ++ pl)) (hk : ∀ q : Nat, q < H.size → ¬ va_A ([v28, v30, v38, v29, v39, v40, v41, v53]) H.size q → H1[q]? = H[q]?) (hF : ∀ q, va_A ([v28, v30, v38, v29, v39, v40, v41, v53]) H.size q → A0 q) (hP1 : va_P D cl ([u28, u30, u38, u29, u39, u40, u41, u53]) H1) (hD1 : va_D (va_A ([v28, v30, v38, v29, v39, v40, v41, v53]) H.size) ([u28, u30, u38, u29, u39, u40, u41, u53])) : va_P D cl ((v0 :: v1 :: v2 :: v3 :: v4 :: v5 :: v6 :: v7 :: v8 :: v9 :: v10 :: v11 :: v12 :: v13 :: v14 :: v15 :: v16 :: v17 :: v18 :: v19 :: v20 :: v21 :: v22 :: v23 :: v24 :: v25 :: v26 :: v27 :: u28 :: u29 :: u30 :: v31 :: v32 :: v33 :: v34 :: v35 :: v36 :: v37 :: u38 :: u39 :: u40 :: u41 :: v42 :: v43 :: v44 :: v45 :: v46 :: v47 :: v48 :: v49 :: v50 :: v51 :: v52 :: u53 :: v54 :: v55 :: v56 :: v57 :: v58 :: v59 :: v60 :: v61 :: v62 :: v63 :: v64 :: []) ++ pl) H1 ∧ va_D A0 ((v0 :: v1 :: v2 :: v3 :: v4 :: v5 :: v6 :: v7 :: v8 :: v9 :: v10 :: v11 :: v12 :: v13 :: v14 :: v15 :: v16 :: v17 :: v18 :: v19 :: v20 :: v21 :: v22 :: v23 :: v24 :: v25 :: v26 :: v27 :: u28 :: u29 :: u30 :: v31 :: v32 :: v33 :: v34 :: v35 :: v36 :: v37 :: u38 :: u39 :: u40 :: u41 :: v42 :: v43 :: v44 :: v45 :: v46 :: v47 :: v48 :: v49 :: v50 :: v51 :: v52 :: u53 :: v54 :: v55 :: v56 :: v57 :: v58 :: v59 :: v60 :: v61 :: v62 :: v63 :: v64 :: []) ++ pl) :=
  znQ (W2 := (v0 :: v1 :: v2 :: v3 :: v4 :: v5 :: v6 :: v7 :: v8 :: v9 :: v10 :: v11 :: v12 :: v13 :: v14 :: v15 :: v16 :: v17 :: v18 :: v19 :: v20 :: v21 :: v22 :: v23 :: v24 :: v25 :: v26 :: v27 :: u28 :: u29 :: u30 :: v31 :: v32 :: v33 :: v34 :: v35 :: v36 :: v37 :: u38 :: u39 :: u40 :: u41 :: v42 :: v43 :: v44 :: v45 :: v46 :: v47 :: v48 :: v49 :: v50 :: v51 :: v52 :: u53 :: v54 :: v55 :: v56 :: v57 :: v58 :: v59 :: v60 :: v61 :: v62 :: v63 :: v64 :: [])) hP hD hk hF hP1 hD1 [28, 30, 38, 29, 39, 40, 41, 53] (true :: true :: true :: true :: true :: true :: true :: true :: true :: true :: true :: true :: true :: true :: true :: true :: true :: true :: true :: true :: true :: true :: true :: true :: true :: true :: true :: true :: false :: false :: false :: true :: true :: true :: true :: true :: true :: true :: false :: false :: false :: false :: true :: true :: true :: true :: true :: true :: true :: true :: true :: true :: true :: false :: true :: true :: true :: true :: true :: true :: true :: true :: true :: true :: true :: []) (true :: true :: true :: true :: true :: true :: true :: true :: true :: true :: true :: true :: true :: true :: true :: true :: true :: true :: true :: true :: true :: true :: true :: true :: true :: true :: true :: true :: false :: false :: false :: true :: true :: true :: true :: true :: true :: true :: false :: false :: false :: false :: true :: true :: true :: true :: true :: true :: true :: true :: true :: true :: true :: false :: true :: true :: true :: true :: true :: true :: true :: true :: true :: true :: true :: []) [28, 30, 38, 29, 39, 40, 41, 53] (by decide +kernel) rfl rfl rfl rfl rfl
set_option maxHeartbeats 4000000 in
set_option maxRecDepth 100000 in
theorem zs_8 {A0 : Nat → Prop} {D : va_G} {cl : List vw_C} {v0 v1 v2 v3 v4 v5 v6 v7 v8 v9 v10 v11 v12 v13 v14 v15 v16 v17 v18 v19 v20 v21 v22 v23 v24 v25 v26 v27 v28 v29 v30 v31 v32 v33 v34 v35 v36 v37 v38 v39 v40 v41 v42 v43 v44 v45 v46 v47 v48 v49 v50 v51 v52 v53 v54 v55 v56 v57 v58 v59 v60 v61 v62 v63 v64 : Nat × va_E} {u0 u1 u4 u8 u9 u10 u11 u12 u13 u5 u6 u7 u14 u15 u2 u3 : Nat × va_E} {pl pl1 : va_W} {H H1 : Heap} (hP : va_P D cl ((v0 :: v1 :: v2 :: v3 :: v4 :: v5 :: v6 :: v7 :: v8 :: v9 :: v10 :: v11 :: v12 :: v13 :: v14 :: v15 :: v16 :: v17 :: v18 :: v19 :: v20 :: v21 :: v22 :: v23 :: v24 :: v25 :: v26 :: v27 :: v28 :: v29 :: v30 :: v31 :: v32 :: v33 :: v34 :: v35 :: v36 :: v37 :: v38 :: v39 :: v40 :: v41 :: v42 :: v43 :: v44 :: v45 :: v46 :: v47 :: v48 :: v49 :: v50 :: v51 :: v52 :: v53 :: v54 :: v55 :: v56 :: v57 :: v58 :: v59 :: v60 :: v61 :: v62 :: v63 :: v64 :: []) ++ pl) H) (hD : va_D A0 ((v0 :: v1 :: v2 :: v3 :: v4 :: v5 :: v6 :: v7 :: v8 :: v9 :: v10 :: v11 :: v12 :: v13 :: v14 :: v15 :: v16 :: v17 :: v18 :: v19 :: v20 :: v21 :: v22 :: v23 :: v24 :: v25 :: v26 :: v27 :: v28 :: v29 :: v30 :: v31 :: v32 :: v33 :: v34 :: v35 :: v36 :: v37 :: v38 :: v39 :: v40 :: v41 :: v42 :: v43 :: v44 :: v45 :: v46 :: v47 :: v48 :: v49 :: v50 :: v51 :: v52 :: v53 :: v54 :: v55 :: v56 :: v57 :: v58 :: v59 :: v60 :: v61 :: v62 :: v63 :: v64 :: []) ++ pl)) (hk : ∀ q : Nat, q < H.size → ¬ va_A ([v0, v1, v4, v8, v9, v10, v11, v12, v13, v5, v6, v7, v14, v15, v2, v3] ++ pl) H.size q → H1[q]? = H[q]?) (hF : ∀ q, va_A ([v0, v1, v4, v8, v9, v10, v11, v12, v13, v5, v6, v7, v14, v15, v2, v3] ++ pl) H.size q → A0 q) (hP1 : va_P D cl ([u0, u1, u4, u8, u9, u10, u11, u12, u13, u5, u6, u7, u14, u15, u2, u3] ++ pl1) H1) (hD1 : va_D (va_A ([v0, v1, v4, v8, v9, v10, v11, v12, v13, v5, v6, v7, v14, v15, v2, v3] ++ pl) H.size) ([u0, u1, u4, u8, u9, u10, u11, u12, u13, u5, u6, u7, u14, u15, u2, u3] ++ pl1)) : va_P D cl ((u0 :: u1 :: u2 :: u3 :: u4 :: u5 :: u6 :: u7 :: u8 :: u9 :: u10 :: u11 :: u12 :: u13 :: u14 :: u15 :: v16 :: v17 :: v18 :: v19 :: v20 :: v21 :: v22 :: v23 :: v24 :: v25 :: v26 :: v27 :: v28 :: v29 :: v30 :: v31 :: v32 :: v33 :: v34 :: v35 :: v36 :: v37 :: v38 :: v39 :: v40 :: v41 :: v42 :: v43 :: v44 :: v45 :: v46 :: v47 :: v48 :: v49 :: v50 :: v51 :: v52 :: v53 :: v54 :: v55 :: v56 :: v57 :: v58 :: v59 :: v60 :: v61 :: v62 :: v63 :: v64 :: []) ++ pl1) H1 ∧ va_D A0 ((u0 :: u1 :: u2 :: u3 :: u4 :: u5 :: u6 :: u7 :: u8 :: u9 :: u10 :: u11 :: u12 :: u13 :: u14 :: u15 :: v16 :: v17 :: v18 :: v19 :: v20 :: v21 :: v22 :: v23 :: v24 :: v25 :: v26 :: v27 :: v28 :: v29 :: v30 :: v31 :: v32 :: v33 :: v34 :: v35 :: v36 :: v37 :: v38 :: v39 :: v40 :: v41 :: v42 :: v43 :: v44 :: v45 :: v46 :: v47 :: v48 :: v49 :: v50 :: v51 :: v52 :: v53 :: v54 :: v55 :: v56 :: v57 :: v58 :: v59 :: v60 :: v61 :: v62 :: v63 :: v64 :: []) ++ pl1) :=
  znP (W2 := (u0 :: u1 :: u2 :: u3 :: u4 :: u5 :: u6 :: u7 :: u8 :: u9 :: u10 :: u11 :: u12 :: u13 :: u14 :: u15 :: v16 :: v17 :: v18 :: v19 :: v20 :: v21 :: v22 :: v23 :: v24 :: v25 :: v26 :: v27 :: v28 :: v29 :: v30 :: v31 :: v32 :: v33 :: v34 :: v35 :: v36 :: v37 :: v38 :: v39 :: v40 :: v41 :: v42 :: v43 :: v44 :: v45 :: v46 :: v47 :: v48 :: v49 :: v50 :: v51 :: v52 :: v53 :: v54 :: v55 :: v56 :: v57 :: v58 :: v59 :: v60 :: v61 :: v62 :: v63 :: v64 :: [])) hP hD hk hF hP1 hD1 [0, 1, 4, 8, 9, 10, 11, 12, 13, 5, 6, 7, 14, 15, 2, 3] (false :: false :: false :: false :: false :: false :: false :: false :: false :: false :: false :: false :: false :: false :: false :: false :: true :: true :: true :: true :: true :: true :: true :: true :: true :: true :: true :: true :: true :: true :: true :: true :: true :: true :: true :: true :: true :: true :: true :: true :: true :: true :: true :: true :: true :: true :: true :: true :: true :: true :: true :: true :: true :: true :: true :: true :: true :: true :: true :: true :: true :: true :: true :: true :: true :: []) (false :: false :: false :: false :: false :: false :: false :: false :: false :: false :: false :: false :: false :: false :: false :: false :: true :: true :: true :: true :: true :: true :: true :: true :: true :: true :: true :: true :: true :: true :: true :: true :: true :: true :: true :: true :: true :: true :: true :: true :: true :: true :: true :: true :: true :: true :: true :: true :: true :: true :: true :: true :: true :: true :: true :: true :: true :: true :: true :: true :: true :: true :: true :: true :: true :: []) [0, 1, 4, 8, 9, 10, 11, 12, 13, 5, 6, 7, 14, 15, 2, 3] (by decide +kernel) rfl rfl rfl rfl rfl
set_option maxHeartbeats 4000000 in
set_option maxRecDepth 100000 in
theorem zs_9 {A0 : Nat → Prop} {D : va_G} {cl : List vw_C} {v0 v1 v2 v3 v4 v5 v6 v7 v8 v9 v10 v11 v12 v13 v14 v15 v16 v17 v18 v19 v20 v21 v22 v23 v24 v25 v26 v27 v28 v29 v30 v31 v32 v33 v34 v35 v36 v37 v38 v39 v40 v41 v42 v43 v44 v45 v46 v47 v48 v49 v50 v51 v52 v53 v54 v55 v56 v57 v58 v59 v60 v61 v62 v63 v64 : Nat × va_E} {u28 u29 u30 u31 u32 u33 u34 u35 u36 u37 u38 u39 u40 u41 u42 u43 u44 u45 u46 u53 u59 u51 u52 u54 u55 u56 u57 u58 u47 u48 u49 u50 : Nat × va_E} {pl : va_W} {H H1 : Heap} (hP : va_P D cl ((v0 :: v1 :: v2 :: v3 :: v4 :: v5 :: v6 :: v7 :: v8 :: v9 :: v10 :: v11 :: v12 :: v13 :: v14 :: v15 :: v16 :: v17 :: v18 :: v19 :: v20 :: v21 :: v22 :: v23 :: v24 :: v25 :: v26 :: v27 :: v28 :: v29 :: v30 :: v31 :: v32 :: v33 :: v34 :: v35 :: v36 :: v37 :: v38 :: v39 :: v40 :: v41 :: v42 :: v43 :: v44 :: v45 :: v46 :: v47 :: v48 :: v49 :: v50 :: v51 :: v52 :: v53 :: v54 :: v55 :: v56 :: v57 :: v58 :: v59 :: v60 :: v61 :: v62 :: v63 :: v64 :: []) ++ pl) H) (hD : va_D A0 ((v0 :: v1 :: v2 :: v3 :: v4 :: v5 :: v6 :: v7 :: v8 :: v9 :: v10 :: v11 :: v12 :: v13 :: v14 :: v15 :: v16 :: v17 :: v18 :: v19 :: v20 :: v21 :: v22 :: v23 :: v24 :: v25 :: v26 :: v27 :: v28 :: v29 :: v30 :: v31 :: v32 :: v33 :: v34 :: v35 :: v36 :: v37 :: v38 :: v39 :: v40 :: v41 :: v42 :: v43 :: v44 :: v45 :: v46 :: v47 :: v48 :: v49 :: v50 :: v51 :: v52 :: v53 :: v54 :: v55 :: v56 :: v57 :: v58 :: v59 :: v60 :: v61 :: v62 :: v63 :: v64 :: []) ++ pl)) (hk : ∀ q : Nat, q < H.size → ¬ va_A ((v28 :: v29 :: v30 :: v31 :: v32 :: v33 :: v34 :: v35 :: v36 :: v37 :: v38 :: v39 :: v40 :: v41 :: v42 :: v43 :: v44 :: v45 :: v46 :: v53 :: v59 :: v51 :: v52 :: v54 :: v55 :: v56 :: v57 :: v58 :: v47 :: v48 :: v49 :: v50 :: [])) H.size q → H1[q]? = H[q]?) (hF : ∀ q, va_A ((v28 :: v29 :: v30 :: v31 :: v32 :: v33 :: v34 :: v35 :: v36 :: v37 :: v38 :: v39 :: v40 :: v41 :: v42 :: v43 :: v44 :: v45 :: v46 :: v53 :: v59 :: v51 :: v52 :: v54 :: v55 :: v56 :: v57 :: v58 :: v47 :: v48 :: v49 :: v50 :: [])) H.size q → A0 q) (hP1 : va_P D cl ((u28 :: u29 :: u30 :: u31 :: u32 :: u33 :: u34 :: u35 :: u36 :: u37 :: u38 :: u39 :: u40 :: u41 :: u42 :: u43 :: u44 :: u45 :: u46 :: u53 :: u59 :: u51 :: u52 :: u54 :: u55 :: u56 :: u57 :: u58 :: u47 :: u48 :: u49 :: u50 :: [])) H1) (hD1 : va_D (va_A ((v28 :: v29 :: v30 :: v31 :: v32 :: v33 :: v34 :: v35 :: v36 :: v37 :: v38 :: v39 :: v40 :: v41 :: v42 :: v43 :: v44 :: v45 :: v46 :: v53 :: v59 :: v51 :: v52 :: v54 :: v55 :: v56 :: v57 :: v58 :: v47 :: v48 :: v49 :: v50 :: [])) H.size) ((u28 :: u29 :: u30 :: u31 :: u32 :: u33 :: u34 :: u35 :: u36 :: u37 :: u38 :: u39 :: u40 :: u41 :: u42 :: u43 :: u44 :: u45 :: u46 :: u53 :: u59 :: u51 :: u52 :: u54 :: u55 :: u56 :: u57 :: u58 :: u47 :: u48 :: u49 :: u50 :: []))) : va_P D cl ((v0 :: v1 :: v2 :: v3 :: v4 :: v5 :: v6 :: v7 :: v8 :: v9 :: v10 :: v11 :: v12 :: v13 :: v14 :: v15 :: v16 :: v17 :: v18 :: v19 :: v20 :: v21 :: v22 :: v23 :: v24 :: v25 :: v26 :: v27 :: u28 :: u29 :: u30 :: u31 :: u32 :: u33 :: u34 :: u35 :: u36 :: u37 :: u38 :: u39 :: u40 :: u41 :: u42 :: u43 :: u44 :: u45 :: u46 :: u47 :: u48 :: u49 :: u50 :: u51 :: u52 :: u53 :: u54 :: u55 :: u56 :: u57 :: u58 :: u59 :: v60 :: v61 :: v62 :: v63 :: v64 :: []) ++ pl) H1 ∧ va_D A0 ((v0 :: v1 :: v2 :: v3 :: v4 :: v5 :: v6 :: v7 :: v8 :: v9 :: v10 :: v11 :: v12 :: v13 :: v14 :: v15 :: v16 :: v17 :: v18 :: v19 :: v20 :: v21 :: v22 :: v23 :: v24 :: v25 :: v26 :: v27 :: u28 :: u29 :: u30 :: u31 :: u32 :: u33 :: u34 :: u35 :: u36 :: u37 :: u38 :: u39 :: u40 :: u41 :: u42 :: u43 :: u44 :: u45 :: u46 :: u47 :: u48 :: u49 :: u50 :: u51 :: u52 :: u53 :: u54 :: u55 :: u56 :: u57 :: u58 :: u59 :: v60 :: v61 :: v62 :: v63 :: v64 :: []) ++ pl) :=
  znQ (W2 := (v0 :: v1 :: v2 :: v3 :: v4 :: v5 :: v6 :: v7 :: v8 :: v9 :: v10 :: v11 :: v12 :: v13 :: v14 :: v15 :: v16 :: v17 :: v18 :: v19 :: v20 :: v21 :: v22 :: v23 :: v24 :: v25 :: v26 :: v27 :: u28 :: u29 :: u30 :: u31 :: u32 :: u33 :: u34 :: u35 :: u36 :: u37 :: u38 :: u39 :: u40 :: u41 :: u42 :: u43 :: u44 :: u45 :: u46 :: u47 :: u48 :: u49 :: u50 :: u51 :: u52 :: u53 :: u54 :: u55 :: u56 :: u57 :: u58 :: u59 :: v60 :: v61 :: v62 :: v63 :: v64 :: [])) hP hD hk hF hP1 hD1 (28 :: 29 :: 30 :: 31 :: 32 :: 33 :: 34 :: 35 :: 36 :: 37 :: 38 :: 39 :: 40 :: 41 :: 42 :: 43 :: 44 :: 45 :: 46 :: 53 :: 59 :: 51 :: 52 :: 54 :: 55 :: 56 :: 57 :: 58 :: 47 :: 48 :: 49 :: 50 :: []) (true :: true :: true :: true :: true :: true :: true :: true :: true :: true :: true :: true :: true :: true :: true :: true :: true :: true :: true :: true :: true :: true :: true :: true :: true :: true :: true :: true :: false :: false :: false :: false :: false :: false :: false :: false :: false :: false :: false :: false :: false :: false :: false :: false :: false :: false :: false :: false :: false :: false :: false :: false :: false :: false :: false :: false :: false :: false :: false :: false :: true :: true :: true :: true :: true :: []) (true :: true :: true :: true :: true :: true :: true :: true :: true :: true :: true :: true :: true :: true :: true :: true :: true :: true :: true :: true :: true :: true :: true :: true :: true :: true :: true :: true :: false :: false :: false :: false :: false :: false :: false :: false :: false :: false :: false :: false :: false :: false :: false :: false :: false :: false :: false :: false :: false :: false :: false :: false :: false :: false :: false :: false :: false :: false :: false :: false :: true :: true :: true :: true :: true :: []) (28 :: 29 :: 30 :: 31 :: 32 :: 33 :: 34 :: 35 :: 36 :: 37 :: 38 :: 39 :: 40 :: 41 :: 42 :: 43 :: 44 :: 45 :: 46 :: 53 :: 59 :: 51 :: 52 :: 54 :: 55 :: 56 :: 57 :: 58 :: 47 :: 48 :: 49 :: 50 :: []) (by decide +kernel) rfl rfl rfl rfl rfl
set_option maxHeartbeats 4000000 in
set_option maxRecDepth 100000 in
theorem zs_10 {A0 : Nat → Prop} {D : va_G} {cl : List vw_C} {v0 v1 v2 v3 v4 v5 v6 v7 v8 v9 v10 v11 v12 v13 v14 v15 v16 v17 v18 v19 v20 v21 v22 v23 v24 v25 v26 v27 v28 v29 v30 v31 v32 v33 v34 v35 v36 v37 v38 v39 v40 v41 v42 v43 v44 v45 v46 v47 v48 v49 v50 v51 v52 v53 v54 v55 v56 v57 v58 v59 v60 v61 v62 v63 v64 : Nat × va_E} {u0 u1 u4 u8 u9 u10 u11 u12 u13 u5 u6 u7 u14 u15 u23 u2 u3 : Nat × va_E} {pl pl1 : va_W} {H H1 : Heap} (hP : va_P D cl ((v0 :: v1 :: v2 :: v3 :: v4 :: v5 :: v6 :: v7 :: v8 :: v9 :: v10 :: v11 :: v12 :: v13 :: v14 :: v15 :: v16 :: v17 :: v18 :: v19 :: v20 :: v21 :: v22 :: v23 :: v24 :: v25 :: v26 :: v27 :: v28 :: v29 :: v30 :: v31 :: v32 :: v33 :: v34 :: v35 :: v36 :: v37 :: v38 :: v39 :: v40 :: v41 :: v42 :: v43 :: v44 :: v45 :: v46 :: v47 :: v48 :: v49 :: v50 :: v51 :: v52 :: v53 :: v54 :: v55 :: v56 :: v57 :: v58 :: v59 :: v60 :: v61 :: v62 :: v63 :: v64 :: []) ++ pl) H) (hD : va_D A0 ((v0 :: v1 :: v2 :: v3 :: v4 :: v5 :: v6 :: v7 :: v8 :: v9 :: v10 :: v11 :: v12 :: v13 :: v14 :: v15 :: v16 :: v17 :: v18 :: v19 :: v20 :: v21 :: v22 :: v23 :: v24 :: v25 :: v26 :: v27 :: v28 :: v29 :: v30 :: v31 :: v32 :: v33 :: v34 :: v35 :: v36 :: v37 :: v38 :: v39 :: v40 :: v41 :: v42 :: v43 :: v44 :: v45 :: v46 :: v47 :: v48 :: v49 :: v50 :: v51 :: v52 :: v53 :: v54 :: v55 :: v56 :: v57 :: v58 :: v59 :: v60 :: v61 :: v62 :: v63 :: v64 :: []) ++ pl)) (hk : ∀ q : Nat, q < H.size → ¬ va_A ([v0, v1, v4, v8, v9, v10, v11, v12, v13, v5, v6, v7, v14, v15, v23, v2, v3] ++ pl) H.size q → H1[q]? = H[q]?) (hF : ∀ q, va_A ([v0, v1, v4, v8, v9, v10, v11, v12, v13, v5, v6, v7, v14, v15, v23, v2, v3] ++ pl) H.size q → A0 q) (hP1 : va_P D cl ([u0, u1, u4, u8, u9, u10, u11, u12, u13, u5, u6, u7, u14, u15, u23, u2, u3] ++ pl1) H1) (hD1 : va_D (va_A ([v0, v1, v4, v8, v9, v10, v11, v12, v13, v5, v6, v7, v14, v15, v23, v2, v3] ++ pl) H.size) ([u0, u1, u4, u8, u9, u10, u11, u12, u13, u5, u6, u7, u14, u15, u23, u2, u3] ++ pl1)) : va_P D cl ((u0 :: u1 :: u2 :: u3 :: u4 :: u5 :: u6 :: u7 :: u8 :: u9 :: u10 :: u11 :: u12 :: u13 :: u14 :: u15 :: v16 :: v17 :: v18 :: v19 :: v20 :: v21 :: v22 :: u23 :: v24 :: v25 :: v26 :: v27 :: v28 :: v29 :: v30 :: v31 :: v32 :: v33 :: v34 :: v35 :: v36 :: v37 :: v38 :: v39 :: v40 :: v41 :: v42 :: v43 :: v44 :: v45 :: v46 :: v47 :: v48 :: v49 :: v50 :: v51 :: v52 :: v53 :: v54 :: v55 :: v56 :: v57 :: v58 :: v59 :: v60 :: v61 :: v62 :: v63 :: v64 :: []) ++ pl1) H1 ∧ va_D A0 ((u0 :: u1 :: u2 :: u3 :: u4 :: u5 :: u6 :: u7 :: u8 :: u9 :: u10 :: u11 :: u12 :: u13 :: u14 :: u15 :: v16 :: v17 :: v18 :: v19 :: v20 :: v21 :: v22 :: u23 :: v24 :: v25 :: v26 :: v27 :: v28 :: v29 :: v30 :: v31 :: v32 :: v33 :: v34 :: v35 :: v36 :: v37 :: v38 :: v39 :: v40 :: v41 :: v42 :: v43 :: v44 :: v45 :: v46 :: v47 :: v48 :: v49 :: v50 :: v51 :: v52 :: v53 :: v54 :: v55 :: v56 :: v57 :: v58 :: v59 :: v60 :: v61 :: v62 :: v63 :: v64 :: []) ++ pl1) :=
  znP (W2 := (u0 :: u1 :: u2 :: u3 :: u4 :: u5 :: u6 :: u7 :: u8 :: u9 :: u10 :: u11 :: u12 :: u13 :: u14 :: u15 :: v16 :: v17 :: v18 :: v19 :: v20 :: v21 :: v22 :: u23 :: v24 :: v25 :: v26 :: v27 :: v28 :: v29 :: v30 :: v31 :: v32 :: v33 :: v34 :: v35 :: v36 :: v37 :: v38 :: v39 :: v40 :: v41 :: v42 :: v43 :: v44 :: v45 :: v46 :: v47 :: v48 :: v49 :: v50 :: v51 :: v52 :: v53 :: v54 :: v55 :: v56 :: v57 :: v58 :: v59 :: v60 :: v61 :: v62 :: v63 :: v64 :: [])) hP hD hk hF hP1 hD1 [0, 1, 4, 8, 9, 10, 11, 12, 13, 5, 6, 7, 14, 15, 23, 2, 3] (false :: false :: false :: false :: false :: false :: false :: false :: false :: false :: false :: false :: false :: false :: false :: false :: true :: true :: true :: true :: true :: true :: true :: false :: true :: true :: true :: true :: true :: true :: true :: true :: true :: true :: true :: true :: true :: true :: true :: true :: true :: true :: true :: true :: true :: true :: true :: true :: true :: true :: true :: true :: true :: true :: true :: true :: true :: true :: true :: true :: true :: true :: true :: true :: true :: []) (false :: false :: false :: false :: false :: false :: false :: false :: false :: false :: false :: false :: false :: false :: false :: false :: true :: true :: true :: true :: true :: true :: true :: false :: true :: true :: true :: true :: true :: true :: true :: true :: true :: true :: true :: true :: true :: true :: true :: true :: true :: true :: true :: true :: true :: true :: true :: true :: true :: true :: true :: true :: true :: true :: true :: true :: true :: true :: true :: true :: true :: true :: true :: true :: true :: []) [0, 1, 4, 8, 9, 10, 11, 12, 13, 5, 6, 7, 14, 15, 23, 2, 3] (by decide +kernel) rfl rfl rfl rfl rfl
set_option maxHeartbeats 4000000 in
set_option maxRecDepth 100000 in
theorem zs_11 {A0 : Nat → Prop} {D : va_G} {cl : List vw_C} {v0 v1 v2 v3 v4 v5 v6 v7 v8 v9 v10 v11 v12 v13 v14 v15 v16 v17 v18 v19 v20 v21 v22 v23 v24 v25 v26 v27 v28 v29 v30 v31 v32 v33 v34 v35 v36 v37 v38 v39 v40 v41 v42 v43 v44 v45 v46 v47 v48 v49 v50 v51 v52 v53 v54 v55 v56 v57 v58 v59 v60 v61 v62 v63 v64 : Nat × va_E} {u0 u1 u4 u8 u9 u10 u11 u12 u13 u5 u6 u7 u14 u15 u16 u2 u3 : Nat × va_E} {pl pl1 : va_W} {H H1 : Heap} (hP : va_P D cl ((v0 :: v1 :: v2 :: v3 :: v4 :: v5 :: v6 :: v7 :: v8 :: v9 :: v10 :: v11 :: v12 :: v13 :: v14 :: v15 :: v16 :: v17 :: v18 :: v19 :: v20 :: v21 :: v22 :: v23 :: v24 :: v25 :: v26 :: v27 :: v28 :: v29 :: v30 :: v31 :: v32 :: v33 :: v34 :: v35 :: v36 :: v37 :: v38 :: v39 :: v40 :: v41 :: v42 :: v43 :: v44 :: v45 :: v46 :: v47 :: v48 :: v49 :: v50 :: v51 :: v52 :: v53 :: v54 :: v55 :: v56 :: v57 :: v58 :: v59 :: v60 :: v61 :: v62 :: v63 :: v64 :: []) ++ pl) H) (hD : va_D A0 ((v0 :: v1 :: v2 :: v3 :: v4 :: v5 :: v6 :: v7 :: v8 :: v9 :: v10 :: v11 :: v12 :: v13 :: v14 :: v15 :: v16 :: v17 :: v18 :: v19 :: v20 :: v21 :: v22 :: v23 :: v24 :: v25 :: v26 :: v27 :: v28 :: v29 :: v30 :: v31 :: v32 :: v33 :: v34 :: v35 :: v36 :: v37 :: v38 :: v39 :: v40 :: v41 :: v42 :: v43 :: v44 :: v45 :: v46 :: v47 :: v48 :: v49 :: v50 :: v51 :: v52 :: v53 :: v54 :: v55 :: v56 :: v57 :: v58 :: v59 :: v60 :: v61 :: v62 :: v63 :: v64 :: []) ++ pl)) (hk : ∀ q : Nat, q < H.size → ¬ va_A ([v0, v1, v4, v8, v9, v10, v11, v12, v13, v5, v6, v7, v14, v15, v16, v2, v3] ++ pl) H.size q → H1[q]? = H[q]?) (hF : ∀ q, va_A ([v0, v1, v4, v8, v9, v10, v11, v12, v13, v5, v6, v7, v14, v15, v16, v2, v3] ++ pl) H.size q → A0 q) (hP1 : va_P D cl ([u0, u1, u4, u8, u9, u10, u11, u12, u13, u5, u6, u7, u14, u15, u16, u2, u3] ++ pl1) H1) (hD1 : va_D (va_A ([v0, v1, v4, v8, v9, v10, v11, v12, v13, v5, v6, v7, v14, v15, v16, v2, v3] ++ pl) H.size) ([u0, u1, u4, u8, u9, u10, u11, u12, u13, u5, u6, u7, u14, u15, u16, u2, u3] ++ pl1)) : va_P D cl ((u0 :: u1 :: u2 :: u3 :: u4 :: u5 :: u6 :: u7 :: u8 :: u9 :: u10 :: u11 :: u12 :: u13 :: u14 :: u15 :: u16 :: v17 :: v18 :: v19 :: v20 :: v21 :: v22 :: v23 :: v24 :: v25 :: v26 :: v27 :: v28 :: v29 :: v30 :: v31 :: v32 :: v33 :: v34 :: v35 :: v36 :: v37 :: v38 :: v39 :: v40 :: v41 :: v42 :: v43 :: v44 :: v45 :: v46 :: v47 :: v48 :: v49 :: v50 :: v51 :: v52 :: v53 :: v54 :: v55 :: v56 :: v57 :: v58 :: v59 :: v60 :: v61 :: v62 :: v63 :: v64 :: []) ++ pl1) H1 ∧ va_D A0 ((u0 :: u1 :: u2 :: u3 :: u4 :: u5 :: u6 :: u7 :: u8 :: u9 :: u10 :: u11 :: u12 :: u13 :: u14 :: u15 :: u16 :: v17 :: v18 :: v19 :: v20 :: v21 :: v22 :: v23 :: v24 :: v25 :: v26 :: v27 :: v28 :: v29 :: v30 :: v31 :: v32 :: v33 :: v34 :: v35 :: v36 :: v37 :: v38 :: v39 :: v40 :: v41 :: v42 :: v43 :: v44 :: v45 :: v46 :: v47 :: v48 :: v49 :: v50 :: v51 :: v52 :: v53 :: v54 :: v55 :: v56 :: v57 :: v58 :: v59 :: v60 :: v61 :: v62 :: v63 :: v64 :: []) ++ pl1) :=
  znP (W2 := (u0 :: u1 :: u2 :: u3 :: u4 :: u5 :: u6 :: u7 :: u8 :: u9 :: u10 :: u11 :: u12 :: u13 :: u14 :: u15 :: u16 :: v17 :: v18 :: v19 :: v20 :: v21 :: v22 :: v23 :: v24 :: v25 :: v26 :: v27 :: v28 :: v29 :: v30 :: v31 :: v32 :: v33 :: v34 :: v35 :: v36 :: v37 :: v38 :: v39 :: v40 :: v41 :: v42 :: v43 :: v44 :: v45 :: v46 :: v47 :: v48 :: v49 :: v50 :: v51 :: v52 :: v53 :: v54 :: v55 :: v56 :: v57 :: v58 :: v59 :: v60 :: v61 :: v62 :: v63 :: v64 :: [])) hP hD hk hF hP1 hD1 [0, 1, 4, 8, 9, 10, 11, 12, 13, 5, 6, 7, 14, 15, 16, 2, 3] (false :: false :: false :: false :: false :: false :: false :: false :: false :: false :: false :: false :: false :: false :: false :: false :: false :: true :: true :: true :: true :: true :: true :: true :: true :: true :: true :: true :: true :: true :: true :: true :: true :: true :: true :: true :: true :: true :: true :: true :: true :: true :: true :: true :: true :: true :: true :: true :: true :: true :: true :: true :: true :: true :: true :: true :: true :: true :: true :: true :: true :: true :: true :: true :: true :: []) (false :: false :: false :: false :: false :: false :: false :: false :: false :: false :: false :: false :: false :: false :: false :: false :: false :: true :: true :: true :: true :: true :: true :: true :: true :: true :: true :: true :: true :: true :: true :: true :: true :: true :: true :: true :: true :: true :: true :: true :: true :: true :: true :: true :: true :: true :: true :: true :: true :: true :: true :: true :: true :: true :: true :: true :: true :: true :: true :: true :: true :: true :: true :: true :: true :: []) [0, 1, 4, 8, 9, 10, 11, 12, 13, 5, 6, 7, 14, 15, 16, 2, 3] (by decide +kernel) rfl rfl rfl rfl rfl
set_option maxHeartbeats 4000000 in
set_option maxRecDepth 100000 in
theorem zs_12 {A0 : Nat → Prop} {D : va_G} {cl : List vw_C} {v0 v1 v2 v3 v4 v5 v6 v7 v8 v9 v10 v11 v12 v13 v14 v15 v16 v17 v18 v19 v20 v21 v22 v23 v24 v25 v26 v27 v28 v29 v30 v31 v32 v33 v34 v35 v36 v37 v38 v39 v40 v41 v42 v43 v44 v45 v46 v47 v48 v49 v50 v51 v52 v53 v54 v55 v56 v57 v58 v59 v60 v61 v62 v63 v64 : Nat × va_E} {u28 u29 u30 u31 u32 u33 u34 u35 u36 u37 u38 u39 u40 u41 u42 u43 : Nat × va_E} {pl : va_W} {H H1 : Heap} (hP : va_P D cl ((v0 :: v1 :: v2 :: v3 :: v4 :: v5 :: v6 :: v7 :: v8 :: v9 :: v10 :: v11 :: v12 :: v13 :: v14 :: v15 :: v16 :: v17 :: v18 :: v19 :: v20 :: v21 :: v22 :: v23 :: v24 :: v25 :: v26 :: v27 :: v28 :: v29 :: v30 :: v31 :: v32 :: v33 :: v34 :: v35 :: v36 :: v37 :: v38 :: v39 :: v40 :: v41 :: v42 :: v43 :: v44 :: v45 :: v46 :: v47 :: v48 :: v49 :: v50 :: v51 :: v52 :: v53 :: v54 :: v55 :: v56 :: v57 :: v58 :: v59 :: v60 :: v61 :: v62 :: v63 :: v64 :: []) ++ pl) H) (hD : va_D A0 ((v0 :: v1 :: v2 :: v3 :: v4 :: v5 :: v6 :: v7 :: v8 :: v9 :: v10 :: v11 :: v12 :: v13 :: v14 :: v15 :: v16 :: v17 :: v18 :: v19 :: v20 :: v21 :: v22 :: v23 :: v24 :: v25 :: v26 :: v27 :: v28 :: v29 :: v30 :: v31 :: v32 :: v33 :: v34 :: v35 :: v36 :: v37 :: v38 :: v39 :: v40 :: v41 :: v42 :: v43 :: v44 :: v45 :: v46 :: v47 :: v48 :: v49 :: v50 :: v51 :: v52 :: v53 :: v54 :: v55 :: v56 :: v57 :: v58 :: v59 :: v60 :: v61 :: v62 :: v63 :: v64 :: []) ++ pl)) (hk : ∀ q : Nat, q < H.size → ¬ va_A ([v28, v29, v30, v31, v32, v33, v34, v35, v36, v37, v38, v39, v40, v41, v42, v43]) H.size q → H1[q]? = H[q]?) (hF : ∀ q, va_A ([v28, v29, v30, v31, v32, v33, v34, v35, v36, v37, v38, v39, v40, v41, v42, v43]) H.size q → A0 q) (hP1 : va_P D cl ([u28, u29, u30, u31, u32, u33, u34, u35, u36, u37, u38, u39, u40, u41, u42, u43]) H1) (hD1 : va_D (va_A ([v28, v29, v30, v31, v32, v33, v34, v35, v36, v37, v38, v39, v40, v41, v42, v43]) H.size) ([u28, u29, u30, u31, u32, u33, u34, u35, u36, u37, u38, u39, u40, u41, u42, u43])) : va_P D cl ((v0 :: v1 :: v2 :: v3 :: v4 :: v5 :: v6 :: v7 :: v8 :: v9 :: v10 :: v11 :: v12 :: v13 :: v14 :: v15 :: v16 :: v17 :: v18 :: v19 :: v20 :: v21 :: v22 :: v23 :: v24 :: v25 :: v26 :: v27 :: u28 :: u29 :: u30 :: u31 :: u32 :: u33 :: u34 :: u35 :: u36 :: u37 :: u38 :: u39 :: u40 :: u41 :: u42 :: u43 :: v44 :: v45 :: v46 :: v47 :: v48 :: v49 :: v50 :: v51 :: v52 :: v53 :: v54 :: v55 :: v56 :: v57 :: v58 :: v59 :: v60 :: v61 :: v62 :: v63 :: v64 :: []) ++ pl) H1 ∧ va_D A0 ((v0 :: v1 :: v2 :: v3 :: v4 :: v5 :: v6 :: v7 :: v8 :: v9 :: v10 :: v11 :: v12 :: v13 :: v14 :: v15 :: v16 :: v17 :: v18 :: v19 :: v20 :: v21 :: v22 :: v23 :: v24 :: v25 :: v26 :: v27 :: u28 :: u29 :: u30 :: u31 :: u32 :: u33 :: u34 :: u35 :: u36 :: u37 :: u38 :: u39 :: u40 :: u41 :: u42 :: u43 :: v44 :: v45 :: v46 :: v47 :: v48 :: v49 :: v50 :: v51 :: v52 :: v53 :: v54 :: v55 :: v56 :: v57 :: v58 :: v59 :: v60 :: v61 :: v62 :: v63 :: v64 :: []) ++ pl) :=
  znQ (W2 := (v0 :: v1 :: v2 :: v3 :: v4 :: v5 :: v6 :: v7 :: v8 :: v9 :: v10 :: v11 :: v12 :: v13 :: v14 :: v15 :: v16 :: v17 :: v18 :: v19 :: v20 :: v21 :: v22 :: v23 :: v24 :: v25 :: v26 :: v27 :: u28 :: u29 :: u30 :: u31 :: u32 :: u33 :: u34 :: u35 :: u36 :: u37 :: u38 :: u39 :: u40 :: u41 :: u42 :: u43 :: v44 :: v45 :: v46 :: v47 :: v48 :: v49 :: v50 :: v51 :: v52 :: v53 :: v54 :: v55 :: v56 :: v57 :: v58 :: v59 :: v60 :: v61 :: v62 :: v63 :: v64 :: [])) hP hD hk hF hP1 hD1 [28, 29, 30, 31, 32, 33, 34, 35, 36, 37, 38, 39, 40, 41, 42, 43] (true :: true :: true :: true :: true :: true :: true :: true :: true :: true :: true :: true :: true :: true :: true :: true :: true :: true :: true :: true :: true :: true :: true :: true :: true :: true :: true :: true :: false :: false :: false :: false :: false :: false :: false :: false :: false :: false :: false :: false :: false :: false :: false :: false :: true :: true :: true :: true :: true :: true :: true :: true :: true :: true :: true :: true :: true :: true :: true :: true :: true :: true :: true :: true :: true :: []) (true :: true :: true :: true :: true :: true :: true :: true :: true :: true :: true :: true :: true :: true :: true :: true :: true :: true :: true :: true :: true :: true :: true :: true :: true :: true :: true :: true :: false :: false :: false :: false :: false :: false :: false :: false :: false :: false :: false :: false :: false :: false :: false :: false :: true :: true :: true :: true :: true :: true :: true :: true :: true :: true :: true :: true :: true :: true :: true :: true :: true :: true :: true :: true :: true :: []) [28, 29, 30, 31, 32, 33, 34, 35, 36, 37, 38, 39, 40, 41, 42, 43] (by decide +kernel) rfl rfl rfl rfl rfl
set_option maxHeartbeats 4000000 in
set_option maxRecDepth 100000 in
theorem zs_13 {A0 : Nat → Prop} {D : va_G} {cl : List vw_C} {v0 v1 v2 v3 v4 v5 v6 v7 v8 v9 v10 v11 v12 v13 v14 v15 v16 v17 v18 v19 v20 v21 v22 v23 v24 v25 v26 v27 v28 v29 v30 v31 v32 v33 v34 v35 v36 v37 v38 v39 v40 v41 v42 v43 v44 v45 v46 v47 v48 v49 v50 v51 v52 v53 v54 v55 v56 v57 v58 v59 v60 v61 v62 v63 v64 : Nat × va_E} {u0 : Nat × va_E} {pl : va_W} {H H1 : Heap} (hP : va_P D cl ((v0 :: v1 :: v2 :: v3 :: v4 :: v5 :: v6 :: v7 :: v8 :: v9 :: v10 :: v11 :: v12 :: v13 :: v14 :: v15 :: v16 :: v17 :: v18 :: v19 :: v20 :: v21 :: v22 :: v23 :: v24 :: v25 :: v26 :: v27 :: v28 :: v29 :: v30 :: v31 :: v32 :: v33 :: v34 :: v35 :: v36 :: v37 :: v38 :: v39 :: v40 :: v41 :: v42 :: v43 :: v44 :: v45 :: v46 :: v47 :: v48 :: v49 :: v50 :: v51 :: v52 :: v53 :: v54 :: v55 :: v56 :: v57 :: v58 :: v59 :: v60 :: v61 :: v62 :: v63 :: v64 :: []) ++ pl) H) (hD : va_D A0 ((v0 :: v1 :: v2 :: v3 :: v4 :: v5 :: v6 :: v7 :: v8 :: v9 :: v10 :: v11 :: v12 :: v13 :: v14 :: v15 :: v16 :: v17 :: v18 :: v19 :: v20 :: v21 :: v22 :: v23 :: v24 :: v25 :: v26 :: v27 :: v28 :: v29 :: v30 :: v31 :: v32 :: v33 :: v34 :: v35 :: v36 :: v37 :: v38 :: v39 :: v40 :: v41 :: v42 :: v43 :: v44 :: v45 :: v46 :: v47 :: v48 :: v49 :: v50 :: v51 :: v52 :: v53 :: v54 :: v55 :: v56 :: v57 :: v58 :: v59 :: v60 :: v61 :: v62 :: v63 :: v64 :: []) ++ pl)) (hk : ∀ q : Nat, q < H.size → ¬ va_A ([v0]) H.size q → H1[q]? = H[q]?) (hF : ∀ q, va_A ([v0]) H.size q → A0 q) (hP1 : va_P D cl ([u0]) H1) (hD1 : va_D (va_A ([v0]) H.size) ([u0])) : va_P D cl ((u0 :: v1 :: v2 :: v3 :: v4 :: v5 :: v6 :: v7 :: v8 :: v9 :: v10 :: v11 :: v12 :: v13 :: v14 :: v15 :: v16 :: v17 :: v18 :: v19 :: v20 :: v21 :: v22 :: v23 :: v24 :: v25 :: v26 :: v27 :: v28 :: v29 :: v30 :: v31 :: v32 :: v33 :: v34 :: v35 :: v36 :: v37 :: v38 :: v39 :: v40 :: v41 :: v42 :: v43 :: v44 :: v45 :: v46 :: v47 :: v48 :: v49 :: v50 :: v51 :: v52 :: v53 :: v54 :: v55 :: v56 :: v57 :: v58 :: v59 :: v60 :: v61 :: v62 :: v63 :: v64 :: []) ++ pl) H1 ∧ va_D A0 ((u0 :: v1 :: v2 :: v3 :: v4 :: v5 :: v6 :: v7 :: v8 :: v9 :: v10 :: v11 :: v12 :: v13 :: v14 :: v15 :: v16 :: v17 :: v18 :: v19 :: v20 :: v21 :: v22 :: v23 :: v24 :: v25 :: v26 :: v27 :: v28 :: v29 :: v30 :: v31 :: v32 :: v33 :: v34 :: v35 :: v36 :: v37 :: v38 :: v39 :: v40 :: v41 :: v42 :: v43 :: v44 :: v45 :: v46 :: v47 :: v48 :: v49 :: v50 :: v51 :: v52 :: v53 :: v54 :: v55 :: v56 :: v57 :: v58 :: v59 :: v60 :: v61 :: v62 :: v63 :: v64 :: []) ++ pl) :=
  znQ (W2 := (u0 :: v1 :: v2 :: v3 :: v4 :: v5 :: v6 :: v7 :: v8 :: v9 :: v10 :: v11 :: v12 :: v13 :: v14 :: v15 :: v16 :: v17 :: v18 :: v19 :: v20 :: v21 :: v22 :: v23 :: v24 :: v25 :: v26 :: v27 :: v28 :: v29 :: v30 :: v31 :: v32 :: v33 :: v34 :: v35 :: v36 :: v37 :: v38 :: v39 :: v40 :: v41 :: v42 :: v43 :: v44 :: v45 :: v46 :: v47 :: v48 :: v49 :: v50 :: v51 :: v52 :: v53 :: v54 :: v55 :: v56 :: v57 :: v58 :: v59 :: v60 :: v61 :: v62 :: v63 :: v64 :: [])) hP hD hk hF hP1 hD1 [0] (false :: true :: true :: true :: true :: true :: true :: true :: true :: true :: true :: true :: true :: true :: true :: true :: true :: true :: true :: true :: true :: true :: true :: true :: true :: true :: true :: true :: true :: true :: true :: true :: true :: true :: true :: true :: true :: true :: true :: true :: true :: true :: true :: true :: true :: true :: true :: true :: true :: true :: true :: true :: true :: true :: true :: true :: true :: true :: true :: true :: true :: true :: true :: true :: true :: []) (false :: true :: true :: true :: true :: true :: true :: true :: true :: true :: true :: true :: true :: true :: true :: true :: true :: true :: true :: true :: true :: true :: true :: true :: true :: true :: true :: true :: true :: true :: true :: true :: true :: true :: true :: true :: true :: true :: true :: true :: true :: true :: true :: true :: true :: true :: true :: true :: true :: true :: true :: true :: true :: true :: true :: true :: true :: true :: true :: true :: true :: true :: true :: true :: true :: []) [0] (by decide +kernel) rfl rfl rfl rfl rfl
set_option maxHeartbeats 4000000 in
set_option maxRecDepth 100000 in
theorem zs_14 {A0 : Nat → Prop} {D : va_G} {cl : List vw_C} {v0 v1 v2 v3 v4 v5 v6 v7 v8 v9 v10 v11 v12 v13 v14 v15 v16 v17 v18 v19 v20 v21 v22 v23 v24 v25 v26 v27 v28 v29 v30 v31 v32 v33 v34 v35 v36 v37 v38 v39 v40 v41 v42 v43 v44 v45 v46 v47 v48 v49 v50 v51 v52 v53 v54 v55 v56 v57 v58 v59 v60 v61 v62 v63 v64 : Nat × va_E} {u0 u1 : Nat × va_E} {pl : va_W} {H H1 : Heap} (hP : va_P D cl ((v0 :: v1 :: v2 :: v3 :: v4 :: v5 :: v6 :: v7 :: v8 :: v9 :: v10 :: v11 :: v12 :: v13 :: v14 :: v15 :: v16 :: v17 :: v18 :: v19 :: v20 :: v21 :: v22 :: v23 :: v24 :: v25 :: v26 :: v27 :: v28 :: v29 :: v30 :: v31 :: v32 :: v33 :: v34 :: v35 :: v36 :: v37 :: v38 :: v39 :: v40 :: v41 :: v42 :: v43 :: v44 :: v45 :: v46 :: v47 :: v48 :: v49 :: v50 :: v51 :: v52 :: v53 :: v54 :: v55 :: v56 :: v57 :: v58 :: v59 :: v60 :: v61 :: v62 :: v63 :: v64 :: []) ++ pl) H) (hD : va_D A0 ((v0 :: v1 :: v2 :: v3 :: v4 :: v5 :: v6 :: v7 :: v8 :: v9 :: v10 :: v11 :: v12 :: v13 :: v14 :: v15 :: v16 :: v17 :: v18 :: v19 :: v20 :: v21 :: v22 :: v23 :: v24 :: v25 :: v26 :: v27 :: v28 :: v29 :: v30 :: v31 :: v32 :: v33 :: v34 :: v35 :: v36 :: v37 :: v38 :: v39 :: v40 :: v41 :: v42 :: v43 :: v44 :: v45 :: v46 :: v47 :: v48 :: v49 :: v50 :: v51 :: v52 :: v53 :: v54 :: v55 :: v56 :: v57 :: v58 :: v59 :: v60 :: v61 :: v62 :: v63 :: v64 :: []) ++ pl)) (hk : ∀ q : Nat, q < H.size → ¬ va_A ([v0, v1]) H.size q → H1[q]? = H[q]?) (hF : ∀ q, va_A ([v0, v1]) H.size q → A0 q) (hP1 : va_P D cl ([u0, u1]) H1) (hD1 : va_D (va_A ([v0, v1]) H.size) ([u0, u1])) : va_P D cl ((u0 :: u1 :: v2 :: v3 :: v4 :: v5 :: v6 :: v7 :: v8 :: v9 :: v10 :: v11 :: v12 :: v13 :: v14 :: v15 :: v16 :: v17 :: v18 :: v19 :: v20 :: v21 :: v22 :: v23 :: v24 :: v25 :: v26 :: v27 :: v28 :: v29 :: v30 :: v31 :: v32 :: v33 :: v34 :: v35 :: v36 :: v37 :: v38 :: v39 :: v40 :: v41 :: v42 :: v43 :: v44 :: v45 :: v46 :: v47 :: v48 :: v49 :: v50 :: v51 :: v52 :: v53 :: v54 :: v55 :: v56 :: v57 :: v58 :: v59 :: v60 :: v61 :: v62 :: v63 :: v64 :: []) ++ pl) H1 ∧ va_D A0 ((u0 :: u1 :: v2 :: v3 :: v4 :: v5 :: v6 :: v7 :: v8 :: v9 :: v10 :: v11 :: v12 :: v13 :: v14 :: v15 :: v16 :: v17 :: v18 :: v19 :: v20 :: v21 :: v22 :: v23 :: v24 :: v25 :: v26 :: v27 :: v28 :: v29 :: v30 :: v31 :: v32 :: v33 :: v34 :: v35 :: v36 :: v37 :: v38 :: v39 :: v40 :: v41 :: v42 :: v43 :: v44 :: v45 :: v46 :: v47 :: v48 :: v49 :: v50 :: v51 :: v52 :: v53 :: v54 :: v55 :: v56 :: v57 :: v58 :: v59 :: v60 :: v61 :: v62 :: v63 :: v64 :: []) ++ pl) :=
  znQ (W2 := (u0 :: u1 :: v2 :: v3 :: v4 :: v5 :: v6 :: v7 :: v8 :: v9 :: v10 :: v11 :: v12 :: v13 :: v14 :: v15 :: v16 :: v17 :: v18 :: v19 :: v20 :: v21 :: v22 :: v23 :: v24 :: v25 :: v26 :: v27 :: v28 :: v29 :: v30 :: v31 :: v32 :: v33 :: v34 :: v35 :: v36 :: v37 :: v38 :: v39 :: v40 :: v41 :: v42 :: v43 :: v44 :: v45 :: v46 :: v47 :: v48 :: v49 :: v50 :: v51 :: v52 :: v53 :: v54 :: v55 :: v56 :: v57 :: v58 :: v59 :: v60 :: v61 :: v62 :: v63 :: v64 :: [])) hP hD hk hF hP1 hD1 [0, 1] (false :: false :: true :: true :: true :: true :: true :: true :: true :: true :: true :: true :: true :: true :: true :: true :: true :: true :: true :: true :: true :: true :: true :: true :: true :: true :: true :: true :: true :: true :: true :: true :: true :: true :: true :: true :: true :: true :: true :: true :: true :: true :: true :: true :: true :: true :: true :: true :: true :: true :: true :: true :: true :: true :: true :: true :: true :: true :: true :: true :: true :: true :: true :: true :: true :: []) (false :: false :: true :: true :: true :: true :: true :: true :: true :: true :: true :: true :: true :: true :: true :: true :: true :: true :: true :: true :: true :: true :: true :: true :: true :: true :: true :: true :: true :: true :: true :: true :: true :: true :: true :: true :: true :: true :: true :: true :: true :: true :: true :: true :: true :: true :: true :: true :: true :: true :: true :: true :: true :: true :: true :: true :: true :: true :: true :: true :: true :: true :: true :: true :: true :: []) [0, 1] (by decide +kernel) rfl rfl rfl rfl rfl
set_option maxHeartbeats 4000000 in
set_option maxRecDepth 100000 in
theorem zs_15 {A0 : Nat → Prop} {D : va_G} {cl : List vw_C} {v0 v1 v2 v3 v4 v5 v6 v7 v8 v9 v10 v11 v12 v13 v14 v15 v16 v17 v18 v19 v20 v21 v22 v23 v24 v25 v26 v27 v28 v29 v30 v31 v32 v33 v34 v35 v36 v37 v38 v39 v40 v41 v42 v43 v44 v45 v46 v47 v48 v49 v50 v51 v52 v53 v54 v55 v56 v57 v58 v59 v60 v61 v62 v63 v64 : Nat × va_E} {u0 u1 u27 u2 u3 : Nat × va_E} {pl pl1 : va_W} {H H1 : Heap} (hP : va_P D cl ((v0 :: v1 :: v2 :: v3 :: v4 :: v5 :: v6 :: v7 :: v8 :: v9 :: v10 :: v11 :: v12 :: v13 :: v14 :: v15 :: v16 :: v17 :: v18 :: v19 :: v20 :: v21 :: v22 :: v23 :: v24 :: v25 :: v26 :: v27 :: v28 :: v29 :: v30 :: v31 :: v32 :: v33 :: v34 :: v35 :: v36 :: v37 :: v38 :: v39 :: v40 :: v41 :: v42 :: v43 :: v44 :: v45 :: v46 :: v47 :: v48 :: v49 :: v50 :: v51 :: v52 :: v53 :: v54 :: v55 :: v56 :: v57 :: v58 :: v59 :: v60 :: v61 :: v62 :: v63 :: v64 :: []) ++ pl) H) (hD : va_D A0 ((v0 :: v1 :: v2 :: v3 :: v4 :: v5 :: v6 :: v7 :: v8 :: v9 :: v10 :: v11 :: v12 :: v13 :: v14 :: v15 :: v16 :: v17 :: v18 :: v19 :: v20 :: v21 :: v22 :: v23 :: v24 :: v25 :: v26 :: v27 :: v28 :: v29 :: v30 :: v31 :: v32 :: v33 :: v34 :: v35 :: v36 :: v37 :: v38 :: v39 :: v40 :: v41 :: v42 :: v43 :: v44 :: v45 :: v46 :: v47 :: v48 :: v49 :: v50 :: v51 :: v52 :: v53 :: v54 :: v55 :: v56 :: v57 :: v58 :: v59 :: v60 :: v61 :: v62 :: v63 :: v64 :: []) ++ pl)) (hk : ∀ q : Nat, q < H.size → ¬ va_A ([v0, v1, v27, v2, v3] ++ pl) H.size q → H1[q]? = H[q]?) (hF : ∀ q, va_A ([v0, v1, v27, v2, v3] ++ pl) H.size q → A0 q) (hP1 : va_P D cl ([u0, u1, u27, u2, u3] ++ pl1) H1) (hD1 : va_D (va_A ([v0, v1, v27, v2, v3] ++ pl) H.size) ([u0, u1, u27, u2, u3] ++ pl1)) : va_P D cl ((u0 :: u1 :: u2 :: u3 :: v4 :: v5 :: v6 :: v7 :: v8 :: v9 :: v10 :: v11 :: v12 :: v13 :: v14 :: v15 :: v16 :: v17 :: v18 :: v19 :: v20 :: v21 :: v22 :: v23 :: v24 :: v25 :: v26 :: u27 :: v28 :: v29 :: v30 :: v31 :: v32 :: v33 :: v34 :: v35 :: v36 :: v37 :: v38 :: v39 :: v40 :: v41 :: v42 :: v43 :: v44 :: v45 :: v46 :: v47 :: v48 :: v49 :: v50 :: v51 :: v52 :: v53 :: v54 :: v55 :: v56 :: v57 :: v58 :: v59 :: v60 :: v61 :: v62 :: v63 :: v64 :: []) ++ pl1) H1 ∧ va_D A0 ((u0 :: u1 :: u2 :: u3 :: v4 :: v5 :: v6 :: v7 :: v8 :: v9 :: v10 :: v11 :: v12 :: v13 :: v14 :: v15 :: v16 :: v17 :: v18 :: v19 :: v20 :: v21 :: v22 :: v23 :: v24 :: v25 :: v26 :: u27 :: v28 :: v29 :: v30 :: v31 :: v32 :: v33 :: v34 :: v35 :: v36 :: v37 :: v38 :: v39 :: v40 :: v41 :: v42 :: v43 :: v44 :: v45 :: v46 :: v47 :: v48 :: v49 :: v50 :: v51 :: v52 :: v53 :: v54 :: v55 :: v56 :: v57 :: v58 :: v59 :: v60 :: v61 :: v62 :: v63 :: v64 :: []) ++ pl1) :=
  znP (W2 := (u0 :: u1 :: u2 :: u3 :: v4 :: v5 :: v6 :: v7 :: v8 :: v9 :: v10 :: v11 :: v12 :: v13 :: v14 :: v15 :: v16 :: v17 :: v18 :: v19 :: v20 :: v21 :: v22 :: v23 :: v24 :: v25 :: v26 :: u27 :: v28 :: v29 :: v30 :: v31 :: v32 :: v33 :: v34 :: v35 :: v36 :: v37 :: v38 :: v39 :: v40 :: v41 :: v42 :: v43 :: v44 :: v45 :: v46 :: v47 :: v48 :: v49 :: v50 :: v51 :: v52 :: v53 :: v54 :: v55 :: v56 :: v57 :: v58 :: v59 :: v60 :: v61 :: v62 :: v63 :: v64 :: [])) hP hD hk hF hP1 hD1 [0, 1, 27, 2, 3] (false :: false :: false :: false :: true :: true :: true :: true :: true :: true :: true :: true :: true :: true :: true :: true :: true :: true :: true :: true :: true :: true :: true :: true :: true :: true :: true :: false :: true :: true :: true :: true :: true :: true :: true :: true :: true :: true :: true :: true :: true :: true :: true :: true :: true :: true :: true :: true :: true :: true :: true :: true :: true :: true :: true :: true :: true :: true :: true :: true :: true :: true :: true :: true :: true :: []) (false :: false :: false :: false :: true :: true :: true :: true :: true :: true :: true :: true :: true :: true :: true :: true :: true :: true :: true :: true :: true :: true :: true :: true :: true :: true :: true :: false :: true :: true :: true :: true :: true :: true :: true :: true :: true :: true :: true :: true :: true :: true :: true :: true :: true :: true :: true :: true :: true :: true :: true :: true :: true :: true :: true :: true :: true :: true :: true :: true :: true :: true :: true :: true :: true :: []) [0, 1, 27, 2, 3] (by decide +kernel) rfl rfl rfl rfl rfl
set_option maxHeartbeats 4000000 in
set_option maxRecDepth 100000 in
theorem zs_16 {A0 : Nat → Prop} {D : va_G} {cl : List vw_C} {v0 v1 v2 v3 v4 v5 v6 v7 v8 v9 v10 v11 v12 v13 v14 v15 v16 v17 v18 v19 v20 v21 v22 v23 v24 v25 v26 v27 v28 v29 v30 v31 v32 v33 v34 v35 v36 v37 v38 v39 v40 v41 v42 v43 v44 v45 v46 v47 v48 v49 v50 v51 v52 v53 v54 v55 v56 v57 v58 v59 v60 v61 v62 v63 v64 : Nat × va_E} {u0 u1 u17 u18 u19 u20 u21 u22 u2 u3 : Nat × va_E} {pl pl1 : va_W} {H H1 : Heap} (hP : va_P D cl ((v0 :: v1 :: v2 :: v3 :: v4 :: v5 :: v6 :: v7 :: v8 :: v9 :: v10 :: v11 :: v12 :: v13 :: v14 :: v15 :: v16 :: v17 :: v18 :: v19 :: v20 :: v21 :: v22 :: v23 :: v24 :: v25 :: v26 :: v27 :: v28 :: v29 :: v30 :: v31 :: v32 :: v33 :: v34 :: v35 :: v36 :: v37 :: v38 :: v39 :: v40 :: v41 :: v42 :: v43 :: v44 :: v45 :: v46 :: v47 :: v48 :: v49 :: v50 :: v51 :: v52 :: v53 :: v54 :: v55 :: v56 :: v57 :: v58 :: v59 :: v60 :: v61 :: v62 :: v63 :: v64 :: []) ++ pl) H) (hD : va_D A0 ((v0 :: v1 :: v2 :: v3 :: v4 :: v5 :: v6 :: v7 :: v8 :: v9 :: v10 :: v11 :: v12 :: v13 :: v14 :: v15 :: v16 :: v17 :: v18 :: v19 :: v20 :: v21 :: v22 :: v23 :: v24 :: v25 :: v26 :: v27 :: v28 :: v29 :: v30 :: v31 :: v32 :: v33 :: v34 :: v35 :: v36 :: v37 :: v38 :: v39 :: v40 :: v41 :: v42 :: v43 :: v44 :: v45 :: v46 :: v47 :: v48 :: v49 :: v50 :: v51 :: v52 :: v53 :: v54 :: v55 :: v56 :: v57 :: v58 :: v59 :: v60 :: v61 :: v62 :: v63 :: v64 :: []) ++ pl)) (hk : ∀ q : Nat, q < H.size → ¬ va_A ([v0, v1, v17, v18, v19, v20, v21, v22, v2, v3] ++ pl) H.size q → H1[q]? = H[q]?) (hF : ∀ q, va_A ([v0, v1, v17, v18, v19, v20, v21, v22, v2, v3] ++ pl) H.size q → A0 q) (hP1 : va_P D cl ([u0, u1, u17, u18, u19, u20, u21, u22, u2, u3] ++ pl1) H1) (hD1 : va_D (va_A ([v0, v1, v17, v18, v19, v20, v21, v22, v2, v3] ++ pl) H.size) ([u0, u1, u17, u18, u19, u20, u21, u22, u2, u3] ++ pl1)) : va_P D cl ((u0 :: u1 :: u2 :: u3 :: v4 :: v5 :: v6 :: v7 :: v8 :: v9 :: v10 :: v11 :: v12 :: v13 :: v14 :: v15 :: v16 :: u17 :: u18 :: u19 :: u20 :: u21 :: u22 :: v23 :: v24 :: v25 :: v26 :: v27 :: v28 :: v29 :: v30 :: v31 :: v32 :: v33 :: v34 :: v35 :: v36 :: v37 :: v38 :: v39 :: v40 :: v41 :: v42 :: v43 :: v44 :: v45 :: v46 :: v47 :: v48 :: v49 :: v50 :: v51 :: v52 :: v53 :: v54 :: v55 :: v56 :: v57 :: v58 :: v59 :: v60 :: v61 :: v62 :: v63 :: v64 :: []) ++ pl1) H1 ∧ va_D A0 ((u0 :: u1 :: u2 :: u3 :: v4 :: v5 :: v6 :: v7 :: v8 :: v9 :: v10 :: v11 :: v12 :: v13 :: v14 :: v15 :: v16 :: u17 :: u18 :: u19 :: u20 :: u21 :: u22 :: v23 :: v24 :: v25 :: v26 :: v27 :: v28 :: v29 :: v30 :: v31 :: v32 :: v33 :: v34 :: v35 :: v36 :: v37 :: v38 :: v39 :: v40 :: v41 :: v42 :: v43 :: v44 :: v45 :: v46 :: v47 :: v48 :: v49 :: v50 :: v51 :: v52 :: v53 :: v54 :: v55 :: v56 :: v57 :: v58 :: v59 :: v60 :: v61 :: v62 :: v63 :: v64 :: []) ++ pl1) :=
  znP (W2 := (u0 :: u1 :: u2 :: u3 :: v4 :: v5 :: v6 :: v7 :: v8 :: v9 :: v10 :: v11 :: v12 :: v13 :: v14 :: v15 :: v16 :: u17 :: u18 :: u19 :: u20 :: u21 :: u22 :: v23 :: v24 :: v25 :: v26 :: v27 :: v28 :: v29 :: v30 :: v31 :: v32 :: v33 :: v34 :: v35 :: v36 :: v37 :: v38 :: v39 :: v40 :: v41 :: v42 :: v43 :: v44 :: v45 :: v46 :: v47 :: v48 :: v49 :: v50 :: v51 :: v52 :: v53 :: v54 :: v55 :: v56 :: v57 :: v58 :: v59 :: v60 :: v61 :: v62 :: v63 :: v64 :: [])) hP hD hk hF hP1 hD1 [0, 1, 17, 18, 19, 20, 21, 22, 2, 3] (false :: false :: false :: false :: true :: true :: true :: true :: true :: true :: true :: true :: true :: true :: true :: true :: true :: false :: false :: false :: false :: false :: false :: true :: true :: true :: true :: true :: true :: true :: true :: true :: true :: true :: true :: true :: true :: true :: true :: true :: true :: true :: true :: true :: true :: true :: true :: true :: true :: true :: true :: true :: true :: true :: true :: true :: true :: true :: true :: true :: true :: true :: true :: true :: true :: []) (false :: false :: false :: false :: true :: true :: true :: true :: true :: true :: true :: true :: true :: true :: true :: true :: true :: false :: false :: false :: false :: false :: false :: true :: true :: true :: true :: true :: true :: true :: true :: true :: true :: true :: true :: true :: true :: true :: true :: true :: true :: true :: true :: true :: true :: true :: true :: true :: true :: true :: true :: true :: true :: true :: true :: true :: true :: true :: true :: true :: true :: true :: true :: true :: true :: []) [0, 1, 17, 18, 19, 20, 21, 22, 2, 3] (by decide +kernel) rfl rfl rfl rfl rfl
set_option maxHeartbeats 4000000 in
set_option maxRecDepth 100000 in
theorem zs_17 {A0 : Nat → Prop} {D : va_G} {cl : List vw_C} {v0 v1 v2 v3 v4 v5 v6 v7 v8 v9 v10 v11 v12 v13 v14 v15 v16 v17 v18 v19 v20 v21 v22 v23 v24 v25 v26 v27 v28 v29 v30 v31 v32 v33 v34 v35 v36 v37 v38 v39 v40 v41 v42 v43 v44 v45 v46 v47 v48 v49 v50 v51 v52 v53 v54 v55 v56 v57 v58 v59 v60 v61 v62 v63 v64 : Nat × va_E} {u0 u1 u4 u5 u6 u7 u23 u25 u2 u3 : Nat × va_E} {pl pl1 : va_W} {H H1 : Heap} (hP : va_P D cl ((v0 :: v1 :: v2 :: v3 :: v4 :: v5 :: v6 :: v7 :: v8 :: v9 :: v10 :: v11 :: v12 :: v13 :: v14 :: v15 :: v16 :: v17 :: v18 :: v19 :: v20 :: v21 :: v22 :: v23 :: v24 :: v25 :: v26 :: v27 :: v28 :: v29 :: v30 :: v31 :: v32 :: v33 :: v34 :: v35 :: v36 :: v37 :: v38 :: v39 :: v40 :: v41 :: v42 :: v43 :: v44 :: v45 :: v46 :: v47 :: v48 :: v49 :: v50 :: v51 :: v52 :: v53 :: v54 :: v55 :: v56 :: v57 :: v58 :: v59 :: v60 :: v61 :: v62 :: v63 :: v64 :: []) ++ pl) H) (hD : va_D A0 ((v0 :: v1 :: v2 :: v3 :: v4 :: v5 :: v6 :: v7 :: v8 :: v9 :: v10 :: v11 :: v12 :: v13 :: v14 :: v15 :: v16 :: v17 :: v18 :: v19 :: v20 :: v21 :: v22 :: v23 :: v24 :: v25 :: v26 :: v27 :: v28 :: v29 :: v30 :: v31 :: v32 :: v33 :: v34 :: v35 :: v36 :: v37 :: v38 :: v39 :: v40 :: v41 :: v42 :: v43 :: v44 :: v45 :: v46 :: v47 :: v48 :: v49 :: v50 :: v51 :: v52 :: v53 :: v54 :: v55 :: v56 :: v57 :: v58 :: v59 :: v60 :: v61 :: v62 :: v63 :: v64 :: []) ++ pl)) (hk : ∀ q : Nat, q < H.size → ¬ va_A ([v0, v1, v4, v5, v6, v7, v23, v25, v2, v3] ++ pl) H.size q → H1[q]? = H[q]?) (hF : ∀ q, va_A ([v0, v1, v4, v5, v6, v7, v23, v25, v2, v3] ++ pl) H.size q → A0 q) (hP1 : va_P D cl ([u0, u1, u4, u5, u6, u7, u23, u25, u2, u3] ++ pl1) H1) (hD1 : va_D (va_A ([v0, v1, v4, v5, v6, v7, v23, v25, v2, v3] ++ pl) H.size) ([u0, u1, u4, u5, u6, u7, u23, u25, u2, u3] ++ pl1)) : va_P D cl ((u0 :: u1 :: u2 :: u3 :: u4 :: u5 :: u6 :: u7 :: v8 :: v9 :: v10 :: v11 :: v12 :: v13 :: v14 :: v15 :: v16 :: v17 :: v18 :: v19 :: v20 :: v21 :: v22 :: u23 :: v24 :: u25 :: v26 :: v27 :: v28 :: v29 :: v30 :: v31 :: v32 :: v33 :: v34 :: v35 :: v36 :: v37 :: v38 :: v39 :: v40 :: v41 :: v42 :: v43 :: v44 :: v45 :: v46 :: v47 :: v48 :: v49 :: v50 :: v51 :: v52 :: v53 :: v54 :: v55 :: v56 :: v57 :: v58 :: v59 :: v60 :: v61 :: v62 :: v63 :: v64 :: []) ++ pl1) H1 ∧ va_D A0 ((u0 :: u1 :: u2 :: u3 :: u4 :: u5 :: u6 :: u7 :: v8 :: v9 :: v10 :: v11 :: v12 :: v13 :: v14 :: v15 :: v16 :: v17 :: v18 :: v19 :: v20 :: v21 :: v22 :: u23 :: v24 :: u25 :: v26 :: v27 :: v28 :: v29 :: v30 :: v31 :: v32 :: v33 :: v34 :: v35 :: v36 :: v37 :: v38 :: v39 :: v40 :: v41 :: v42 :: v43 :: v44 :: v45 :: v46 :: v47 :: v48 :: v49 :: v50 :: v51 :: v52 :: v53 :: v54 :: v55 :: v56 :: v57 :: v58 :: v59 :: v60 :: v61 :: v62 :: v63 :: v64 :: []) ++ pl1) :=
  znP (W2 := (u0 :: u1 :: u2 :: u3 :: u4 :: u5 :: u6 :: u7 :: v8 :: v9 :: v10 :: v11 :: v12 :: v13 :: v14 :: v15 :: v16 :: v17 :: v18 :: v19 :: v20 :: v21 :: v22 :: u23 :: v24 :: u25 :: v26 :: v27 :: v28 :: v29 :: v30 :: v31 :: v32 :: v33 :: v34 :: v35 :: v36 :: v37 :: v38 :: v39 :: v40 :: v41 :: v42 :: v43 :: v44 :: v45 :: v46 :: v47 :: v48 :: v49 :: v50 :: v51 :: v52 :: v53 :: v54 :: v55 :: v56 :: v57 :: v58 :: v59 :: v60 :: v61 :: v62 :: v63 :: v64 :: [])) hP hD hk hF hP1 hD1 [0, 1, 4, 5, 6, 7, 23, 25, 2, 3] (false :: false :: false :: false :: false :: false :: false :: false :: true :: true :: true :: true :: true :: true :: true :: true :: true :: true :: true :: true :: true :: true :: true :: false :: true :: false :: true :: true :: true :: true :: true :: true :: true :: true :: true :: true :: true :: true :: true :: true :: true :: true :: true :: true :: true :: true :: true :: true :: true :: true :: true :: true :: true :: true :: true :: true :: true :: true :: true :: true :: true :: true :: true :: true :: true :: []) (false :: false :: false :: false :: false :: false :: false :: false :: true :: true :: true :: true :: true :: true :: true :: true :: true :: true :: true :: true :: true :: true :: true :: false :: true :: false :: true :: true :: true :: true :: true :: true :: true :: true :: true :: true :: true :: true :: true :: true :: true :: true :: true :: true :: true :: true :: true :: true :: true :: true :: true :: true :: true :: true :: true :: true :: true :: true :: true :: true :: true :: true :: true :: true :: true :: []) [0, 1, 4, 5, 6, 7, 23, 25, 2, 3] (by decide +kernel) rfl rfl rfl rfl rfl
set_option maxHeartbeats 4000000 in
set_option maxRecDepth 100000 in
theorem zs_18 {A0 : Nat → Prop} {D : va_G} {cl : List vw_C} {v0 v1 v2 v3 v4 v5 v6 v7 v8 v9 v10 v11 v12 v13 v14 v15 v16 v17 v18 v19 v20 v21 v22 v23 v24 v25 v26 v27 v28 v29 v30 v31 v32 v33 v34 v35 v36 v37 v38 v39 v40 v41 v42 v43 v44 v45 v46 v47 v48 v49 v50 v51 v52 v53 v54 v55 v56 v57 v58 v59 v60 v61 v62 v63 v64 : Nat × va_E} {u28 u30 u38 u39 : Nat × va_E} {pl : va_W} {H H1 : Heap} (hP : va_P D cl ((v0 :: v1 :: v2 :: v3 :: v4 :: v5 :: v6 :: v7 :: v8 :: v9 :: v10 :: v11 :: v12 :: v13 :: v14 :: v15 :: v16 :: v17 :: v18 :: v19 :: v20 :: v21 :: v22 :: v23 :: v24 :: v25 :: v26 :: v27 :: v28 :: v29 :: v30 :: v31 :: v32 :: v33 :: v34 :: v35 :: v36 :: v37 :: v38 :: v39 :: v40 :: v41 :: v42 :: v43 :: v44 :: v45 :: v46 :: v47 :: v48 :: v49 :: v50 :: v51 :: v52 :: v53 :: v54 :: v55 :: v56 :: v57 :: v58 :: v59 :: v60 :: v61 :: v62 :: v63 :: v64 :: []) ++ pl) H) (hD : va_D A0 ((v0 :: v1 :: v2 :: v3 :: v4 :: v5 :: v6 :: v7 :: v8 :: v9 :: v10 :: v11 :: v12 :: v13 :: v14 :: v15 :: v16 :: v17 :: v18 :: v19 :: v20 :: v21 :: v22 :: v23 :: v24 :: v25 :: v26 :: v27 :: v28 :: v29 :: v30 :: v31 :: v32 :: v33 :: v34 :: v35 :: v36 :: v37 :: v38 :: v39 :: v40 :: v41 :: v42 :: v43 :: v44 :: v45 :: v46 :: v47 :: v48 :: v49 :: v50 :: v51 :: v52 :: v53 :: v54 :: v55 :: v56 :: v57 :: v58 :: v59 :: v60 :: v61 :: v62 :: v63 :: v64 :: []) ++ pl)) (hk : ∀ q : Nat, q < H.size → ¬ va_A ([v28, v30, v38, v39]) H.size q → H1[q]? = H[q]?) (hF : ∀ q, va_A ([v28, v30, v38, v39]) H.size q → A0 q) (hP1 : va_P D cl ([u28, u30, u38, u39]) H1) (hD1 : va_D (va_A ([v28, v30, v38, v39]) H.size) ([u28, u30, u38, u39])) : va_P D cl ((v0 :: v1 :: v2 :: v3 :: v4 :: v5 :: v6 :: v7 :: v8 :: v9 :: v10 :: v11 :: v12 :: v13 :: v14 :: v15 :: v16 :: v17 :: v18 :: v19 :: v20 :: v21 :: v22 :: v23 :: v24 :: v25 :: v26 :: v27 :: u28 :: v29 :: u30 :: v31 :: v32 :: v33 :: v34 :: v35 :: v36 :: v37 :: u38 :: u39 :: v40 :: v41 :: v42 :: v43 :: v44 :: v45 :: v46 :: v47 :: v48 :: v49 :: v50 :: v51 :: v52 :: v53 :: v54 :: v55 :: v56 :: v57 :: v58 :: v59 :: v60 :: v61 :: v62 :: v63 :: v64 :: []) ++ pl) H1 ∧ va_D A0 ((v0 :: v1 :: v2 :: v3 :: v4 :: v5 :: v6 :: v7 :: v8 :: v9 :: v10 :: v11 :: v12 :: v13 :: v14 :: v15 :: v16 :: v17 :: v18 :: v19 :: v20 :: v21 :: v22 :: v23 :: v24 :: v25 :: v26 :: v27 :: u28 :: v29 :: u30 :: v31 :: v32 :: v33 :: v34 :: v35 :: v36 :: v37 :: u38 :: u39 :: v40 :: v41 :: v42 :: v43 :: v44 :: v45 :: v46 :: v47 :: v48 :: v49 :: v50 :: v51 :: v52 :: v53 :: v54 :: v55 :: v56 :: v57 :: v58 :: v59 :: v60 :: v61 :: v62 :: v63 :: v64 :: []) ++ pl) :=
  znQ (W2 := (v0 :: v1 :: v2 :: v3 :: v4 :: v5 :: v6 :: v7 :: v8 :: v9 :: v10 :: v11 :: v12 :: v13 :: v14 :: v15 :: v16 :: v17 :: v18 :: v19 :: v20 :: v21 :: v22 :: v23 :: v24 :: v25 :: v26 :: v27 :: u28 :: v29 :: u30 :: v31 :: v32 :: v33 :: v34 :: v35 :: v36 :: v37 :: u38 :: u39 :: v40 :: v41 :: v42 :: v43 :: v44 :: v45 :: v46 :: v47 :: v48 :: v49 :: v50 :: v51 :: v52 :: v53 :: v54 :: v55 :: v56 :: v57 :: v58 :: v59 :: v60 :: v61 :: v62 :: v63 :: v64 :: [])) hP hD hk hF hP1 hD1 [28, 30, 38, 39] (true :: true :: true :: true :: true :: true :: true :: true :: true :: true :: true :: true :: true :: true :: true :: true :: true :: true :: true :: true :: true :: true :: true :: true :: true :: true :: true :: true :: false :: true :: false :: true :: true :: true :: true :: true :: true :: true :: false :: false :: true :: true :: true :: true :: true :: true :: true :: true :: true :: true :: true :: true :: true :: true :: true :: true :: true :: true :: true :: true :: true :: true :: true :: true :: true :: []) (true :: true :: true :: true :: true :: true :: true :: true :: true :: true :: true :: true :: true :: true :: true :: true :: true :: true :: true :: true :: true :: true :: true :: true :: true :: true :: true :: true :: false :: true :: false :: true :: true :: true :: true :: true :: true :: true :: false :: false :: true :: true :: true :: true :: true :: true :: true :: true :: true :: true :: true :: true :: true :: true :: true :: true :: true :: true :: true :: true :: true :: true :: true :: true :: true :: []) [28, 30, 38, 39] (by decide +kernel) rfl rfl rfl rfl rfl
set_option maxHeartbeats 4000000 in
set_option maxRecDepth 100000 in
theorem zs_19 {A0 : Nat → Prop} {D : va_G} {cl : List vw_C} {v0 v1 v2 v3 v4 v5 v6 v7 v8 v9 v10 v11 v12 v13 v14 v15 v16 v17 v18 v19 v20 v21 v22 v23 v24 v25 v26 v27 v28 v29 v30 v31 v32 v33 v34 v35 v36 v37 v38 v39 v40 v41 v42 v43 v44 v45 v46 v47 v48 v49 v50 v51 v52 v53 v54 v55 v56 v57 v58 v59 v60 v61 v62 v63 v64 : Nat × va_E} {u0 u1 u25 u26 u2 u3 : Nat × va_E} {pl pl1 : va_W} {H H1 : Heap} (hP : va_P D cl ((v0 :: v1 :: v2 :: v3 :: v4 :: v5 :: v6 :: v7 :: v8 :: v9 :: v10 :: v11 :: v12 :: v13 :: v14 :: v15 :: v16 :: v17 :: v18 :: v19 :: v20 :: v21 :: v22 :: v23 :: v24 :: v25 :: v26 :: v27 :: v28 :: v29 :: v30 :: v31 :: v32 :: v33 :: v34 :: v35 :: v36 :: v37 :: v38 :: v39 :: v40 :: v41 :: v42 :: v43 :: v44 :: v45 :: v46 :: v47 :: v48 :: v49 :: v50 :: v51 :: v52 :: v53 :: v54 :: v55 :: v56 :: v57 :: v58 :: v59 :: v60 :: v61 :: v62 :: v63 :: v64 :: []) ++ pl) H) (hD : va_D A0 ((v0 :: v1 :: v2 :: v3 :: v4 :: v5 :: v6 :: v7 :: v8 :: v9 :: v10 :: v11 :: v12 :: v13 :: v14 :: v15 :: v16 :: v17 :: v18 :: v19 :: v20 :: v21 :: v22 :: v23 :: v24 :: v25 :: v26 :: v27 :: v28 :: v29 :: v30 :: v31 :: v32 :: v33 :: v34 :: v35 :: v36 :: v37 :: v38 :: v39 :: v40 :: v41 :: v42 :: v43 :: v44 :: v45 :: v46 :: v47 :: v48 :: v49 :: v50 :: v51 :: v52 :: v53 :: v54 :: v55 :: v56 :: v57 :: v58 :: v59 :: v60 :: v61 :: v62 :: v63 :: v64 :: []) ++ pl)) (hk : ∀ q : Nat, q < H.size → ¬ va_A ([v0, v1, v25, v26, v2, v3] ++ pl) H.size q → H1[q]? = H[q]?) (hF : ∀ q, va_A ([v0, v1, v25, v26, v2, v3] ++ pl) H.size q → A0 q) (hP1 : va_P D cl ([u0, u1, u25, u26, u2, u3] ++ pl1) H1) (hD1 : va_D (va_A ([v0, v1, v25, v26, v2, v3] ++ pl) H.size) ([u0, u1, u25, u26, u2, u3] ++ pl1)) : va_P D cl ((u0 :: u1 :: u2 :: u3 :: v4 :: v5 :: v6 :: v7 :: v8 :: v9 :: v10 :: v11 :: v12 :: v13 :: v14 :: v15 :: v16 :: v17 :: v18 :: v19 :: v20 :: v21 :: v22 :: v23 :: v24 :: u25 :: u26 :: v27 :: v28 :: v29 :: v30 :: v31 :: v32 :: v33 :: v34 :: v35 :: v36 :: v37 :: v38 :: v39 :: v40 :: v41 :: v42 :: v43 :: v44 :: v45 :: v46 :: v47 :: v48 :: v49 :: v50 :: v51 :: v52 :: v53 :: v54 :: v55 :: v56 :: v57 :: v58 :: v59 :: v60 :: v61 :: v62 :: v63 :: v64 :: []) ++ pl1) H1 ∧ va_D A0 ((u0 :: u1 :: u2 :: u3 :: v4 :: v5 :: v6 :: v7 :: v8 :: v9 :: v10 :: v11 :: v12 :: v13 :: v14 :: v15 :: v16 :: v17 :: v18 :: v19 :: v20 :: v21 :: v22 :: v23 :: v24 :: u25 :: u26 :: v27 :: v28 :: v29 :: v30 :: v31 :: v32 :: v33 :: v34 :: v35 :: v36 :: v37 :: v38 :: v39 :: v40 :: v41 :: v42 :: v43 :: v44 :: v45 :: v46 :: v47 :: v48 :: v49 :: v50 :: v51 :: v52 :: v53 :: v54 :: v55 :: v56 :: v57 :: v58 :: v59 :: v60 :: v61 :: v62 :: v63 :: v64 :: []) ++ pl1) :=
  znP (W2 := (u0 :: u1 :: u2 :: u3 :: v4 :: v5 :: v6 :: v7 :: v8 :: v9 :: v10 :: v11 :: v12 :: v13 :: v14 :: v15 :: v16 :: v17 :: v18 :: v19 :: v20 :: v21 :: v22 :: v23 :: v24 :: u25 :: u26 :: v27 :: v28 :: v29 :: v30 :: v31 :: v32 :: v33 :: v34 :: v35 :: v36 :: v37 :: v38 :: v39 :: v40 :: v41 :: v42 :: v43 :: v44 :: v45 :: v46 :: v47 :: v48 :: v49 :: v50 :: v51 :: v52 :: v53 :: v54 :: v55 :: v56 :: v57 :: v58 :: v59 :: v60 :: v61 :: v62 :: v63 :: v64 :: [])) hP hD hk hF hP1 hD1 [0, 1, 25, 26, 2, 3] (false :: false :: false :: false :: true :: true :: true :: true :: true :: true :: true :: true :: true :: true :: true :: true :: true :: true :: true :: true :: true :: true :: true :: true :: true :: false :: false :: true :: true :: true :: true :: true :: true :: true :: true :: true :: true :: true :: true :: true :: true :: true :: true :: true :: true :: true :: true :: true :: true :: true :: true :: true :: true :: true :: true :: true :: true :: true :: true :: true :: true :: true :: true :: true :: true :: []) (false :: false :: false :: false :: true :: true :: true :: true :: true :: true :: true :: true :: true :: true :: true :: true :: true :: true :: true :: true :: true :: true :: true :: true :: true :: false :: false :: true :: true :: true :: true :: true :: true :: true :: true :: true :: true :: true :: true :: true :: true :: true :: true :: true :: true :: true :: true :: true :: true :: true :: true :: true :: true :: true :: true :: true :: true :: true :: true :: true :: true :: true :: true :: true :: true :: []) [0, 1, 25, 26, 2, 3] (by decide +kernel) rfl rfl rfl rfl rfl
set_option maxHeartbeats 4000000 in
set_option maxRecDepth 100000 in
theorem zs_20 {A0 : Nat → Prop} {D : va_G} {cl : List vw_C} {v0 v1 v2 v3 v4 v5 v6 v7 v8 v9 v10 v11 v12 v13 v14 v15 v16 v17 v18 v19 v20 v21 v22 v23 v24 v25 v26 v27 v28 v29 v30 v31 v32 v33 v34 v35 v36 v37 v38 v39 v40 v41 v42 v43 v44 v45 v46 v47 v48 v49 v50 v51 v52 v53 v54 v55 v56 v57 v58 v59 v60 v61 v62 v63 v64 : Nat × va_E} {u28 u38 u39 : Nat × va_E} {pl : va_W} {H H1 : Heap} (hP : va_P D cl ((v0 :: v1 :: v2 :: v3 :: v4 :: v5 :: v6 :: v7 :: v8 :: v9 :: v10 :: v11 :: v12 :: v13 :: v14 :: v15 :: v16 :: v17 :: v18 :: v19 :: v20 :: v21 :: v22 :: v23 :: v24 :: v25 :: v26 :: v27 :: v28 :: v29 :: v30 :: v31 :: v32 :: v33 :: v34 :: v35 :: v36 :: v37 :: v38 :: v39 :: v40 :: v41 :: v42 :: v43 :: v44 :: v45 :: v46 :: v47 :: v48 :: v49 :: v50 :: v51 :: v52 :: v53 :: v54 :: v55 :: v56 :: v57 :: v58 :: v59 :: v60 :: v61 :: v62 :: v63 :: v64 :: []) ++ pl) H) (hD : va_D A0 ((v0 :: v1 :: v2 :: v3 :: v4 :: v5 :: v6 :: v7 :: v8 :: v9 :: v10 :: v11 :: v12 :: v13 :: v14 :: v15 :: v16 :: v17 :: v18 :: v19 :: v20 :: v21 :: v22 :: v23 :: v24 :: v25 :: v26 :: v27 :: v28 :: v29 :: v30 :: v31 :: v32 :: v33 :: v34 :: v35 :: v36 :: v37 :: v38 :: v39 :: v40 :: v41 :: v42 :: v43 :: v44 :: v45 :: v46 :: v47 :: v48 :: v49 :: v50 :: v51 :: v52 :: v53 :: v54 :: v55 :: v56 :: v57 :: v58 :: v59 :: v60 :: v61 :: v62 :: v63 :: v64 :: []) ++ pl)) (hk : ∀ q : Nat, q < H.size → ¬ va_A ([v28, v38, v39]) H.size q → H1[q]? = H[q]?) (hF : ∀ q, va_A ([v28, v38, v39]) H.size q → A0 q) (hP1 : va_P D cl ([u28, u38, u39]) H1) (hD1 : va_D (va_A ([v28, v38, v39]) H.size) ([u28, u38, u39])) : va_P D cl ((v0 :: v1 :: v2 :: v3 :: v4 :: v5 :: v6 :: v7 :: v8 :: v9 :: v10 :: v11 :: v12 :: v13 :: v14 :: v15 :: v16 :: v17 :: v18 :: v19 :: v20 :: v21 :: v22 :: v23 :: v24 :: v25 :: v26 :: v27 :: u28 :: v29 :: v30 :: v31 :: v32 :: v33 :: v34 :: v35 :: v36 :: v37 :: u38 :: u39 :: v40 :: v41 :: v42 :: v43 :: v44 :: v45 :: v46 :: v47 :: v48 :: v49 :: v50 :: v51 :: v52 :: v53 :: v54 :: v55 :: v56 :: v57 :: v58 :: v59 :: v60 :: v61 :: v62 :: v63 :: v64 :: []) ++ pl) H1 ∧ va_D A0 ((v0 :: v1 :: v2 :: v3 :: v4 :: v5 :: v6 :: v7 :: v8 :: v9 :: v10 :: v11 :: v12 :: v13 :: v14 :: v15 :: v16 :: v17 :: v18 :: v19 :: v20 :: v21 :: v22 :: v23 :: v24 :: v25 :: v26 :: v27 :: u28 :: v29 :: v30 :: v31 :: v32 :: v33 :: v34 :: v35 :: v36 :: v37 :: u38 :: u39 :: v40 :: v41 :: v42 :: v43 :: v44 :: v45 :: v46 :: v47 :: v48 :: v49 :: v50 :: v51 :: v52 :: v53 :: v54 :: v55 :: v56 :: v57 :: v58 :: v59 :: v60 :: v61 :: v62 :: v63 :: v64 :: []) ++ pl) :=
  znQ (W2 := (v0 :: v1 :: v2 :: v3 :: v4 :: v5 :: v6 :: v7 :: v8 :: v9 :: v10 :: v11 :: v12 :: v13 :: v14 :: v15 :: v16 :: v17 :: v18 :: v19 :: v20 :: v21 :: v22 :: v23 :: v24 :: v25 :: v26 :: v27 :: u28 :: v29 :: v30 :: v31 :: v32 :: v33 :: v34 :: v35 :: v36 :: v37 :: u38 :: u39 :: v40 :: v41 :: v42 :: v43 :: v44 :: v45 :: v46 :: v47 :: v48 :: v49 :: v50 :: v51 :: v52 :: v53 :: v54 :: v55 :: v56 :: v57 :: v58 :: v59 :: v60 :: v61 :: v62 :: v63 :: v64 :: [])) hP hD hk hF hP1 hD1 [28, 38, 39] (true :: true :: true :: true :: true :: true :: true :: true :: true :: true :: true :: true :: true :: true :: true :: true :: true :: true :: true :: true :: true :: true :: true :: true :: true :: true :: true :: true :: false :: true :: true :: true :: true :: true :: true :: true :: true :: true :: false :: false :: true :: true :: true :: true :: true :: true :: true :: true :: true :: true :: true :: true :: true :: true :: true :: true :: true :: true :: true :: true :: true :: true :: true :: true :: true :: []) (true :: true :: true :: true :: true :: true :: true :: true :: true :: true :: true :: true :: true :: true :: true :: true :: true :: true :: true :: true :: true :: true :: true :: true :: true :: true :: true :: true :: false :: true :: true :: true :: true :: true :: true :: true :: true :: true :: false :: false :: true :: true :: true :: true :: true :: true :: true :: true :: true :: true :: true :: true :: true :: true :: true :: true :: true :: true :: true :: true :: true :: true :: true :: true :: true :: []) [28, 38, 39] (by decide +kernel) rfl rfl rfl rfl rfl
set_option maxHeartbeats 4000000 in
set_option maxRecDepth 100000 in
theorem zs_21 {A0 : Nat → Prop} {D : va_G} {cl : List vw_C} {v0 v1 v2 v3 v4 v5 v6 v7 v8 v9 v10 v11 v12 v13 v14 v15 v16 v17 v18 v19 v20 v21 v22 v23 v24 v25 v26 v27 v28 v29 v30 v31 v32 v33 v34 v35 v36 v37 v38 v39 v40 v41 v42 v43 v44 v45 v46 v47 v48 v49 v50 v51 v52 v53 v54 v55 v56 v57 v58 v59 v60 v61 v62 v63 v64 : Nat × va_E} {u0 u1 u25 u2 u3 : Nat × va_E} {pl pl1 : va_W} {H H1 : Heap} (hP : va_P D cl ((v0 :: v1 :: v2 :: v3 :: v4 :: v5 :: v6 :: v7 :: v8 :: v9 :: v10 :: v11 :: v12 :: v13 :: v14 :: v15 :: v16 :: v17 :: v18 :: v19 :: v20 :: v21 :: v22 :: v23 :: v24 :: v25 :: v26 :: v27 :: v28 :: v29 :: v30 :: v31 :: v32 :: v33 :: v34 :: v35 :: v36 :: v37 :: v38 :: v39 :: v40 :: v41 :: v42 :: v43 :: v44 :: v45 :: v46 :: v47 :: v48 :: v49 :: v50 :: v51 :: v52 :: v53 :: v54 :: v55 :: v56 :: v57 :: v58 :: v59 :: v60 :: v61 :: v62 :: v63 :: v64 :: []) ++ pl) H) (hD : va_D A0 ((v0 :: v1 :: v2 :: v3 :: v4 :: v5 :: v6 :: v7 :: v8 :: v9 :: v10 :: v11 :: v12 :: v13 :: v14 :: v15 :: v16 :: v17 :: v18 :: v19 :: v20 :: v21 :: v22 :: v23 :: v24 :: v25 :: v26 :: v27 :: v28 :: v29 :: v30 :: v31 :: v32 :: v33 :: v34 :: v35 :: v36 :: v37 :: v38 :: v39 :: v40 :: v41 :: v42 :: v43 :: v44 :: v45 :: v46 :: v47 :: v48 :: v49 :: v50 :: v51 :: v52 :: v53 :: v54 :: v55 :: v56 :: v57 :: v58 :: v59 :: v60 :: v61 :: v62 :: v63 :: v64 :: []) ++ pl)) (hk : ∀ q : Nat, q < H.size → ¬ va_A ([v0, v1, v25, v2, v3] ++ pl) H.size q → H1[q]? = H[q]?) (hF : ∀ q, va_A ([v0, v1, v25, v2, v3] ++ pl) H.size q → A0 q) (hP1 : va_P D cl ([u0, u1, u25, u2, u3] ++ pl1) H1) (hD1 : va_D (va_A ([v0, v1, v25, v2, v3] ++ pl) H.size) ([u0, u1, u25, u2, u3] ++ pl1)) : va_P D cl ((u0 :: u1 :: u2 :: u3 :: v4 :: v5 :: v6 :: v7 :: v8 :: v9 :: v10 :: v11 :: v12 :: v13 :: v14 :: v15 :: v16 :: v17 :: v18 :: v19 :: v20 :: v21 :: v22 :: v23 :: v24 :: u25 :: v26 :: v27 :: v28 :: v29 :: v30 :: v31 :: v32 :: v33 :: v34 :: v35 :: v36 :: v37 :: v38 :: v39 :: v40 :: v41 :: v42 :: v43 :: v44 :: v45 :: v46 :: v47 :: v48 :: v49 :: v50 :: v51 :: v52 :: v53 :: v54 :: v55 :: v56 :: v57 :: v58 :: v59 :: v60 :: v61 :: v62 :: v63 :: v64 :: []) ++ pl1) H1 ∧ va_D A0 ((u0 :: u1 :: u2 :: u3 :: v4 :: v5 :: v6 :: v7 :: v8 :: v9 :: v10 :: v11 :: v12 :: v13 :: v14 :: v15 :: v16 :: v17 :: v18 :: v19 :: v20 :: v21 :: v22 :: v23 :: v24 :: u25 :: v26 :: v27 :: v28 :: v29 :: v30 :: v31 :: v32 :: v33 :: v34 :: v35 :: v36 :: v37 :: v38 :: v39 :: v40 :: v41 :: v42 :: v43 :: v44 :: v45 :: v46 :: v47 :: v48 :: v49 :: v50 :: v51 :: v52 :: v53 :: v54 :: v55 :: v56 :: v57 :: v58 :: v59 :: v60 :: v61 :: v62 :: v63 :: v64 :: []) ++ pl1) :=
  znP (W2 := (u0 :: u1 :: u2 :: u3 :: v4 :: v5 :: v6 :: v7 :: v8 :: v9 :: v10 :: v11 :: v12 :: v13 :: v14 :: v15 :: v16 :: v17 :: v18 :: v19 :: v20 :: v21 :: v22 :: v23 :: v24 :: u25 :: v26 :: v27 :: v28 :: v29 :: v30 :: v31 :: v32 :: v33 :: v34 :: v35 :: v36 :: v37 :: v38 :: v39 :: v40 :: v41 :: v42 :: v43 :: v44 :: v45 :: v46 :: v47 :: v48 :: v49 :: v50 :: v51 :: v52 :: v53 :: v54 :: v55 :: v56 :: v57 :: v58 :: v59 :: v60 :: v61 :: v62 :: v63 :: v64 :: [])) hP hD hk hF hP1 hD1 [0, 1, 25, 2, 3] (false :: false :: false :: false :: true :: true :: true :: true :: true :: true :: true :: true :: true :: true :: true :: true :: true :: true :: true :: true :: true :: true :: true :: true :: true :: false :: true :: true :: true :: true :: true :: true :: true :: true :: true :: true :: true :: true :: true :: true :: true :: true :: true :: true :: true :: true :: true :: true :: true :: true :: true :: true :: true :: true :: true :: true :: true :: true :: true :: true :: true :: true :: true :: true :: true :: []) (false :: false :: false :: false :: true :: true :: true :: true :: true :: true :: true :: true :: true :: true :: true :: true :: true :: true :: true :: true :: true :: true :: true :: true :: true :: false :: true :: true :: true :: true :: true :: true :: true :: true :: true :: true :: true :: true :: true :: true :: true :: true :: true :: true :: true :: true :: true :: true :: true :: true :: true :: true :: true :: true :: true :: true :: true :: true :: true :: true :: true :: true :: true :: true :: true :: []) [0, 1, 25, 2, 3] (by decide +kernel) rfl rfl rfl rfl rfl
set_option maxHeartbeats 4000000 in
set_option maxRecDepth 100000 in
theorem zs_22 {A0 : Nat → Prop} {D : va_G} {cl : List vw_C} {v0 v1 v2 v3 v4 v5 v6 v7 v8 v9 v10 v11 v12 v13 v14 v15 v16 v17 v18 v19 v20 v21 v22 v23 v24 v25 v26 v27 v28 v29 v30 v31 v32 v33 v34 v35 v36 v37 v38 v39 v40 v41 v42 v43 v44 v45 v46 v47 v48 v49 v50 v51 v52 v53 v54 v55 v56 v57 v58 v59 v60 v61 v62 v63 v64 : Nat × va_E} {u0 u1 u23 u24 u25 u2 u3 : Nat × va_E} {pl pl1 : va_W} {H H1 : Heap} (hP : va_P D cl ((v0 :: v1 :: v2 :: v3 :: v4 :: v5 :: v6 :: v7 :: v8 :: v9 :: v10 :: v11 :: v12 :: v13 :: v14 :: v15 :: v16 :: v17 :: v18 :: v19 :: v20 :: v21 :: v22 :: v23 :: v24 :: v25 :: v26 :: v27 :: v28 :: v29 :: v30 :: v31 :: v32 :: v33 :: v34 :: v35 :: v36 :: v37 :: v38 :: v39 :: v40 :: v41 :: v42 :: v43 :: v44 :: v45 :: v46 :: v47 :: v48 :: v49 :: v50 :: v51 :: v52 :: v53 :: v54 :: v55 :: v56 :: v57 :: v58 :: v59 :: v60 :: v61 :: v62 :: v63 :: v64 :: []) ++ pl) H) (hD : va_D A0 ((v0 :: v1 :: v2 :: v3 :: v4 :: v5 :: v6 :: v7 :: v8 :: v9 :: v10 :: v11 :: v12 :: v13 :: v14 :: v15 :: v16 :: v17 :: v18 :: v19 :: v20 :: v21 :: v22 :: v23 :: v24 :: v25 :: v26 :: v27 :: v28 :: v29 :: v30 :: v31 :: v32 :: v33 :: v34 :: v35 :: v36 :: v37 :: v38 :: v39 :: v40 :: v41 :: v42 :: v43 :: v44 :: v45 :: v46 :: v47 :: v48 :: v49 :: v50 :: v51 :: v52 :: v53 :: v54 :: v55 :: v56 :: v57 :: v58 :: v59 :: v60 :: v61 :: v62 :: v63 :: v64 :: []) ++ pl)) (hk : ∀ q : Nat, q < H.size → ¬ va_A ([v0, v1, v23, v24, v25, v2, v3] ++ pl) H.size q → H1[q]? = H[q]?) (hF : ∀ q, va_A ([v0, v1, v23, v24, v25, v2, v3] ++ pl) H.size q → A0 q) (hP1 : va_P D cl ([u0, u1, u23, u24, u25, u2, u3] ++ pl1) H1) (hD1 : va_D (va_A ([v0, v1, v23, v24, v25, v2, v3] ++ pl) H.size) ([u0, u1, u23, u24, u25, u2, u3] ++ pl1)) : va_P D cl ((u0 :: u1 :: u2 :: u3 :: v4 :: v5 :: v6 :: v7 :: v8 :: v9 :: v10 :: v11 :: v12 :: v13 :: v14 :: v15 :: v16 :: v17 :: v18 :: v19 :: v20 :: v21 :: v22 :: u23 :: u24 :: u25 :: v26 :: v27 :: v28 :: v29 :: v30 :: v31 :: v32 :: v33 :: v34 :: v35 :: v36 :: v37 :: v38 :: v39 :: v40 :: v41 :: v42 :: v43 :: v44 :: v45 :: v46 :: v47 :: v48 :: v49 :: v50 :: v51 :: v52 :: v53 :: v54 :: v55 :: v56 :: v57 :: v58 :: v59 :: v60 :: v61 :: v62 :: v63 :: v64 :: []) ++ pl1) H1 ∧ va_D A0 ((u0 :: u1 :: u2 :: u3 :: v4 :: v5 :: v6 :: v7 :: v8 :: v9 :: v10 :: v11 :: v12 :: v13 :: v14 :: v15 :: v16 :: v17 :: v18 :: v19 :: v20 :: v21 :: v22 :: u23 :: u24 :: u25 :: v26 :: v27 :: v28 :: v29 :: v30 :: v31 :: v32 :: v33 :: v34 :: v35 :: v36 :: v37 :: v38 :: v39 :: v40 :: v41 :: v42 :: v43 :: v44 :: v45 :: v46 :: v47 :: v48 :: v49 :: v50 :: v51 :: v52 :: v53 :: v54 :: v55 :: v56 :: v57 :: v58 :: v59 :: v60 :: v61 :: v62 :: v63 :: v64 :: []) ++ pl1) :=
  znP (W2 := (u0 :: u1 :: u2 :: u3 :: v4 :: v5 :: v6 :: v7 :: v8 :: v9 :: v10 :: v11 :: v12 :: v13 :: v14 :: v15 :: v16 :: v17 :: v18 :: v19 :: v20 :: v21 :: v22 :: u23 :: u24 :: u25 :: v26 :: v27 :: v28 :: v29 :: v30 :: v31 :: v32 :: v33 :: v34 :: v35 :: v36 :: v37 :: v38 :: v39 :: v40 :: v41 :: v42 :: v43 :: v44 :: v45 :: v46 :: v47 :: v48 :: v49 :: v50 :: v51 :: v52 :: v53 :: v54 :: v55 :: v56 :: v57 :: v58 :: v59 :: v60 :: v61 :: v62 :: v63 :: v64 :: [])) hP hD hk hF hP1 hD1 [0, 1, 23, 24, 25, 2, 3] (false :: false :: false :: false :: true :: true :: true :: true :: true :: true :: true :: true :: true :: true :: true :: true :: true :: true :: true :: true :: true :: true :: true :: false :: false :: false :: true :: true :: true :: true :: true :: true :: true :: true :: true :: true :: true :: true :: true :: true :: true :: true :: true :: true :: true :: true :: true :: true :: true :: true :: true :: true :: true :: true :: true :: true :: true :: true :: true :: true :: true :: true :: true :: true :: true :: []) (false :: false :: false :: false :: true :: true :: true :: true :: true :: true :: true :: true :: true :: true :: true :: true :: true :: true :: true :: true :: true :: true :: true :: false :: false :: false :: true :: true :: true :: true :: true :: true :: true :: true :: true :: true :: true :: true :: true :: true :: true :: true :: true :: true :: true :: true :: true :: true :: true :: true :: true :: true :: true :: true :: true :: true :: true :: true :: true :: true :: true :: true :: true :: true :: true :: []) [0, 1, 23, 24, 25, 2, 3] (by decide +kernel) rfl rfl rfl rfl rfl
set_option maxHeartbeats 4000000 in
set_option maxRecDepth 100000 in
theorem zs_23 {A0 : Nat → Prop} {D : va_G} {cl : List vw_C} {v0 v1 v2 v3 v4 v5 v6 v7 v8 v9 v10 v11 v12 v13 v14 v15 v16 v17 v18 v19 v20 v21 v22 v23 v24 v25 v26 v27 v28 v29 v30 v31 v32 v33 v34 v35 v36 v37 v38 v39 v40 v41 v42 v43 v44 v45 v46 v47 v48 v49 v50 v51 v52 v53 v54 v55 v56 v57 v58 v59 v60 v61 v62 v63 v64 : Nat × va_E} {u28 u30 u38 u29 u39 u40 u41 u53 u36 : Nat × va_E} {pl : va_W} {H H1 : Heap} (hP : va_P D cl ((v0 :: v1 :: v2 :: v3 :: v4 :: v5 :: v6 :: v7 :: v8 :: v9 :: v10 :: v11 :: v12 :: v13 :: v14 :: v15 :: v16 :: v17 :: v18 :: v19 :: v20 :: v21 :: v22 :: v23 :: v24 :: v25 :: v26 :: v27 :: v28 :: v29 :: v30 :: v31 :: v32 :: v33 :: v34 :: v35 :: v36 :: v37 :: v38 :: v39 :: v40 :: v41 :: v42 :: v43 :: v44 :: v45 :: v46 :: v47 :: v48 :: v49 :: v50 :: v51 :: v52 :: v53 :: v54 :: v55 :: v56 :: v57 :: v58 :: v59 :: v60 :: v61 :: v62 :: v63 :: v64 :: []) ++ pl) H) (hD : va_D A0 ((v0 :: v1 :: v2 :: v3 :: v4 :: v5 :: v6 :: v7 :: v8 :: v9 :: v10 :: v11 :: v12 :: v13 :: v14 :: v15 :: v16 :: v17 :: v18 :: v19 :: v20 :: v21 :: v22 :: v23 :: v24 :: v25 :: v26 :: v27 :: v28 :: v29 :: v30 :: v31 :: v32 :: v33 :: v34 :: v35 :: v36 :: v37 :: v38 :: v39 :: v40 :: v41 :: v42 :: v43 :: v44 :: v45 :: v46 :: v47 :: v48 :: v49 :: v50 :: v51 :: v52 :: v53 :: v54 :: v55 :: v56 :: v57 :: v58 :: v59 :: v60 :: v61 :: v62 :: v63 :: v64 :: []) ++ pl)) (hk : ∀ q : Nat, q < H.size → ¬ va_A ([v28, v30, v38, v29, v39, v40, v41, v53, v36]) H.size q → H1[q]? = H[q]?) (hF : ∀ q, va_A ([v28, v30, v38, v29, v39, v40, v41, v53, v36]) H.size q → A0 q) (hP1 : va_P D cl ([u28, u30, u38, u29, u39, u40, u41, u53, u36]) H1) (hD1 : va_D (va_A ([v28, v30, v38, v29, v39, v40, v41, v53, v36]) H.size) ([u28, u30, u38, u29, u39, u40, u41, u53, u36])) : va_P D cl ((v0 :: v1 :: v2 :: v3 :: v4 :: v5 :: v6 :: v7 :: v8 :: v9 :: v10 :: v11 :: v12 :: v13 :: v14 :: v15 :: v16 :: v17 :: v18 :: v19 :: v20 :: v21 :: v22 :: v23 :: v24 :: v25 :: v26 :: v27 :: u28 :: u29 :: u30 :: v31 :: v32 :: v33 :: v34 :: v35 :: u36 :: v37 :: u38 :: u39 :: u40 :: u41 :: v42 :: v43 :: v44 :: v45 :: v46 :: v47 :: v48 :: v49 :: v50 :: v51 :: v52 :: u53 :: v54 :: v55 :: v56 :: v57 :: v58 :: v59 :: v60 :: v61 :: v62 :: v63 :: v64 :: []) ++ pl) H1 ∧ va_D A0 ((v0 :: v1 :: v2 :: v3 :: v4 :: v5 :: v6 :: v7 :: v8 :: v9 :: v10 :: v11 :: v12 :: v13 :: v14 :: v15 :: v16 :: v17 :: v18 :: v19 :: v20 :: v21 :: v22 :: v23 :: v24 :: v25 :: v26 :: v27 :: u28 :: u29 :: u30 :: v31 :: v32 :: v33 :: v34 :: v35 :: u36 :: v37 :: u38 :: u39 :: u40 :: u41 :: v42 :: v43 :: v44 :: v45 :: v46 :: v47 :: v48 :: v49 :: v50 :: v51 :: v52 :: u53 :: v54 :: v55 :: v56 :: v57 :: v58 :: v59 :: v60 :: v61 :: v62 :: v63 :: v64 :: []) ++ pl) :=
  znQ (W2 := (v0 :: v1 :: v2 :: v3 :: v4 :: v5 :: v6 :: v7 :: v8 :: v9 :: v10 :: v11 :: v12 :: v13 :: v14 :: v15 :: v16 :: v17 :: v18 :: v19 :: v20 :: v21 :: v22 :: v23 :: v24 :: v25 :: v26 :: v27 :: u28 :: u29 :: u30 :: v31 :: v32 :: v33 :: v34 :: v35 :: u36 :: v37 :: u38 :: u39 :: u40 :: u41 :: v42 :: v43 :: v44 :: v45 :: v46 :: v47 :: v48 :: v49 :: v50 :: v51 :: v52 :: u53 :: v54 :: v55 :: v56 :: v57 :: v58 :: v59 :: v60 :: v61 :: v62 :: v63 :: v64 :: [])) hP hD hk hF hP1 hD1 [28, 30, 38, 29, 39, 40, 41, 53, 36] (true :: true :: true :: true :: true :: true :: true :: true :: true :: true :: true :: true :: true :: true :: true :: true :: true :: true :: true :: true :: true :: true :: true :: true :: true :: true :: true :: true :: false :: false :: false :: true :: true :: true :: true :: true :: false :: true :: false :: false :: false :: false :: true :: true :: true :: true :: true :: true :: true :: true :: true :: true :: true :: false :: true :: true :: true :: true :: true :: true :: true :: true :: true :: true :: true :: []) (true :: true :: true :: true :: true :: true :: true :: true :: true :: true :: true :: true :: true :: true :: true :: true :: true :: true :: true :: true :: true :: true :: true :: true :: true :: true :: true :: true :: false :: false :: false :: true :: true :: true :: true :: true :: false :: true :: false :: false :: false :: false :: true :: true :: true :: true :: true :: true :: true :: true :: true :: true :: true :: false :: true :: true :: true :: true :: true :: true :: true :: true :: true :: true :: true :: []) [28, 30, 38, 29, 39, 40, 41, 53, 36] (by decide +kernel) rfl rfl rfl rfl rfl
set_option maxHeartbeats 4000000 in
set_option maxRecDepth 100000 in
theorem zt_1 {A0 : Nat → Prop} {D : va_G} {cl : List vw_C} {v0 v1 v2 v3 v4 v5 v6 v7 v8 v9 v10 v11 v12 v13 v14 v15 v16 v17 v18 v19 v20 v21 v22 v23 v24 v25 v26 v27 v28 v29 v30 v31 v32 v33 v34 v35 v36 v37 v38 v39 v40 v41 v42 v43 v44 v45 v46 v47 v48 v49 v50 v51 v52 v53 v54 v55 v56 v57 v58 v59 v60 v61 v62 v63 v64 : Nat × va_E} {pl : va_W} {H0 H : Heap} {locs : List Loc} (hP : va_P D cl ((v0 :: v1 :: v2 :: v3 :: v4 :: v5 :: v6 :: v7 :: v8 :: v9 :: v10 :: v11 :: v12 :: v13 :: v14 :: v15 :: v16 :: v17 :: v18 :: v19 :: v20 :: v21 :: v22 :: v23 :: v24 :: v25 :: v26 :: v27 :: v28 :: v29 :: v30 :: v31 :: v32 :: v33 :: v34 :: v35 :: v36 :: v37 :: v38 :: v39 :: v40 :: v41 :: v42 :: v43 :: v44 :: v45 :: v46 :: v47 :: v48 :: v49 :: v50 :: v51 :: v52 :: v53 :: v54 :: v55 :: v56 :: v57 :: v58 :: v59 :: v60 :: v61 :: v62 :: v63 :: v64 :: []) ++ pl) H) (hD : va_D A0 ((v0 :: v1 :: v2 :: v3 :: v4 :: v5 :: v6 :: v7 :: v8 :: v9 :: v10 :: v11 :: v12 :: v13 :: v14 :: v15 :: v16 :: v17 :: v18 :: v19 :: v20 :: v21 :: v22 :: v23 :: v24 :: v25 :: v26 :: v27 :: v28 :: v29 :: v30 :: v31 :: v32 :: v33 :: v34 :: v35 :: v36 :: v37 :: v38 :: v39 :: v40 :: v41 :: v42 :: v43 :: v44 :: v45 :: v46 :: v47 :: v48 :: v49 :: v50 :: v51 :: v52 :: v53 :: v54 :: v55 :: v56 :: v57 :: v58 :: v59 :: v60 :: v61 :: v62 :: v63 :: v64 :: []) ++ pl)) (hS : va_S A0 H0 H locs) (hA : ∀ q, H0.size ≤ q → A0 q) : va_P D cl ([v0, v2, v3]) H ∧ va_D A0 ([v0, v2, v3]) ∧ ∀ q, va_A ([v0, v2, v3]) H.size q → A0 q :=
  zo_sub (wc := [v0, v2, v3]) hP hD hS hA [0, 2, 3] (by decide +kernel) rfl
set_option maxHeartbeats 4000000 in
set_option maxRecDepth 100000 in
theorem zt_2 {A0 : Nat → Prop} {D : va_G} {cl : List vw_C} {v0 v1 v2 v3 v4 v5 v6 v7 v8 v9 v10 v11 v12 v13 v14 v15 v16 v17 v18 v19 v20 v21 v22 v23 v24 v25 v26 v27 v28 v29 v30 v31 v32 v33 v34 v35 v36 v37 v38 v39 v40 v41 v42 v43 v44 v45 v46 v47 v48 v49 v50 v51 v52 v53 v54 v55 v56 v57 v58 v59 v60 v61 v62 v63 v64 : Nat × va_E} {pl : va_W} {H0 H : Heap} {locs : List Loc} (hP : va_P D cl ((v0 :: v1 :: v2 :: v3 :: v4 :: v5 :: v6 :: v7 :: v8 :: v9 :: v10 :: v11 :: v12 :: v13 :: v14 :: v15 :: v16 :: v17 :: v18 :: v19 :: v20 :: v21 :: v22 :: v23 :: v24 :: v25 :: v26 :: v27 :: v28 :: v29 :: v30 :: v31 :: v32 :: v33 :: v34 :: v35 :: v36 :: v37 :: v38 :: v39 :: v40 :: v41 :: v42 :: v43 :: v44 :: v45 :: v46 :: v47 :: v48 :: v49 :: v50 :: v51 :: v52 :: v53 :: v54 :: v55 :: v56 :: v57 :: v58 :: v59 :: v60 :: v61 :: v62 :: v63 :: v64 :: []) ++ pl) H) (hD : va_D A0 ((v0 :: v1 :: v2 :: v3 :: v4 :: v5 :: v6 :: v7 :: v8 :: v9 :: v10 :: v11 :: v12 :: v13 :: v14 :: v15 :: v16 :: v17 :: v18 :: v19 :: v20 :: v21 :: v22 :: v23 :: v24 :: v25 :: v26 :: v27 :: v28 :: v29 :: v30 :: v31 :: v32 :: v33 :: v34 :: v35 :: v36 :: v37 :: v38 :: v39 :: v40 :: v41 :: v42 :: v43 :: v44 :: v45 :: v46 :: v47 :: v48 :: v49 :: v50 :: v51 :: v52 :: v53 :: v54 :: v55 :: v56 :: v57 :: v58 :: v59 :: v60 :: v61 :: v62 :: v63 :: v64 :: []) ++ pl)) (hS : va_S A0 H0 H locs) (hA : ∀ q, H0.size ≤ q → A0 q) : va_P D cl ([v28]) H ∧ va_D A0 ([v28]) ∧ ∀ q, va_A ([v28]) H.size q → A0 q :=
  zo_sub (wc := [v28]) hP hD hS hA [28] (by decide +kernel) rfl
set_option maxHeartbeats 4000000 in
set_option maxRecDepth 100000 in
theorem zt_3 {A0 : Nat → Prop} {D : va_G} {cl : List vw_C} {v0 v1 v2 v3 v4 v5 v6 v7 v8 v9 v10 v11 v12 v13 v14 v15 v16 v17 v18 v19 v20 v21 v22 v23 v24 v25 v26 v27 v28 v29 v30 v31 v32 v33 v34 v35 v36 v37 v38 v39 v40 v41 v42 v43 v44 v45 v46 v47 v48 v49 v50 v51 v52 v53 v54 v55 v56 v57 v58 v59 v60 v61 v62 v63 v64 : Nat × va_E} {pl : va_W} {H0 H : Heap} {locs : List Loc} (hP : va_P D cl ((v0 :: v1 :: v2 :: v3 :: v4 :: v5 :: v6 :: v7 :: v8 :: v9 :: v10 :: v11 :: v12 :: v13 :: v14 :: v15 :: v16 :: v17 :: v18 :: v19 :: v20 :: v21 :: v22 :: v23 :: v24 :: v25 :: v26 :: v27 :: v28 :: v29 :: v30 :: v31 :: v32 :: v33 :: v34 :: v35 :: v36 :: v37 :: v38 :: v39 :: v40 :: v41 :: v42 :: v43 :: v44 :: v45 :: v46 :: v47 :: v48 :: v49 :: v50 :: v51 :: v52 :: v53 :: v54 :: v55 :: v56 :: v57 :: v58 :: v59 :: v60 :: v61 :: v62 :: v63 :: v64 :: []) ++ pl) H) (hD : va_D A0 ((v0 :: v1 :: v2 :: v3 :: v4 :: v5 :: v6 :: v7 :: v8 :: v9 :: v10 :: v11 :: v12 :: v13 :: v14 :: v15 :: v16 :: v17 :: v18 :: v19 :: v20 :: v21 :: v22 :: v23 :: v24 :: v25 :: v26 :: v27 :: v28 :: v29 :: v30 :: v31 :: v32 :: v33 :: v34 :: v35 :: v36 :: v37 :: v38 :: v39 :: v40 :: v41 :: v42 :: v43 :: v44 :: v45 :: v46 :: v47 :: v48 :: v49 :: v50 :: v51 :: v52 :: v53 :: v54 :: v55 :: v56 :: v57 :: v58 :: v59 :: v60 :: v61 :: v62 :: v63 :: v64 :: []) ++ pl)) (hS : va_S A0 H0 H locs) (hA : ∀ q, H0.size ≤ q → A0 q) : va_P D cl ([v0, v2, v3] ++ pl) H ∧ va_D A0 ([v0, v2, v3] ++ pl) ∧ ∀ q, va_A ([v0, v2, v3] ++ pl) H.size q → A0 q :=
  zo_part (cx := [v0, v2, v3]) hP hD hS hA [0, 2, 3] (by decide +kernel) rfl
set_option maxHeartbeats 4000000 in
set_option maxRecDepth 100000 in
theorem zt_4 {A0 : Nat → Prop} {D : va_G} {cl : List vw_C} {v0 v1 v2 v3 v4 v5 v6 v7 v8 v9 v10 v11 v12 v13 v14 v15 v16 v17 v18 v19 v20 v21 v22 v23 v24 v25 v26 v27 v28 v29 v30 v31 v32 v33 v34 v35 v36 v37 v38 v39 v40 v41 v42 v43 v44 v45 v46 v47 v48 v49 v50 v51 v52 v53 v54 v55 v56 v57 v58 v59 v60 v61 v62 v63 v64 : Nat × va_E} {pl : va_W} {H0 H : Heap} {locs : List Loc} (hP : va_P D cl ((v0 :: v1 :: v2 :: v3 :: v4 :: v5 :: v6 :: v7 :: v8 :: v9 :: v10 :: v11 :: v12 :: v13 :: v14 :: v15 :: v16 :: v17 :: v18 :: v19 :: v20 :: v21 :: v22 :: v23 :: v24 :: v25 :: v26 :: v27 :: v28 :: v29 :: v30 :: v31 :: v32 :: v33 :: v34 :: v35 :: v36 :: v37 :: v38 :: v39 :: v40 :: v41 :: v42 :: v43 :: v44 :: v45 :: v46 :: v47 :: v48 :: v49 :: v50 :: v51 :: v52 :: v53 :: v54 :: v55 :: v56 :: v57 :: v58 :: v59 :: v60 :: v61 :: v62 :: v63 :: v64 :: []) ++ pl) H) (hD : va_D A0 ((v0 :: v1 :: v2 :: v3 :: v4 :: v5 :: v6 :: v7 :: v8 :: v9 :: v10 :: v11 :: v12 :: v13 :: v14 :: v15 :: v16 :: v17 :: v18 :: v19 :: v20 :: v21 :: v22 :: v23 :: v24 :: v25 :: v26 :: v27 :: v28 :: v29 :: v30 :: v31 :: v32 :: v33 :: v34 :: v35 :: v36 :: v37 :: v38 :: v39 :: v40 :: v41 :: v42 :: v43 :: v44 :: v45 :: v46 :: v47 :: v48 :: v49 :: v50 :: v51 :: v52 :: v53 :: v54 :: v55 :: v56 :: v57 :: v58 :: v59 :: v60 :: v61 :: v62 :: v63 :: v64 :: []) ++ pl)) (hS : va_S A0 H0 H locs) (hA : ∀ q, H0.size ≤ q → A0 q) : va_P D cl ([v28, v30, v38]) H ∧ va_D A0 ([v28, v30, v38]) ∧ ∀ q, va_A ([v28, v30, v38]) H.size q → A0 q :=
  zo_sub (wc := [v28, v30, v38]) hP hD hS hA [28, 30, 38] (by decide +kernel) rfl
set_option maxHeartbeats 4000000 in
set_option maxRecDepth 100000 in
theorem zt_5 {A0 : Nat → Prop} {D : va_G} {cl : List vw_C} {v0 v1 v2 v3 v4 v5 v6 v7 v8 v9 v10 v11 v12 v13 v14 v15 v16 v17 v18 v19 v20 v21 v22 v23 v24 v25 v26 v27 v28 v29 v30 v31 v32 v33 v34 v35 v36 v37 v38 v39 v40 v41 v42 v43 v44 v45 v46 v47 v48 v49 v50 v51 v52 v53 v54 v55 v56 v57 v58 v59 v60 v61 v62 v63 v64 : Nat × va_E} {pl : va_W} {H0 H : Heap} {locs : List Loc} (hP : va_P D cl ((v0 :: v1 :: v2 :: v3 :: v4 :: v5 :: v6 :: v7 :: v8 :: v9 :: v10 :: v11 :: v12 :: v13 :: v14 :: v15 :: v16 :: v17 :: v18 :: v19 :: v20 :: v21 :: v22 :: v23 :: v24 :: v25 :: v26 :: v27 :: v28 :: v29 :: v30 :: v31 :: v32 :: v33 :: v34 :: v35 :: v36 :: v37 :: v38 :: v39 :: v40 :: v41 :: v42 :: v43 :: v44 :: v45 :: v46 :: v47 :: v48 :: v49 :: v50 :: v51 :: v52 :: v53 :: v54 :: v55 :: v56 :: v57 :: v58 :: v59 :: v60 :: v61 :: v62 :: v63 :: v64 :: []) ++ pl) H) (hD : va_D A0 ((v0 :: v1 :: v2 :: v3 :: v4 :: v5 :: v6 :: v7 :: v8 :: v9 :: v10 :: v11 :: v12 :: v13 :: v14 :: v15 :: v16 :: v17 :: v18 :: v19 :: v20 :: v21 :: v22 :: v23 :: v24 :: v25 :: v26 :: v27 :: v28 :: v29 :: v30 :: v31 :: v32 :: v33 :: v34 :: v35 :: v36 :: v37 :: v38 :: v39 :: v40 :: v41 :: v42 :: v43 :: v44 :: v45 :: v46 :: v47 :: v48 :: v49 :: v50 :: v51 :: v52 :: v53 :: v54 :: v55 :: v56 :: v57 :: v58 :: v59 :: v60 :: v61 :: v62 :: v63 :: v64 :: []) ++ pl)) (hS : va_S A0 H0 H locs) (hA : ∀ q, H0.size ≤ q → A0 q) : va_P D cl ([v28, v30, v38, v29]) H ∧ va_D A0 ([v28, v30, v38, v29]) ∧ ∀ q, va_A ([v28, v30, v38, v29]) H.size q → A0 q :=
  zo_sub (wc := [v28, v30, v38, v29]) hP hD hS hA [28, 30, 38, 29] (by decide +kernel) rfl
set_option maxHeartbeats 4000000 in
set_option maxRecDepth 100000 in
theorem zt_6 {A0 : Nat → Prop} {D : va_G} {cl : List vw_C} {v0 v1 v2 v3 v4 v5 v6 v7 v8 v9 v10 v11 v12 v13 v14 v15 v16 v17 v18 v19 v20 v21 v22 v23 v24 v25 v26 v27 v28 v29 v30 v31 v32 v33 v34 v35 v36 v37 v38 v39 v40 v41 v42 v43 v44 v45 v46 v47 v48 v49 v50 v51 v52 v53 v54 v55 v56 v57 v58 v59 v60 v61 v62 v63 v64 : Nat × va_E} {pl : va_W} {H0 H : Heap} {locs : List Loc} (hP : va_P D cl ((v0 :: v1 :: v2 :: v3 :: v4 :: v5 :: v6 :: v7 :: v8 :: v9 :: v10 :: v11 :: v12 :: v13 :: v14 :: v15 :: v16 :: v17 :: v18 :: v19 :: v20 :: v21 :: v22 :: v23 :: v24 :: v25 :: v26 :: v27 :: v28 :: v29 :: v30 :: v31 :: v32 :: v33 :: v34 :: v35 :: v36 :: v37 :: v38 :: v39 :: v40 :: v41 :: v42 :: v43 :: v44 :: v45 :: v46 :: v47 :: v48 :: v49 :: v50 :: v51 :: v52 :: v53 :: v54 :: v55 :: v56 :: v57 :: v58 :: v59 :: v60 :: v61 :: v62 :: v63 :: v64 :: []) ++ pl) H) (hD : va_D A0 ((v0 :: v1 :: v2 :: v3 :: v4 :: v5 :: v6 :: v7 :: v8 :: v9 :: v10 :: v11 :: v12 :: v13 :: v14 :: v15 :: v16 :: v17 :: v18 :: v19 :: v20 :: v21 :: v22 :: v23 :: v24 :: v25 :: v26 :: v27 :: v28 :: v29 :: v30 :: v31 :: v32 :: v33 :: v34 :: v35 :: v36 :: v37 :: v38 :: v39 :: v40 :: v41 :: v42 :: v43 :: v44 :: v45 :: v46 :: v47 :: v48 :: v49 :: v50 :: v51 :: v52 :: v53 :: v54 :: v55 :: v56 :: v57 :: v58 :: v59 :: v60 :: v61 :: v62 :: v63 :: v64 :: []) ++ pl)) (hS : va_S A0 H0 H locs) (hA : ∀ q, H0.size ≤ q → A0 q) : va_P D cl ([v0, v1, v2, v3] ++ pl) H ∧ va_D A0 ([v0, v1, v2, v3] ++ pl) ∧ ∀ q, va_A ([v0, v1, v2, v3] ++ pl) H.size q → A0 q :=
  zo_part (cx := [v0, v1, v2, v3]) hP hD hS hA [0, 1, 2, 3] (by decide +kernel) rfl
set_option maxHeartbeats 4000000 in
set_option maxRecDepth 100000 in
theorem zt_7 {A0 : Nat → Prop} {D : va_G} {cl : List vw_C} {v0 v1 v2 v3 v4 v5 v6 v7 v8 v9 v10 v11 v12 v13 v14 v15 v16 v17 v18 v19 v20 v21 v22 v23 v24 v25 v26 v27 v28 v29 v30 v31 v32 v33 v34 v35 v36 v37 v38 v39 v40 v41 v42 v43 v44 v45 v46 v47 v48 v49 v50 v51 v52 v53 v54 v55 v56 v57 v58 v59 v60 v61 v62 v63 v64 : Nat × va_E} {pl : va_W} {H0 H : Heap} {locs : List Loc} (hP : va_P D cl ((v0 :: v1 :: v2 :: v3 :: v4 :: v5 :: v6 :: v7 :: v8 :: v9 :: v10 :: v11 :: v12 :: v13 :: v14 :: v15 :: v16 :: v17 :: v18 :: v19 :: v20 :: v21 :: v22 :: v23 :: v24 :: v25 :: v26 :: v27 :: v28 :: v29 :: v30 :: v31 :: v32 :: v33 :: v34 :: v35 :: v36 :: v37 :: v38 :: v39 :: v40 :: v41 :: v42 :: v43 :: v44 :: v45 :: v46 :: v47 :: v48 :: v49 :: v50 :: v51 :: v52 :: v53 :: v54 :: v55 :: v56 :: v57 :: v58 :: v59 :: v60 :: v61 :: v62 :: v63 :: v64 :: []) ++ pl) H) (hD : va_D A0 ((v0 :: v1 :: v2 :: v3 :: v4 :: v5 :: v6 :: v7 :: v8 :: v9 :: v10 :: v11 :: v12 :: v13 :: v14 :: v15 :: v16 :: v17 :: v18 :: v19 :: v20 :: v21 :: v22 :: v23 :: v24 :: v25 :: v26 :: v27 :: v28 :: v29 :: v30 :: v31 :: v32 :: v33 :: v34 :: v35 :: v36 :: v37 :: v38 :: v39 :: v40 :: v41 :: v42 :: v43 :: v44 :: v45 :: v46 :: v47 :: v48 :: v49 :: v50 :: v51 :: v52 :: v53 :: v54 :: v55 :: v56 :: v57 :: v58 :: v59 :: v60 :: v61 :: v62 :: v63 :: v64 :: []) ++ pl)) (hS : va_S A0 H0 H locs) (hA : ∀ q, H0.size ≤ q → A0 q) : va_P D cl ([v28, v30, v38, v29, v39, v40, v41, v53]) H ∧ va_D A0 ([v28, v30, v38, v29, v39, v40, v41, v53]) ∧ ∀ q, va_A ([v28, v30, v38, v29, v39, v40, v41, v53]) H.size q → A0 q :=
  zo_sub (wc := [v28, v30, v38, v29, v39, v40, v41, v53]) hP hD hS hA [28, 30, 38, 29, 39, 40, 41, 53] (by decide +kernel) rfl
set_option maxHeartbeats 4000000 in
set_option maxRecDepth 100000 in
theorem zt_8 {A0 : Nat → Prop} {D : va_G} {cl : List vw_C} {v0 v1 v2 v3 v4 v5 v6 v7 v8 v9 v10 v11 v12 v13 v14 v15 v16 v17 v18 v19 v20 v21 v22 v23 v24 v25 v26 v27 v28 v29 v30 v31 v32 v33 v34 v35 v36 v37 v38 v39 v40 v41 v42 v43 v44 v45 v46 v47 v48 v49 v50 v51 v52 v53 v54 v55 v56 v57 v58 v59 v60 v61 v62 v63 v64 : Nat × va_E} {pl : va_W} {H0 H : Heap} {locs : List Loc} (hP : va_P D cl ((v0 :: v1 :: v2 :: v3 :: v4 :: v5 :: v6 :: v7 :: v8 :: v9 :: v10 :: v11 :: v12 :: v13 :: v14 :: v15 :: v16 :: v17 :: v18 :: v19 :: v20 :: v21 :: v22 :: v23 :: v24 :: v25 :: v26 :: v27 :: v28 :: v29 :: v30 :: v31 :: v32 :: v33 :: v34 :: v35 :: v36 :: v37 :: v38 :: v39 :: v40 :: v41 :: v42 :: v43 :: v44 :: v45 :: v46 :: v47 :: v48 :: v49 :: v50 :: v51 :: v52 :: v53 :: v54 :: v55 :: v56 :: v57 :: v58 :: v59 :: v60 :: v61 :: v62 :: v63 :: v64 :: []) ++ pl) H) (hD : va_D A0 ((v0 :: v1 :: v2 :: v3 :: v4 :: v5 :: v6 :: v7 :: v8 :: v9 :: v10 :: v11 :: v12 :: v13 :: v14 :: v15 :: v16 :: v17 :: v18 :: v19 :: v20 :: v21 :: v22 :: v23 :: v24 :: v25 :: v26 :: v27 :: v28 :: v29 :: v30 :: v31 :: v32 :: v33 :: v34 :: v35 :: v36 :: v37 :: v38 :: v39 :: v40 :: v41 :: v42 :: v43 :: v44 :: v45 :: v46 :: v47 :: v48 :: v49 :: v50 :: v51 :: v52 :: v53 :: v54 :: v55 :: v56 :: v57 :: v58 :: v59 :: v60 :: v61 :: v62 :: v63 :: v64 :: []) ++ pl)) (hS : va_S A0 H0 H locs) (hA : ∀ q, H0.size ≤ q → A0 q) : va_P D cl ([v0, v1, v4, v8, v9, v10, v11, v12, v13, v5, v6, v7, v14, v15, v2, v3] ++ pl) H ∧ va_D A0 ([v0, v1, v4, v8, v9, v10, v11, v12, v13, v5, v6, v7, v14, v15, v2, v3] ++ pl) ∧ ∀ q, va_A ([v0, v1, v4, v8, v9, v10, v11, v12, v13, v5, v6, v7, v14, v15, v2, v3] ++ pl) H.size q → A0 q :=
  zo_part (cx := [v0, v1, v4, v8, v9, v10, v11, v12, v13, v5, v6, v7, v14, v15, v2, v3]) hP hD hS hA [0, 1, 4, 8, 9, 10, 11, 12, 13, 5, 6, 7, 14, 15, 2, 3] (by decide +kernel) rfl
set_option maxHeartbeats 4000000 in
set_option maxRecDepth 100000 in
theorem zt_9 {A0 : Nat → Prop} {D : va_G} {cl : List vw_C} {v0 v1 v2 v3 v4 v5 v6 v7 v8 v9 v10 v11 v12 v13 v14 v15 v16 v17 v18 v19 v20 v21 v22 v23 v24 v25 v26 v27 v28 v29 v30 v31 v32 v33 v34 v35 v36 v37 v38 v39 v40 v41 v42 v43 v44 v45 v46 v47 v48 v49 v50 v51 v52 v53 v54 v55 v56 v57 v58 v59 v60 v61 v62 v63 v64 : Nat × va_E} {pl : va_W} {H0 H : Heap} {locs : List Loc} (hP : va_P D cl ((v0 :: v1 :: v2 :: v3 :: v4 :: v5 :: v6 :: v7 :: v8 :: v9 :: v10 :: v11 :: v12 :: v13 :: v14 :: v15 :: v16 :: v17 :: v18 :: v19 :: v20 :: v21 :: v22 :: v23 :: v24 :: v25 :: v26 :: v27 :: v28 :: v29 :: v30 :: v31 :: v32 :: v33 :: v34 :: v35 :: v36 :: v37 :: v38 :: v39 :: v40 :: v41 :: v42 :: v43 :: v44 :: v45 :: v46 :: v47 :: v48 :: v49 :: v50 :: v51 :: v52 :: v53 :: v54 :: v55 :: v56 :: v57 :: v58 :: v59 :: v60 :: v61 :: v62 :: v63 :: v64 :: []) ++ pl) H) (hD : va_D A0 ((v0 :: v1 :: v2 :: v3 :: v4 :: v5 :: v6 :: v7 :: v8 :: v9 :: v10 :: v11 :: v12 :: v13 :: v14 :: v15 :: v16 :: v17 :: v18 :: v19 :: v20 :: v21 :: v22 :: v23 :: v24 :: v25 :: v26 :: v27 :: v28 :: v29 :: v30 :: v31 :: v32 :: v33 :: v34 :: v35 :: v36 :: v37 :: v38 :: v39 :: v40 :: v41 :: v42 :: v43 :: v44 :: v45 :: v46 :: v47 :: v48 :: v49 :: v50 :: v51 :: v52 :: v53 :: v54 :: v55 :: v56 :: v57 :: v58 :: v59 :: v60 :: v61 :: v62 :: v63 :: v64 :: []) ++ pl)) (hS : va_S A0 H0 H locs) (hA : ∀ q, H0.size ≤ q → A0 q) : va_P D cl ((v28 :: v29 :: v30 :: v31 :: v32 :: v33 :: v34 :: v35 :: v36 :: v37 :: v38 :: v39 :: v40 :: v41 :: v42 :: v43 :: v44 :: v45 :: v46 :: v53 :: v59 :: v51 :: v52 :: v54 :: v55 :: v56 :: v57 :: v58 :: v47 :: v48 :: v49 :: v50 :: [])) H ∧ va_D A0 ((v28 :: v29 :: v30 :: v31 :: v32 :: v33 :: v34 :: v35 :: v36 :: v37 :: v38 :: v39 :: v40 :: v41 :: v42 :: v43 :: v44 :: v45 :: v46 :: v53 :: v59 :: v51 :: v52 :: v54 :: v55 :: v56 :: v57 :: v58 :: v47 :: v48 :: v49 :: v50 :: [])) ∧ ∀ q, va_A ((v28 :: v29 :: v30 :: v31 :: v32 :: v33 :: v34 :: v35 :: v36 :: v37 :: v38 :: v39 :: v40 :: v41 :: v42 :: v43 :: v44 :: v45 :: v46 :: v53 :: v59 :: v51 :: v52 :: v54 :: v55 :: v56 :: v57 :: v58 :: v47 :: v48 :: v49 :: v50 :: [])) H.size q → A0 q :=
  zo_sub (wc := (v28 :: v29 :: v30 :: v31 :: v32 :: v33 :: v34 :: v35 :: v36 :: v37 :: v38 :: v39 :: v40 :: v41 :: v42 :: v43 :: v44 :: v45 :: v46 :: v53 :: v59 :: v51 :: v52 :: v54 :: v55 :: v56 :: v57 :: v58 :: v47 :: v48 :: v49 :: v50 :: [])) hP hD hS hA (28 :: 29 :: 30 :: 31 :: 32 :: 33 :: 34 :: 35 :: 36 :: 37 :: 38 :: 39 :: 40 :: 41 :: 42 :: 43 :: 44 :: 45 :: 46 :: 53 :: 59 :: 51 :: 52 :: 54 :: 55 :: 56 :: 57 :: 58 :: 47 :: 48 :: 49 :: 50 :: []) (by decide +kernel) rfl
set_option maxHeartbeats 4000000 in
set_option maxRecDepth 100000 in
theorem zt_10 {A0 : Nat → Prop} {D : va_G} {cl : List vw_C} {v0 v1 v2 v3 v4 v5 v6 v7 v8 v9 v10 v11 v12 v13 v14 v15 v16 v17 v18 v19 v20 v21 v22 v23 v24 v25 v26 v27 v28 v29 v30 v31 v32 v33 v34 v35 v36 v37 v38 v39 v40 v41 v42 v43 v44 v45 v46 v47 v48 v49 v50 v51 v52 v53 v54 v55 v56 v57 v58 v59 v60 v61 v62 v63 v64 : Nat × va_E} {pl : va_W} {H0 H : Heap} {locs : List Loc} (hP : va_P D cl ((v0 :: v1 :: v2 :: v3 :: v4 :: v5 :: v6 :: v7 :: v8 :: v9 :: v10 :: v11 :: v12 :: v13 :: v14 :: v15 :: v16 :: v17 :: v18 :: v19 :: v20 :: v21 :: v22 :: v23 :: v24 :: v25 :: v26 :: v27 :: v28 :: v29 :: v30 :: v31 :: v32 :: v33 :: v34 :: v35 :: v36 :: v37 :: v38 :: v39 :: v40 :: v41 :: v42 :: v43 :: v44 :: v45 :: v46 :: v47 :: v48 :: v49 :: v50 :: v51 :: v52 :: v53 :: v54 :: v55 :: v56 :: v57 :: v58 :: v59 :: v60 :: v61 :: v62 :: v63 :: v64 :: []) ++ pl) H) (hD : va_D A0 ((v0 :: v1 :: v2 :: v3 :: v4 :: v5 :: v6 :: v7 :: v8 :: v9 :: v10 :: v11 :: v12 :: v13 :: v14 :: v15 :: v16 :: v17 :: v18 :: v19 :: v20 :: v21 :: v22 :: v23 :: v24 :: v25 :: v26 :: v27 :: v28 :: v29 :: v30 :: v31 :: v32 :: v33 :: v34 :: v35 :: v36 :: v37 :: v38 :: v39 :: v40 :: v41 :: v42 :: v43 :: v44 :: v45 :: v46 :: v47 :: v48 :: v49 :: v50 :: v51 :: v52 :: v53 :: v54 :: v55 :: v56 :: v57 :: v58 :: v59 :: v60 :: v61 :: v62 :: v63 :: v64 :: []) ++ pl)) (hS : va_S A0 H0 H locs) (hA : ∀ q, H0.size ≤ q → A0 q) : va_P D cl ([v0, v1, v4, v8, v9, v10, v11, v12, v13, v5, v6, v7, v14, v15, v23, v2, v3] ++ pl) H ∧ va_D A0 ([v0, v1, v4, v8, v9, v10, v11, v12, v13, v5, v6, v7, v14, v15, v23, v2, v3] ++ pl) ∧ ∀ q, va_A ([v0, v1, v4, v8, v9, v10, v11, v12, v13, v5, v6, v7, v14, v15, v23, v2, v3] ++ pl) H.size q → A0 q :=
  zo_part (cx := [v0, v1, v4, v8, v9, v10, v11, v12, v13, v5, v6, v7, v14, v15, v23, v2, v3]) hP hD hS hA [0, 1, 4, 8, 9, 10, 11, 12, 13, 5, 6, 7, 14, 15, 23, 2, 3] (by decide +kernel) rfl
set_option maxHeartbeats 4000000 in
set_option maxRecDepth 100000 in
theorem zt_11 {A0 : Nat → Prop} {D : va_G} {cl : List vw_C} {v0 v1 v2 v3 v4 v5 v6 v7 v8 v9 v10 v11 v12 v13 v14 v15 v16 v17 v18 v19 v20 v21 v22 v23 v24 v25 v26 v27 v28 v29 v30 v31 v32 v33 v34 v35 v36 v37 v38 v39 v40 v41 v42 v43 v44 v45 v46 v47 v48 v49 v50 v51 v52 v53 v54 v55 v56 v57 v58 v59 v60 v61 v62 v63 v64 : Nat × va_E} {pl : va_W} {H0 H : Heap} {locs : List Loc} (hP : va_P D cl ((v0 :: v1 :: v2 :: v3 :: v4 :: v5 :: v6 :: v7 :: v8 :: v9 :: v10 :: v11 :: v12 :: v13 :: v14 :: v15 :: v16 :: v17 :: v18 :: v19 :: v20 :: v21 :: v22 :: v23 :: v24 :: v25 :: v26 :: v27 :: v28 :: v29 :: v30 :: v31 :: v32 :: v33 :: v34 :: v35 :: v36 :: v37 :: v38 :: v39 :: v40 :: v41 :: v42 :: v43 :: v44 :: v45 :: v46 :: v47 :: v48 :: v49 :: v50 :: v51 :: v52 :: v53 :: v54 :: v55 :: v56 :: v57 :: v58 :: v59 :: v60 :: v61 :: v62 :: v63 :: v64 :: []) ++ pl) H) (hD : va_D A0 ((v0 :: v1 :: v2 :: v3 :: v4 :: v5 :: v6 :: v7 :: v8 :: v9 :: v10 :: v11 :: v12 :: v13 :: v14 :: v15 :: v16 :: v17 :: v18 :: v19 :: v20 :: v21 :: v22 :: v23 :: v24 :: v25 :: v26 :: v27 :: v28 :: v29 :: v30 :: v31 :: v32 :: v33 :: v34 :: v35 :: v36 :: v37 :: v38 :: v39 :: v40 :: v41 :: v42 :: v43 :: v44 :: v45 :: v46 :: v47 :: v48 :: v49 :: v50 :: v51 :: v52 :: v53 :: v54 :: v55 :: v56 :: v57 :: v58 :: v59 :: v60 :: v61 :: v62 :: v63 :: v64 :: []) ++ pl)) (hS : va_S A0 H0 H locs) (hA : ∀ q, H0.size ≤ q → A0 q) : va_P D cl ([v0, v1, v4, v8, v9, v10, v11, v12, v13, v5, v6, v7, v14, v15, v16, v2, v3] ++ pl) H ∧ va_D A0 ([v0, v1, v4, v8, v9, v10, v11, v12, v13, v5, v6, v7, v14, v15, v16, v2, v3] ++ pl) ∧ ∀ q, va_A ([v0, v1, v4, v8, v9, v10, v11, v12, v13, v5, v6, v7, v14, v15, v16, v2, v3] ++ pl) H.size q → A0 q :=
  zo_part (cx := [v0, v1, v4, v8, v9, v10, v11, v12, v13, v5, v6, v7, v14, v15, v16, v2, v3]) hP hD hS hA [0, 1, 4, 8, 9, 10, 11, 12, 13, 5, 6, 7, 14, 15, 16, 2, 3] (by decide +kernel) rfl
set_option maxHeartbeats 4000000 in
set_option maxRecDepth 100000 in
theorem zt_12 {A0 : Nat → Prop} {D : va_G} {cl : List vw_C} {v0 v1 v2 v3 v4 v5 v6 v7 v8 v9 v10 v11 v12 v13 v14 v15 v16 v17 v18 v19 v20 v21 v22 v23 v24 v25 v26 v27 v28 v29 v30 v31 v32 v33 v34 v35 v36 v37 v38 v39 v40 v41 v42 v43 v44 v45 v46 v47 v48 v49 v50 v51 v52 v53 v54 v55 v56 v57 v58 v59 v60 v61 v62 v63 v64 : Nat × va_E} {pl : va_W} {H0 H : Heap} {locs : List Loc} (hP : va_P D cl ((v0 :: v1 :: v2 :: v3 :: v4 :: v5 :: v6 :: v7 :: v8 :: v9 :: v10 :: v11 :: v12 :: v13 :: v14 :: v15 :: v16 :: v17 :: v18 :: v19 :: v20 :: v21 :: v22 :: v23 :: v24 :: v25 :: v26 :: v27 :: v28 :: v29 :: v30 :: v31 :: v32 :: v33 :: v34 :: v35 :: v36 :: v37 :: v38 :: v39 :: v40 :: v41 :: v42 :: v43 :: v44 :: v45 :: v46 :: v47 :: v48 :: v49 :: v50 :: v51 :: v52 :: v53 :: v54 :: v55 :: v56 :: v57 :: v58 :: v59 :: v60 :: v61 :: v62 :: v63 :: v64 :: []) ++ pl) H) (hD : va_D A0 ((v0 :: v1 :: v2 :: v3 :: v4 :: v5 :: v6 :: v7 :: v8 :: v9 :: v10 :: v11 :: v12 :: v13 :: v14 :: v15 :: v16 :: v17 :: v18 :: v19 :: v20 :: v21 :: v22 :: v23 :: v24 :: v25 :: v26 :: v27 :: v28 :: v29 :: v30 :: v31 :: v32 :: v33 :: v34 :: v35 :: v36 :: v37 :: v38 :: v39 :: v40 :: v41 :: v42 :: v43 :: v44 :: v45 :: v46 :: v47 :: v48 :: v49 :: v50 :: v51 :: v52 :: v53 :: v54 :: v55 :: v56 :: v57 :: v58 :: v59 :: v60 :: v61 :: v62 :: v63 :: v64 :: []) ++ pl)) (hS : va_S A0 H0 H locs) (hA : ∀ q, H0.size ≤ q → A0 q) : va_P D cl ([v28, v29, v30, v31, v32, v33, v34, v35, v36, v37, v38, v39, v40, v41, v42, v43]) H ∧ va_D A0 ([v28, v29, v30, v31, v32, v33, v34, v35, v36, v37, v38, v39, v40, v41, v42, v43]) ∧ ∀ q, va_A ([v28, v29, v30, v31, v32, v33, v34, v35, v36, v37, v38, v39, v40, v41, v42, v43]) H.size q → A0 q :=
  zo_sub (wc := [v28, v29, v30, v31, v32, v33, v34, v35, v36, v37, v38, v39, v40, v41, v42, v43]) hP hD hS hA [28, 29, 30, 31, 32, 33, 34, 35, 36, 37, 38, 39, 40, 41, 42, 43] (by decide +kernel) rfl
set_option maxHeartbeats 4000000 in
set_option maxRecDepth 100000 in
theorem zt_13 {A0 : Nat → Prop} {D : va_G} {cl : List vw_C} {v0 v1 v2 v3 v4 v5 v6 v7 v8 v9 v10 v11 v12 v13 v14 v15 v16 v17 v18 v19 v20 v21 v22 v23 v24 v25 v26 v27 v28 v29 v30 v31 v32 v33 v34 v35 v36 v37 v38 v39 v40 v41 v42 v43 v44 v45 v46 v47 v48 v49 v50 v51 v52 v53 v54 v55 v56 v57 v58 v59 v60 v61 v62 v63 v64 : Nat × va_E} {pl : va_W} {H0 H : Heap} {locs : List Loc} (hP : va_P D cl ((v0 :: v1 :: v2 :: v3 :: v4 :: v5 :: v6 :: v7 :: v8 :: v9 :: v10 :: v11 :: v12 :: v13 :: v14 :: v15 :: v16 :: v17 :: v18 :: v19 :: v20 :: v21 :: v22 :: v23 :: v24 :: v25 :: v26 :: v27 :: v28 :: v29 :: v30 :: v31 :: v32 :: v33 :: v34 :: v35 :: v36 :: v37 :: v38 :: v39 :: v40 :: v41 :: v42 :: v43 :: v44 :: v45 :: v46 :: v47 :: v48 :: v49 :: v50 :: v51 :: v52 :: v53 :: v54 :: v55 :: v56 :: v57 :: v58 :: v59 :: v60 :: v61 :: v62 :: v63 :: v64 :: []) ++ pl) H) (hD : va_D A0 ((v0 :: v1 :: v2 :: v3 :: v4 :: v5 :: v6 :: v7 :: v8 :: v9 :: v10 :: v11 :: v12 :: v13 :: v14 :: v15 :: v16 :: v17 :: v18 :: v19 :: v20 :: v21 :: v22 :: v23 :: v24 :: v25 :: v26 :: v27 :: v28 :: v29 :: v30 :: v31 :: v32 :: v33 :: v34 :: v35 :: v36 :: v37 :: v38 :: v39 :: v40 :: v41 :: v42 :: v43 :: v44 :: v45 :: v46 :: v47 :: v48 :: v49 :: v50 :: v51 :: v52 :: v53 :: v54 :: v55 :: v56 :: v57 :: v58 :: v59 :: v60 :: v61 :: v62 :: v63 :: v64 :: []) ++ pl)) (hS : va_S A0 H0 H locs) (hA : ∀ q, H0.size ≤ q → A0 q) : va_P D cl ([v0]) H ∧ va_D A0 ([v0]) ∧ ∀ q, va_A ([v0]) H.size q → A0 q :=
  zo_sub (wc := [v0]) hP hD hS hA [0] (by decide +kernel) rfl
set_option maxHeartbeats 4000000 in
set_option maxRecDepth 100000 in
theorem zt_14 {A0 : Nat → Prop} {D : va_G} {cl : List vw_C} {v0 v1 v2 v3 v4 v5 v6 v7 v8 v9 v10 v11 v12 v13 v14 v15 v16 v17 v18 v19 v20 v21 v22 v23 v24 v25 v26 v27 v28 v29 v30 v31 v32 v33 v34 v35 v36 v37 v38 v39 v40 v41 v42 v43 v44 v45 v46 v47 v48 v49 v50 v51 v52 v53 v54 v55 v56 v57 v58 v59 v60 v61 v62 v63 v64 : Nat × va_E} {pl : va_W} {H0 H : Heap} {locs : List Loc} (hP : va_P D cl ((v0 :: v1 :: v2 :: v3 :: v4 :: v5 :: v6 :: v7 :: v8 :: v9 :: v10 :: v11 :: v12 :: v13 :: v14 :: v15 :: v16 :: v17 :: v18 :: v19 :: v20 :: v21 :: v22 :: v23 :: v24 :: v25 :: v26 :: v27 :: v28 :: v29 :: v30 :: v31 :: v32 :: v33 :: v34 :: v35 :: v36 :: v37 :: v38 :: v39 :: v40 :: v41 :: v42 :: v43 :: v44 :: v45 :: v46 :: v47 :: v48 :: v49 :: v50 :: v51 :: v52 :: v53 :: v54 :: v55 :: v56 :: v57 :: v58 :: v59 :: v60 :: v61 :: v62 :: v63 :: v64 :: []) ++ pl) H) (hD : va_D A0 ((v0 :: v1 :: v2 :: v3 :: v4 :: v5 :: v6 :: v7 :: v8 :: v9 :: v10 :: v11 :: v12 :: v13 :: v14 :: v15 :: v16 :: v17 :: v18 :: v19 :: v20 :: v21 :: v22 :: v23 :: v24 :: v25 :: v26 :: v27 :: v28 :: v29 :: v30 :: v31 :: v32 :: v33 :: v34 :: v35 :: v36 :: v37 :: v38 :: v39 :: v40 :: v41 :: v42 :: v43 :: v44 :: v45 :: v46 :: v47 :: v48 :: v49 :: v50 :: v51 :: v52 :: v53 :: v54 :: v55 :: v56 :: v57 :: v58 :: v59 :: v60 :: v61 :: v62 :: v63 :: v64 :: []) ++ pl)) (hS : va_S A0 H0 H locs) (hA : ∀ q, H0.size ≤ q → A0 q) : va_P D cl ([v0, v1]) H ∧ va_D A0 ([v0, v1]) ∧ ∀ q, va_A ([v0, v1]) H.size q → A0 q :=
  zo_sub (wc := [v0, v1]) hP hD hS hA [0, 1] (by decide +kernel) rfl
set_option maxHeartbeats 4000000 in
set_option maxRecDepth 100000 in
theorem zt_15 {A0 : Nat → Prop} {D : va_G} {cl : List vw_C} {v0 v1 v2 v3 v4 v5 v6 v7 v8 v9 v10 v11 v12 v13 v14 v15 v16 v17 v18 v19 v20 v21 v22 v23 v24 v25 v26 v27 v28 v29 v30 v31 v32 v33 v34 v35 v36 v37 v38 v39 v40 v41 v42 v43 v44 v45 v46 v47 v48 v49 v50 v51 v52 v53 v54 v55 v56 v57 v58 v59 v60 v61 v62 v63 v64 : Nat × va_E} {pl : va_W} {H0 H : Heap} {locs : List Loc} (hP : va_P D cl ((v0 :: v1 :: v2 :: v3 :: v4 :: v5 :: v6 :: v7 :: v8 :: v9 :: v10 :: v11 :: v12 :: v13 :: v14 :: v15 :: v16 :: v17 :: v18 :: v19 :: v20 :: v21 :: v22 :: v23 :: v24 :: v25 :: v26 :: v27 :: v28 :: v29 :: v30 :: v31 :: v32 :: v33 :: v34 :: v35 :: v36 :: v37 :: v38 :: v39 :: v40 :: v41 :: v42 :: v43 :: v44 :: v45 :: v46 :: v47 :: v48 :: v49 :: v50 :: v51 :: v52 :: v53 :: v54 :: v55 :: v56 :: v57 :: v58 :: v59 :: v60 :: v61 :: v62 :: v63 :: v64 :: []) ++ pl) H) (hD : va_D A0 ((v0 :: v1 :: v2 :: v3 :: v4 :: v5 :: v6 :: v7 :: v8 :: v9 :: v10 :: v11 :: v12 :: v13 :: v14 :: v15 :: v16 :: v17 :: v18 :: v19 :: v20 :: v21 :: v22 :: v23 :: v24 :: v25 :: v26 :: v27 :: v28 :: v29 :: v30 :: v31 :: v32 :: v33 :: v34 :: v35 :: v36 :: v37 :: v38 :: v39 :: v40 :: v41 :: v42 :: v43 :: v44 :: v45 :: v46 :: v47 :: v48 :: v49 :: v50 :: v51 :: v52 :: v53 :: v54 :: v55 :: v56 :: v57 :: v58 :: v59 :: v60 :: v61 :: v62 :: v63 :: v64 :: []) ++ pl)) (hS : va_S A0 H0 H locs) (hA : ∀ q, H0.size ≤ q → A0 q) : va_P D cl ([v0, v1, v27, v2, v3] ++ pl) H ∧ va_D A0 ([v0, v1, v27, v2, v3] ++ pl) ∧ ∀ q, va_A ([v0, v1, v27, v2, v3] ++ pl) H.size q → A0 q :=
  zo_part (cx := [v0, v1, v27, v2, v3]) hP hD hS hA [0, 1, 27, 2, 3] (by decide +kernel) rfl
set_option maxHeartbeats 4000000 in
set_option maxRecDepth 100000 in
theorem zt_16 {A0 : Nat → Prop} {D : va_G} {cl : List vw_C} {v0 v1 v2 v3 v4 v5 v6 v7 v8 v9 v10 v11 v12 v13 v14 v15 v16 v17 v18 v19 v20 v21 v22 v23 v24 v25 v26 v27 v28 v29 v30 v31 v32 v33 v34 v35 v36 v37 v38 v39 v40 v41 v42 v43 v44 v45 v46 v47 v48 v49 v50 v51 v52 v53 v54 v55 v56 v57 v58 v59 v60 v61 v62 v63 v64 : Nat × va_E} {pl : va_W} {H0 H : Heap} {locs : List Loc} (hP : va_P D cl ((v0 :: v1 :: v2 :: v3 :: v4 :: v5 :: v6 :: v7 :: v8 :: v9 :: v10 :: v11 :: v12 :: v13 :: v14 :: v15 :: v16 :: v17 :: v18 :: v19 :: v20 :: v21 :: v22 :: v23 :: v24 :: v25 :: v26 :: v27 :: v28 :: v29 :: v30 :: v31 :: v32 :: v33 :: v34 :: v35 :: v36 :: v37 :: v38 :: v39 :: v40 :: v41 :: v42 :: v43 :: v44 :: v45 :: v46 :: v47 :: v48 :: v49 :: v50 :: v51 :: v52 :: v53 :: v54 :: v55 :: v56 :: v57 :: v58 :: v59 :: v60 :: v61 :: v62 :: v63 :: v64 :: []) ++ pl) H) (hD : va_D A0 ((v0 :: v1 :: v2 :: v3 :: v4 :: v5 :: v6 :: v7 :: v8 :: v9 :: v10 :: v11 :: v12 :: v13 :: v14 :: v15 :: v16 :: v17 :: v18 :: v19 :: v20 :: v21 :: v22 :: v23 :: v24 :: v25 :: v26 :: v27 :: v28 :: v29 :: v30 :: v31 :: v32 :: v33 :: v34 :: v35 :: v36 :: v37 :: v38 :: v39 :: v40 :: v41 :: v42 :: v43 :: v44 :: v45 :: v46 :: v47 :: v48 :: v49 :: v50 :: v51 :: v52 :: v53 :: v54 :: v55 :: v56 :: v57 :: v58 :: v59 :: v60 :: v61 :: v62 :: v63 :: v64 :: []) ++ pl)) (hS : va_S A0 H0 H locs) (hA : ∀ q, H0.size ≤ q → A0 q) : va_P D cl ([v0, v1, v17, v18, v19, v20, v21, v22, v2, v3] ++ pl) H ∧ va_D A0 ([v0, v1, v17, v18, v19, v20, v21, v22, v2, v3] ++ pl) ∧ ∀ q, va_A ([v0, v1, v17, v18, v19, v20, v21, v22, v2, v3] ++ pl) H.size q → A0 q :=
  zo_part (cx := [v0, v1, v17, v18, v19, v20, v21, v22, v2, v3]) hP hD hS hA [0, 1, 17, 18, 19, 20, 21, 22, 2, 3] (by decide +kernel) rfl
set_option maxHeartbeats 4000000 in
set_option maxRecDepth 100000 in
theorem zt_17 {A0 : Nat → Prop} {D : va_G} {cl : List vw_C} {v0 v1 v2 v3 v4 v5 v6 v7 v8 v9 v10 v11 v12 v13 v14 v15 v16 v17 v18 v19 v20 v21 v22 v23 v24 v25 v26 v27 v28 v29 v30 v31 v32 v33 v34 v35 v36 v37 v38 v39 v40 v41 v42 v43 v44 v45 v46 v47 v48 v49 v50 v51 v52 v53 v54 v55 v56 v57 v58 v59 v60 v61 v62 v63 v64 : Nat × va_E} {pl : va_W} {H0 H : Heap} {locs : List Loc} (hP : va_P D cl ((v0 :: v1 :: v2 :: v3 :: v4 :: v5 :: v6 :: v7 :: v8 :: v9 :: v10 :: v11 :: v12 :: v13 :: v14 :: v15 :: v16 :: v17 :: v18 :: v19 :: v20 :: v21 :: v22 :: v23 :: v24 :: v25 :: v26 :: v27 :: v28 :: v29 :: v30 :: v31 :: v32 :: v33 :: v34 :: v35 :: v36 :: v37 :: v38 :: v39 :: v40 :: v41 :: v42 :: v43 :: v44 :: v45 :: v46 :: v47 :: v48 :: v49 :: v50 :: v51 :: v52 :: v53 :: v54 :: v55 :: v56 :: v57 :: v58 :: v59 :: v60 :: v61 :: v62 :: v63 :: v64 :: []) ++ pl) H) (hD : va_D A0 ((v0 :: v1 :: v2 :: v3 :: v4 :: v5 :: v6 :: v7 :: v8 :: v9 :: v10 :: v11 :: v12 :: v13 :: v14 :: v15 :: v16 :: v17 :: v18 :: v19 :: v20 :: v21 :: v22 :: v23 :: v24 :: v25 :: v26 :: v27 :: v28 :: v29 :: v30 :: v31 :: v32 :: v33 :: v34 :: v35 :: v36 :: v37 :: v38 :: v39 :: v40 :: v41 :: v42 :: v43 :: v44 :: v45 :: v46 :: v47 :: v48 :: v49 :: v50 :: v51 :: v52 :: v53 :: v54 :: v55 :: v56 :: v57 :: v58 :: v59 :: v60 :: v61 :: v62 :: v63 :: v64 :: []) ++ pl)) (hS : va_S A0 H0 H locs) (hA : ∀ q, H0.size ≤ q → A0 q) : va_P D cl ([v0, v1, v4, v5, v6, v7, v23, v25, v2, v3] ++ pl) H ∧ va_D A0 ([v0, v1, v4, v5, v6, v7, v23, v25, v2, v3] ++ pl) ∧ ∀ q, va_A ([v0, v1, v4, v5, v6, v7, v23, v25, v2, v3] ++ pl) H.size q → A0 q :=
  zo_part (cx := [v0, v1, v4, v5, v6, v7, v23, v25, v2, v3]) hP hD hS hA [0, 1, 4, 5, 6, 7, 23, 25, 2, 3] (by decide +kernel) rfl
set_option maxHeartbeats 4000000 in
set_option maxRecDepth 100000 in
theorem zt_18 {A0 : Nat → Prop} {D : va_G} {cl : List vw_C} {v0 v1 v2 v3 v4 v5 v6 v7 v8 v9 v10 v11 v12 v13 v14 v15 v16 v17 v18 v19 v20 v21 v22 v23 v24 v25 v26 v27 v28 v29 v30 v31 v32 v33 v34 v35 v36 v37 v38 v39 v40 v41 v42 v43 v44 v45 v46 v47 v48 v49 v50 v51 v52 v53 v54 v55 v56 v57 v58 v59 v60 v61 v62 v63 v64 : Nat × va_E} {pl : va_W} {H0 H : Heap} {locs : List Loc} (hP : va_P D cl ((v0 :: v1 :: v2 :: v3 :: v4 :: v5 :: v6 :: v7 :: v8 :: v9 :: v10 :: v11 :: v12 :: v13 :: v14 :: v15 :: v16 :: v17 :: v18 :: v19 :: v20 :: v21 :: v22 :: v23 :: v24 :: v25 :: v26 :: v27 :: v28 :: v29 :: v30 :: v31 :: v32 :: v33 :: v34 :: v35 :: v36 :: v37 :: v38 :: v39 :: v40 :: v41 :: v42 :: v43 :: v44 :: v45 :: v46 :: v47 :: v48 :: v49 :: v50 :: v51 :: v52 :: v53 :: v54 :: v55 :: v56 :: v57 :: v58 :: v59 :: v60 :: v61 :: v62 :: v63 :: v64 :: []) ++ pl) H) (hD : va_D A0 ((v0 :: v1 :: v2 :: v3 :: v4 :: v5 :: v6 :: v7 :: v8 :: v9 :: v10 :: v11 :: v12 :: v13 :: v14 :: v15 :: v16 :: v17 :: v18 :: v19 :: v20 :: v21 :: v22 :: v23 :: v24 :: v25 :: v26 :: v27 :: v28 :: v29 :: v30 :: v31 :: v32 :: v33 :: v34 :: v35 :: v36 :: v37 :: v38 :: v39 :: v40 :: v41 :: v42 :: v43 :: v44 :: v45 :: v46 :: v47 :: v48 :: v49 :: v50 :: v51 :: v52 :: v53 :: v54 :: v55 :: v56 :: v57 :: v58 :: v59 :: v60 :: v61 :: v62 :: v63 :: v64 :: []) ++ pl)) (hS : va_S A0 H0 H locs) (hA : ∀ q, H0.size ≤ q → A0 q) : va_P D cl ([v28, v30, v38, v39]) H ∧ va_D A0 ([v28, v30, v38, v39]) ∧ ∀ q, va_A ([v28, v30, v38, v39]) H.size q → A0 q :=
  zo_sub (wc := [v28, v30, v38, v39]) hP hD hS hA [28, 30, 38, 39] (by decide +kernel) rfl
set_option maxHeartbeats 4000000 in
set_option maxRecDepth 100000 in
theorem zt_19 {A0 : Nat → Prop} {D : va_G} {cl : List vw_C} {v0 v1 v2 v3 v4 v5 v6 v7 v8 v9 v10 v11 v12 v13 v14 v15 v16 v17 v18 v19 v20 v21 v22 v23 v24 v25 v26 v27 v28 v29 v30 v31 v32 v33 v34 v35 v36 v37 v38 v39 v40 v41 v42 v43 v44 v45 v46 v47 v48 v49 v50 v51 v52 v53 v54 v55 v56 v57 v58 v59 v60 v61 v62 v63 v64 : Nat × va_E} {pl : va_W} {H0 H : Heap} {locs : List Loc} (hP : va_P D cl ((v0 :: v1 :: v2 :: v3 :: v4 :: v5 :: v6 :: v7 :: v8 :: v9 :: v10 :: v11 :: v12 :: v13 :: v14 :: v15 :: v16 :: v17 :: v18 :: v19 :: v20 :: v21 :: v22 :: v23 :: v24 :: v25 :: v26 :: v27 :: v28 :: v29 :: v30 :: v31 :: v32 :: v33 :: v34 :: v35 :: v36 :: v37 :: v38 :: v39 :: v40 :: v41 :: v42 :: v43 :: v44 :: v45 :: v46 :: v47 :: v48 :: v49 :: v50 :: v51 :: v52 :: v53 :: v54 :: v55 :: v56 :: v57 :: v58 :: v59 :: v60 :: v61 :: v62 :: v63 :: v64 :: []) ++ pl) H) (hD : va_D A0 ((v0 :: v1 :: v2 :: v3 :: v4 :: v5 :: v6 :: v7 :: v8 :: v9 :: v10 :: v11 :: v12 :: v13 :: v14 :: v15 :: v16 :: v17 :: v18 :: v19 :: v20 :: v21 :: v22 :: v23 :: v24 :: v25 :: v26 :: v27 :: v28 :: v29 :: v30 :: v31 :: v32 :: v33 :: v34 :: v35 :: v36 :: v37 :: v38 :: v39 :: v40 :: v41 :: v42 :: v43 :: v44 :: v45 :: v46 :: v47 :: v48 :: v49 :: v50 :: v51 :: v52 :: v53 :: v54 :: v55 :: v56 :: v57 :: v58 :: v59 :: v60 :: v61 :: v62 :: v63 :: v64 :: []) ++ pl)) (hS : va_S A0 H0 H locs) (hA : ∀ q, H0.size ≤ q → A0 q) : va_P D cl ([v0, v1, v25, v26, v2, v3] ++ pl) H ∧ va_D A0 ([v0, v1, v25, v26, v2, v3] ++ pl) ∧ ∀ q, va_A ([v0, v1, v25, v26, v2, v3] ++ pl) H.size q → A0 q :=
  zo_part (cx := [v0, v1, v25, v26, v2, v3]) hP hD hS hA [0, 1, 25, 26, 2, 3] (by decide +kernel) rfl
set_option maxHeartbeats 4000000 in
set_option maxRecDepth 100000 in
theorem zt_20 {A0 : Nat → Prop} {D : va_G} {cl : List vw_C} {v0 v1 v2 v3 v4 v5 v6 v7 v8 v9 v10 v11 v12 v13 v14 v15 v16 v17 v18 v19 v20 v21 v22 v23 v24 v25 v26 v27 v28 v29 v30 v31 v32 v33 v34 v35 v36 v37 v38 v39 v40 v41 v42 v43 v44 v45 v46 v47 v48 v49 v50 v51 v52 v53 v54 v55 v56 v57 v58 v59 v60 v61 v62 v63 v64 : Nat × va_E} {pl : va_W} {H0 H : Heap} {locs : List Loc} (hP : va_P D cl ((v0 :: v1 :: v2 :: v3 :: v4 :: v5 :: v6 :: v7 :: v8 :: v9 :: v10 :: v11 :: v12 :: v13 :: v14 :: v15 :: v16 :: v17 :: v18 :: v19 :: v20 :: v21 :: v22 :: v23 :: v24 :: v25 :: v26 :: v27 :: v28 :: v29 :: v30 :: v31 :: v32 :: v33 :: v34 :: v35 :: v36 :: v37 :: v38 :: v39 :: v40 :: v41 :: v42 :: v43 :: v44 :: v45 :: v46 :: v47 :: v48 :: v49 :: v50 :: v51 :: v52 :: v53 :: v54 :: v55 :: v56 :: v57 :: v58 :: v59 :: v60 :: v61 :: v62 :: v63 :: v64 :: []) ++ pl) H) (hD : va_D A0 ((v0 :: v1 :: v2 :: v3 :: v4 :: v5 :: v6 :: v7 :: v8 :: v9 :: v10 :: v11 :: v12 :: v13 :: v14 :: v15 :: v16 :: v17 :: v18 :: v19 :: v20 :: v21 :: v22 :: v23 :: v24 :: v25 :: v26 :: v27 :: v28 :: v29 :: v30 :: v31 :: v32 :: v33 :: v34 :: v35 :: v36 :: v37 :: v38 :: v39 :: v40 :: v41 :: v42 :: v43 :: v44 :: v45 :: v46 :: v47 :: v48 :: v49 :: v50 :: v51 :: v52 :: v53 :: v54 :: v55 :: v56 :: v57 :: v58 :: v59 :: v60 :: v61 :: v62 :: v63 :: v64 :: []) ++ pl)) (hS : va_S A0 H0 H locs) (hA : ∀ q, H0.size ≤ q → A0 q) : va_P D cl ([v28, v38, v39]) H ∧ va_D A0 ([v28, v38, v39]) ∧ ∀ q, va_A ([v28, v38, v39]) H.size q → A0 q :=
  zo_sub (wc := [v28, v38, v39]) hP hD hS hA [28, 38, 39] (by decide +kernel) rfl
set_option maxHeartbeats 4000000 in
set_option maxRecDepth 100000 in
theorem zt_21 {A0 : Nat → Prop} {D : va_G} {cl : List vw_C} {v0 v1 v2 v3 v4 v5 v6 v7 v8 v9 v10 v11 v12 v13 v14 v15 v16 v17 v18 v19 v20 v21 v22 v23 v24 v25 v26 v27 v28 v29 v30 v31 v32 v33 v34 v35 v36 v37 v38 v39 v40 v41 v42 v43 v44 v45 v46 v47 v48 v49 v50 v51 v52 v53 v54 v55 v56 v57 v58 v59 v60 v61 v62 v63 v64 : Nat × va_E} {pl : va_W} {H0 H : Heap} {locs : List Loc} (hP : va_P D cl ((v0 :: v1 :: v2 :: v3 :: v4 :: v5 :: v6 :: v7 :: v8 :: v9 :: v10 :: v11 :: v12 :: v13 :: v14 :: v15 :: v16 :: v17 :: v18 :: v19 :: v20 :: v21 :: v22 :: v23 :: v24 :: v25 :: v26 :: v27 :: v28 :: v29 :: v30 :: v31 :: v32 :: v33 :: v34 :: v35 :: v36 :: v37 :: v38 :: v39 :: v40 :: v41 :: v42 :: v43 :: v44 :: v45 :: v46 :: v47 :: v48 :: v49 :: v50 :: v51 :: v52 :: v53 :: v54 :: v55 :: v56 :: v57 :: v58 :: v59 :: v60 :: v61 :: v62 :: v63 :: v64 :: []) ++ pl) H) (hD : va_D A0 ((v0 :: v1 :: v2 :: v3 :: v4 :: v5 :: v6 :: v7 :: v8 :: v9 :: v10 :: v11 :: v12 :: v13 :: v14 :: v15 :: v16 :: v17 :: v18 :: v19 :: v20 :: v21 :: v22 :: v23 :: v24 :: v25 :: v26 :: v27 :: v28 :: v29 :: v30 :: v31 :: v32 :: v33 :: v34 :: v35 :: v36 :: v37 :: v38 :: v39 :: v40 :: v41 :: v42 :: v43 :: v44 :: v45 :: v46 :: v47 :: v48 :: v49 :: v50 :: v51 :: v52 :: v53 :: v54 :: v55 :: v56 :: v57 :: v58 :: v59 :: v60 :: v61 :: v62 :: v63 :: v64 :: []) ++ pl)) (hS : va_S A0 H0 H locs) (hA : ∀ q, H0.size ≤ q → A0 q) : va_P D cl ([v0, v1, v25, v2, v3] ++ pl) H ∧ va_D A0 ([v0, v1, v25, v2, v3] ++ pl) ∧ ∀ q, va_A ([v0, v1, v25, v2, v3] ++ pl) H.size q → A0 q :=
  zo_part (cx := [v0, v1, v25, v2, v3]) hP hD hS hA [0, 1, 25, 2, 3] (by decide +kernel) rfl
set_option maxHeartbeats 4000000 in
set_option maxRecDepth 100000 in
theorem zt_22 {A0 : Nat → Prop} {D : va_G} {cl : List vw_C} {v0 v1 v2 v3 v4 v5 v6 v7 v8 v9 v10 v11 v12 v13 v14 v15 v16 v17 v18 v19 v20 v21 v22 v23 v24 v25 v26 v27 v28 v29 v30 v31 v32 v33 v34 v35 v36 v37 v38 v39 v40 v41 v42 v43 v44 v45 v46 v47 v48 v49 v50 v51 v52 v53 v54 v55 v56 v57 v58 v59 v60 v61 v62 v63 v64 : Nat × va_E} {pl : va_W} {H0 H : Heap} {locs : List Loc} (hP : va_P D cl ((v0 :: v1 :: v2 :: v3 :: v4 :: v5 :: v6 :: v7 :: v8 :: v9 :: v10 :: v11 :: v12 :: v13 :: v14 :: v15 :: v16 :: v17 :: v18 :: v19 :: v20 :: v21 :: v22 :: v23 :: v24 :: v25 :: v26 :: v27 :: v28 :: v29 :: v30 :: v31 :: v32 :: v33 :: v34 :: v35 :: v36 :: v37 :: v38 :: v39 :: v40 :: v41 :: v42 :: v43 :: v44 :: v45 :: v46 :: v47 :: v48 :: v49 :: v50 :: v51 :: v52 :: v53 :: v54 :: v55 :: v56 :: v57 :: v58 :: v59 :: v60 :: v61 :: v62 :: v63 :: v64 :: []) ++ pl) H) (hD : va_D A0 ((v0 :: v1 :: v2 :: v3 :: v4 :: v5 :: v6 :: v7 :: v8 :: v9 :: v10 :: v11 :: v12 :: v13 :: v14 :: v15 :: v16 :: v17 :: v18 :: v19 :: v20 :: v21 :: v22 :: v23 :: v24 :: v25 :: v26 :: v27 :: v28 :: v29 :: v30 :: v31 :: v32 :: v33 :: v34 :: v35 :: v36 :: v37 :: v38 :: v39 :: v40 :: v41 :: v42 :: v43 :: v44 :: v45 :: v46 :: v47 :: v48 :: v49 :: v50 :: v51 :: v52 :: v53 :: v54 :: v55 :: v56 :: v57 :: v58 :: v59 :: v60 :: v61 :: v62 :: v63 :: v64 :: []) ++ pl)) (hS : va_S A0 H0 H locs) (hA : ∀ q, H0.size ≤ q → A0 q) : va_P D cl ([v0, v1, v23, v24, v25, v2, v3] ++ pl) H ∧ va_D A0 ([v0, v1, v23, v24, v25, v2, v3] ++ pl) ∧ ∀ q, va_A ([v0, v1, v23, v24, v25, v2, v3] ++ pl) H.size q → A0 q :=
  zo_part (cx := [v0, v1, v23, v24, v25, v2, v3]) hP hD hS hA [0, 1, 23, 24, 25, 2, 3] (by decide +kernel) rfl
set_option maxHeartbeats 4000000 in
set_option maxRecDepth 100000 in
theorem zt_23 {A0 : Nat → Prop} {D : va_G} {cl : List vw_C} {v0 v1 v2 v3 v4 v5 v6 v7 v8 v9 v10 v11 v12 v13 v14 v15 v16 v17 v18 v19 v20 v21 v22 v23 v24 v25 v26 v27 v28 v29 v30 v31 v32 v33 v34 v35 v36 v37 v38 v39 v40 v41 v42 v43 v44 v45 v46 v47 v48 v49 v50 v51 v52 v53 v54 v55 v56 v57 v58 v59 v60 v61 v62 v63 v64 : Nat × va_E} {pl : va_W} {H0 H : Heap} {locs : List Loc} (hP : va_P D cl ((v0 :: v1 :: v2 :: v3 :: v4 :: v5 :: v6 :: v7 :: v8 :: v9 :: v10 :: v11 :: v12 :: v13 :: v14 :: v15 :: v16 :: v17 :: v18 :: v19 :: v20 :: v21 :: v22 :: v23 :: v24 :: v25 :: v26 :: v27 :: v28 :: v29 :: v30 :: v31 :: v32 :: v33 :: v34 :: v35 :: v36 :: v37 :: v38 :: v39 :: v40 :: v41 :: v42 :: v43 :: v44 :: v45 :: v46 :: v47 :: v48 :: v49 :: v50 :: v51 :: v52 :: v53 :: v54 :: v55 :: v56 :: v57 :: v58 :: v59 :: v60 :: v61 :: v62 :: v63 :: v64 :: []) ++ pl) H) (hD : va_D A0 ((v0 :: v1 :: v2 :: v3 :: v4 :: v5 :: v6 :: v7 :: v8 :: v9 :: v10 :: v11 :: v12 :: v13 :: v14 :: v15 :: v16 :: v17 :: v18 :: v19 :: v20 :: v21 :: v22 :: v23 :: v24 :: v25 :: v26 :: v27 :: v28 :: v29 :: v30 :: v31 :: v32 :: v33 :: v34 :: v35 :: v36 :: v37 :: v38 :: v39 :: v40 :: v41 :: v42 :: v43 :: v44 :: v45 :: v46 :: v47 :: v48 :: v49 :: v50 :: v51 :: v52 :: v53 :: v54 :: v55 :: v56 :: v57 :: v58 :: v59 :: v60 :: v61 :: v62 :: v63 :: v64 :: []) ++ pl)) (hS : va_S A0 H0 H locs) (hA : ∀ q, H0.size ≤ q → A0 q) : va_P D cl ([v28, v30, v38, v29, v39, v40, v41, v53, v36]) H ∧ va_D A0 ([v28, v30, v38, v29, v39, v40, v41, v53, v36]) ∧ ∀ q, va_A ([v28, v30, v38, v29, v39, v40, v41, v53, v36]) H.size q → A0 q :=
  zo_sub (wc := [v28, v30, v38, v29, v39, v40, v41, v53, v36]) hP hD hS hA [28, 30, 38, 29, 39, 40, 41, 53, 36] (by decide +kernel) rfl
end
section
set_option maxHeartbeats 4000000 in
set_option maxRecDepth 100000 in
theorem lc_corner_x {p : Program} {e : Env} {s : State} {m : MethodId} {below : List Frame} {meth : Method} {c : Code} (l : Launch) {b L9 : Nat} {xs : Nat → Int32} (C0 : lw_At p s m meth c b L9 xs) (dC : Nat → ClassId) (dI : Nat → Nat → Nat) (cI cZ cF cO : ClassId) (e0 mi : Nat) (x sl sh fa lw dr dx dy tg tx ty wy wx wz br bo aa ro za zw zx zy zg bq bp dq dp lv k0 : Nat) (hK : va_K (dC, dI) classes (zTyO cI cZ cF cO) s) (hXL : zXL e0 mi (fun q : Nat => s.heap.size ≤ q) s) (L : List Nat) (f : Nat → va_E) (FA : Nat → Option Nat) (ea : Nat) (nd : Nat) (nt : Nat) (nw : Nat) (ul : Int32) (su : Int32) (mc9 : Int32) (rd : Int32) (rt : Int32) (rw : Int32) (P : Nat → Int32) (Q : Nat → Int32) (TX : Nat → Int32) (TY : Nat → Int32) (WX : Nat → Int32) (WY : Nat → Int32) (AR : Nat → Int32) (b1 : Int32) (b2 : Int32) (b3 : Int32) (b4 : Int32) (b5 : Int32) (b6 : Int32) (b7 : Int32) (b8 : Int32) (c1 : Int32) (c2 : Int32) (c3 : Int32) (c4 : Int32) (a1 : Int32) (a2 : Int32) (a3 : Int32) (a4 : Int32) (nv : Int32) (RA : Nat → Option Nat) (WT : Nat → Int32) (EX : Nat → Int32) (EY : Nat → Int32) (GR : Nat → Int32) (LV : Nat → Int32) (y1 : Int64) (y2 : Int64) (y3 : Int64) (y4 : Int64) (a : Nat → Nat) (I0 : Nat → Int32) (J0 : Nat → Int64) (kd : Nat → Int32) (st : Nat → Int32) (gb : Nat → Int32) (it : Nat → Int32) (pa : Nat → Int32) (pb : Nat → Int32) (rk : Nat → Int32) (wd : Nat → Int32) (tw : Nat → Int32) (tn : Nat → Int32) (mn : Nat → Int32) (cx : Nat → Int32) (cy : Nat → Int32) (sa : Nat → Int32) (shs : Nat → Int32) (wh : Nat → Int32) (of9 : Nat → Int32) (we : Nat → Int32) (la : Nat → Int32) (lb : Nat → Int32) (lc : Nat → Int32) (ld : Nat → Int32) (P0 : Nat → Int32) (Q0 : Nat → Int32) (S0 : Nat → Int32) (ox : Nat → Int32) (oy : Nat → Int32) (mt : Nat → Int32) (wi : Nat → Int32) (ins : Nat → Int32) (T0 : Nat → Int32) (fl : Nat → Int32) (mk : Nat → Int32) (jx : Nat → Int32) (jy : Nat → Int32) (gr : Nat → Int32) (bs : Nat) (dn : Nat) (T : Nat) (ft : Nat) (Sn : Nat) (AD : Nat) (C : Nat) (ln : Nat) (FT : Nat → Nat) (cc : Nat → Nat) (W9 : Nat → Nat) (V : Nat → Nat → Nat → Int32) (VX : Nat → Nat → Int32) (VY : Nat → Nat → Int32) (cp cl U k9 : Nat) (hk9 : 6 * k9 + 6 ≤ L9) (hL9 : L9 ≤ 3072) {H : Heap} {locs : List Loc} {ls : Array Slot} (hPD : zPD (dC, dI) classes (fun q : Nat => s.heap.size ≤ q) (((oc8 x (.ref sh) (.ref lw) (.ref ro) (.ref bq) (.ref bp) (.ref dq) (.ref dp) (.ref lv) (.ref sl) (nI dn) (nI bs) ul su) :: (oc10 sl mc9 (.ref ea) (nI T)) :: (oc7 sh (.ref fa) (nI ft)) :: (oq fa cF 200 FA) :: (oc3 lw (.ref dr) (.ref tg) (.ref wy) (.ref br) (.ref bo) (.ref aa)) :: (oc6 dr (.ref dx) (.ref dy) (nI nd) rd) :: (oa dx cI 40 P) :: (oa dy cI 40 Q) :: (oc6 tg (.ref tx) (.ref ty) (nI nt) rt) :: (oa tx cI 3 TX) :: (oa ty cI 3 TY) :: (oc6 wy (.ref wx) (.ref wz) (nI nw) rw) :: (oa wx cI 2 WX) :: (oa wz cI 2 WY) :: (oc0 br b1 b2 b3 b4) :: (oc0 bo b5 b6 b7 b8) :: (oa aa cI 40 AR) :: (oc5 ro (.ref za) (.ref zw) (.ref zx) (.ref zy) (.ref zg) nv) :: (oq za cF 200 RA) :: (oa zw cI 200 WT) :: (oa zx cI 400 EX) :: (oa zy cI 400 EY) :: (oa zg cI 400 GR) :: (oc0 bq c1 c2 c3 c4) :: (oc0 bp a1 a2 a3 a4) :: (oc2 dq y1 y2) :: (oc2 dp y3 y4) :: (oa lv cZ 200 LV) :: (om k0 a (upd I0 26 (nI ln)) J0) :: (oa (a 1) cI 201 kd) :: (oa (a 5) cI 201 st) :: (oa (a 7) cI 201 gb) :: (oa (a 10) cI 201 it) :: (oa (a 8) cI 201 pa) :: (oa (a 9) cI 201 pb) :: (oa (a 2) cI 201 rk) :: (oa (a 3) cI 201 wd) :: (oa (a 4) cI 201 tw) :: (oa (a 6) cZ 201 tn) :: (oa (a 11) cI 201 mn) :: (oa (a 12) cI 8040 cx) :: (oa (a 13) cI 8040 cy) :: (oa (a 27) cI 516 sa) :: (oa (a 28) cI (4096 * cp) shs) :: (oa (a 16) cI 514 wh) :: (oa (a 17) cI 514 of9) :: (oa (a 18) cI 514 we) :: (oa (a 22) cI (64 * cl) la) :: (oa (a 23) cI (64 * cl) lb) :: (oa (a 24) cI (64 * cl) lc) :: (oa (a 25) cI (64 * cl) ld) :: (oa (a 29) cI 42 P0) :: (oa (a 30) cI 42 Q0) :: (oa (a 32) cI 8 S0) :: (oa (a 33) cI 42 ox) :: (oa (a 34) cI 42 oy) :: (oa (a 37) cZ 201 mt) :: (oa (a 38) cZ 201 wi) :: (oa (a 39) cZ 8040 ins) :: (oa (a 40) cI 6 T0) :: (oa (a 43) cZ 40 fl) :: (oa (a 50) cZ 201 mk) :: (oa (a 51) cI 402 jx) :: (oa (a 52) cI 402 jy) :: (oa (a 53) cI 402 gr) :: []) ++ va_pl L f) H) (hS : va_S (fun q : Nat => s.heap.size ≤ q) s.heap H locs) (hl : lv_has ls 4 [(3, .int (nI (6 * k9))), (2, .ref k0), (1, .ref x), (0, .ref b)]) (hB : shB cI cO L f e0 FA ea bs dn T ft FT V VX VY tn rk wd tw pa pb wh of9 we kd st gb it mn cx cy) (hI : INV k9 Sn AD C cc W9 bs T ft cp ln cl FT V VX VY tn rk wd tw pa pb kd st it mn cx cy sa shs lb lc) (hM : I0 0 = nI ft ∧ I0 19 = nI dn ∧ I0 20 = nI (T - dn) ∧ I0 21 = nI bs ∧ I0 15 = ul) (hU : U ≤ Sn * (28 * (AD + C) + 1000) + 200 * (AD + C)) (hbad : ¬ (0 ≤ (xs (6 * k9 + 1)).toInt ∧ (xs (6 * k9 + 1)).toInt < ((ft : Nat) : Int))) (hnext : ∀ (cp1 cl1 U1 : Nat) (H : Heap) (locs : List Loc) (ls : Array Slot), lawI s dC dI cI cZ cF cO e0 mi x sl sh fa lw dr dx dy tg tx ty wy wx wz br bo aa ro za zw zx zy zg bq bp dq dp lv k0 (k9 + 1) cp1 cl1 U1 H → va_S (fun q : Nat => s.heap.size ≤ q) s.heap H locs → lv_has ls 4 [(3, .int (nI (6 * k9))), (2, .ref k0), (1, .ref x), (0, .ref b)] → W p l e room_1 s m #[Value.ref b] below meth c H locs (1000 + 1010 * (k9 + 1) + cp1 + 4 * cl1) (45000 + 8192 * cp1 + 512 * cl1 + U1) (lw_Z below #[Value.ref b] s) (F0 m 1081 ls [])) : W p l e room_1 s m #[Value.ref b] below meth c H locs (1000 + 1010 * k9 + cp + 4 * cl) (45000 + 8192 * cp + 512 * cl + U) (lw_Z below #[Value.ref b] s) (F0 m 217 ls []) := by
  obtain ⟨hP, hD⟩ := hPD
  obtain ⟨hx, hb, hr, hml, hown, hts1, hX, hbl, hlocks, hgv⟩ := id C0
  have hts : ∀ w9 ∈ ws0, w9.before #[Value.ref b] s = true := fun w9 h => hts1 w9 (List.mem_filter.mp h).1
  have hA : ∀ q : Nat, s.heap.size ≤ q → (fun q : Nat => s.heap.size ≤ q) q := fun _ h => h
  have hbA : ¬ (fun q : Nat => s.heap.size ≤ q) b := Nat.not_le.mpr hbl
  have hXN := hXL.1
  have hK3 := hK.sub [0, 1, 2] rfl
  obtain ⟨hm0, hm19, hm20, hm21, hm15⟩ := hM
  have hpo := shB_po hB
  have hK512 : k9 + 1 ≤ 512 := r9_k hk9 hL9
  have hwfS := hI.1.1
  have hbdC := hI.1.2.2.1
  have hT0 := hI.1.2.2.2
  have hd9 := hpo.1
  have h200t : ∀ t, bs ≤ t → t ≤ T → FT t ≤ 200 := fun t t1 t2 => Nat.le_trans (hpo.2.1 t T t1 t2 (Nat.le_refl _)) hd9.2.2.2.2
  have h200f : ft ≤ 200 := (by rw [hd9.2.2.2.1]; exact h200t dn hd9.1 hd9.2.1)
  have hrkA : ∀ q, lvF ft st tn q → 0 ≤ (rk q).toInt ∧ (rk q).toInt ≤ 9 := fun q hq => (hI.1.2.1 q (Nat.lt_of_lt_of_le hq.1 (by rw [hd9.2.2.2.1]; exact hpo.2.1 dn T hd9.1 hd9.2.1 (Nat.le_refl _)))).1
  have hwdA : ∀ q, q < ft → 0 ≤ (wd q).toInt ∧ (wd q).toInt ≤ 100 := fun q hq => (hI.1.2.1 q (Nat.lt_of_lt_of_le hq (by rw [hd9.2.2.2.1]; exact hpo.2.1 dn T hd9.1 hd9.2.1 (Nat.le_refl _)))).2
  have hcp5 := INV_cp hI (Nat.le_of_succ_le hK512)
  have hcp1 := hI.2.2.1.2.1
  have hcnt := hI.2.2.2.1
  have hlst := hI.2.2.2.2
  have hlb := mul_514 (a := Sn) (b := C) (r9_s hcnt.2.1 hK512).2.1
  have hftA := bdC_F hbdC
  have hrm := room_c (Sn := Sn) (AD := AD) (C := C) (c := cp) (cl := cl) (U := U) (r9_s hcnt.2.1 hK512).1 hI.2.2.1.2.2.2.2.2 hlst.2.2.2.1 hU
  have hrc : 1000 + 1010 * k9 + cp + 4 * cl ≤ 600000 := (by omega)
  refine la_1_1 l C0 hk9 hL9 hS hl (rfl) (rfl) (rfl) ?_
  obtain ⟨hPc, hDc, hFc⟩ := zt_1 hP hD hS hA
  refine zcall (st1 := [.int (-1)]) (va_runV (As := [.int (xs (6 * k9 + 1)), .int (xs (6 * k9 + 2)), .int (xs (6 * k9 + 3))]) (rest := []) ⟨hx, hb, hml, hown, hts⟩ (k_corner_x l dC dI cI cZ cF H.size x sh lw ro bq bp dq dp lv sl (nI bs) ul su (nI dn) fa ft FA (xs (6 * k9 + 1)) (xs (6 * k9 + 2)) (xs (6 * k9 + 3)) (h200f) (hbad)) (csV_231 hts rfl rfl ⟨Nat.le_of_ble_eq_true rfl, Nat.le_of_ble_eq_true rfl⟩) (zPV2 (q0 := 0) (ci := 8) hPc hDc hK3 hXN rfl rfl) rfl rfl hl.1 rfl (lv_room (Nat.le_of_ble_eq_true rfl)) dL_law_233 ⟨hrc, hrm⟩) hS hFc hFc rfl (fun t H locs ht hB hk1 hS => ?_)
  obtain ⟨q_1, hP1, hD1⟩ := hB
  rw [ht] at hP1
  obtain ⟨hP, hD⟩ := zs_1 (u0 := (oc8 x (.ref sh) (.ref lw) (.ref ro) (.ref bq) (.ref bp) (.ref dq) (.ref dp) (.ref lv) (.ref sl) (nI dn) (nI bs) ul q_1)) hP hD hk1 hFc hP1 hD1
  clear hk1 hPc hDc hFc hP1 hD1 ht
  refine lv_pop hx hb dL_law_236 rfl ?_
  refine la_1_2 l C0 hk9 hL9 hS hl (rfl) (rfl) (rfl) ?_
  obtain ⟨hPc, hDc, hFc⟩ := zt_2 hP hD hS hA
  refine zcall (st1 := [.int (-1)]) (va_runV (As := [.int (xs (6 * k9 + 1)), .int (xs (6 * k9 + 2)), .int (xs (6 * k9 + 3))]) (rest := []) ⟨hx, hb, hml, hown, hts⟩ (k_M_corner_x l dC dI cI cZ cF H.size k0 a (upd I0 26 (nI ln)) J0 ft (xs (6 * k9 + 1)) (xs (6 * k9 + 2)) (xs (6 * k9 + 3)) (hm0) (h200f) (hbad)) (csV_232 hts rfl rfl ⟨Nat.le_of_ble_eq_true rfl, Nat.le_of_ble_eq_true rfl⟩) (zPV2 (q0 := 0) (ci := 9) hPc hDc hK3 hXN rfl rfl) rfl rfl hl.1 rfl (lv_room (Nat.le_of_ble_eq_true rfl)) dL_law_253 ⟨hrc, hrm⟩) hS hFc hFc rfl (fun t H locs ht hB hk1 hS => ?_)
  obtain ⟨hP1, hD1⟩ := hB
  rw [ht] at hP1
  obtain ⟨hP, hD⟩ := zs_2 (u28 := (om k0 a (upd (upd (upd I0 14 1) 15 (I0 15)) 26 (nI ln)) J0)) hP hD hk1 hFc hP1 hD1
  clear hk1 hPc hDc hFc hP1 hD1 ht
  refine lv_pop hx hb dL_law_256 rfl ?_
  refine lv_goto (tgt := 1081) hx hb dL_law_257 rfl ?_
  obtain ⟨hP9, hD9⟩ := And.intro hP hD
  refine W.widen (k := 1000 + 1010 * (k9 + 1) + cp + 4 * cl) (n := 45000 + 8192 * cp + 512 * cl + U) (by first | exact wdK | omega) (by first | exact Nat.le_refl _ | omega) ?_
  have e26 : upd (upd (upd (upd I0 14 1) 15 (I0 15)) 26 (nI ln)) 26 (nI ln) = (upd (upd (upd I0 14 1) 15 (I0 15)) 26 (nI ln)) := up_same rfl
  exact hnext cp cl U H locs ls (lawI_in L f FA ea nd nt nw ul q_1 mc9 rd rt rw P Q TX TY WX WY AR b1 b2 b3 b4 b5 b6 b7 b8 c1 c2 c3 c4 a1 a2 a3 a4 nv RA WT EX EY GR LV y1 y2 y3 y4 a (upd (upd (upd I0 14 1) 15 (I0 15)) 26 (nI ln)) J0 kd st gb it pa pb rk wd tw tn mn cx cy sa shs wh of9 we la lb lc ld P0 Q0 S0 ox oy mt wi ins T0 fl mk jx jy gr bs dn T ft Sn AD C ln FT cc W9 V VX VY (by rw [e26]; exact hP9) (by rw [e26]; exact hD9) (hB) (INV_K hI) ⟨hm0, hm19, hm20, hm21, hm15⟩ (by first | exact hU | omega)) hS (lv_sub hl [0, 1, 2, 3] rfl)
set_option maxHeartbeats 4000000 in
set_option maxRecDepth 100000 in
theorem lc_tear_x {p : Program} {e : Env} {s : State} {m : MethodId} {below : List Frame} {meth : Method} {c : Code} (l : Launch) {b L9 : Nat} {xs : Nat → Int32} (C0 : lw_At p s m meth c b L9 xs) (dC : Nat → ClassId) (dI : Nat → Nat → Nat) (cI cZ cF cO : ClassId) (e0 mi : Nat) (x sl sh fa lw dr dx dy tg tx ty wy wx wz br bo aa ro za zw zx zy zg bq bp dq dp lv k0 : Nat) (hK : va_K (dC, dI) classes (zTyO cI cZ cF cO) s) (hXL : zXL e0 mi (fun q : Nat => s.heap.size ≤ q) s) (L : List Nat) (f : Nat → va_E) (FA : Nat → Option Nat) (ea : Nat) (nd : Nat) (nt : Nat) (nw : Nat) (ul : Int32) (su : Int32) (mc9 : Int32) (rd : Int32) (rt : Int32) (rw : Int32) (P : Nat → Int32) (Q : Nat → Int32) (TX : Nat → Int32) (TY : Nat → Int32) (WX : Nat → Int32) (WY : Nat → Int32) (AR : Nat → Int32) (b1 : Int32) (b2 : Int32) (b3 : Int32) (b4 : Int32) (b5 : Int32) (b6 : Int32) (b7 : Int32) (b8 : Int32) (c1 : Int32) (c2 : Int32) (c3 : Int32) (c4 : Int32) (a1 : Int32) (a2 : Int32) (a3 : Int32) (a4 : Int32) (nv : Int32) (RA : Nat → Option Nat) (WT : Nat → Int32) (EX : Nat → Int32) (EY : Nat → Int32) (GR : Nat → Int32) (LV : Nat → Int32) (y1 : Int64) (y2 : Int64) (y3 : Int64) (y4 : Int64) (a : Nat → Nat) (I0 : Nat → Int32) (J0 : Nat → Int64) (kd : Nat → Int32) (st : Nat → Int32) (gb : Nat → Int32) (it : Nat → Int32) (pa : Nat → Int32) (pb : Nat → Int32) (rk : Nat → Int32) (wd : Nat → Int32) (tw : Nat → Int32) (tn : Nat → Int32) (mn : Nat → Int32) (cx : Nat → Int32) (cy : Nat → Int32) (sa : Nat → Int32) (shs : Nat → Int32) (wh : Nat → Int32) (of9 : Nat → Int32) (we : Nat → Int32) (la : Nat → Int32) (lb : Nat → Int32) (lc : Nat → Int32) (ld : Nat → Int32) (P0 : Nat → Int32) (Q0 : Nat → Int32) (S0 : Nat → Int32) (ox : Nat → Int32) (oy : Nat → Int32) (mt : Nat → Int32) (wi : Nat → Int32) (ins : Nat → Int32) (T0 : Nat → Int32) (fl : Nat → Int32) (mk : Nat → Int32) (jx : Nat → Int32) (jy : Nat → Int32) (gr : Nat → Int32) (bs : Nat) (dn : Nat) (T : Nat) (ft : Nat) (Sn : Nat) (AD : Nat) (C : Nat) (ln : Nat) (FT : Nat → Nat) (cc : Nat → Nat) (W9 : Nat → Nat) (V : Nat → Nat → Nat → Int32) (VX : Nat → Nat → Int32) (VY : Nat → Nat → Int32) (cp cl U k9 : Nat) (hk9 : 6 * k9 + 6 ≤ L9) (hL9 : L9 ≤ 3072) {H : Heap} {locs : List Loc} {ls : Array Slot} (hPD : zPD (dC, dI) classes (fun q : Nat => s.heap.size ≤ q) (((oc8 x (.ref sh) (.ref lw) (.ref ro) (.ref bq) (.ref bp) (.ref dq) (.ref dp) (.ref lv) (.ref sl) (nI dn) (nI bs) ul su) :: (oc10 sl mc9 (.ref ea) (nI T)) :: (oc7 sh (.ref fa) (nI ft)) :: (oq fa cF 200 FA) :: (oc3 lw (.ref dr) (.ref tg) (.ref wy) (.ref br) (.ref bo) (.ref aa)) :: (oc6 dr (.ref dx) (.ref dy) (nI nd) rd) :: (oa dx cI 40 P) :: (oa dy cI 40 Q) :: (oc6 tg (.ref tx) (.ref ty) (nI nt) rt) :: (oa tx cI 3 TX) :: (oa ty cI 3 TY) :: (oc6 wy (.ref wx) (.ref wz) (nI nw) rw) :: (oa wx cI 2 WX) :: (oa wz cI 2 WY) :: (oc0 br b1 b2 b3 b4) :: (oc0 bo b5 b6 b7 b8) :: (oa aa cI 40 AR) :: (oc5 ro (.ref za) (.ref zw) (.ref zx) (.ref zy) (.ref zg) nv) :: (oq za cF 200 RA) :: (oa zw cI 200 WT) :: (oa zx cI 400 EX) :: (oa zy cI 400 EY) :: (oa zg cI 400 GR) :: (oc0 bq c1 c2 c3 c4) :: (oc0 bp a1 a2 a3 a4) :: (oc2 dq y1 y2) :: (oc2 dp y3 y4) :: (oa lv cZ 200 LV) :: (om k0 a (upd I0 26 (nI ln)) J0) :: (oa (a 1) cI 201 kd) :: (oa (a 5) cI 201 st) :: (oa (a 7) cI 201 gb) :: (oa (a 10) cI 201 it) :: (oa (a 8) cI 201 pa) :: (oa (a 9) cI 201 pb) :: (oa (a 2) cI 201 rk) :: (oa (a 3) cI 201 wd) :: (oa (a 4) cI 201 tw) :: (oa (a 6) cZ 201 tn) :: (oa (a 11) cI 201 mn) :: (oa (a 12) cI 8040 cx) :: (oa (a 13) cI 8040 cy) :: (oa (a 27) cI 516 sa) :: (oa (a 28) cI (4096 * cp) shs) :: (oa (a 16) cI 514 wh) :: (oa (a 17) cI 514 of9) :: (oa (a 18) cI 514 we) :: (oa (a 22) cI (64 * cl) la) :: (oa (a 23) cI (64 * cl) lb) :: (oa (a 24) cI (64 * cl) lc) :: (oa (a 25) cI (64 * cl) ld) :: (oa (a 29) cI 42 P0) :: (oa (a 30) cI 42 Q0) :: (oa (a 32) cI 8 S0) :: (oa (a 33) cI 42 ox) :: (oa (a 34) cI 42 oy) :: (oa (a 37) cZ 201 mt) :: (oa (a 38) cZ 201 wi) :: (oa (a 39) cZ 8040 ins) :: (oa (a 40) cI 6 T0) :: (oa (a 43) cZ 40 fl) :: (oa (a 50) cZ 201 mk) :: (oa (a 51) cI 402 jx) :: (oa (a 52) cI 402 jy) :: (oa (a 53) cI 402 gr) :: []) ++ va_pl L f) H) (hS : va_S (fun q : Nat => s.heap.size ≤ q) s.heap H locs) (hl : lv_has ls 4 [(3, .int (nI (6 * k9))), (2, .ref k0), (1, .ref x), (0, .ref b)]) (hB : shB cI cO L f e0 FA ea bs dn T ft FT V VX VY tn rk wd tw pa pb wh of9 we kd st gb it mn cx cy) (hI : INV k9 Sn AD C cc W9 bs T ft cp ln cl FT V VX VY tn rk wd tw pa pb kd st it mn cx cy sa shs lb lc) (hM : I0 0 = nI ft ∧ I0 19 = nI dn ∧ I0 20 = nI (T - dn) ∧ I0 21 = nI bs ∧ I0 15 = ul) (hU : U ≤ Sn * (28 * (AD + C) + 1000) + 200 * (AD + C)) (hbad : ¬ (0 ≤ (xs (6 * k9 + 1)).toInt ∧ (xs (6 * k9 + 1)).toInt < ((ft : Nat) : Int))) (hnext : ∀ (cp1 cl1 U1 : Nat) (H : Heap) (locs : List Loc) (ls : Array Slot), lawI s dC dI cI cZ cF cO e0 mi x sl sh fa lw dr dx dy tg tx ty wy wx wz br bo aa ro za zw zx zy zg bq bp dq dp lv k0 (k9 + 1) cp1 cl1 U1 H → va_S (fun q : Nat => s.heap.size ≤ q) s.heap H locs → lv_has ls 4 [(3, .int (nI (6 * k9))), (2, .ref k0), (1, .ref x), (0, .ref b)] → W p l e room_1 s m #[Value.ref b] below meth c H locs (1000 + 1010 * (k9 + 1) + cp1 + 4 * cl1) (45000 + 8192 * cp1 + 512 * cl1 + U1) (lw_Z below #[Value.ref b] s) (F0 m 1081 ls [])) : W p l e room_1 s m #[Value.ref b] below meth c H locs (1000 + 1010 * k9 + cp + 4 * cl) (45000 + 8192 * cp + 512 * cl + U) (lw_Z below #[Value.ref b] s) (F0 m 260 ls []) := by
  obtain ⟨hP, hD⟩ := hPD
  obtain ⟨hx, hb, hr, hml, hown, hts1, hX, hbl, hlocks, hgv⟩ := id C0
  have hts : ∀ w9 ∈ ws0, w9.before #[Value.ref b] s = true := fun w9 h => hts1 w9 (List.mem_filter.mp h).1
  have hA : ∀ q : Nat, s.heap.size ≤ q → (fun q : Nat => s.heap.size ≤ q) q := fun _ h => h
  have hbA : ¬ (fun q : Nat => s.heap.size ≤ q) b := Nat.not_le.mpr hbl
  have hXN := hXL.1
  have hK3 := hK.sub [0, 1, 2] rfl
  obtain ⟨hm0, hm19, hm20, hm21, hm15⟩ := hM
  have hpo := shB_po hB
  have hK512 : k9 + 1 ≤ 512 := r9_k hk9 hL9
  have hwfS := hI.1.1
  have hbdC := hI.1.2.2.1
  have hT0 := hI.1.2.2.2
  have hd9 := hpo.1
  have h200t : ∀ t, bs ≤ t → t ≤ T → FT t ≤ 200 := fun t t1 t2 => Nat.le_trans (hpo.2.1 t T t1 t2 (Nat.le_refl _)) hd9.2.2.2.2
  have h200f : ft ≤ 200 := (by rw [hd9.2.2.2.1]; exact h200t dn hd9.1 hd9.2.1)
  have hrkA : ∀ q, lvF ft st tn q → 0 ≤ (rk q).toInt ∧ (rk q).toInt ≤ 9 := fun q hq => (hI.1.2.1 q (Nat.lt_of_lt_of_le hq.1 (by rw [hd9.2.2.2.1]; exact hpo.2.1 dn T hd9.1 hd9.2.1 (Nat.le_refl _)))).1
  have hwdA : ∀ q, q < ft → 0 ≤ (wd q).toInt ∧ (wd q).toInt ≤ 100 := fun q hq => (hI.1.2.1 q (Nat.lt_of_lt_of_le hq (by rw [hd9.2.2.2.1]; exact hpo.2.1 dn T hd9.1 hd9.2.1 (Nat.le_refl _)))).2
  have hcp5 := INV_cp hI (Nat.le_of_succ_le hK512)
  have hcp1 := hI.2.2.1.2.1
  have hcnt := hI.2.2.2.1
  have hlst := hI.2.2.2.2
  have hlb := mul_514 (a := Sn) (b := C) (r9_s hcnt.2.1 hK512).2.1
  have hftA := bdC_F hbdC
  have hrm := room_c (Sn := Sn) (AD := AD) (C := C) (c := cp) (cl := cl) (U := U) (r9_s hcnt.2.1 hK512).1 hI.2.2.1.2.2.2.2.2 hlst.2.2.2.1 hU
  have hrc : 1000 + 1010 * k9 + cp + 4 * cl ≤ 600000 := (by omega)
  refine la_2_1 l C0 hk9 hL9 hS hl (rfl) ?_
  obtain ⟨hPc, hDc, hFc⟩ := zt_1 hP hD hS hA
  refine zcall (st1 := [.int 0]) (va_runV (As := [.int (xs (6 * k9 + 1))]) (rest := []) ⟨hx, hb, hml, hown, hts⟩ (k_tear_x l dC dI cI cZ cF H.size x sh lw ro bq bp dq dp lv sl (nI bs) ul su (nI dn) fa ft FA (xs (6 * k9 + 1)) (h200f) (hbad)) (csV_233 hts rfl rfl ⟨Nat.le_of_ble_eq_true rfl, Nat.le_of_ble_eq_true rfl⟩) (zPV2 (q0 := 0) (ci := 8) hPc hDc hK3 hXN rfl rfl) rfl rfl hl.1 rfl (lv_room (Nat.le_of_ble_eq_true rfl)) dL_law_266 ⟨hrc, hrm⟩) hS hFc hFc rfl (fun t H locs ht hB hk1 hS => ?_)
  obtain ⟨q_1, hP1, hD1⟩ := hB
  rw [ht] at hP1
  obtain ⟨hP, hD⟩ := zs_1 (u0 := (oc8 x (.ref sh) (.ref lw) (.ref ro) (.ref bq) (.ref bp) (.ref dq) (.ref dp) (.ref lv) (.ref sl) (nI dn) (nI bs) ul q_1)) hP hD hk1 hFc hP1 hD1
  clear hk1 hPc hDc hFc hP1 hD1 ht
  refine lv_pop hx hb dL_law_269 rfl ?_
  refine la_2_2 l C0 hk9 hL9 hS hl (rfl) ?_
  obtain ⟨hPc, hDc, hFc⟩ := zt_2 hP hD hS hA
  refine zcall (st1 := [.int 0]) (va_runV (As := [.int (xs (6 * k9 + 1))]) (rest := []) ⟨hx, hb, hml, hown, hts⟩ (k_M_tear_x l dC dI cI cZ cF H.size k0 a (upd I0 26 (nI ln)) J0 ft (xs (6 * k9 + 1)) (hm0) (h200f) (hbad)) (csV_234 hts rfl rfl ⟨Nat.le_of_ble_eq_true rfl, Nat.le_of_ble_eq_true rfl⟩) (zPV2 (q0 := 0) (ci := 9) hPc hDc hK3 hXN rfl rfl) rfl rfl hl.1 rfl (lv_room (Nat.le_of_ble_eq_true rfl)) dL_law_276 ⟨hrc, hrm⟩) hS hFc hFc rfl (fun t H locs ht hB hk1 hS => ?_)
  obtain ⟨hP1, hD1⟩ := hB
  rw [ht] at hP1
  obtain ⟨hP, hD⟩ := zs_2 (u28 := (om k0 a (upd (upd (upd I0 14 1) 15 (I0 15)) 26 (nI ln)) J0)) hP hD hk1 hFc hP1 hD1
  clear hk1 hPc hDc hFc hP1 hD1 ht
  refine lv_pop hx hb dL_law_279 rfl ?_
  refine lv_goto (tgt := 1081) hx hb dL_law_280 rfl ?_
  obtain ⟨hP9, hD9⟩ := And.intro hP hD
  refine W.widen (k := 1000 + 1010 * (k9 + 1) + cp + 4 * cl) (n := 45000 + 8192 * cp + 512 * cl + U) (by first | exact wdK | omega) (by first | exact Nat.le_refl _ | omega) ?_
  have e26 : upd (upd (upd (upd I0 14 1) 15 (I0 15)) 26 (nI ln)) 26 (nI ln) = (upd (upd (upd I0 14 1) 15 (I0 15)) 26 (nI ln)) := up_same rfl
  exact hnext cp cl U H locs ls (lawI_in L f FA ea nd nt nw ul q_1 mc9 rd rt rw P Q TX TY WX WY AR b1 b2 b3 b4 b5 b6 b7 b8 c1 c2 c3 c4 a1 a2 a3 a4 nv RA WT EX EY GR LV y1 y2 y3 y4 a (upd (upd (upd I0 14 1) 15 (I0 15)) 26 (nI ln)) J0 kd st gb it pa pb rk wd tw tn mn cx cy sa shs wh of9 we la lb lc ld P0 Q0 S0 ox oy mt wi ins T0 fl mk jx jy gr bs dn T ft Sn AD C ln FT cc W9 V VX VY (by rw [e26]; exact hP9) (by rw [e26]; exact hD9) (hB) (INV_K hI) ⟨hm0, hm19, hm20, hm21, hm15⟩ (by first | exact hU | omega)) hS (lv_sub hl [0, 1, 2, 3] rfl)
set_option maxHeartbeats 4000000 in
set_option maxRecDepth 100000 in
theorem lc_done_x {p : Program} {e : Env} {s : State} {m : MethodId} {below : List Frame} {meth : Method} {c : Code} (l : Launch) {b L9 : Nat} {xs : Nat → Int32} (C0 : lw_At p s m meth c b L9 xs) (dC : Nat → ClassId) (dI : Nat → Nat → Nat) (cI cZ cF cO : ClassId) (e0 mi : Nat) (x sl sh fa lw dr dx dy tg tx ty wy wx wz br bo aa ro za zw zx zy zg bq bp dq dp lv k0 : Nat) (hK : va_K (dC, dI) classes (zTyO cI cZ cF cO) s) (hXL : zXL e0 mi (fun q : Nat => s.heap.size ≤ q) s) (L : List Nat) (f : Nat → va_E) (FA : Nat → Option Nat) (ea : Nat) (nd : Nat) (nt : Nat) (nw : Nat) (ul : Int32) (su : Int32) (mc9 : Int32) (rd : Int32) (rt : Int32) (rw : Int32) (P : Nat → Int32) (Q : Nat → Int32) (TX : Nat → Int32) (TY : Nat → Int32) (WX : Nat → Int32) (WY : Nat → Int32) (AR : Nat → Int32) (b1 : Int32) (b2 : Int32) (b3 : Int32) (b4 : Int32) (b5 : Int32) (b6 : Int32) (b7 : Int32) (b8 : Int32) (c1 : Int32) (c2 : Int32) (c3 : Int32) (c4 : Int32) (a1 : Int32) (a2 : Int32) (a3 : Int32) (a4 : Int32) (nv : Int32) (RA : Nat → Option Nat) (WT : Nat → Int32) (EX : Nat → Int32) (EY : Nat → Int32) (GR : Nat → Int32) (LV : Nat → Int32) (y1 : Int64) (y2 : Int64) (y3 : Int64) (y4 : Int64) (a : Nat → Nat) (I0 : Nat → Int32) (J0 : Nat → Int64) (kd : Nat → Int32) (st : Nat → Int32) (gb : Nat → Int32) (it : Nat → Int32) (pa : Nat → Int32) (pb : Nat → Int32) (rk : Nat → Int32) (wd : Nat → Int32) (tw : Nat → Int32) (tn : Nat → Int32) (mn : Nat → Int32) (cx : Nat → Int32) (cy : Nat → Int32) (sa : Nat → Int32) (shs : Nat → Int32) (wh : Nat → Int32) (of9 : Nat → Int32) (we : Nat → Int32) (la : Nat → Int32) (lb : Nat → Int32) (lc : Nat → Int32) (ld : Nat → Int32) (P0 : Nat → Int32) (Q0 : Nat → Int32) (S0 : Nat → Int32) (ox : Nat → Int32) (oy : Nat → Int32) (mt : Nat → Int32) (wi : Nat → Int32) (ins : Nat → Int32) (T0 : Nat → Int32) (fl : Nat → Int32) (mk : Nat → Int32) (jx : Nat → Int32) (jy : Nat → Int32) (gr : Nat → Int32) (bs : Nat) (dn : Nat) (T : Nat) (ft : Nat) (Sn : Nat) (AD : Nat) (C : Nat) (ln : Nat) (FT : Nat → Nat) (cc : Nat → Nat) (W9 : Nat → Nat) (V : Nat → Nat → Nat → Int32) (VX : Nat → Nat → Int32) (VY : Nat → Nat → Int32) (cp cl U k9 : Nat) (hk9 : 6 * k9 + 6 ≤ L9) (hL9 : L9 ≤ 3072) {H : Heap} {locs : List Loc} {ls : Array Slot} (hPD : zPD (dC, dI) classes (fun q : Nat => s.heap.size ≤ q) (((oc8 x (.ref sh) (.ref lw) (.ref ro) (.ref bq) (.ref bp) (.ref dq) (.ref dp) (.ref lv) (.ref sl) (nI dn) (nI bs) ul su) :: (oc10 sl mc9 (.ref ea) (nI T)) :: (oc7 sh (.ref fa) (nI ft)) :: (oq fa cF 200 FA) :: (oc3 lw (.ref dr) (.ref tg) (.ref wy) (.ref br) (.ref bo) (.ref aa)) :: (oc6 dr (.ref dx) (.ref dy) (nI nd) rd) :: (oa dx cI 40 P) :: (oa dy cI 40 Q) :: (oc6 tg (.ref tx) (.ref ty) (nI nt) rt) :: (oa tx cI 3 TX) :: (oa ty cI 3 TY) :: (oc6 wy (.ref wx) (.ref wz) (nI nw) rw) :: (oa wx cI 2 WX) :: (oa wz cI 2 WY) :: (oc0 br b1 b2 b3 b4) :: (oc0 bo b5 b6 b7 b8) :: (oa aa cI 40 AR) :: (oc5 ro (.ref za) (.ref zw) (.ref zx) (.ref zy) (.ref zg) nv) :: (oq za cF 200 RA) :: (oa zw cI 200 WT) :: (oa zx cI 400 EX) :: (oa zy cI 400 EY) :: (oa zg cI 400 GR) :: (oc0 bq c1 c2 c3 c4) :: (oc0 bp a1 a2 a3 a4) :: (oc2 dq y1 y2) :: (oc2 dp y3 y4) :: (oa lv cZ 200 LV) :: (om k0 a (upd I0 26 (nI ln)) J0) :: (oa (a 1) cI 201 kd) :: (oa (a 5) cI 201 st) :: (oa (a 7) cI 201 gb) :: (oa (a 10) cI 201 it) :: (oa (a 8) cI 201 pa) :: (oa (a 9) cI 201 pb) :: (oa (a 2) cI 201 rk) :: (oa (a 3) cI 201 wd) :: (oa (a 4) cI 201 tw) :: (oa (a 6) cZ 201 tn) :: (oa (a 11) cI 201 mn) :: (oa (a 12) cI 8040 cx) :: (oa (a 13) cI 8040 cy) :: (oa (a 27) cI 516 sa) :: (oa (a 28) cI (4096 * cp) shs) :: (oa (a 16) cI 514 wh) :: (oa (a 17) cI 514 of9) :: (oa (a 18) cI 514 we) :: (oa (a 22) cI (64 * cl) la) :: (oa (a 23) cI (64 * cl) lb) :: (oa (a 24) cI (64 * cl) lc) :: (oa (a 25) cI (64 * cl) ld) :: (oa (a 29) cI 42 P0) :: (oa (a 30) cI 42 Q0) :: (oa (a 32) cI 8 S0) :: (oa (a 33) cI 42 ox) :: (oa (a 34) cI 42 oy) :: (oa (a 37) cZ 201 mt) :: (oa (a 38) cZ 201 wi) :: (oa (a 39) cZ 8040 ins) :: (oa (a 40) cI 6 T0) :: (oa (a 43) cZ 40 fl) :: (oa (a 50) cZ 201 mk) :: (oa (a 51) cI 402 jx) :: (oa (a 52) cI 402 jy) :: (oa (a 53) cI 402 gr) :: []) ++ va_pl L f) H) (hS : va_S (fun q : Nat => s.heap.size ≤ q) s.heap H locs) (hl : lv_has ls 4 [(3, .int (nI (6 * k9))), (2, .ref k0), (1, .ref x), (0, .ref b)]) (hB : shB cI cO L f e0 FA ea bs dn T ft FT V VX VY tn rk wd tw pa pb wh of9 we kd st gb it mn cx cy) (hI : INV k9 Sn AD C cc W9 bs T ft cp ln cl FT V VX VY tn rk wd tw pa pb kd st it mn cx cy sa shs lb lc) (hM : I0 0 = nI ft ∧ I0 19 = nI dn ∧ I0 20 = nI (T - dn) ∧ I0 21 = nI bs ∧ I0 15 = ul) (hU : U ≤ Sn * (28 * (AD + C) + 1000) + 200 * (AD + C)) (hbad : ¬ (0 ≤ (xs (6 * k9 + 1)).toInt ∧ (xs (6 * k9 + 1)).toInt < ((ft : Nat) : Int))) (hnext : ∀ (cp1 cl1 U1 : Nat) (H : Heap) (locs : List Loc) (ls : Array Slot), lawI s dC dI cI cZ cF cO e0 mi x sl sh fa lw dr dx dy tg tx ty wy wx wz br bo aa ro za zw zx zy zg bq bp dq dp lv k0 (k9 + 1) cp1 cl1 U1 H → va_S (fun q : Nat => s.heap.size ≤ q) s.heap H locs → lv_has ls 4 [(3, .int (nI (6 * k9))), (2, .ref k0), (1, .ref x), (0, .ref b)] → W p l e room_1 s m #[Value.ref b] below meth c H locs (1000 + 1010 * (k9 + 1) + cp1 + 4 * cl1) (45000 + 8192 * cp1 + 512 * cl1 + U1) (lw_Z below #[Value.ref b] s) (F0 m 1081 ls [])) : W p l e room_1 s m #[Value.ref b] below meth c H locs (1000 + 1010 * k9 + cp + 4 * cl) (45000 + 8192 * cp + 512 * cl + U) (lw_Z below #[Value.ref b] s) (F0 m 283 ls []) := by
  obtain ⟨hP, hD⟩ := hPD
  obtain ⟨hx, hb, hr, hml, hown, hts1, hX, hbl, hlocks, hgv⟩ := id C0
  have hts : ∀ w9 ∈ ws0, w9.before #[Value.ref b] s = true := fun w9 h => hts1 w9 (List.mem_filter.mp h).1
  have hA : ∀ q : Nat, s.heap.size ≤ q → (fun q : Nat => s.heap.size ≤ q) q := fun _ h => h
  have hbA : ¬ (fun q : Nat => s.heap.size ≤ q) b := Nat.not_le.mpr hbl
  have hXN := hXL.1
  have hK3 := hK.sub [0, 1, 2] rfl
  obtain ⟨hm0, hm19, hm20, hm21, hm15⟩ := hM
  have hpo := shB_po hB
  have hK512 : k9 + 1 ≤ 512 := r9_k hk9 hL9
  have hwfS := hI.1.1
  have hbdC := hI.1.2.2.1
  have hT0 := hI.1.2.2.2
  have hd9 := hpo.1
  have h200t : ∀ t, bs ≤ t → t ≤ T → FT t ≤ 200 := fun t t1 t2 => Nat.le_trans (hpo.2.1 t T t1 t2 (Nat.le_refl _)) hd9.2.2.2.2
  have h200f : ft ≤ 200 := (by rw [hd9.2.2.2.1]; exact h200t dn hd9.1 hd9.2.1)
  have hrkA : ∀ q, lvF ft st tn q → 0 ≤ (rk q).toInt ∧ (rk q).toInt ≤ 9 := fun q hq => (hI.1.2.1 q (Nat.lt_of_lt_of_le hq.1 (by rw [hd9.2.2.2.1]; exact hpo.2.1 dn T hd9.1 hd9.2.1 (Nat.le_refl _)))).1
  have hwdA : ∀ q, q < ft → 0 ≤ (wd q).toInt ∧ (wd q).toInt ≤ 100 := fun q hq => (hI.1.2.1 q (Nat.lt_of_lt_of_le hq (by rw [hd9.2.2.2.1]; exact hpo.2.1 dn T hd9.1 hd9.2.1 (Nat.le_refl _)))).2
  have hcp5 := INV_cp hI (Nat.le_of_succ_le hK512)
  have hcp1 := hI.2.2.1.2.1
  have hcnt := hI.2.2.2.1
  have hlst := hI.2.2.2.2
  have hlb := mul_514 (a := Sn) (b := C) (r9_s hcnt.2.1 hK512).2.1
  have hftA := bdC_F hbdC
  have hrm := room_c (Sn := Sn) (AD := AD) (C := C) (c := cp) (cl := cl) (U := U) (r9_s hcnt.2.1 hK512).1 hI.2.2.1.2.2.2.2.2 hlst.2.2.2.1 hU
  have hrc : 1000 + 1010 * k9 + cp + 4 * cl ≤ 600000 := (by omega)
  refine la_3_1 l C0 hk9 hL9 hS hl (rfl) ?_
  obtain ⟨hPc, hDc, hFc⟩ := zt_1 hP hD hS hA
  refine zcall (st1 := [.int 0]) (va_runV (As := [.int (xs (6 * k9 + 1))]) (rest := []) ⟨hx, hb, hml, hown, hts⟩ (k_done_x l dC dI cI cZ cF H.size x sh lw ro bq bp dq dp lv sl (nI bs) ul su (nI dn) fa ft FA (xs (6 * k9 + 1)) (h200f) (hbad)) (csV_235 hts rfl rfl ⟨Nat.le_of_ble_eq_true rfl, Nat.le_of_ble_eq_true rfl⟩) (zPV2 (q0 := 0) (ci := 8) hPc hDc hK3 hXN rfl rfl) rfl rfl hl.1 rfl (lv_room (Nat.le_of_ble_eq_true rfl)) dL_law_289 ⟨hrc, hrm⟩) hS hFc hFc rfl (fun t H locs ht hB hk1 hS => ?_)
  obtain ⟨q_1, hP1, hD1⟩ := hB
  rw [ht] at hP1
  obtain ⟨hP, hD⟩ := zs_1 (u0 := (oc8 x (.ref sh) (.ref lw) (.ref ro) (.ref bq) (.ref bp) (.ref dq) (.ref dp) (.ref lv) (.ref sl) (nI dn) (nI bs) ul q_1)) hP hD hk1 hFc hP1 hD1
  clear hk1 hPc hDc hFc hP1 hD1 ht
  refine lv_pop hx hb dL_law_292 rfl ?_
  refine la_3_2 l C0 hk9 hL9 hS hl (rfl) ?_
  obtain ⟨hPc, hDc, hFc⟩ := zt_2 hP hD hS hA
  refine zcall (st1 := [.int 0]) (va_runV (As := [.int (xs (6 * k9 + 1))]) (rest := []) ⟨hx, hb, hml, hown, hts⟩ (k_M_done_x l dC dI cI cZ cF H.size k0 a (upd I0 26 (nI ln)) J0 ft (xs (6 * k9 + 1)) (hm0) (h200f) (hbad)) (csV_236 hts rfl rfl ⟨Nat.le_of_ble_eq_true rfl, Nat.le_of_ble_eq_true rfl⟩) (zPV2 (q0 := 0) (ci := 9) hPc hDc hK3 hXN rfl rfl) rfl rfl hl.1 rfl (lv_room (Nat.le_of_ble_eq_true rfl)) dL_law_299 ⟨hrc, hrm⟩) hS hFc hFc rfl (fun t H locs ht hB hk1 hS => ?_)
  obtain ⟨hP1, hD1⟩ := hB
  rw [ht] at hP1
  obtain ⟨hP, hD⟩ := zs_2 (u28 := (om k0 a (upd (upd (upd I0 14 1) 15 (I0 15)) 26 (nI ln)) J0)) hP hD hk1 hFc hP1 hD1
  clear hk1 hPc hDc hFc hP1 hD1 ht
  refine lv_pop hx hb dL_law_302 rfl ?_
  refine lv_goto (tgt := 1081) hx hb dL_law_303 rfl ?_
  obtain ⟨hP9, hD9⟩ := And.intro hP hD
  refine W.widen (k := 1000 + 1010 * (k9 + 1) + cp + 4 * cl) (n := 45000 + 8192 * cp + 512 * cl + U) (by first | exact wdK | omega) (by first | exact Nat.le_refl _ | omega) ?_
  have e26 : upd (upd (upd (upd I0 14 1) 15 (I0 15)) 26 (nI ln)) 26 (nI ln) = (upd (upd (upd I0 14 1) 15 (I0 15)) 26 (nI ln)) := up_same rfl
  exact hnext cp cl U H locs ls (lawI_in L f FA ea nd nt nw ul q_1 mc9 rd rt rw P Q TX TY WX WY AR b1 b2 b3 b4 b5 b6 b7 b8 c1 c2 c3 c4 a1 a2 a3 a4 nv RA WT EX EY GR LV y1 y2 y3 y4 a (upd (upd (upd I0 14 1) 15 (I0 15)) 26 (nI ln)) J0 kd st gb it pa pb rk wd tw tn mn cx cy sa shs wh of9 we la lb lc ld P0 Q0 S0 ox oy mt wi ins T0 fl mk jx jy gr bs dn T ft Sn AD C ln FT cc W9 V VX VY (by rw [e26]; exact hP9) (by rw [e26]; exact hD9) (hB) (INV_K hI) ⟨hm0, hm19, hm20, hm21, hm15⟩ (by first | exact hU | omega)) hS (lv_sub hl [0, 1, 2, 3] rfl)
set_option maxHeartbeats 4000000 in
set_option maxRecDepth 100000 in
theorem lc_plainer_x {p : Program} {e : Env} {s : State} {m : MethodId} {below : List Frame} {meth : Method} {c : Code} (l : Launch) {b L9 : Nat} {xs : Nat → Int32} (C0 : lw_At p s m meth c b L9 xs) (dC : Nat → ClassId) (dI : Nat → Nat → Nat) (cI cZ cF cO : ClassId) (e0 mi : Nat) (x sl sh fa lw dr dx dy tg tx ty wy wx wz br bo aa ro za zw zx zy zg bq bp dq dp lv k0 : Nat) (hK : va_K (dC, dI) classes (zTyO cI cZ cF cO) s) (hXL : zXL e0 mi (fun q : Nat => s.heap.size ≤ q) s) (L : List Nat) (f : Nat → va_E) (FA : Nat → Option Nat) (ea : Nat) (nd : Nat) (nt : Nat) (nw : Nat) (ul : Int32) (su : Int32) (mc9 : Int32) (rd : Int32) (rt : Int32) (rw : Int32) (P : Nat → Int32) (Q : Nat → Int32) (TX : Nat → Int32) (TY : Nat → Int32) (WX : Nat → Int32) (WY : Nat → Int32) (AR : Nat → Int32) (b1 : Int32) (b2 : Int32) (b3 : Int32) (b4 : Int32) (b5 : Int32) (b6 : Int32) (b7 : Int32) (b8 : Int32) (c1 : Int32) (c2 : Int32) (c3 : Int32) (c4 : Int32) (a1 : Int32) (a2 : Int32) (a3 : Int32) (a4 : Int32) (nv : Int32) (RA : Nat → Option Nat) (WT : Nat → Int32) (EX : Nat → Int32) (EY : Nat → Int32) (GR : Nat → Int32) (LV : Nat → Int32) (y1 : Int64) (y2 : Int64) (y3 : Int64) (y4 : Int64) (a : Nat → Nat) (I0 : Nat → Int32) (J0 : Nat → Int64) (kd : Nat → Int32) (st : Nat → Int32) (gb : Nat → Int32) (it : Nat → Int32) (pa : Nat → Int32) (pb : Nat → Int32) (rk : Nat → Int32) (wd : Nat → Int32) (tw : Nat → Int32) (tn : Nat → Int32) (mn : Nat → Int32) (cx : Nat → Int32) (cy : Nat → Int32) (sa : Nat → Int32) (shs : Nat → Int32) (wh : Nat → Int32) (of9 : Nat → Int32) (we : Nat → Int32) (la : Nat → Int32) (lb : Nat → Int32) (lc : Nat → Int32) (ld : Nat → Int32) (P0 : Nat → Int32) (Q0 : Nat → Int32) (S0 : Nat → Int32) (ox : Nat → Int32) (oy : Nat → Int32) (mt : Nat → Int32) (wi : Nat → Int32) (ins : Nat → Int32) (T0 : Nat → Int32) (fl : Nat → Int32) (mk : Nat → Int32) (jx : Nat → Int32) (jy : Nat → Int32) (gr : Nat → Int32) (bs : Nat) (dn : Nat) (T : Nat) (ft : Nat) (Sn : Nat) (AD : Nat) (C : Nat) (ln : Nat) (FT : Nat → Nat) (cc : Nat → Nat) (W9 : Nat → Nat) (V : Nat → Nat → Nat → Int32) (VX : Nat → Nat → Int32) (VY : Nat → Nat → Int32) (cp cl U k9 : Nat) (hk9 : 6 * k9 + 6 ≤ L9) (hL9 : L9 ≤ 3072) {H : Heap} {locs : List Loc} {ls : Array Slot} (hPD : zPD (dC, dI) classes (fun q : Nat => s.heap.size ≤ q) (((oc8 x (.ref sh) (.ref lw) (.ref ro) (.ref bq) (.ref bp) (.ref dq) (.ref dp) (.ref lv) (.ref sl) (nI dn) (nI bs) ul su) :: (oc10 sl mc9 (.ref ea) (nI T)) :: (oc7 sh (.ref fa) (nI ft)) :: (oq fa cF 200 FA) :: (oc3 lw (.ref dr) (.ref tg) (.ref wy) (.ref br) (.ref bo) (.ref aa)) :: (oc6 dr (.ref dx) (.ref dy) (nI nd) rd) :: (oa dx cI 40 P) :: (oa dy cI 40 Q) :: (oc6 tg (.ref tx) (.ref ty) (nI nt) rt) :: (oa tx cI 3 TX) :: (oa ty cI 3 TY) :: (oc6 wy (.ref wx) (.ref wz) (nI nw) rw) :: (oa wx cI 2 WX) :: (oa wz cI 2 WY) :: (oc0 br b1 b2 b3 b4) :: (oc0 bo b5 b6 b7 b8) :: (oa aa cI 40 AR) :: (oc5 ro (.ref za) (.ref zw) (.ref zx) (.ref zy) (.ref zg) nv) :: (oq za cF 200 RA) :: (oa zw cI 200 WT) :: (oa zx cI 400 EX) :: (oa zy cI 400 EY) :: (oa zg cI 400 GR) :: (oc0 bq c1 c2 c3 c4) :: (oc0 bp a1 a2 a3 a4) :: (oc2 dq y1 y2) :: (oc2 dp y3 y4) :: (oa lv cZ 200 LV) :: (om k0 a (upd I0 26 (nI ln)) J0) :: (oa (a 1) cI 201 kd) :: (oa (a 5) cI 201 st) :: (oa (a 7) cI 201 gb) :: (oa (a 10) cI 201 it) :: (oa (a 8) cI 201 pa) :: (oa (a 9) cI 201 pb) :: (oa (a 2) cI 201 rk) :: (oa (a 3) cI 201 wd) :: (oa (a 4) cI 201 tw) :: (oa (a 6) cZ 201 tn) :: (oa (a 11) cI 201 mn) :: (oa (a 12) cI 8040 cx) :: (oa (a 13) cI 8040 cy) :: (oa (a 27) cI 516 sa) :: (oa (a 28) cI (4096 * cp) shs) :: (oa (a 16) cI 514 wh) :: (oa (a 17) cI 514 of9) :: (oa (a 18) cI 514 we) :: (oa (a 22) cI (64 * cl) la) :: (oa (a 23) cI (64 * cl) lb) :: (oa (a 24) cI (64 * cl) lc) :: (oa (a 25) cI (64 * cl) ld) :: (oa (a 29) cI 42 P0) :: (oa (a 30) cI 42 Q0) :: (oa (a 32) cI 8 S0) :: (oa (a 33) cI 42 ox) :: (oa (a 34) cI 42 oy) :: (oa (a 37) cZ 201 mt) :: (oa (a 38) cZ 201 wi) :: (oa (a 39) cZ 8040 ins) :: (oa (a 40) cI 6 T0) :: (oa (a 43) cZ 40 fl) :: (oa (a 50) cZ 201 mk) :: (oa (a 51) cI 402 jx) :: (oa (a 52) cI 402 jy) :: (oa (a 53) cI 402 gr) :: []) ++ va_pl L f) H) (hS : va_S (fun q : Nat => s.heap.size ≤ q) s.heap H locs) (hl : lv_has ls 4 [(3, .int (nI (6 * k9))), (2, .ref k0), (1, .ref x), (0, .ref b)]) (hB : shB cI cO L f e0 FA ea bs dn T ft FT V VX VY tn rk wd tw pa pb wh of9 we kd st gb it mn cx cy) (hI : INV k9 Sn AD C cc W9 bs T ft cp ln cl FT V VX VY tn rk wd tw pa pb kd st it mn cx cy sa shs lb lc) (hM : I0 0 = nI ft ∧ I0 19 = nI dn ∧ I0 20 = nI (T - dn) ∧ I0 21 = nI bs ∧ I0 15 = ul) (hU : U ≤ Sn * (28 * (AD + C) + 1000) + 200 * (AD + C)) (hbad : ¬ (0 ≤ (xs (6 * k9 + 1)).toInt ∧ (xs (6 * k9 + 1)).toInt < ((ft : Nat) : Int))) (hnext : ∀ (cp1 cl1 U1 : Nat) (H : Heap) (locs : List Loc) (ls : Array Slot), lawI s dC dI cI cZ cF cO e0 mi x sl sh fa lw dr dx dy tg tx ty wy wx wz br bo aa ro za zw zx zy zg bq bp dq dp lv k0 (k9 + 1) cp1 cl1 U1 H → va_S (fun q : Nat => s.heap.size ≤ q) s.heap H locs → lv_has ls 4 [(3, .int (nI (6 * k9))), (2, .ref k0), (1, .ref x), (0, .ref b)] → W p l e room_1 s m #[Value.ref b] below meth c H locs (1000 + 1010 * (k9 + 1) + cp1 + 4 * cl1) (45000 + 8192 * cp1 + 512 * cl1 + U1) (lw_Z below #[Value.ref b] s) (F0 m 1081 ls [])) : W p l e room_1 s m #[Value.ref b] below meth c H locs (1000 + 1010 * k9 + cp + 4 * cl) (45000 + 8192 * cp + 512 * cl + U) (lw_Z below #[Value.ref b] s) (F0 m 306 ls []) := by
  obtain ⟨hP, hD⟩ := hPD
  obtain ⟨hx, hb, hr, hml, hown, hts1, hX, hbl, hlocks, hgv⟩ := id C0
  have hts : ∀ w9 ∈ ws0, w9.before #[Value.ref b] s = true := fun w9 h => hts1 w9 (List.mem_filter.mp h).1
  have hA : ∀ q : Nat, s.heap.size ≤ q → (fun q : Nat => s.heap.size ≤ q) q := fun _ h => h
  have hbA : ¬ (fun q : Nat => s.heap.size ≤ q) b := Nat.not_le.mpr hbl
  have hXN := hXL.1
  have hK3 := hK.sub [0, 1, 2] rfl
  obtain ⟨hm0, hm19, hm20, hm21, hm15⟩ := hM
  have hpo := shB_po hB
  have hK512 : k9 + 1 ≤ 512 := r9_k hk9 hL9
  have hwfS := hI.1.1
  have hbdC := hI.1.2.2.1
  have hT0 := hI.1.2.2.2
  have hd9 := hpo.1
  have h200t : ∀ t, bs ≤ t → t ≤ T → FT t ≤ 200 := fun t t1 t2 => Nat.le_trans (hpo.2.1 t T t1 t2 (Nat.le_refl _)) hd9.2.2.2.2
  have h200f : ft ≤ 200 := (by rw [hd9.2.2.2.1]; exact h200t dn hd9.1 hd9.2.1)
  have hrkA : ∀ q, lvF ft st tn q → 0 ≤ (rk q).toInt ∧ (rk q).toInt ≤ 9 := fun q hq => (hI.1.2.1 q (Nat.lt_of_lt_of_le hq.1 (by rw [hd9.2.2.2.1]; exact hpo.2.1 dn T hd9.1 hd9.2.1 (Nat.le_refl _)))).1
  have hwdA : ∀ q, q < ft → 0 ≤ (wd q).toInt ∧ (wd q).toInt ≤ 100 := fun q hq => (hI.1.2.1 q (Nat.lt_of_lt_of_le hq (by rw [hd9.2.2.2.1]; exact hpo.2.1 dn T hd9.1 hd9.2.1 (Nat.le_refl _)))).2
  have hcp5 := INV_cp hI (Nat.le_of_succ_le hK512)
  have hcp1 := hI.2.2.1.2.1
  have hcnt := hI.2.2.2.1
  have hlst := hI.2.2.2.2
  have hlb := mul_514 (a := Sn) (b := C) (r9_s hcnt.2.1 hK512).2.1
  have hftA := bdC_F hbdC
  have hrm := room_c (Sn := Sn) (AD := AD) (C := C) (c := cp) (cl := cl) (U := U) (r9_s hcnt.2.1 hK512).1 hI.2.2.1.2.2.2.2.2 hlst.2.2.2.1 hU
  have hrc : 1000 + 1010 * k9 + cp + 4 * cl ≤ 600000 := (by omega)
  refine la_4_1 l C0 hk9 hL9 hS hl (rfl) (rfl) ?_
  obtain ⟨hPc, hDc, hFc⟩ := zt_1 hP hD hS hA
  refine zcall (st1 := [.int (-1)]) (va_runV (As := [.int (xs (6 * k9 + 1)), .int (xs (6 * k9 + 2))]) (rest := []) ⟨hx, hb, hml, hown, hts⟩ (k_plainer_x l dC dI cI cZ cF H.size x sh lw ro bq bp dq dp lv sl (nI bs) ul su (nI dn) fa ft FA (xs (6 * k9 + 1)) (xs (6 * k9 + 2)) (h200f) (hbad)) (csV_237 hts rfl rfl ⟨Nat.le_of_ble_eq_true rfl, Nat.le_of_ble_eq_true rfl⟩) (zPV2 (q0 := 0) (ci := 8) hPc hDc hK3 hXN rfl rfl) rfl rfl hl.1 rfl (lv_room (Nat.le_of_ble_eq_true rfl)) dL_law_317 ⟨hrc, hrm⟩) hS hFc hFc rfl (fun t H locs ht hB hk1 hS => ?_)
  obtain ⟨q_1, hP1, hD1⟩ := hB
  rw [ht] at hP1
  obtain ⟨hP, hD⟩ := zs_1 (u0 := (oc8 x (.ref sh) (.ref lw) (.ref ro) (.ref bq) (.ref bp) (.ref dq) (.ref dp) (.ref lv) (.ref sl) (nI dn) (nI bs) ul q_1)) hP hD hk1 hFc hP1 hD1
  clear hk1 hPc hDc hFc hP1 hD1 ht
  refine lv_pop hx hb dL_law_320 rfl ?_
  refine la_4_2 l C0 hk9 hL9 hS hl (rfl) (rfl) ?_
  obtain ⟨hPc, hDc, hFc⟩ := zt_2 hP hD hS hA
  refine zcall (st1 := [.int (-1)]) (va_runV (As := [.int (xs (6 * k9 + 1)), .int (xs (6 * k9 + 2))]) (rest := []) ⟨hx, hb, hml, hown, hts⟩ (k_M_plainer_x l dC dI cI cZ cF H.size k0 a (upd I0 26 (nI ln)) J0 ft (xs (6 * k9 + 1)) (xs (6 * k9 + 2)) (hm0) (h200f) (hbad)) (csV_238 hts rfl rfl ⟨Nat.le_of_ble_eq_true rfl, Nat.le_of_ble_eq_true rfl⟩) (zPV2 (q0 := 0) (ci := 9) hPc hDc hK3 hXN rfl rfl) rfl rfl hl.1 rfl (lv_room (Nat.le_of_ble_eq_true rfl)) dL_law_332 ⟨hrc, hrm⟩) hS hFc hFc rfl (fun t H locs ht hB hk1 hS => ?_)
  obtain ⟨hP1, hD1⟩ := hB
  rw [ht] at hP1
  obtain ⟨hP, hD⟩ := zs_2 (u28 := (om k0 a (upd (upd (upd I0 14 1) 15 (I0 15)) 26 (nI ln)) J0)) hP hD hk1 hFc hP1 hD1
  clear hk1 hPc hDc hFc hP1 hD1 ht
  refine lv_pop hx hb dL_law_335 rfl ?_
  refine lv_goto (tgt := 1081) hx hb dL_law_336 rfl ?_
  obtain ⟨hP9, hD9⟩ := And.intro hP hD
  refine W.widen (k := 1000 + 1010 * (k9 + 1) + cp + 4 * cl) (n := 45000 + 8192 * cp + 512 * cl + U) (by first | exact wdK | omega) (by first | exact Nat.le_refl _ | omega) ?_
  have e26 : upd (upd (upd (upd I0 14 1) 15 (I0 15)) 26 (nI ln)) 26 (nI ln) = (upd (upd (upd I0 14 1) 15 (I0 15)) 26 (nI ln)) := up_same rfl
  exact hnext cp cl U H locs ls (lawI_in L f FA ea nd nt nw ul q_1 mc9 rd rt rw P Q TX TY WX WY AR b1 b2 b3 b4 b5 b6 b7 b8 c1 c2 c3 c4 a1 a2 a3 a4 nv RA WT EX EY GR LV y1 y2 y3 y4 a (upd (upd (upd I0 14 1) 15 (I0 15)) 26 (nI ln)) J0 kd st gb it pa pb rk wd tw tn mn cx cy sa shs wh of9 we la lb lc ld P0 Q0 S0 ox oy mt wi ins T0 fl mk jx jy gr bs dn T ft Sn AD C ln FT cc W9 V VX VY (by rw [e26]; exact hP9) (by rw [e26]; exact hD9) (hB) (INV_K hI) ⟨hm0, hm19, hm20, hm21, hm15⟩ (by first | exact hU | omega)) hS (lv_sub hl [0, 1, 2, 3] rfl)
set_option maxHeartbeats 4000000 in
set_option maxRecDepth 100000 in
theorem lc_smooth_x {p : Program} {e : Env} {s : State} {m : MethodId} {below : List Frame} {meth : Method} {c : Code} (l : Launch) {b L9 : Nat} {xs : Nat → Int32} (C0 : lw_At p s m meth c b L9 xs) (dC : Nat → ClassId) (dI : Nat → Nat → Nat) (cI cZ cF cO : ClassId) (e0 mi : Nat) (x sl sh fa lw dr dx dy tg tx ty wy wx wz br bo aa ro za zw zx zy zg bq bp dq dp lv k0 : Nat) (hK : va_K (dC, dI) classes (zTyO cI cZ cF cO) s) (hXL : zXL e0 mi (fun q : Nat => s.heap.size ≤ q) s) (L : List Nat) (f : Nat → va_E) (FA : Nat → Option Nat) (ea : Nat) (nd : Nat) (nt : Nat) (nw : Nat) (ul : Int32) (su : Int32) (mc9 : Int32) (rd : Int32) (rt : Int32) (rw : Int32) (P : Nat → Int32) (Q : Nat → Int32) (TX : Nat → Int32) (TY : Nat → Int32) (WX : Nat → Int32) (WY : Nat → Int32) (AR : Nat → Int32) (b1 : Int32) (b2 : Int32) (b3 : Int32) (b4 : Int32) (b5 : Int32) (b6 : Int32) (b7 : Int32) (b8 : Int32) (c1 : Int32) (c2 : Int32) (c3 : Int32) (c4 : Int32) (a1 : Int32) (a2 : Int32) (a3 : Int32) (a4 : Int32) (nv : Int32) (RA : Nat → Option Nat) (WT : Nat → Int32) (EX : Nat → Int32) (EY : Nat → Int32) (GR : Nat → Int32) (LV : Nat → Int32) (y1 : Int64) (y2 : Int64) (y3 : Int64) (y4 : Int64) (a : Nat → Nat) (I0 : Nat → Int32) (J0 : Nat → Int64) (kd : Nat → Int32) (st : Nat → Int32) (gb : Nat → Int32) (it : Nat → Int32) (pa : Nat → Int32) (pb : Nat → Int32) (rk : Nat → Int32) (wd : Nat → Int32) (tw : Nat → Int32) (tn : Nat → Int32) (mn : Nat → Int32) (cx : Nat → Int32) (cy : Nat → Int32) (sa : Nat → Int32) (shs : Nat → Int32) (wh : Nat → Int32) (of9 : Nat → Int32) (we : Nat → Int32) (la : Nat → Int32) (lb : Nat → Int32) (lc : Nat → Int32) (ld : Nat → Int32) (P0 : Nat → Int32) (Q0 : Nat → Int32) (S0 : Nat → Int32) (ox : Nat → Int32) (oy : Nat → Int32) (mt : Nat → Int32) (wi : Nat → Int32) (ins : Nat → Int32) (T0 : Nat → Int32) (fl : Nat → Int32) (mk : Nat → Int32) (jx : Nat → Int32) (jy : Nat → Int32) (gr : Nat → Int32) (bs : Nat) (dn : Nat) (T : Nat) (ft : Nat) (Sn : Nat) (AD : Nat) (C : Nat) (ln : Nat) (FT : Nat → Nat) (cc : Nat → Nat) (W9 : Nat → Nat) (V : Nat → Nat → Nat → Int32) (VX : Nat → Nat → Int32) (VY : Nat → Nat → Int32) (cp cl U k9 : Nat) (hk9 : 6 * k9 + 6 ≤ L9) (hL9 : L9 ≤ 3072) {H : Heap} {locs : List Loc} {ls : Array Slot} (hPD : zPD (dC, dI) classes (fun q : Nat => s.heap.size ≤ q) (((oc8 x (.ref sh) (.ref lw) (.ref ro) (.ref bq) (.ref bp) (.ref dq) (.ref dp) (.ref lv) (.ref sl) (nI dn) (nI bs) ul su) :: (oc10 sl mc9 (.ref ea) (nI T)) :: (oc7 sh (.ref fa) (nI ft)) :: (oq fa cF 200 FA) :: (oc3 lw (.ref dr) (.ref tg) (.ref wy) (.ref br) (.ref bo) (.ref aa)) :: (oc6 dr (.ref dx) (.ref dy) (nI nd) rd) :: (oa dx cI 40 P) :: (oa dy cI 40 Q) :: (oc6 tg (.ref tx) (.ref ty) (nI nt) rt) :: (oa tx cI 3 TX) :: (oa ty cI 3 TY) :: (oc6 wy (.ref wx) (.ref wz) (nI nw) rw) :: (oa wx cI 2 WX) :: (oa wz cI 2 WY) :: (oc0 br b1 b2 b3 b4) :: (oc0 bo b5 b6 b7 b8) :: (oa aa cI 40 AR) :: (oc5 ro (.ref za) (.ref zw) (.ref zx) (.ref zy) (.ref zg) nv) :: (oq za cF 200 RA) :: (oa zw cI 200 WT) :: (oa zx cI 400 EX) :: (oa zy cI 400 EY) :: (oa zg cI 400 GR) :: (oc0 bq c1 c2 c3 c4) :: (oc0 bp a1 a2 a3 a4) :: (oc2 dq y1 y2) :: (oc2 dp y3 y4) :: (oa lv cZ 200 LV) :: (om k0 a (upd I0 26 (nI ln)) J0) :: (oa (a 1) cI 201 kd) :: (oa (a 5) cI 201 st) :: (oa (a 7) cI 201 gb) :: (oa (a 10) cI 201 it) :: (oa (a 8) cI 201 pa) :: (oa (a 9) cI 201 pb) :: (oa (a 2) cI 201 rk) :: (oa (a 3) cI 201 wd) :: (oa (a 4) cI 201 tw) :: (oa (a 6) cZ 201 tn) :: (oa (a 11) cI 201 mn) :: (oa (a 12) cI 8040 cx) :: (oa (a 13) cI 8040 cy) :: (oa (a 27) cI 516 sa) :: (oa (a 28) cI (4096 * cp) shs) :: (oa (a 16) cI 514 wh) :: (oa (a 17) cI 514 of9) :: (oa (a 18) cI 514 we) :: (oa (a 22) cI (64 * cl) la) :: (oa (a 23) cI (64 * cl) lb) :: (oa (a 24) cI (64 * cl) lc) :: (oa (a 25) cI (64 * cl) ld) :: (oa (a 29) cI 42 P0) :: (oa (a 30) cI 42 Q0) :: (oa (a 32) cI 8 S0) :: (oa (a 33) cI 42 ox) :: (oa (a 34) cI 42 oy) :: (oa (a 37) cZ 201 mt) :: (oa (a 38) cZ 201 wi) :: (oa (a 39) cZ 8040 ins) :: (oa (a 40) cI 6 T0) :: (oa (a 43) cZ 40 fl) :: (oa (a 50) cZ 201 mk) :: (oa (a 51) cI 402 jx) :: (oa (a 52) cI 402 jy) :: (oa (a 53) cI 402 gr) :: []) ++ va_pl L f) H) (hS : va_S (fun q : Nat => s.heap.size ≤ q) s.heap H locs) (hl : lv_has ls 4 [(3, .int (nI (6 * k9))), (2, .ref k0), (1, .ref x), (0, .ref b)]) (hB : shB cI cO L f e0 FA ea bs dn T ft FT V VX VY tn rk wd tw pa pb wh of9 we kd st gb it mn cx cy) (hI : INV k9 Sn AD C cc W9 bs T ft cp ln cl FT V VX VY tn rk wd tw pa pb kd st it mn cx cy sa shs lb lc) (hM : I0 0 = nI ft ∧ I0 19 = nI dn ∧ I0 20 = nI (T - dn) ∧ I0 21 = nI bs ∧ I0 15 = ul) (hU : U ≤ Sn * (28 * (AD + C) + 1000) + 200 * (AD + C)) (hbad : ¬ (0 ≤ (xs (6 * k9 + 1)).toInt ∧ (xs (6 * k9 + 1)).toInt < ((ft : Nat) : Int))) (hnext : ∀ (cp1 cl1 U1 : Nat) (H : Heap) (locs : List Loc) (ls : Array Slot), lawI s dC dI cI cZ cF cO e0 mi x sl sh fa lw dr dx dy tg tx ty wy wx wz br bo aa ro za zw zx zy zg bq bp dq dp lv k0 (k9 + 1) cp1 cl1 U1 H → va_S (fun q : Nat => s.heap.size ≤ q) s.heap H locs → lv_has ls 4 [(3, .int (nI (6 * k9))), (2, .ref k0), (1, .ref x), (0, .ref b)] → W p l e room_1 s m #[Value.ref b] below meth c H locs (1000 + 1010 * (k9 + 1) + cp1 + 4 * cl1) (45000 + 8192 * cp1 + 512 * cl1 + U1) (lw_Z below #[Value.ref b] s) (F0 m 1081 ls [])) : W p l e room_1 s m #[Value.ref b] below meth c H locs (1000 + 1010 * k9 + cp + 4 * cl) (45000 + 8192 * cp + 512 * cl + U) (lw_Z below #[Value.ref b] s) (F0 m 339 ls []) := by
  obtain ⟨hP, hD⟩ := hPD
  obtain ⟨hx, hb, hr, hml, hown, hts1, hX, hbl, hlocks, hgv⟩ := id C0
  have hts : ∀ w9 ∈ ws0, w9.before #[Value.ref b] s = true := fun w9 h => hts1 w9 (List.mem_filter.mp h).1
  have hA : ∀ q : Nat, s.heap.size ≤ q → (fun q : Nat => s.heap.size ≤ q) q := fun _ h => h
  have hbA : ¬ (fun q : Nat => s.heap.size ≤ q) b := Nat.not_le.mpr hbl
  have hXN := hXL.1
  have hK3 := hK.sub [0, 1, 2] rfl
  obtain ⟨hm0, hm19, hm20, hm21, hm15⟩ := hM
  have hpo := shB_po hB
  have hK512 : k9 + 1 ≤ 512 := r9_k hk9 hL9
  have hwfS := hI.1.1
  have hbdC := hI.1.2.2.1
  have hT0 := hI.1.2.2.2
  have hd9 := hpo.1
  have h200t : ∀ t, bs ≤ t → t ≤ T → FT t ≤ 200 := fun t t1 t2 => Nat.le_trans (hpo.2.1 t T t1 t2 (Nat.le_refl _)) hd9.2.2.2.2
  have h200f : ft ≤ 200 := (by rw [hd9.2.2.2.1]; exact h200t dn hd9.1 hd9.2.1)
  have hrkA : ∀ q, lvF ft st tn q → 0 ≤ (rk q).toInt ∧ (rk q).toInt ≤ 9 := fun q hq => (hI.1.2.1 q (Nat.lt_of_lt_of_le hq.1 (by rw [hd9.2.2.2.1]; exact hpo.2.1 dn T hd9.1 hd9.2.1 (Nat.le_refl _)))).1
  have hwdA : ∀ q, q < ft → 0 ≤ (wd q).toInt ∧ (wd q).toInt ≤ 100 := fun q hq => (hI.1.2.1 q (Nat.lt_of_lt_of_le hq (by rw [hd9.2.2.2.1]; exact hpo.2.1 dn T hd9.1 hd9.2.1 (Nat.le_refl _)))).2
  have hcp5 := INV_cp hI (Nat.le_of_succ_le hK512)
  have hcp1 := hI.2.2.1.2.1
  have hcnt := hI.2.2.2.1
  have hlst := hI.2.2.2.2
  have hlb := mul_514 (a := Sn) (b := C) (r9_s hcnt.2.1 hK512).2.1
  have hftA := bdC_F hbdC
  have hrm := room_c (Sn := Sn) (AD := AD) (C := C) (c := cp) (cl := cl) (U := U) (r9_s hcnt.2.1 hK512).1 hI.2.2.1.2.2.2.2.2 hlst.2.2.2.1 hU
  have hrc : 1000 + 1010 * k9 + cp + 4 * cl ≤ 600000 := (by omega)
  refine la_5_1 l C0 hk9 hL9 hS hl (rfl) ?_
  obtain ⟨hPc, hDc, hFc⟩ := zt_1 hP hD hS hA
  refine zcall (st1 := [.int 0]) (va_runV (As := [.int (xs (6 * k9 + 1))]) (rest := []) ⟨hx, hb, hml, hown, hts⟩ (k_smooth_x l dC dI cI cZ cF H.size x sh lw ro bq bp dq dp lv sl (nI bs) ul su (nI dn) fa ft FA (xs (6 * k9 + 1)) (h200f) (hbad)) (csV_239 hts rfl rfl ⟨Nat.le_of_ble_eq_true rfl, Nat.le_of_ble_eq_true rfl⟩) (zPV2 (q0 := 0) (ci := 8) hPc hDc hK3 hXN rfl rfl) rfl rfl hl.1 rfl (lv_room (Nat.le_of_ble_eq_true rfl)) dL_law_345 ⟨hrc, hrm⟩) hS hFc hFc rfl (fun t H locs ht hB hk1 hS => ?_)
  obtain ⟨q_1, hP1, hD1⟩ := hB
  rw [ht] at hP1
  obtain ⟨hP, hD⟩ := zs_1 (u0 := (oc8 x (.ref sh) (.ref lw) (.ref ro) (.ref bq) (.ref bp) (.ref dq) (.ref dp) (.ref lv) (.ref sl) (nI dn) (nI bs) ul q_1)) hP hD hk1 hFc hP1 hD1
  clear hk1 hPc hDc hFc hP1 hD1 ht
  refine lv_pop hx hb dL_law_348 rfl ?_
  refine la_5_2 l C0 hk9 hL9 hS hl (rfl) ?_
  obtain ⟨hPc, hDc, hFc⟩ := zt_2 hP hD hS hA
  refine zcall (st1 := [.int 0]) (va_runV (As := [.int (xs (6 * k9 + 1))]) (rest := []) ⟨hx, hb, hml, hown, hts⟩ (k_M_smooth_x l dC dI cI cZ cF H.size k0 a (upd I0 26 (nI ln)) J0 ft (xs (6 * k9 + 1)) (hm0) (h200f) (hbad)) (csV_240 hts rfl rfl ⟨Nat.le_of_ble_eq_true rfl, Nat.le_of_ble_eq_true rfl⟩) (zPV2 (q0 := 0) (ci := 9) hPc hDc hK3 hXN rfl rfl) rfl rfl hl.1 rfl (lv_room (Nat.le_of_ble_eq_true rfl)) dL_law_355 ⟨hrc, hrm⟩) hS hFc hFc rfl (fun t H locs ht hB hk1 hS => ?_)
  obtain ⟨hP1, hD1⟩ := hB
  rw [ht] at hP1
  obtain ⟨hP, hD⟩ := zs_2 (u28 := (om k0 a (upd (upd (upd I0 14 1) 15 (I0 15)) 26 (nI ln)) J0)) hP hD hk1 hFc hP1 hD1
  clear hk1 hPc hDc hFc hP1 hD1 ht
  refine lv_pop hx hb dL_law_358 rfl ?_
  refine lv_goto (tgt := 1081) hx hb dL_law_359 rfl ?_
  obtain ⟨hP9, hD9⟩ := And.intro hP hD
  refine W.widen (k := 1000 + 1010 * (k9 + 1) + cp + 4 * cl) (n := 45000 + 8192 * cp + 512 * cl + U) (by first | exact wdK | omega) (by first | exact Nat.le_refl _ | omega) ?_
  have e26 : upd (upd (upd (upd I0 14 1) 15 (I0 15)) 26 (nI ln)) 26 (nI ln) = (upd (upd (upd I0 14 1) 15 (I0 15)) 26 (nI ln)) := up_same rfl
  exact hnext cp cl U H locs ls (lawI_in L f FA ea nd nt nw ul q_1 mc9 rd rt rw P Q TX TY WX WY AR b1 b2 b3 b4 b5 b6 b7 b8 c1 c2 c3 c4 a1 a2 a3 a4 nv RA WT EX EY GR LV y1 y2 y3 y4 a (upd (upd (upd I0 14 1) 15 (I0 15)) 26 (nI ln)) J0 kd st gb it pa pb rk wd tw tn mn cx cy sa shs wh of9 we la lb lc ld P0 Q0 S0 ox oy mt wi ins T0 fl mk jx jy gr bs dn T ft Sn AD C ln FT cc W9 V VX VY (by rw [e26]; exact hP9) (by rw [e26]; exact hD9) (hB) (INV_K hI) ⟨hm0, hm19, hm20, hm21, hm15⟩ (by first | exact hU | omega)) hS (lv_sub hl [0, 1, 2, 3] rfl)
set_option maxHeartbeats 4000000 in
set_option maxRecDepth 100000 in
theorem lc_shift_x {p : Program} {e : Env} {s : State} {m : MethodId} {below : List Frame} {meth : Method} {c : Code} (l : Launch) {b L9 : Nat} {xs : Nat → Int32} (C0 : lw_At p s m meth c b L9 xs) (dC : Nat → ClassId) (dI : Nat → Nat → Nat) (cI cZ cF cO : ClassId) (e0 mi : Nat) (x sl sh fa lw dr dx dy tg tx ty wy wx wz br bo aa ro za zw zx zy zg bq bp dq dp lv k0 : Nat) (hK : va_K (dC, dI) classes (zTyO cI cZ cF cO) s) (hXL : zXL e0 mi (fun q : Nat => s.heap.size ≤ q) s) (L : List Nat) (f : Nat → va_E) (FA : Nat → Option Nat) (ea : Nat) (nd : Nat) (nt : Nat) (nw : Nat) (ul : Int32) (su : Int32) (mc9 : Int32) (rd : Int32) (rt : Int32) (rw : Int32) (P : Nat → Int32) (Q : Nat → Int32) (TX : Nat → Int32) (TY : Nat → Int32) (WX : Nat → Int32) (WY : Nat → Int32) (AR : Nat → Int32) (b1 : Int32) (b2 : Int32) (b3 : Int32) (b4 : Int32) (b5 : Int32) (b6 : Int32) (b7 : Int32) (b8 : Int32) (c1 : Int32) (c2 : Int32) (c3 : Int32) (c4 : Int32) (a1 : Int32) (a2 : Int32) (a3 : Int32) (a4 : Int32) (nv : Int32) (RA : Nat → Option Nat) (WT : Nat → Int32) (EX : Nat → Int32) (EY : Nat → Int32) (GR : Nat → Int32) (LV : Nat → Int32) (y1 : Int64) (y2 : Int64) (y3 : Int64) (y4 : Int64) (a : Nat → Nat) (I0 : Nat → Int32) (J0 : Nat → Int64) (kd : Nat → Int32) (st : Nat → Int32) (gb : Nat → Int32) (it : Nat → Int32) (pa : Nat → Int32) (pb : Nat → Int32) (rk : Nat → Int32) (wd : Nat → Int32) (tw : Nat → Int32) (tn : Nat → Int32) (mn : Nat → Int32) (cx : Nat → Int32) (cy : Nat → Int32) (sa : Nat → Int32) (shs : Nat → Int32) (wh : Nat → Int32) (of9 : Nat → Int32) (we : Nat → Int32) (la : Nat → Int32) (lb : Nat → Int32) (lc : Nat → Int32) (ld : Nat → Int32) (P0 : Nat → Int32) (Q0 : Nat → Int32) (S0 : Nat → Int32) (ox : Nat → Int32) (oy : Nat → Int32) (mt : Nat → Int32) (wi : Nat → Int32) (ins : Nat → Int32) (T0 : Nat → Int32) (fl : Nat → Int32) (mk : Nat → Int32) (jx : Nat → Int32) (jy : Nat → Int32) (gr : Nat → Int32) (bs : Nat) (dn : Nat) (T : Nat) (ft : Nat) (Sn : Nat) (AD : Nat) (C : Nat) (ln : Nat) (FT : Nat → Nat) (cc : Nat → Nat) (W9 : Nat → Nat) (V : Nat → Nat → Nat → Int32) (VX : Nat → Nat → Int32) (VY : Nat → Nat → Int32) (cp cl U k9 : Nat) (hk9 : 6 * k9 + 6 ≤ L9) (hL9 : L9 ≤ 3072) {H : Heap} {locs : List Loc} {ls : Array Slot} (hPD : zPD (dC, dI) classes (fun q : Nat => s.heap.size ≤ q) (((oc8 x (.ref sh) (.ref lw) (.ref ro) (.ref bq) (.ref bp) (.ref dq) (.ref dp) (.ref lv) (.ref sl) (nI dn) (nI bs) ul su) :: (oc10 sl mc9 (.ref ea) (nI T)) :: (oc7 sh (.ref fa) (nI ft)) :: (oq fa cF 200 FA) :: (oc3 lw (.ref dr) (.ref tg) (.ref wy) (.ref br) (.ref bo) (.ref aa)) :: (oc6 dr (.ref dx) (.ref dy) (nI nd) rd) :: (oa dx cI 40 P) :: (oa dy cI 40 Q) :: (oc6 tg (.ref tx) (.ref ty) (nI nt) rt) :: (oa tx cI 3 TX) :: (oa ty cI 3 TY) :: (oc6 wy (.ref wx) (.ref wz) (nI nw) rw) :: (oa wx cI 2 WX) :: (oa wz cI 2 WY) :: (oc0 br b1 b2 b3 b4) :: (oc0 bo b5 b6 b7 b8) :: (oa aa cI 40 AR) :: (oc5 ro (.ref za) (.ref zw) (.ref zx) (.ref zy) (.ref zg) nv) :: (oq za cF 200 RA) :: (oa zw cI 200 WT) :: (oa zx cI 400 EX) :: (oa zy cI 400 EY) :: (oa zg cI 400 GR) :: (oc0 bq c1 c2 c3 c4) :: (oc0 bp a1 a2 a3 a4) :: (oc2 dq y1 y2) :: (oc2 dp y3 y4) :: (oa lv cZ 200 LV) :: (om k0 a (upd I0 26 (nI ln)) J0) :: (oa (a 1) cI 201 kd) :: (oa (a 5) cI 201 st) :: (oa (a 7) cI 201 gb) :: (oa (a 10) cI 201 it) :: (oa (a 8) cI 201 pa) :: (oa (a 9) cI 201 pb) :: (oa (a 2) cI 201 rk) :: (oa (a 3) cI 201 wd) :: (oa (a 4) cI 201 tw) :: (oa (a 6) cZ 201 tn) :: (oa (a 11) cI 201 mn) :: (oa (a 12) cI 8040 cx) :: (oa (a 13) cI 8040 cy) :: (oa (a 27) cI 516 sa) :: (oa (a 28) cI (4096 * cp) shs) :: (oa (a 16) cI 514 wh) :: (oa (a 17) cI 514 of9) :: (oa (a 18) cI 514 we) :: (oa (a 22) cI (64 * cl) la) :: (oa (a 23) cI (64 * cl) lb) :: (oa (a 24) cI (64 * cl) lc) :: (oa (a 25) cI (64 * cl) ld) :: (oa (a 29) cI 42 P0) :: (oa (a 30) cI 42 Q0) :: (oa (a 32) cI 8 S0) :: (oa (a 33) cI 42 ox) :: (oa (a 34) cI 42 oy) :: (oa (a 37) cZ 201 mt) :: (oa (a 38) cZ 201 wi) :: (oa (a 39) cZ 8040 ins) :: (oa (a 40) cI 6 T0) :: (oa (a 43) cZ 40 fl) :: (oa (a 50) cZ 201 mk) :: (oa (a 51) cI 402 jx) :: (oa (a 52) cI 402 jy) :: (oa (a 53) cI 402 gr) :: []) ++ va_pl L f) H) (hS : va_S (fun q : Nat => s.heap.size ≤ q) s.heap H locs) (hl : lv_has ls 4 [(3, .int (nI (6 * k9))), (2, .ref k0), (1, .ref x), (0, .ref b)]) (hB : shB cI cO L f e0 FA ea bs dn T ft FT V VX VY tn rk wd tw pa pb wh of9 we kd st gb it mn cx cy) (hI : INV k9 Sn AD C cc W9 bs T ft cp ln cl FT V VX VY tn rk wd tw pa pb kd st it mn cx cy sa shs lb lc) (hM : I0 0 = nI ft ∧ I0 19 = nI dn ∧ I0 20 = nI (T - dn) ∧ I0 21 = nI bs ∧ I0 15 = ul) (hU : U ≤ Sn * (28 * (AD + C) + 1000) + 200 * (AD + C)) (hbad : ¬ (0 ≤ (xs (6 * k9 + 1)).toInt ∧ (xs (6 * k9 + 1)).toInt < ((ft : Nat) : Int))) (hnext : ∀ (cp1 cl1 U1 : Nat) (H : Heap) (locs : List Loc) (ls : Array Slot), lawI s dC dI cI cZ cF cO e0 mi x sl sh fa lw dr dx dy tg tx ty wy wx wz br bo aa ro za zw zx zy zg bq bp dq dp lv k0 (k9 + 1) cp1 cl1 U1 H → va_S (fun q : Nat => s.heap.size ≤ q) s.heap H locs → lv_has ls 4 [(3, .int (nI (6 * k9))), (2, .ref k0), (1, .ref x), (0, .ref b)] → W p l e room_1 s m #[Value.ref b] below meth c H locs (1000 + 1010 * (k9 + 1) + cp1 + 4 * cl1) (45000 + 8192 * cp1 + 512 * cl1 + U1) (lw_Z below #[Value.ref b] s) (F0 m 1081 ls [])) : W p l e room_1 s m #[Value.ref b] below meth c H locs (1000 + 1010 * k9 + cp + 4 * cl) (45000 + 8192 * cp + 512 * cl + U) (lw_Z below #[Value.ref b] s) (F0 m 362 ls []) := by
  obtain ⟨hP, hD⟩ := hPD
  obtain ⟨hx, hb, hr, hml, hown, hts1, hX, hbl, hlocks, hgv⟩ := id C0
  have hts : ∀ w9 ∈ ws0, w9.before #[Value.ref b] s = true := fun w9 h => hts1 w9 (List.mem_filter.mp h).1
  have hA : ∀ q : Nat, s.heap.size ≤ q → (fun q : Nat => s.heap.size ≤ q) q := fun _ h => h
  have hbA : ¬ (fun q : Nat => s.heap.size ≤ q) b := Nat.not_le.mpr hbl
  have hXN := hXL.1
  have hK3 := hK.sub [0, 1, 2] rfl
  obtain ⟨hm0, hm19, hm20, hm21, hm15⟩ := hM
  have hpo := shB_po hB
  have hK512 : k9 + 1 ≤ 512 := r9_k hk9 hL9
  have hwfS := hI.1.1
  have hbdC := hI.1.2.2.1
  have hT0 := hI.1.2.2.2
  have hd9 := hpo.1
  have h200t : ∀ t, bs ≤ t → t ≤ T → FT t ≤ 200 := fun t t1 t2 => Nat.le_trans (hpo.2.1 t T t1 t2 (Nat.le_refl _)) hd9.2.2.2.2
  have h200f : ft ≤ 200 := (by rw [hd9.2.2.2.1]; exact h200t dn hd9.1 hd9.2.1)
  have hrkA : ∀ q, lvF ft st tn q → 0 ≤ (rk q).toInt ∧ (rk q).toInt ≤ 9 := fun q hq => (hI.1.2.1 q (Nat.lt_of_lt_of_le hq.1 (by rw [hd9.2.2.2.1]; exact hpo.2.1 dn T hd9.1 hd9.2.1 (Nat.le_refl _)))).1
  have hwdA : ∀ q, q < ft → 0 ≤ (wd q).toInt ∧ (wd q).toInt ≤ 100 := fun q hq => (hI.1.2.1 q (Nat.lt_of_lt_of_le hq (by rw [hd9.2.2.2.1]; exact hpo.2.1 dn T hd9.1 hd9.2.1 (Nat.le_refl _)))).2
  have hcp5 := INV_cp hI (Nat.le_of_succ_le hK512)
  have hcp1 := hI.2.2.1.2.1
  have hcnt := hI.2.2.2.1
  have hlst := hI.2.2.2.2
  have hlb := mul_514 (a := Sn) (b := C) (r9_s hcnt.2.1 hK512).2.1
  have hftA := bdC_F hbdC
  have hrm := room_c (Sn := Sn) (AD := AD) (C := C) (c := cp) (cl := cl) (U := U) (r9_s hcnt.2.1 hK512).1 hI.2.2.1.2.2.2.2.2 hlst.2.2.2.1 hU
  have hrc : 1000 + 1010 * k9 + cp + 4 * cl ≤ 600000 := (by omega)
  refine la_6_1 l C0 hk9 hL9 hS hl (rfl) (rfl) (rfl) (rfl) (rfl) ?_
  obtain ⟨hPc, hDc, hFc⟩ := zt_1 hP hD hS hA
  refine zcall (st1 := [.int 0]) (va_runV (As := [.int (xs (6 * k9 + 1)), .int (xs (6 * k9 + 2)), .int (xs (6 * k9 + 3)), .int (xs (6 * k9 + 4)), .int (xs (6 * k9 + 5))]) (rest := []) ⟨hx, hb, hml, hown, hts⟩ (k_shift_x l dC dI cI cZ cF H.size x sh lw ro bq bp dq dp lv sl (nI bs) ul su (nI dn) fa ft FA (xs (6 * k9 + 1)) (xs (6 * k9 + 2)) (xs (6 * k9 + 3)) (xs (6 * k9 + 4)) (xs (6 * k9 + 5)) (h200f) (hbad)) (csV_241 hts rfl rfl ⟨Nat.le_of_ble_eq_true rfl, Nat.le_of_ble_eq_true rfl⟩) (zPV2 (q0 := 0) (ci := 8) hPc hDc hK3 hXN rfl rfl) rfl rfl hl.1 rfl (lv_room (Nat.le_of_ble_eq_true rfl)) dL_law_388 ⟨hrc, hrm⟩) hS hFc hFc rfl (fun t H locs ht hB hk1 hS => ?_)
  obtain ⟨q_1, hP1, hD1⟩ := hB
  rw [ht] at hP1
  obtain ⟨hP, hD⟩ := zs_1 (u0 := (oc8 x (.ref sh) (.ref lw) (.ref ro) (.ref bq) (.ref bp) (.ref dq) (.ref dp) (.ref lv) (.ref sl) (nI dn) (nI bs) ul q_1)) hP hD hk1 hFc hP1 hD1
  clear hk1 hPc hDc hFc hP1 hD1 ht
  refine lv_pop hx hb dL_law_391 rfl ?_
  refine la_6_2 l C0 hk9 hL9 hS hl (rfl) (rfl) (rfl) (rfl) (rfl) ?_
  obtain ⟨hPc, hDc, hFc⟩ := zt_2 hP hD hS hA
  refine zcall (st1 := [.int 0]) (va_runV (As := [.int (xs (6 * k9 + 1)), .int (xs (6 * k9 + 2)), .int (xs (6 * k9 + 3)), .int (xs (6 * k9 + 4)), .int (xs (6 * k9 + 5))]) (rest := []) ⟨hx, hb, hml, hown, hts⟩ (k_M_shift_x l dC dI cI cZ cF H.size k0 a (upd I0 26 (nI ln)) J0 ft (xs (6 * k9 + 1)) (xs (6 * k9 + 2)) (xs (6 * k9 + 3)) (xs (6 * k9 + 4)) (xs (6 * k9 + 5)) (hm0) (h200f) (hbad)) (csV_242 hts rfl rfl ⟨Nat.le_of_ble_eq_true rfl, Nat.le_of_ble_eq_true rfl⟩) (zPV2 (q0 := 0) (ci := 9) hPc hDc hK3 hXN rfl rfl) rfl rfl hl.1 rfl (lv_room (Nat.le_of_ble_eq_true rfl)) dL_law_418 ⟨hrc, hrm⟩) hS hFc hFc rfl (fun t H locs ht hB hk1 hS => ?_)
  obtain ⟨hP1, hD1⟩ := hB
  rw [ht] at hP1
  obtain ⟨hP, hD⟩ := zs_2 (u28 := (om k0 a (upd (upd (upd I0 14 1) 15 (I0 15)) 26 (nI ln)) J0)) hP hD hk1 hFc hP1 hD1
  clear hk1 hPc hDc hFc hP1 hD1 ht
  refine lv_pop hx hb dL_law_421 rfl ?_
  refine lv_goto (tgt := 1081) hx hb dL_law_422 rfl ?_
  obtain ⟨hP9, hD9⟩ := And.intro hP hD
  refine W.widen (k := 1000 + 1010 * (k9 + 1) + cp + 4 * cl) (n := 45000 + 8192 * cp + 512 * cl + U) (by first | exact wdK | omega) (by first | exact Nat.le_refl _ | omega) ?_
  have e26 : upd (upd (upd (upd I0 14 1) 15 (I0 15)) 26 (nI ln)) 26 (nI ln) = (upd (upd (upd I0 14 1) 15 (I0 15)) 26 (nI ln)) := up_same rfl
  exact hnext cp cl U H locs ls (lawI_in L f FA ea nd nt nw ul q_1 mc9 rd rt rw P Q TX TY WX WY AR b1 b2 b3 b4 b5 b6 b7 b8 c1 c2 c3 c4 a1 a2 a3 a4 nv RA WT EX EY GR LV y1 y2 y3 y4 a (upd (upd (upd I0 14 1) 15 (I0 15)) 26 (nI ln)) J0 kd st gb it pa pb rk wd tw tn mn cx cy sa shs wh of9 we la lb lc ld P0 Q0 S0 ox oy mt wi ins T0 fl mk jx jy gr bs dn T ft Sn AD C ln FT cc W9 V VX VY (by rw [e26]; exact hP9) (by rw [e26]; exact hD9) (hB) (INV_K hI) ⟨hm0, hm19, hm20, hm21, hm15⟩ (by first | exact hU | omega)) hS (lv_sub hl [0, 1, 2, 3] rfl)
end
