/-! a house is made; a position is taken up again -/
section
variable {P : Nat → Prop} {cI cO : ClassId} {L L1 : List Nat} {f f1 : Nat → va_E} {own own1 : Nat → Nat} {e0 ea n9 : Nat} {FA : Nat → Option Nat} {fe cl nw md sp : Nat → Nat} {la : Nat → Nat → Nat} {fm : Nat → Value} {SA : Nat → Option Nat} {bs dn T ft fN : Nat} {FT : Nat → Nat} {V : Nat → Nat → Nat → Int32} {VX VY : Nat → Nat → Int32} {tn rk wd tw pa pb wh of9 we kd st gb it mn cx cy kd1 st1 gb1 it1 mn1 cx1 cy1 tn1 rk1 wd1 tw1 pa1 pb1 : Nat → Int32}
theorem M_made {fq nq c : Nat} (h : shG cI cO L f e0 FA ea n9 own fe cl la nw md sp fm SA bs dn dn ft ft FT V VX VY tn rk wd tw pa pb wh of9 we kd st gb it mn cx cy) (hM : mdA dn ft FT la nw md fm V kd st gb it) (hft : ft = FT dn) (h200 : ft < 200) (hk : kpT (fun _ => True) L f own L1 f1 own1)
    (hfe : feG cI L1 f1 own1 ft fq nq c .null (rk1 ft) (wd1 ft) (tw1 ft) (pa1 ft) (pb1 ft)) (hlk : lkG cI L1 f1 own1 (8 * ft + 2) (8 * ft + 3) nq c (kd1 ft) (st1 ft) (gb1 ft) (it1 ft) (tn1 ft) (nN (mn1 ft)) (cF40 cx1 ft) (cF40 cy1 ft))
    (ho : othS ft kd st gb it mn cx cy kd1 st1 gb1 it1 mn1 cx1 cy1) (hp : ∀ p, p ≠ ft → tn1 p = tn p ∧ rk1 p = rk p ∧ wd1 p = wd p ∧ tw1 p = tw p ∧ pa1 p = pa p ∧ pb1 p = pb p) (hmd : md ft = 0) :
    shG cI cO L1 f1 e0 (va_up FA ft (some fq)) ea n9 own1 (upN fe ft fq) (upN cl ft c) (fun t => upN (la t) ft nq) (upN nw ft nq) md sp (upN fm ft .null) SA bs dn dn (ft + 1) (ft + 1) FT V VX VY tn1 rk1 wd1 tw1 pa1 pb1 wh of9 we kd1 st1 gb1 it1 mn1 cx1 cy1 ∧ mdA dn (ft + 1) FT (fun t => upN (la t) ft nq) (upN nw ft nq) md (upN fm ft .null) V kd1 st1 gb1 it1 := by
  obtain ⟨h1, h2, h3, h4, h5, ⟨m1, m2, m3, m4, m5, m6⟩, h7⟩ := h
  have tr : ∀ g : Nat, (fun _ : Nat => True) g := fun _ => trivial
  refine ⟨⟨fun p hp1 => ?_, fun p hp1 => ?_, fun t t1 t2 p hp1 => ?_, fun t t1 t2 => ?_, LsA_kp hk ⟨trivial, trivial⟩ h5, ⟨m1, m2, m3, fun t t1 t2 => by have := m4 t t1 t2; omega, Nat.le_refl _, by omega⟩, fun p hp1 => ?_⟩, fun p hp1 => ?_⟩
  · by_cases e : p = ft
    · rw [e]; simp only [upN_at]; exact hfe
    · obtain ⟨a1, a2, a3, a4, a5, a6⟩ := hp p e
      simp only [upN_o e]; rw [a2, a3, a4, a5, a6]
      exact feG_kp hk trivial trivial (h1 p (by omega))
  · by_cases e : p = ft
    · rw [e, hmd]; simp only [upN_at]; exact hlk
    · obtain ⟨a1, a2, a3, a4, a5, a6⟩ := ho p e
      simp only [upN_o e]; rw [a1, a2, a3, a4, a5, (hp p e).1]
      exact lkG_cg a6 (lkG_kp hk trivial trivial (h2 p (by omega)))
  · have hp2 := m4 t t1 t2
    have e : p ≠ ft := by omega
    have g := h3 t t1 t2 p hp1
    simp only [upN_o e]
    rw [(hp p e).1]
    exact ⟨fun h0 => lkG_kp hk trivial trivial (g.1 h0), g.2⟩
  · obtain ⟨g1, mv, ch, g2, g3⟩ := StA_kp hk ⟨trivial, trivial⟩ h4 t t1 t2
    refine ⟨g1, mv, ch, g2, fun hb => ?_⟩
    obtain ⟨⟨qs, g4, g5, g6⟩, g7⟩ := g3 hb
    have hm := m4 (t - 1) (by omega) (by omega)
    have hm2 := m4 t (by omega) t2
    refine ⟨⟨qs, chn_cg (fun q hq => ?_) g4, g5, fun q hq hn => ?_⟩, ?_⟩
    · have e : q ≠ ft := by have := g5 q hq; omega
      simp only [upN_o e]; exact ⟨trivial, trivial, trivial⟩
    · by_cases e : q = ft
      · rw [e]; simp only [upN_at]
      · simp only [upN_o e]; exact g6 q (by omega) hn
    · rcases g7 with g7 | g7
      · exact Or.inl g7
      · refine Or.inr ⟨g7.1, ?_⟩
        rw [upN_o (by omega)]; exact g7.2
  · by_cases e : p = ft
    · rw [e, upN_at]; unfold va_up; rw [if_pos rfl]
    · rw [upN_o e]; unfold va_up; rw [if_neg e]; exact h7 p (by omega)
  · by_cases e : p = ft
    · rw [e]; simp only [upN_at]
      exact ⟨fun _ => ⟨trivial, trivial, fun g => by omega⟩, fun g => absurd hmd g⟩
    · obtain ⟨a1, a2, a3, a4, a5, a6⟩ := ho p e
      simp only [upN_o e]; rw [a1, a2, a3, a4]
      exact hM p (by omega)
/-- position d is taken up: features look as they did then -/
theorem U_pos {d ft1 : Nat} {FA1 : Nat → Option Nat} (h1 : FeA cI L1 f1 own1 (FT T) fe (la d) cl (fun _ => .null) rk wd tw pa pb) (hk : kpT (fun g => ¬ g % 8 = 0) L f own L1 f1 own1)
    (h : shG cI cO L f e0 FA ea T own fe cl la (la dn) (fun _ => 0) sp (fun _ => .null) SA bs dn T ft (FT T) FT V VX VY tn rk wd tw pa pb wh of9 we kd st gb it mn cx cy) (hD : HiD dn ft V VX VY kd st gb it tn mn cx cy) (hft : ft = FT dn) (hd1 : bs ≤ d) (hd2 : d ≤ T) (e1 : ft1 = FT d) (h7 : ∀ q, q < ft1 → FA1 q = some (fe q))
    (hc : ∀ q, q < ft1 → kd1 q = V d 0 q ∧ st1 q = V d 1 q ∧ gb1 q = V d 2 q ∧ it1 q = V d 3 q ∧ ((¬ (V d 1 q).toInt = 0 ∧ (tn q).toInt = 0) → nN (mn1 q) = nN (V d 4 q) ∧ ∀ k, k < nN (V d 4 q) → cF40 cx1 q k = cF40 (VX d) q k ∧ cF40 cy1 q k = cF40 (VY d) q k) ∧ ((V d 1 q).toInt = 0 → mn1 q = mn q ∧ ∀ k, k < 40 → cF40 cx1 q k = cF40 cx q k ∧ cF40 cy1 q k = cF40 cy q k)) :
    shB cI cO L1 f1 e0 FA1 ea bs d T ft1 FT V VX VY tn rk wd tw pa pb wh of9 we kd1 st1 gb1 it1 mn1 cx1 cy1 := by
  obtain ⟨g1, g2, g3, g4, g5, ⟨m1, m2, m3, m4, m5, m6⟩, g7⟩ := h
  have p8 : ∀ g, g = 8001 ∨ g = 8002 ∨ g = 8003 → ¬ g % 8 = 0 := fun g hg => by omega
  have h3 := HiA_kp hk (fun t q _ _ _ => ⟨by omega, by omega⟩) g3
  refine ⟨own1, fe, cl, la, sp, SA, ⟨h1, fun q hq => ?_, fun t t1 t2 q hq => ⟨(h3 t t1 t2 q hq).1, fun h0 => ?_⟩, StA_kp hk ⟨p8 _ (by omega), p8 _ (by omega)⟩ g4, LsA_kp hk ⟨p8 _ (by omega), p8 _ (by omega)⟩ g5, ⟨hd1, hd2, m3, m4, by rw [e1]; exact m4 d hd1 hd2, m6⟩, h7⟩, fun q hq => ?_, e1⟩
  · obtain ⟨c1, c2, c3, c4, c5, c6⟩ := hc q hq
    have hqd : q < FT d := by rw [← e1]; exact hq
    rw [c1, c2, c3, c4]
    by_cases s0 : (V d 1 q).toInt = 0
    · have w := (h3 d hd1 hd2 q hqd).2 (Or.inl s0)
      have hq2 : q < ft := by rw [hft]; exact Nat.lt_of_lt_of_le w.2.1 (StA_le g4 (Nat.le_refl _) m1 m2)
      have dd := hD q hq2
      have w2 := lkG_kp hk (by unfold glM; split <;> omega) (by unfold grM; split <;> omega) (g2 q hq2)
      rw [(c6 s0).1, w.1, w.2.2.1, w.2.2.2.1, w.2.2.2.2.1, w.2.2.2.2.2, dd.1, dd.2.1, dd.2.2.1, dd.2.2.2.1]
      exact lkG_cg (c6 s0).2 w2
    · have w := (h3 d hd1 hd2 q hqd).1 s0
      by_cases t0 : (tn q).toInt = 0
      · obtain ⟨n1, n2⟩ := c5 ⟨s0, t0⟩
        rw [n1]
        obtain ⟨we9, rv, w1, w2, w3, w4⟩ := w
        refine ⟨we9, rv, w1, w2, w3, w4.1, fun z => ?_⟩
        obtain ⟨r, rx, ry, cap, X, Y, v1, v2, v3, v4, v5, v6, v7⟩ := w4.2 z
        exact ⟨r, rx, ry, cap, X, Y, v1, v2, v3, v4, v5, fun k hk2 => by rw [(n2 k hk2).1, (n2 k hk2).2]; exact v6 k hk2, v7⟩
      · exact lkG_tn t0 w
  · -- those that are open
    have h0' : (V t 1 q).toInt = 0 ∨ (q < FT dn ∧ (V dn 1 q).toInt = 0) := by
      rcases h0 with h0 | ⟨hqd, h0⟩
      · exact Or.inl h0
      · have w := (h3 d hd1 hd2 q hqd).2 (Or.inl h0)
        exact Or.inr ⟨Nat.lt_of_lt_of_le w.2.1 (StA_le g4 (Nat.le_refl _) m1 m2), by rw [← w.2.2.2.1]; exact h0⟩
    have a := (h3 t t1 t2 q hq).2 h0'
    have hd0 : (V dn 1 q).toInt = 0 := by
      rcases h0' with z | z
      · rw [← a.2.2.2.1]; exact z
      · exact z.2
    have hqd : q < FT d := Nat.lt_of_lt_of_le a.2.1 (StA_le g4 (Nat.le_refl _) hd1 hd2)
    have hqn : q < FT dn := Nat.lt_of_lt_of_le a.2.1 (StA_le g4 (Nat.le_refl _) m1 m2)
    have b := (h3 d hd1 hd2 q hqd).2 (Or.inr ⟨hqn, hd0⟩)
    exact ⟨a.1.trans b.1.symm, a.2.1, a.2.2.1.trans b.2.2.1.symm, a.2.2.2.1.trans b.2.2.2.1.symm, a.2.2.2.2.1.trans b.2.2.2.2.1.symm, a.2.2.2.2.2.trans b.2.2.2.2.2.symm⟩
  · obtain ⟨c1, c2, c3, c4, c5, c6⟩ := hc q hq
    exact ⟨c1.symm, c2.symm, c3.symm, c4.symm, fun s0 t0 => by rw [c2] at s0; obtain ⟨n1, n2⟩ := c5 ⟨s0, t0⟩; exact ⟨n1.symm, fun k hk2 => by rw [n1] at hk2; exact ⟨(n2 k hk2).1.symm, (n2 k hk2).2.symm⟩⟩⟩
end
