/-! a position is taken up again: what the reference restores -/
/-- what the relation says of the positions alone -/
def poS (bs dn T ft : Nat) (FT : Nat → Nat) (V : Nat → Nat → Nat → Int32) (VX VY : Nat → Nat → Int32) (tn kd st gb it mn cx cy : Nat → Int32) : Prop :=
  (bs ≤ dn ∧ dn ≤ T ∧ T ≤ 512 ∧ ft = FT dn ∧ FT T ≤ 200) ∧ (∀ t u, bs ≤ t → t ≤ u → u ≤ T → FT t ≤ FT u) ∧ HiD dn ft V VX VY kd st gb it tn mn cx cy ∧
  (∀ t, bs ≤ t → t ≤ T → ∀ q, q < FT t → ((V t 1 q).toInt = 0 ∨ (q < FT dn ∧ (V dn 1 q).toInt = 0)) → q < FT bs ∧ V t 0 q = V dn 0 q ∧ V t 1 q = V dn 1 q ∧ V t 2 q = V dn 2 q ∧ V t 3 q = V dn 3 q)
section
variable {cI cO : ClassId} {L : List Nat} {f : Nat → va_E} {e0 ea : Nat} {FA : Nat → Option Nat} {bs dn T ft : Nat} {FT : Nat → Nat} {V : Nat → Nat → Nat → Int32} {VX VY : Nat → Nat → Int32} {tn rk wd tw pa pb wh of9 we kd st gb it mn cx cy : Nat → Int32} {sa sh : Nat → Int32} {W : Nat → Nat}
theorem shB_po (h : shB cI cO L f e0 FA ea bs dn T ft FT V VX VY tn rk wd tw pa pb wh of9 we kd st gb it mn cx cy) : poS bs dn T ft FT V VX VY tn kd st gb it mn cx cy := by
  obtain ⟨own, fe, cl, la, sp, SA, ⟨h1, h2, h3, h4, h5, ⟨m1, m2, m3, m4, m5, m6⟩, h7⟩, h8, h9⟩ := h
  exact ⟨⟨m1, m2, m3, h9, m6⟩, fun t u a b c => StA_le h4 a b c, h8, fun t t1 t2 q hq g => ((h3 t t1 t2 q hq).2 g).2⟩
def wfV (FT : Nat → Nat) (V : Nat → Nat → Nat → Int32) (VX VY : Nat → Nat → Int32) (tn : Nat → Int32) (t : Nat) : Prop := ∀ q, q < FT t → ¬ (V t 1 q).toInt = 0 → wfQ (V t 0 q) (V t 1 q) (tn q) (V t 4 q) (V t 3 q) (cF40 (VX t) q) (cF40 (VY t) q)
theorem wfQ_cg2 {kd st tn mn it : Int32} {X Y X1 Y1 : Nat → Int32} (hc : tn.toInt = 0 → ∀ k, k < nN mn → X1 k = X k ∧ Y1 k = Y k) (h : wfQ kd st tn mn it X Y) : wfQ kd st tn mn it X1 Y1 := by
  obtain ⟨h1, h2, h3, h4⟩ := h
  refine ⟨h1, h2, fun t => ?_, h4⟩
  obtain ⟨⟨a1, a2, a3, a4⟩, a5⟩ := h3 t
  have hc2 : ∀ k, k < nN mn → X k = X1 k ∧ Y k = Y1 k := fun k hk => ⟨(hc t k hk).1.symm, (hc t k hk).2.symm⟩
  exact ⟨⟨a1, a2, a3, (pls_cg hc2).mp a4⟩, fun s => mSm_cg hc2 (a5 s)⟩
/-- what lies kept at a position -/
def DV (V : Nat → Nat → Nat → Int32) (VX VY : Nat → Nat → Int32) (pa pb rk wd tw tn : Nat → Int32) (t : Nat) : Nat → Nat → Int32 := shD (V t 0) (V t 1) (V t 2) (V t 3) pa pb rk wd tw (nnV V tn t) (VX t) (VY t)
theorem rsA_id (q : Nat) (k : Nat → Int32) : rsA q (fun g => k g) k = k := by
  funext g; unfold rsA; split <;> rfl
theorem nnV_40 {t : Nat} (h : wfV FT V VX VY tn t) {q : Nat} (hq : q < FT t) : nnV V tn t q ≤ 40 := by
  show nnF (V t 1) tn (V t 4) q ≤ 40
  unfold nnF
  by_cases c : (tn q).toInt = 0 ∧ ¬ (V t 1 q).toInt = 0
  · rw [if_pos c]; exact ((h q hq c.2).2.2.1 c.1).1.2.1
  · rw [if_neg c]; omega
/-- the arrays behind a restore, feature by feature -/
theorem rs_HC {t : Nat} (hV : wfV FT V VX VY tn t) : ∀ q, q < FT t → rsA (FT t) (fun g => DV V VX VY pa pb rk wd tw tn t g 0) kd q = V t 0 q ∧ rsA (FT t) (fun g => DV V VX VY pa pb rk wd tw tn t g 1) st q = V t 1 q ∧ rsA (FT t) (fun g => DV V VX VY pa pb rk wd tw tn t g 2) gb q = V t 2 q ∧ rsA (FT t) (fun g => DV V VX VY pa pb rk wd tw tn t g 3) it q = V t 3 q ∧
    ((¬ (V t 1 q).toInt = 0 ∧ (tn q).toInt = 0) → nN (rsM (FT t) (DV V VX VY pa pb rk wd tw tn t) (nnV V tn t) tn mn q) = nN (V t 4 q) ∧ ∀ k, k < nN (V t 4 q) → cF40 (rsC (FT t) 0 (DV V VX VY pa pb rk wd tw tn t) (nnV V tn t) 10 cx) q k = cF40 (VX t) q k ∧ cF40 (rsC (FT t) 0 (DV V VX VY pa pb rk wd tw tn t) (nnV V tn t) 11 cy) q k = cF40 (VY t) q k) ∧
    ((V t 1 q).toInt = 0 → rsM (FT t) (DV V VX VY pa pb rk wd tw tn t) (nnV V tn t) tn mn q = mn q ∧ ∀ k, k < 40 → cF40 (rsC (FT t) 0 (DV V VX VY pa pb rk wd tw tn t) (nnV V tn t) 10 cx) q k = cF40 cx q k ∧ cF40 (rsC (FT t) 0 (DV V VX VY pa pb rk wd tw tn t) (nnV V tn t) 11 cy) q k = cF40 cy q k) := by
  intro q hq
  have r : ∀ (d k : Nat → Int32), rsA (FT t) d k q = d q := fun d k => by unfold rsA; rw [if_pos hq]
  refine ⟨(r _ _).trans rfl, (r _ _).trans rfl, (r _ _).trans rfl, (r _ _).trans rfl, fun hs => ?_, fun hs => ?_⟩
  · have hn : nnV V tn t q = nN (V t 4 q) := by show nnF (V t 1) tn (V t 4) q = _; unfold nnF; rw [if_pos ⟨hs.2, hs.1⟩]
    have h40 := nnV_40 hV hq
    refine ⟨?_, fun k hk => ?_⟩
    · unfold rsM
      rw [if_pos ⟨hq, hs.1, hs.2⟩, nN_nI (by omega), hn]
    · have e1 : (40 * q + k) / 40 = q := by omega
      have e2 : (40 * q + k) % 40 = k := by omega
      have c : ∀ o (D : Nat → Nat → Int32) (z : Nat → Int32), rsC (FT t) 0 D (nnV V tn t) o z (40 * q + k) = D q (o + 2 * k) := fun o D z => by
        unfold rsC
        rw [e1, e2, if_pos (Or.inl ⟨hq, by omega⟩)]
      exact ⟨(c 10 _ cx).trans (shD_x rfl), (c 11 _ cy).trans (shD_y rfl)⟩
  · have hn : nnV V tn t q = 0 := by show nnF (V t 1) tn (V t 4) q = _; unfold nnF; rw [if_neg (fun g => g.2 hs)]
    refine ⟨?_, fun k hk => ?_⟩
    · unfold rsM
      exact if_neg (fun g => g.2.1 hs)
    · have e1 : (40 * q + k) / 40 = q := by omega
      have e2 : (40 * q + k) % 40 = k := by omega
      have c : ∀ o (D : Nat → Nat → Int32) (z : Nat → Int32), rsC (FT t) 0 D (nnV V tn t) o z (40 * q + k) = z (40 * q + k) := fun o D z => by
        unfold rsC
        rw [e1, e2, if_neg (fun g => by omega)]
      exact ⟨c 10 _ cx, c 11 _ cy⟩
/-- the state at a position is sound -/
theorem rs_wf {t : Nat} {kd1 st1 gb1 it1 mn1 cx1 cy1 : Nat → Int32} (hp : poS bs dn T ft FT V VX VY tn kd st gb it mn cx cy) (h1 : bs ≤ t) (h2 : t ≤ T) (hw : wfS ft kd st tn mn it cx cy) (hV : wfV FT V VX VY tn t) (hm : ∀ q, q < FT t → (¬ (V t 1 q).toInt = 0 ∧ (tn q).toInt = 0) → mn1 q = nI (nN (mn1 q)))
    (hc : ∀ q, q < FT t → kd1 q = V t 0 q ∧ st1 q = V t 1 q ∧ gb1 q = V t 2 q ∧ it1 q = V t 3 q ∧ ((¬ (V t 1 q).toInt = 0 ∧ (tn q).toInt = 0) → nN (mn1 q) = nN (V t 4 q) ∧ ∀ k, k < nN (V t 4 q) → cF40 cx1 q k = cF40 (VX t) q k ∧ cF40 cy1 q k = cF40 (VY t) q k) ∧ ((V t 1 q).toInt = 0 → mn1 q = mn q ∧ ∀ k, k < 40 → cF40 cx1 q k = cF40 cx q k ∧ cF40 cy1 q k = cF40 cy q k)) : wfS (FT t) kd1 st1 tn mn1 it1 cx1 cy1 := by
  intro q hq
  obtain ⟨c1, c2, c3, c4, c5, c6⟩ := hc q hq
  obtain ⟨⟨p1, p2, p3, p4, p5⟩, p6, p7, p8⟩ := hp
  rw [c1, c2, c4]
  by_cases o : (V t 1 q).toInt = 0
  · have e := p8 t h1 h2 q hq (Or.inl o)
    have hqf : q < ft := by rw [p4]; exact Nat.lt_of_lt_of_le e.1 (p6 bs dn (Nat.le_refl _) p1 p2)
    have d := p7 q hqf
    rw [e.2.1, e.2.2.1, e.2.2.2.2, d.1, d.2.1, d.2.2.2.1, (c6 o).1]
    exact wfQ_cg (c6 o).2 (hw q hqf)
  · have v := hV q hq o
    by_cases t0 : (tn q).toInt = 0
    · have c := c5 ⟨o, t0⟩
      have em : mn1 q = V t 4 q := by rw [hm q hq ⟨o, t0⟩, c.1]; exact ((v.2.2.1 t0).1.1).symm
      rw [em]
      exact wfQ_cg2 (fun _ k hk => c.2 k hk) v
    · exact ⟨v.1, v.2.1, fun g => absurd g t0, v.2.2.2⟩
end
