/-! CHOOSE: which places roads join -/
/-- two places are joined by edges of a set: every way of joining that holds all edges joins them -/
def chE (D : Nat → Prop) (b e : Nat → Int32 × Int32) (p r : Int32 × Int32) : Prop :=
  ∀ R : Int32 × Int32 → Int32 × Int32 → Prop, (∀ x, R x x) → (∀ q, D q → R (b q) (e q)) → (∀ x y, R x y → R y x) → (∀ x y z, R x y → R y z → R x z) → R p r
theorem chE.rf {D : Nat → Prop} {b e : Nat → Int32 × Int32} (p : Int32 × Int32) : chE D b e p p := fun _ h _ _ _ => h p
theorem chE.ed {D : Nat → Prop} {b e : Nat → Int32 × Int32} (q : Nat) (h : D q) : chE D b e (b q) (e q) := fun _ _ h2 _ _ => h2 q h
theorem chE.sy {D : Nat → Prop} {b e : Nat → Int32 × Int32} {p r : Int32 × Int32} (h : chE D b e p r) : chE D b e r p := fun R h1 h2 h3 h4 => h3 _ _ (h R h1 h2 h3 h4)
theorem chE.tr {D : Nat → Prop} {b e : Nat → Int32 × Int32} {p r s : Int32 × Int32} (h : chE D b e p r) (g : chE D b e r s) : chE D b e p s := fun R h1 h2 h3 h4 => h4 _ _ _ (h R h1 h2 h3 h4) (g R h1 h2 h3 h4)
theorem chE_mono {D E : Nat → Prop} {b e : Nat → Int32 × Int32} (h : ∀ q, D q → E q) {p r : Int32 × Int32} (a : chE D b e p r) : chE E b e p r := fun R h1 h2 h3 h4 => a R h1 (fun q hq => h2 q (h q hq)) h3 h4
/-- the groups of the places that are known -/
def chI (D : Nat → Prop) (b e : Nat → Int32 × Int32) (P : Nat → Int32 × Int32) (gr : Nat → Int32) (pc : Nat) : Prop :=
  (∀ i, i < pc → ∀ j, j < pc → (gr i = gr j ↔ chE D b e (P i) (P j))) ∧ (∀ i, i < pc → ∃ k, k < pc ∧ gr i = nI k) ∧ (∀ q, D q → (∃ i, i < pc ∧ P i = b q) ∧ ∃ i, i < pc ∧ P i = e q)
theorem chE_only {D : Nat → Prop} {b e : Nat → Int32 × Int32} {x : Int32 × Int32} (h : ∀ q, D q → b q ≠ x ∧ e q ≠ x) {p r : Int32 × Int32} (a : chE D b e p r) : p = x ↔ r = x :=
  a (fun p r => p = x ↔ r = x) (fun _ => Iff.rfl) (fun q hq => ⟨fun g => absurd g (h q hq).1, fun g => absurd g (h q hq).2⟩) (fun _ _ g => g.symm) (fun _ _ _ g1 g2 => g1.trans g2)
theorem chI_0 (b e P : Nat → Int32 × Int32) (gr : Nat → Int32) : chI (fun _ => False) b e P gr 0 := ⟨fun i hi => absurd hi (Nat.not_lt_zero _), fun i hi => absurd hi (Nat.not_lt_zero _), fun q h => h.elim⟩
theorem chI_cg {D E : Nat → Prop} {b e P Q : Nat → Int32 × Int32} {gr gs : Nat → Int32} {pc : Nat} (h : chI D b e P gr pc) (hD : ∀ q, E q ↔ D q) (hP : ∀ i, i < pc → Q i = P i ∧ gs i = gr i) : chI E b e Q gs pc := by
  obtain rfl : E = D := funext fun q => propext (hD q)
  refine ⟨fun i hi j hj => ?_, fun i hi => ?_, fun q hq => ?_⟩
  · rw [(hP i hi).1, (hP i hi).2, (hP j hj).1, (hP j hj).2]; exact h.1 i hi j hj
  · rw [(hP i hi).2]; exact h.2.1 i hi
  · obtain ⟨⟨i, hi, e1⟩, k, hk, e2⟩ := h.2.2 q hq
    exact ⟨⟨i, hi, by rw [(hP i hi).1]; exact e1⟩, k, hk, by rw [(hP k hk).1]; exact e2⟩
theorem nI_ij {a b : Nat} (ha : a < 1000000) (hb : b < 1000000) (h : nI a = nI b) : a = b := by
  have h1 := nI_toInt (n := a) (by omega); have h2 := nI_toInt (n := b) (by omega); rw [h] at h1; omega
theorem chI_new {D : Nat → Prop} {b e P Q : Nat → Int32 × Int32} {gr gs : Nat → Int32} {pc : Nat} (h : chI D b e P gr pc) (hpc : pc < 1000) (hP : ∀ i, i < pc → Q i = P i ∧ gs i = gr i) (hg : gs pc = nI pc) (hn : ∀ i, i < pc → ¬ P i = Q pc) : chI D b e Q gs (pc + 1) := by
  have ho : ∀ q, D q → b q ≠ Q pc ∧ e q ≠ Q pc := fun q hq => by
    obtain ⟨⟨i, hi, e1⟩, k, hk, e2⟩ := h.2.2 q hq
    exact ⟨fun g => hn i hi (e1.trans g), fun g => hn k hk (e2.trans g)⟩
  have hv : ∀ i, i < pc → ¬ gs i = gs pc := fun i hi g => by
    obtain ⟨k, hk, e1⟩ := h.2.1 i hi
    rw [(hP i hi).2, e1, hg] at g
    have := nI_ij (by omega) (by omega) g; omega
  refine ⟨fun i hi j hj => ?_, fun i hi => ?_, fun q hq => ?_⟩
  · rcases Nat.lt_or_ge i pc with a | a
    · rcases Nat.lt_or_ge j pc with c | c
      · rw [(hP i a).1, (hP i a).2, (hP j c).1, (hP j c).2]; exact h.1 i a j c
      · obtain rfl : j = pc := by omega
        exact ⟨fun g => absurd g (hv i a), fun g => absurd ((hP i a).1.symm.trans ((chE_only ho g).mpr rfl)) (hn i a)⟩
    · obtain rfl : i = pc := by omega
      rcases Nat.lt_or_ge j i with c | c
      · exact ⟨fun g => absurd g.symm (hv j c), fun g => absurd ((hP j c).1.symm.trans ((chE_only ho g).mp rfl)) (hn j c)⟩
      · obtain rfl : j = i := by omega
        exact ⟨fun _ => .rf _, fun _ => rfl⟩
  · rcases Nat.lt_or_ge i pc with a | a
    · obtain ⟨k, hk, e1⟩ := h.2.1 i a
      exact ⟨k, by omega, by rw [(hP i a).2]; exact e1⟩
    · obtain rfl : i = pc := by omega
      exact ⟨i, by omega, hg⟩
  · obtain ⟨⟨i, hi, e1⟩, k, hk, e2⟩ := h.2.2 q hq
    exact ⟨⟨i, by omega, by rw [(hP i hi).1]; exact e1⟩, k, by omega, by rw [(hP k hk).1]; exact e2⟩
/-- two groups become one -/
theorem chI_un {D : Nat → Prop} {b e P : Nat → Int32 × Int32} {gr gs : Nat → Int32} {pc t i0 j0 : Nat} (h : chI D b e P gr pc) (h0 : i0 < pc) (h1 : j0 < pc) (e0 : P i0 = b t) (e1 : P j0 = e t) (hs : ∀ k, k < pc → gs k = if gr k = gr j0 then gr i0 else gr k) : chI (fun q => D q ∨ q = t) b e P gs pc := by
  have sm : ∀ i, i < pc → ∀ j, j < pc → gr i = gr j → gs i = gs j := fun i hi j hj g => by rw [hs i hi, hs j hj, g]
  have s0 : gs i0 = gs j0 := by rw [hs i0 h0, hs j0 h1, if_pos rfl]; split <;> rfl
  have ab : chE (fun q => D q ∨ q = t) b e (P i0) (P j0) := by rw [e0, e1]; exact .ed t (Or.inr rfl)
  have up : ∀ i, i < pc → ∀ j, j < pc → gr i = gr j → chE (fun q => D q ∨ q = t) b e (P i) (P j) := fun i hi j hj g => chE_mono (fun q => Or.inl) ((h.1 i hi j hj).mp g)
  have R : ∀ {p r : Int32 × Int32}, chE (fun q => D q ∨ q = t) b e p r → p = r ∨ ∃ i j, i < pc ∧ j < pc ∧ p = P i ∧ r = P j ∧ gs i = gs j := by
    intro p r a
    refine a (fun p r => p = r ∨ ∃ i j, i < pc ∧ j < pc ∧ p = P i ∧ r = P j ∧ gs i = gs j) (fun _ => Or.inl rfl) (fun q hq => ?_) (fun x y ih => ?_) (fun x y z ih ih2 => ?_)
    · rcases hq with hq | hq
      · obtain ⟨⟨i, hi, g1⟩, k, hk, g2⟩ := h.2.2 q hq
        exact Or.inr ⟨i, k, hi, hk, g1.symm, g2.symm, sm i hi k hk ((h.1 i hi k hk).mpr (by rw [g1, g2]; exact .ed q hq))⟩
      · subst hq; exact Or.inr ⟨i0, j0, h0, h1, e0.symm, e1.symm, s0⟩
    · rcases ih with ih | ⟨i, j, a1, a2, a3, a4, a5⟩
      · exact Or.inl ih.symm
      · exact Or.inr ⟨j, i, a2, a1, a4, a3, a5.symm⟩
    · rcases ih with ih | ⟨i, j, a1, a2, a3, a4, a5⟩
      · rw [ih]; exact ih2
      · rcases ih2 with ih2 | ⟨k, l, b1, b2, b3, b4, b5⟩
        · rw [← ih2]; exact Or.inr ⟨i, j, a1, a2, a3, a4, a5⟩
        · exact Or.inr ⟨i, l, a1, b2, a3, b4, a5.trans ((sm j a2 k b1 ((h.1 j a2 k b1).mpr (by rw [← a4, ← b3]; exact .rf _))).trans b5)⟩
  refine ⟨fun i hi j hj => ⟨fun g => ?_, fun g => ?_⟩, fun i hi => ?_, fun q hq => ?_⟩
  · rw [hs i hi, hs j hj] at g
    by_cases gi : gr i = gr j0
    · rw [if_pos gi] at g
      by_cases gj : gr j = gr j0
      · exact up i hi j hj (gi.trans gj.symm)
      · rw [if_neg gj] at g; exact .tr (up i hi j0 h1 gi) (.tr (.sy ab) (up i0 h0 j hj g))
    · rw [if_neg gi] at g
      by_cases gj : gr j = gr j0
      · rw [if_pos gj] at g; exact .tr (up i hi i0 h0 g) (.tr ab (up j0 h1 j hj gj.symm))
      · rw [if_neg gj] at g; exact up i hi j hj g
  · rcases R g with g | ⟨k, l, a1, a2, a3, a4, a5⟩
    · exact sm i hi j hj ((h.1 i hi j hj).mpr (by rw [g]; exact .rf _))
    · exact (sm i hi k a1 ((h.1 i hi k a1).mpr (by rw [a3]; exact .rf _))).trans (a5.trans (sm l a2 j hj ((h.1 l a2 j hj).mpr (by rw [a4]; exact .rf _))))
  · rw [hs i hi]; split
    · exact h.2.1 i0 h0
    · exact h.2.1 i hi
  · rcases hq with hq | hq
    · exact h.2.2 q hq
    · subst hq; exact ⟨⟨i0, h0, e0⟩, j0, h1, e1⟩
/-- before another: lighter, or as heavy and of a lower number -/
def bef (T : Nat → Nat) (q f : Nat) : Prop := T q < T f ∨ (T q = T f ∧ q < f)
/-- a road's ends are joined by those before it -/
def chM (R : Nat → Prop) (T : Nat → Nat) (b e : Nat → Int32 × Int32) (f : Nat) : Prop := R f ∧ chE (fun q => R q ∧ bef T q f) b e (b f) (e f)
/-- those that were looked at stand before all others -/
def chD (R : Nat → Prop) (T : Nat → Nat) (D : Nat → Prop) : Prop := (∀ q, D q → R q) ∧ ∀ q p, D q → R p → ¬ D p → bef T q p
theorem chD_0 (R : Nat → Prop) (T : Nat → Nat) : chD R T (fun _ => False) := ⟨fun _ h => h.elim, fun _ _ h => h.elim⟩
theorem chD_s {R D : Nat → Prop} {T : Nat → Nat} {a ft : Nat} (h : chD R T D) (hR : ∀ q, R q → q < ft) (h1 : R a) (h2 : ¬ D a) (h3 : ∀ j, j < ft → R j → ¬ D j → T a < T j ∨ (T a = T j ∧ a ≤ j)) : chD R T (fun q => D q ∨ q = a) ∧ ∀ q, D q ↔ (R q ∧ bef T q a) := by
  refine ⟨⟨fun q hq => hq.elim (h.1 q) (fun g => by rw [g]; exact h1), fun q p hq hp hn => ?_⟩, fun q => ⟨fun hq => ⟨h.1 q hq, h.2 q a hq h1 h2⟩, fun hq => ?_⟩⟩
  · rcases hq with hq | hq
    · exact h.2 q p hq hp (fun g => hn (Or.inl g))
    · subst hq
      have := h3 p (hR p hp) hp (fun g => hn (Or.inl g))
      have hne : p ≠ q := fun g => hn (Or.inr g)
      unfold bef; omega
  · apply Classical.byContradiction
    intro hn
    have := h3 q (hR q hq.1) hq.1 hn
    have := hq.2
    unfold bef at this; omega
theorem chM_at {R D : Nat → Prop} {T : Nat → Nat} {b e : Nat → Int32 × Int32} {a : Nat} (h1 : R a) (h : ∀ q, D q ↔ (R q ∧ bef T q a)) : chM R T b e a ↔ chE D b e (b a) (e a) := by
  obtain rfl : D = fun q => R q ∧ bef T q a := funext fun q => propext (h q)
  exact ⟨fun g => g.2, fun g => ⟨h1, g⟩⟩
theorem cntP_all {P : Nat → Prop} : ∀ {n : Nat}, n ≤ cntP P n → ∀ q, q < n → P q := by
  intro n
  induction n with
  | zero => intro _ q hq; exact absurd hq (Nat.not_lt_zero _)
  | succ n ih =>
    intro h q hq
    have hb := cntP_b P n
    by_cases hn : P n
    · rw [cntP_y hn] at h
      rcases Nat.lt_or_ge q n with a | a
      · exact ih (by omega) q a
      · rw [show q = n by omega]; exact hn
    · rw [cntP_n hn] at h; omega
/-- a road's weight -/
def chW (rk mn cx cy : Nat → Int32) (f : Nat) : Nat := ((rk f).toInt.toNat + 1) * ln2 (cF40 cx f) (cF40 cy f) (nN (mn f) - 1)
theorem chW_e {rk mn cx cy : Nat → Int32} {f : Nat} (h : 0 ≤ (rk f).toInt ∧ (rk f).toInt ≤ 9) : jI (((rk f).toInt + 1) * ((ln2 (cF40 cx f) (cF40 cy f) (nN (mn f) - 1) : Nat) : Int)) = jI ((chW rk mn cx cy f : Nat) : Int) := by
  unfold chW; rw [Int.natCast_mul]; congr 2; omega
theorem chW_b {rk mn cx cy : Nat → Int32} {f : Nat} (h : 0 ≤ (rk f).toInt ∧ (rk f).toInt ≤ 9) (hw : wfM mn cx cy f) : chW rk mn cx cy f ≤ 780000 := by
  have h2 := ln2B hw.2.2 (nN (mn f) - 1) (by have := hw.2.1; omega)
  have h3 : (rk f).toInt.toNat + 1 ≤ 10 := by omega
  unfold chW
  have h4 : ln2 (cF40 cx f) (cF40 cy f) (nN (mn f) - 1) ≤ 78000 := by have := hw.2.1; omega
  calc _ ≤ 10 * 78000 := Nat.mul_le_mul h3 h4
    _ = 780000 := rfl
abbrev chB (cx cy : Nat → Int32) (f : Nat) : Int32 × Int32 := (cx (40 * f), cy (40 * f))
abbrev chL (mn cx cy : Nat → Int32) (f : Nat) : Int32 × Int32 := (cx (40 * f + nN (mn f) - 1), cy (40 * f + nN (mn f) - 1))
theorem ptE {a b c d : Int32} (h1 : a.toInt = c.toInt) (h2 : b.toInt = d.toInt) : (a, b) = (c, d) := by rw [Int32.toInt_inj.mp h1, Int32.toInt_inj.mp h2]
abbrev rdF (ft : Nat) (st tn kd : Nat → Int32) (q : Nat) : Prop := lvF ft st tn q ∧ (kd q).toInt = 3
theorem chI_ad {D : Nat → Prop} {b e : Nat → Int32 × Int32} {jx jy gr jx1 jy1 gr1 : Nat → Int32} {pc pc1 b9 : Nat} {px py : Int32} (h : chI D b e (fun i => (jx i, jy i)) gr pc) (hpc : pc < 1000) (h2 : (jx1 b9, jy1 b9) = (px, py)) (h3 : ∀ j, j < pc → jx1 j = jx j ∧ jy1 j = jy j ∧ gr1 j = gr j)
    (h4 : pc1 = pc ∨ (pc1 = pc + 1 ∧ b9 = pc ∧ gr1 pc = nI pc ∧ ∀ j, j < pc → ¬ ((jx j).toInt = px.toInt ∧ (jy j).toInt = py.toInt))) : chI D b e (fun i => (jx1 i, jy1 i)) gr1 pc1 := by
  have hP : ∀ i, i < pc → (fun i => (jx1 i, jy1 i)) i = (fun i => (jx i, jy i)) i ∧ gr1 i = gr i := fun i hi => ⟨by show (jx1 i, jy1 i) = (jx i, jy i); rw [(h3 i hi).1, (h3 i hi).2.1], (h3 i hi).2.2⟩
  rcases h4 with g | ⟨g1, g2, g3, g4⟩
  · subst g; exact chI_cg h (fun _ => Iff.rfl) hP
  · subst g1 g2
    refine chI_new h hpc hP g3 (fun i hi q => g4 i hi ?_)
    have q : (jx i, jy i) = (px, py) := q.trans h2
    rw [(Prod.mk.inj q).1, (Prod.mk.inj q).2]; exact ⟨rfl, rfl⟩
theorem chQ {D R : Nat → Prop} {T : Nat → Nat} {b e P : Nat → Int32 × Int32} {gr : Nat → Int32} {pc a i j : Nat} (hM : R a) (hd : ∀ q, D q ↔ (R q ∧ bef T q a)) (hc : chI D b e P gr pc) (hi : i < pc) (hj : j < pc) (ei : P i = b a) (ej : P j = e a) : chM R T b e a ↔ (gr i).toInt = (gr j).toInt := by
  rw [chM_at hM hd, ← ei, ← ej, ← hc.1 i hi j hj]; exact Int32.toInt_inj.symm
theorem chG_s {g2 gb : Nat → Int32} {A B x : Int32} {k : Nat} (h : ∀ j, j < k → g2 j = if gb j = B then A else gb j) (h2 : g2 k = gb k) (hx : ((g2 k).toInt = B.toInt ∧ x = A) ∨ (¬ (g2 k).toInt = B.toInt ∧ x = g2 k)) : ∀ j, j < k + 1 → upd g2 k x j = if gb j = B then A else gb j := by
  intro j hj
  rcases Nat.lt_or_ge j k with q | q
  · rw [show upd g2 k x j = g2 j from if_neg (by omega)]; exact h j q
  · obtain rfl : j = k := by omega
    rw [up_at]
    rcases hx with ⟨a, c⟩ | ⟨a, c⟩
    · rw [if_pos (by rw [← h2]; exact Int32.toInt_inj.mp a)]; exact c
    · rw [if_neg (by rw [← h2]; exact fun g => a (by rw [g])), c, h2]
theorem chT_s {R D : Nat → Prop} {m : Nat → Int32} {a ft : Nat} (h : ∀ j, j < ft → m j = pI (¬ R j ∨ D j)) : ∀ j, j < ft → upd m a 1 j = pI (¬ R j ∨ (D j ∨ j = a)) := by
  intro j hj
  by_cases e : j = a
  · rw [e, up_at]; exact (zp_t (Or.inr (Or.inr rfl))).symm
  · rw [show upd m a 1 j = m j from if_neg e, h j hj]; exact zp_iff ⟨fun g => g.elim Or.inl (fun g => Or.inr (Or.inl g)), fun g => g.elim Or.inl (fun g => g.elim Or.inr (fun g => absurd g e))⟩
theorem chK_s {M D : Nat → Prop} {m : Nat → Int32} {a ft : Nat} (h : ∀ j, j < ft → m j = pI (D j ∧ M j)) : ∀ j, j < ft → upd m a (pI (M a)) j = pI ((D j ∨ j = a) ∧ M j) := by
  intro j hj
  by_cases e : j = a
  · rw [e, up_at]; exact zp_iff ⟨fun g => ⟨Or.inr rfl, g⟩, fun g => g.2⟩
  · rw [show upd m a (pI (M a)) j = m j from if_neg e, h j hj]; exact zp_iff ⟨fun g => ⟨Or.inl g.1, g.2⟩, fun g => ⟨g.1.elim id (fun g => absurd g e), g.2⟩⟩
