/-! how the class's cells stand for a state and its history -/
def glM (md q : Nat) : Nat := if md = 0 then 8 * q + 2 else 8 * q + 4
def grM (md q : Nat) : Nat := if md = 1 then 8 * q + 5 else 8 * q + 3
def FeA (cI : ClassId) (L : List Nat) (f : Nat → va_E) (own : Nat → Nat) (fN : Nat) (fe nw cl : Nat → Nat) (fm : Nat → Value) (rk wd tw pa pb : Nat → Int32) : Prop :=
  ∀ q, q < fN → feG cI L f own q (fe q) (nw q) (cl q) (fm q) (rk q) (wd q) (tw q) (pa q) (pb q)
def NwA (cI : ClassId) (L : List Nat) (f : Nat → va_E) (own : Nat → Nat) (ft : Nat) (nw cl md : Nat → Nat) (kd st gb it tn mn cx cy : Nat → Int32) : Prop :=
  ∀ q, q < ft → lkG cI L f own (glM (md q) q) (grM (md q) q) (nw q) (cl q) (kd q) (st q) (gb q) (it q) (tn q) (nN (mn q)) (cF40 cx q) (cF40 cy q)
def HiA (cI : ClassId) (L : List Nat) (f : Nat → va_E) (own : Nat → Nat) (bs T dn : Nat) (FT : Nat → Nat) (la : Nat → Nat → Nat) (cl : Nat → Nat) (V : Nat → Nat → Nat → Int32) (VX VY : Nat → Nat → Int32) (tn : Nat → Int32) : Prop :=
  ∀ t, bs ≤ t → t ≤ T → ∀ q, q < FT t → (¬ (V t 1 q).toInt = 0 → lkG cI L f own (8 * q + 2) (8 * q + 3) (la t q) (cl q) (V t 0 q) (V t 1 q) (V t 2 q) (V t 3 q) (tn q) (nN (V t 4 q)) (cF40 (VX t) q) (cF40 (VY t) q)) ∧
    (((V t 1 q).toInt = 0 ∨ (q < FT dn ∧ (V dn 1 q).toInt = 0)) → la t q = la dn q ∧ q < FT bs ∧ V t 0 q = V dn 0 q ∧ V t 1 q = V dn 1 q ∧ V t 2 q = V dn 2 q ∧ V t 3 q = V dn 3 q)
def StA (L : List Nat) (f : Nat → va_E) (own : Nat → Nat) (bs T fN : Nat) (FT fe : Nat → Nat) (la : Nat → Nat → Nat) (sp : Nat → Nat) (SA : Nat → Option Nat) (wh of9 we : Nat → Int32) : Prop :=
  ∀ t, 1 ≤ t → t ≤ T → SA (t - 1) = some (sp t) ∧ ∃ (mv ch : Value), ce L f own 8001 (sp t) (.inr (11, [.int (wh t), .int (of9 t), .int (we t), mv, ch])) ∧
    (bs < t → (∃ qs : List Nat, chn L f own fe (la (t - 1)) (la t) ch qs ∧ (∀ q ∈ qs, q < FT (t - 1)) ∧ ∀ q, q < fN → q ∉ qs → la (t - 1) q = la t q) ∧ ((FT t = FT (t - 1) ∧ mv = .null) ∨ (FT t = FT (t - 1) + 1 ∧ mv = .ref (fe (FT (t - 1))))))
def LsA (cO : ClassId) (L : List Nat) (f : Nat → va_E) (own : Nat → Nat) (e0 ea n9 : Nat) (SA : Nat → Option Nat) : Prop :=
  (ea = e0 ∧ n9 = 0) ∨ ∃ cap : Nat, ce L f own 8002 ea (.inl (cO, cap, .inr (.inr (.inr (.inr SA))))) ∧ n9 ≤ cap ∧ 10 ≤ cap ∧ cap ≤ 1000 ∧ ∀ i, i < n9 → ∃ (y : Nat) (vs : List Value), SA i = some y ∧ ce L f own 8001 y (.inr (11, vs))
def NmA (bs dn T ft fN : Nat) (FT : Nat → Nat) : Prop := bs ≤ dn ∧ dn ≤ T ∧ T ≤ 512 ∧ (∀ t, bs ≤ t → t ≤ T → FT t ≤ fN) ∧ ft ≤ fN ∧ fN ≤ 200
/-- the state at position dn is the state now -/
def HiD (dn ft : Nat) (V : Nat → Nat → Nat → Int32) (VX VY : Nat → Nat → Int32) (kd st gb it tn mn cx cy : Nat → Int32) : Prop :=
  ∀ q, q < ft → V dn 0 q = kd q ∧ V dn 1 q = st q ∧ V dn 2 q = gb q ∧ V dn 3 q = it q ∧ (¬ (st q).toInt = 0 → (tn q).toInt = 0 → nN (V dn 4 q) = nN (mn q) ∧ ∀ k, k < nN (mn q) → cF40 (VX dn) q k = cF40 cx q k ∧ cF40 (VY dn) q k = cF40 cy q k)
/-- all of it, with the names of the cells; n9: how many steps the list holds -/
def shG (cI cO : ClassId) (L : List Nat) (f : Nat → va_E) (e0 : Nat) (FA : Nat → Option Nat) (ea n9 : Nat) (own fe cl : Nat → Nat) (la : Nat → Nat → Nat) (nw md sp : Nat → Nat) (fm : Nat → Value) (SA : Nat → Option Nat)
    (bs dn T ft fN : Nat) (FT : Nat → Nat) (V : Nat → Nat → Nat → Int32) (VX VY : Nat → Nat → Int32) (tn rk wd tw pa pb wh of9 we kd st gb it mn cx cy : Nat → Int32) : Prop :=
  FeA cI L f own fN fe nw cl fm rk wd tw pa pb ∧ NwA cI L f own ft nw cl md kd st gb it tn mn cx cy ∧ HiA cI L f own bs T dn FT la cl V VX VY tn ∧ StA L f own bs T fN FT fe la sp SA wh of9 we ∧ LsA cO L f own e0 ea n9 SA ∧ NmA bs dn T ft fN FT ∧ ∀ q, q < ft → FA q = some (fe q)
/-- between two calls -/
def shB (cI cO : ClassId) (L : List Nat) (f : Nat → va_E) (e0 : Nat) (FA : Nat → Option Nat) (ea : Nat) (bs dn T ft : Nat) (FT : Nat → Nat) (V : Nat → Nat → Nat → Int32) (VX VY : Nat → Nat → Int32) (tn rk wd tw pa pb wh of9 we kd st gb it mn cx cy : Nat → Int32) : Prop :=
  ∃ (own fe cl : Nat → Nat) (la : Nat → Nat → Nat) (sp : Nat → Nat) (SA : Nat → Option Nat), shG cI cO L f e0 FA ea T own fe cl la (la dn) (fun _ => 0) sp (fun _ => .null) SA bs dn T ft (FT T) FT V VX VY tn rk wd tw pa pb wh of9 we kd st gb it mn cx cy ∧ HiD dn ft V VX VY kd st gb it tn mn cx cy ∧ ft = FT dn
/-- in a step: how it stood at dn is kept; md says which features have changed -/
def mdA (dn ft : Nat) (FT : Nat → Nat) (la : Nat → Nat → Nat) (nw md : Nat → Nat) (fm : Nat → Value) (V : Nat → Nat → Nat → Int32) (kd st gb it : Nat → Int32) : Prop :=
  ∀ q, q < ft → (md q = 0 → fm q = .null ∧ nw q = la dn q ∧ (q < FT dn → V dn 0 q = kd q ∧ V dn 1 q = st q ∧ V dn 2 q = gb q ∧ V dn 3 q = it q)) ∧ (¬ md q = 0 → fm q = .ref (la dn q) ∧ q < FT dn ∧ ¬ (V dn 1 q).toInt = 0 ∧ ¬ (st q).toInt = 0)
def shM (cI cO : ClassId) (L : List Nat) (f : Nat → va_E) (e0 : Nat) (FA : Nat → Option Nat) (ea n9 : Nat) (md : Nat → Nat) (bs dn ft : Nat) (FT : Nat → Nat) (V : Nat → Nat → Nat → Int32) (VX VY : Nat → Nat → Int32) (tn rk wd tw pa pb wh of9 we kd st gb it mn cx cy : Nat → Int32) : Prop :=
  ∃ (own fe cl : Nat → Nat) (la : Nat → Nat → Nat) (nw sp : Nat → Nat) (fm : Nat → Value) (SA : Nat → Option Nat), shG cI cO L f e0 FA ea n9 own fe cl la nw md sp fm SA bs dn dn ft ft FT V VX VY tn rk wd tw pa pb wh of9 we kd st gb it mn cx cy ∧ mdA dn ft FT la nw md fm V kd st gb it ∧ dn ≤ n9 ∧ n9 ≤ 512 ∧ (ft = FT dn ∨ ft = FT dn + 1)
section
variable {P : Nat → Prop} {cI cO : ClassId} {L L1 : List Nat} {f f1 : Nat → va_E} {own own1 : Nat → Nat} {e0 ea n9 : Nat} {FA : Nat → Option Nat} {fe cl nw md sp : Nat → Nat} {la : Nat → Nat → Nat} {fm : Nat → Value} {SA : Nat → Option Nat} {bs dn T ft fN : Nat} {FT : Nat → Nat} {V : Nat → Nat → Nat → Int32} {VX VY : Nat → Nat → Int32} {tn rk wd tw pa pb wh of9 we kd st gb it mn cx cy : Nat → Int32}
theorem FeA_kp (h : kpT P L f own L1 f1 own1) (hp : ∀ q, q < fN → P (8 * q) ∧ P (8 * q + 1)) (hf : FeA cI L f own fN fe nw cl fm rk wd tw pa pb) : FeA cI L1 f1 own1 fN fe nw cl fm rk wd tw pa pb := fun q hq => feG_kp h (hp q hq).1 (hp q hq).2 (hf q hq)
theorem NwA_kp (h : kpT P L f own L1 f1 own1) (hp : ∀ q, q < ft → P (glM (md q) q) ∧ P (grM (md q) q)) (hf : NwA cI L f own ft nw cl md kd st gb it tn mn cx cy) : NwA cI L1 f1 own1 ft nw cl md kd st gb it tn mn cx cy := fun q hq => lkG_kp h (hp q hq).1 (hp q hq).2 (hf q hq)
theorem HiA_kp (h : kpT P L f own L1 f1 own1) (hp : ∀ t q, bs ≤ t → t ≤ T → q < FT t → P (8 * q + 2) ∧ P (8 * q + 3)) (hf : HiA cI L f own bs T dn FT la cl V VX VY tn) : HiA cI L1 f1 own1 bs T dn FT la cl V VX VY tn := fun t h1 h2 q hq =>
  ⟨fun h3 => lkG_kp h (hp t q h1 h2 hq).1 (hp t q h1 h2 hq).2 ((hf t h1 h2 q hq).1 h3), (hf t h1 h2 q hq).2⟩
theorem StA_kp (h : kpT P L f own L1 f1 own1) (hp : P 8003 ∧ P 8001) (hf : StA L f own bs T fN FT fe la sp SA wh of9 we) : StA L1 f1 own1 bs T fN FT fe la sp SA wh of9 we := fun t h1 h2 => by
  obtain ⟨g1, mv, ch, g2, g3⟩ := hf t h1 h2
  refine ⟨g1, mv, ch, h _ _ _ hp.2 g2, fun h3 => ?_⟩
  obtain ⟨⟨qs, g4, g5⟩, g6⟩ := g3 h3
  exact ⟨⟨qs, chn_kp h hp.1 g4, g5⟩, g6⟩
theorem LsA_kp (h : kpT P L f own L1 f1 own1) (hp : P 8001 ∧ P 8002) (hf : LsA cO L f own e0 ea n9 SA) : LsA cO L1 f1 own1 e0 ea n9 SA := by
  rcases hf with g | ⟨cap, g1, g2, g3, g4, g5⟩
  · exact Or.inl g
  · refine Or.inr ⟨cap, h _ _ _ hp.2 g1, g2, g3, g4, fun i hi => ?_⟩
    obtain ⟨y, vs, h1, h2⟩ := g5 i hi
    exact ⟨y, vs, h1, h _ _ _ hp.1 h2⟩
theorem StA_mono (h4 : StA L f own bs T fN FT fe la sp SA wh of9 we) : ∀ k t, bs ≤ t → t + k ≤ T → FT t ≤ FT (t + k) := by
  intro k
  induction k with
  | zero => intro t _ _; exact Nat.le_refl _
  | succ k ih =>
    intro t t1 t2
    have h5 := ih t t1 (by omega)
    obtain ⟨_, mv, ch, _, g⟩ := h4 (t + k + 1) (by omega) (by omega)
    have h6 := (g (by omega)).2
    rw [show t + k + 1 - 1 = t + k by omega] at h6
    rw [show t + (k + 1) = t + k + 1 by omega]
    omega
theorem StA_le (h4 : StA L f own bs T fN FT fe la sp SA wh of9 we) {t u : Nat} (h1 : bs ≤ t) (h2 : t ≤ u) (h3 : u ≤ T) : FT t ≤ FT u := by
  have := StA_mono h4 (u - t) t h1 (by omega)
  rw [show t + (u - t) = u by omega] at this; exact this
/-- the history behind a position may be forgotten -/
theorem StA_sub {T1 fN1 : Nat} (h : StA L f own bs T fN FT fe la sp SA wh of9 we) (h1 : T1 ≤ T) (h2 : fN1 ≤ fN) : StA L f own bs T1 fN1 FT fe la sp SA wh of9 we := by
  intro t t1 t2
  obtain ⟨g1, mv, ch, g2, g3⟩ := h t t1 (by omega)
  refine ⟨g1, mv, ch, g2, fun hb => ?_⟩
  obtain ⟨⟨qs, g4, g5, g6⟩, g7⟩ := g3 hb
  exact ⟨⟨qs, g4, g5, fun q hq hn => g6 q (by omega) hn⟩, g7⟩
/-- what others see of a feature -/
theorem sh_vw {cs : va_W} {q : Nat} (hF : FeA cI L f own fN fe nw cl fm rk wd tw pa pb) (hN : NwA cI L f own ft nw cl md kd st gb it tn mn cx cy) (hA : ∀ q, q < ft → FA q = some (fe q)) (hf : ft ≤ fN) (hq : q < ft) (hc : ∀ c ∈ cs, own c.1 / 8 ≠ q) : vwO cI (outPl L cs) f FA kd st tn mn cx cy q := by
  have hg : ∀ g, g / 8 = q → ∀ c ∈ cs, own c.1 ≠ g := fun g hg c h1 e => hc c h1 (by rw [e]; exact hg)
  have t1 : glM (md q) q / 8 = q := by unfold glM; split <;> omega
  have t2 : grM (md q) q / 8 = q := by unfold grM; split <;> omega
  obtain ⟨lo, lx, ly, ln, LX, LY, f1, f2, f3⟩ := hF q (by omega)
  have f1 := ce_out f1 (hg _ (by omega))
  obtain ⟨we, rv, n1, n2, n3, n4, n5⟩ := hN q hq
  have n1 := ce_out n1 (hg _ t1)
  have hfa := hA q hq
  refine ⟨⟨fe q, nw q, lo, rk q, wd q, tw q, pa q, pb q, gb q, it q, nI we, fm q, rv, hfa, ce_pl f1, ce_pl n1⟩, fun h0 => ?_, fun h0 => ?_⟩
  · have e := n4 h0
    subst e
    exact ⟨fe q, nw q, lo, rk q, wd q, tw q, pa q, pb q, gb q, it q, nI we, fm q, hfa, ce_pl f1, ce_pl n1⟩
  · obtain ⟨r, rx, ry, cap, X, Y, e, r1, r2, r3, r4, r5, r6⟩ := n5 h0
    subst e
    refine ⟨fe q, nw q, lo, rk q, wd q, tw q, pa q, pb q, gb q, it q, nI we, fm q, r, rx, ry, cap, X, Y, rgK (kd q).toInt, hfa, ce_pl f1, ce_pl n1, ⟨ce_pl (ce_out r1.1 (hg _ t2)), ce_pl (ce_out r1.2.1 (hg _ t2)), ce_pl (ce_out r1.2.2.1 (hg _ t2)), r1.2.2.2⟩, r2, r3, rgK_01 _, ?_, r5⟩
    unfold rgK; split <;> rfl
theorem outPl_nil : outPl L [] = L := by unfold outPl; simp
theorem shB_vw (h : shB cI cO L f e0 FA ea bs dn T ft FT V VX VY tn rk wd tw pa pb wh of9 we kd st gb it mn cx cy) : ∀ q, q < ft → vwO cI L f FA kd st tn mn cx cy q := by
  obtain ⟨own, fe, cl, la, sp, SA, ⟨h1, h2, h3, h4, h5, h6, h7⟩, h8, h9⟩ := h
  intro q hq
  have := sh_vw (cs := []) h1 h2 h7 h6.2.2.2.2.1 hq (fun c hc => by cases hc)
  rw [outPl_nil] at this
  exact this
/-- a step begins: what was undone is forgotten -/
theorem shM_0 (h : shB cI cO L f e0 FA ea bs dn T ft FT V VX VY tn rk wd tw pa pb wh of9 we kd st gb it mn cx cy) : shM cI cO L f e0 FA ea T (fun _ => 0) bs dn ft FT V VX VY tn rk wd tw pa pb wh of9 we kd st gb it mn cx cy := by
  obtain ⟨own, fe, cl, la, sp, SA, ⟨h1, h2, h3, h4, h5, ⟨m1, m2, m3, m4, m5, m6⟩, h7⟩, h8, h9⟩ := h
  refine ⟨own, fe, cl, la, la dn, sp, fun _ => .null, SA, ⟨fun q hq => h1 q (by omega), h2, fun t t1 t2 => h3 t t1 (by omega), ?_, h5, ⟨m1, Nat.le_refl _, by omega, ?_, Nat.le_refl _, by omega⟩, h7⟩, fun q hq => ⟨fun _ => ⟨rfl, rfl, fun _ => ?_⟩, fun g => absurd rfl g⟩, m2, m3, Or.inl h9⟩
  · exact StA_sub h4 m2 (by rw [h9]; exact StA_le h4 m1 m2 (Nat.le_refl _))
  · exact fun t t1 t2 => by rw [h9]; exact StA_le h4 t1 t2 m2
  · have := h8 q hq; exact ⟨this.1, this.2.1, this.2.2.1, this.2.2.2.1⟩
end
