/-! a feature, with all its numbers -/
def vwA (cI : ClassId) (L : List Nat) (f : Nat → va_E) (FA : Nat → Option Nat) (rk wd tw pa pb kd st gb it tn mn cx cy : Nat → Int32) (i : Nat) : Prop :=
  ∃ (fe lk lo : Nat) (we : Int32) (fm rv : Value), FA i = some fe ∧ (fe ∈ L ∧ f fe = .inr (1, [.int (rk i), .int (wd i), .int (tw i), .int (pa i), .int (pb i), .ref lo, .ref lk, fm])) ∧ (lk ∈ L ∧ f lk = .inr (4, [.int (kd i), .int (st i), rv, .int (gb i), .int (it i), .int we])) ∧
    (¬ (tn i).toInt = 0 → rv = .null) ∧ ((tn i).toInt = 0 → ∃ (r rx ry cap : Nat) (X Y : Nat → Int32) (rg : Int32), rv = .ref r ∧ rwA cI L f r rx ry (nN (mn i)) cap X Y rg ∧ rwR kd mn cx cy i cap X Y rg)
theorem vwA_2 {cI : ClassId} {L : List Nat} {f : Nat → va_E} {FA : Nat → Option Nat} {rk wd tw pa pb kd st gb it tn mn cx cy : Nat → Int32} {i : Nat} (h : vwA cI L f FA rk wd tw pa pb kd st gb it tn mn cx cy i) :
    (¬ (tn i).toInt = 0 ∧ ∃ (fe lk lo : Nat) (we : Int32) (fm : Value), FA i = some fe ∧ (fe ∈ L ∧ f fe = .inr (1, [.int (rk i), .int (wd i), .int (tw i), .int (pa i), .int (pb i), .ref lo, .ref lk, fm])) ∧ (lk ∈ L ∧ f lk = .inr (4, [.int (kd i), .int (st i), .null, .int (gb i), .int (it i), .int we]))) ∨
    ((tn i).toInt = 0 ∧ ∃ (fe lk lo : Nat) (we : Int32) (fm : Value) (r rx ry cap : Nat) (X Y : Nat → Int32) (rg : Int32), FA i = some fe ∧ (fe ∈ L ∧ f fe = .inr (1, [.int (rk i), .int (wd i), .int (tw i), .int (pa i), .int (pb i), .ref lo, .ref lk, fm])) ∧ (lk ∈ L ∧ f lk = .inr (4, [.int (kd i), .int (st i), .ref r, .int (gb i), .int (it i), .int we])) ∧ rwA cI L f r rx ry (nN (mn i)) cap X Y rg ∧ rwR kd mn cx cy i cap X Y rg) := by
  obtain ⟨fe, lk, lo, we, fm, rv, h1, h2, h3, h4, h5⟩ := h
  by_cases t0 : (tn i).toInt = 0
  · obtain ⟨r, rx, ry, cap, X, Y, rg, e, h6, h7⟩ := h5 t0
    subst e
    exact Or.inr ⟨t0, fe, lk, lo, we, fm, r, rx, ry, cap, X, Y, rg, h1, h2, h3, h6, h7⟩
  · have e := h4 t0
    subst e
    exact Or.inl ⟨t0, fe, lk, lo, we, fm, h1, h2, h3⟩
section
variable {cI cO : ClassId} {L : List Nat} {f : Nat → va_E} {own : Nat → Nat} {e0 ea n9 : Nat} {FA : Nat → Option Nat} {fe cl nw md sp : Nat → Nat} {la : Nat → Nat → Nat} {fm : Nat → Value} {SA : Nat → Option Nat} {bs dn T ft fN : Nat} {FT : Nat → Nat} {V : Nat → Nat → Nat → Int32} {VX VY : Nat → Nat → Int32} {tn rk wd tw pa pb wh of9 we kd st gb it mn cx cy : Nat → Int32}
theorem sh_va {cs : va_W} {q : Nat} (hF : FeA cI L f own fN fe nw cl fm rk wd tw pa pb) (hN : NwA cI L f own ft nw cl md kd st gb it tn mn cx cy) (hA : ∀ q, q < ft → FA q = some (fe q)) (hf : ft ≤ fN) (hq : q < ft) (hc : ∀ c ∈ cs, own c.1 / 8 ≠ q) : vwA cI (outPl L cs) f FA rk wd tw pa pb kd st gb it tn mn cx cy q := by
  have hg : ∀ g, g / 8 = q → ∀ c ∈ cs, own c.1 ≠ g := fun g hg c h1 e => hc c h1 (by rw [e]; exact hg)
  have t1 : glM (md q) q / 8 = q := by unfold glM; split <;> omega
  have t2 : grM (md q) q / 8 = q := by unfold grM; split <;> omega
  obtain ⟨lo, lx, ly, ln, LX, LY, f1, f2, f3⟩ := hF q (by omega)
  obtain ⟨we, rv, n1, n2, n3, n4, n5⟩ := hN q hq
  refine ⟨fe q, nw q, lo, nI we, fm q, rv, hA q hq, ce_pl (ce_out f1 (hg _ (by omega))), ce_pl (ce_out n1 (hg _ t1)), n4, fun h0 => ?_⟩
  obtain ⟨r, rx, ry, cap, X, Y, e, r1, r2, r3, r4, r5, r6⟩ := n5 h0
  refine ⟨r, rx, ry, cap, X, Y, rgK (kd q).toInt, e, ⟨ce_pl (ce_out r1.1 (hg _ t2)), ce_pl (ce_out r1.2.1 (hg _ t2)), ce_pl (ce_out r1.2.2.1 (hg _ t2)), r1.2.2.2⟩, r2, r3, rgK_01 _, ?_, r5⟩
  unfold rgK; split <;> rfl
theorem shB_va (h : shB cI cO L f e0 FA ea bs dn T ft FT V VX VY tn rk wd tw pa pb wh of9 we kd st gb it mn cx cy) : ∀ q, q < ft → vwA cI L f FA rk wd tw pa pb kd st gb it tn mn cx cy q := by
  obtain ⟨own, fe, cl, la, sp, SA, ⟨h1, h2, h3, h4, h5, h6, h7⟩, h8, h9⟩ := h
  intro q hq
  have := sh_va (cs := []) h1 h2 h7 h6.2.2.2.2.1 hq (fun c hc => by cases hc)
  rw [outPl_nil] at this
  exact this
theorem M_thf {q : Nat} {lo lx ly ln ln1 : Nat} {LX LY LX1 LY1 : Nat → Int32} {we9 we1 r rx ry cap n1 : Nat} {X Y X1 Y1 : Nat → Int32} {Xw : va_W} {mn1 cx1 cy1 : Nat → Int32} {L1 : List Nat} {f1 : Nat → va_E}
    (hG : shG cI cO L f e0 FA ea n9 own fe cl la nw md sp fm SA bs dn dn ft ft FT V VX VY tn rk wd tw pa pb wh of9 we kd st gb it mn cx cy) (hM : mdA dn ft FT la nw md fm V kd st gb it) (hm : md q = 1) (hq : q < ft) (ht : (tn q).toInt = 0) (hbd : 1 ≤ (kd q).toInt ∧ (kd q).toInt ≤ 5)
    (hc : fcA cI L f own q (8 * q + 4) (8 * q + 5) (fe q) (nw q) (cl q) (.ref (la dn q)) (rk q) (wd q) (tw q) (pa q) (pb q) (kd q) (st q) (gb q) (it q) (nN (mn q)) (cF40 cx q) (cF40 cy q) lo lx ly ln LX LY we9 r rx ry cap X Y)
    (hp : pinD L f Xw [(fe q, .inr (1, [.int (rk q), .int (wd q), .int (tw q), .int (pa q), .int (pb q), .ref lo, .ref (nw q), .ref (la dn q)])), (nw q, .inr (4, [.int (kd q), .int (st q), .ref r, .int (gb q), .int (it q), .int (nI we1)])), (r, .inr (6, [.ref rx, .ref ry, .int (nI n1), .int (rgK (kd q).toInt)])), (rx, .inl (cI, cap, .inl X1)), (ry, .inl (cI, cap, .inl Y1)), (lo, .inr (6, [.ref lx, .ref ly, .int (nI ln1), .int 0])), (lx, .inl (cI, cl q, .inl LX1)), (ly, .inl (cI, cl q, .inl LY1))] []
      [(fe q, .inr (1, [.int (rk q), .int (wd q), .int (tw q), .int (pa q), .int (pb q), .ref lo, .ref (nw q), .ref (la dn q)])), (nw q, .inr (4, [.int (kd q), .int (st q), .ref r, .int (gb q), .int (it q), .int (nI we1)])), (r, .inr (6, [.ref rx, .ref ry, .int (nI n1), .int (rgK (kd q).toInt)])), (rx, .inl (cI, cap, .inl X1)), (ry, .inl (cI, cap, .inl Y1)), (lo, .inr (6, [.ref lx, .ref ly, .int (nI ln1), .int 0])), (lx, .inl (cI, cl q, .inl LX1)), (ly, .inl (cI, cl q, .inl LY1))] L1 f1)
    (ho : othS q kd st gb it mn cx cy kd st gb it mn1 cx1 cy1) (hn1 : nN (mn1 q) = n1) (hX1 : ∀ k, k < n1 → X1 k = cF40 cx1 q k ∧ Y1 k = cF40 cy1 q k) (hcap : n1 ≤ cap ∧ we1 + n1 ≤ 40) (hln : ln1 ≤ cl q) :
    ∃ (own1 nw1 md1 : Nat → Nat) (fm1 : Nat → Value), shG cI cO L1 f1 e0 FA ea n9 own1 fe cl la nw1 md1 sp fm1 SA bs dn dn ft ft FT V VX VY tn rk wd tw pa pb wh of9 we kd st gb it mn1 cx1 cy1 ∧ mdA dn ft FT la nw1 md1 fm1 V kd st gb it ∧ md1 = upN md q 1 := by
  obtain ⟨hfr, hkp, hce, hsx, hpw⟩ := hp
  obtain ⟨⟨a1, a2, ⟨a3, a4, a5, a6⟩, ⟨a7, a8, a9, a10⟩⟩, b1, b2, b3, b4, b5⟩ := hc
  have hmq := (hM q hq).2 (by omega)
  have hk := hkp own own (notQ q) (fun _ _ => rfl) ⟨fun _ h => absurd a1.2.2 h.1, fun _ h => absurd a2.2.2 h.2.2.1, fun _ h => absurd a3.2.2 h.2.2.2, fun _ h => absurd a4.2.2 h.2.2.2, fun _ h => absurd a5.2.2 h.2.2.2, fun _ h => absurd a7.2.2 h.2.1, fun _ h => absurd a8.2.2 h.2.1, fun _ h => absurd a9.2.2 h.2.1, trivial⟩
  have hfe : feG cI L1 f1 own q (fe q) (nw q) (cl q) (.ref (la dn q)) (rk q) (wd q) (tw q) (pa q) (pb q) := ⟨lo, lx, ly, ln1, LX1, LY1, hce _ 0 _ _ _ rfl a1.2.2, ⟨hce _ 5 _ _ _ rfl a7.2.2, hce _ 6 _ _ _ rfl a8.2.2, hce _ 7 _ _ _ rfl a9.2.2, a10⟩, hln, b1.2⟩
  have hlk : lkG cI L1 f1 own (glM 1 q) (grM 1 q) (nw q) (cl q) (kd q) (st q) (gb q) (it q) (tn q) (nN (mn1 q)) (cF40 cx1 q) (cF40 cy1 q) := by
    rw [hn1]
    exact ⟨we1, .ref r, hce _ 1 _ _ _ rfl a2.2.2, by omega, fun g => (b5 g).1, fun g => absurd ht g, fun _ => ⟨r, rx, ry, cap, X1, Y1, rfl, ⟨hce _ 2 _ _ _ rfl a3.2.2, hce _ 3 _ _ _ rfl a4.2.2, hce _ 4 _ _ _ rfl a5.2.2, a6⟩, hcap.1, b2.2.1, fun g => absurd g hmq.2.2.2, hX1, fun _ => hcap.2⟩⟩
  have hres := M_new (m := 1) (nq := nw q) hG hM hk hfe hlk ho (by decide) hq hmq.2.1 hmq.2.2.1 hmq.2.2.2
  exact ⟨_, _, _, _, hres.1, hres.2, rfl⟩
end
theorem vwA_3 {cI : ClassId} {L : List Nat} {f : Nat → va_E} {FA : Nat → Option Nat} {rk wd tw pa pb kd st gb it tn mn cx cy : Nat → Int32} {i : Nat} {P9 : Prop} (h : vwA cI L f FA rk wd tw pa pb kd st gb it tn mn cx cy i) :
    (¬ (tn i).toInt = 0 ∧ ∃ (fe lk lo : Nat) (we : Int32) (fm : Value), FA i = some fe ∧ (fe ∈ L ∧ f fe = .inr (1, [.int (rk i), .int (wd i), .int (tw i), .int (pa i), .int (pb i), .ref lo, .ref lk, fm])) ∧ (lk ∈ L ∧ f lk = .inr (4, [.int (kd i), .int (st i), .null, .int (gb i), .int (it i), .int we]))) ∨
    ((tn i).toInt = 0 ∧ P9 ∧ ∃ (fe lk lo : Nat) (we : Int32) (fm : Value) (r rx ry cap : Nat) (X Y : Nat → Int32) (rg : Int32), FA i = some fe ∧ (fe ∈ L ∧ f fe = .inr (1, [.int (rk i), .int (wd i), .int (tw i), .int (pa i), .int (pb i), .ref lo, .ref lk, fm])) ∧ (lk ∈ L ∧ f lk = .inr (4, [.int (kd i), .int (st i), .ref r, .int (gb i), .int (it i), .int we])) ∧ rwA cI L f r rx ry (nN (mn i)) cap X Y rg ∧ rwR kd mn cx cy i cap X Y rg) ∨
    ((tn i).toInt = 0 ∧ ¬ P9 ∧ ∃ (fe lk lo : Nat) (we : Int32) (fm : Value) (r rx ry cap : Nat) (X Y : Nat → Int32) (rg : Int32), FA i = some fe ∧ (fe ∈ L ∧ f fe = .inr (1, [.int (rk i), .int (wd i), .int (tw i), .int (pa i), .int (pb i), .ref lo, .ref lk, fm])) ∧ (lk ∈ L ∧ f lk = .inr (4, [.int (kd i), .int (st i), .ref r, .int (gb i), .int (it i), .int we])) ∧ rwA cI L f r rx ry (nN (mn i)) cap X Y rg ∧ rwR kd mn cx cy i cap X Y rg) := by
  rcases vwA_2 h with g | ⟨t0, g⟩
  · exact Or.inl g
  · by_cases p : P9
    · exact Or.inr (Or.inl ⟨t0, p, g⟩)
    · exact Or.inr (Or.inr ⟨t0, p, g⟩)
