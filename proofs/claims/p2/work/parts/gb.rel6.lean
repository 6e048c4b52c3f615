/-! one feature out of the pool, and back -/
section
variable {cI cO : ClassId} {L L1 : List Nat} {f f1 : Nat → va_E} {own own1 : Nat → Nat} {e0 ea n9 : Nat} {FA : Nat → Option Nat} {fe cl nw md sp : Nat → Nat} {la : Nat → Nat → Nat} {fm : Nat → Value} {SA : Nat → Option Nat} {bs dn T ft fN : Nat} {FT : Nat → Nat} {V : Nat → Nat → Nat → Int32} {VX VY : Nat → Nat → Int32} {tn rk wd tw pa pb wh of9 we kd st gb it mn cx cy kd1 st1 gb1 it1 mn1 cx1 cy1 : Nat → Int32}
theorem M_0 (h : shG cI cO L f e0 FA ea T own fe cl la (la dn) (fun _ => 0) sp (fun _ => .null) SA bs dn T ft (FT T) FT V VX VY tn rk wd tw pa pb wh of9 we kd st gb it mn cx cy) (h8 : HiD dn ft V VX VY kd st gb it tn mn cx cy) (h9 : ft = FT dn) :
    shG cI cO L f e0 FA ea T own fe cl la (la dn) (fun _ => 0) sp (fun _ => .null) SA bs dn dn ft ft FT V VX VY tn rk wd tw pa pb wh of9 we kd st gb it mn cx cy ∧ mdA dn ft FT la (la dn) (fun _ => 0) (fun _ => .null) V kd st gb it ∧ dn ≤ T ∧ T ≤ 512 := by
  obtain ⟨h1, h2, h3, h4, h5, ⟨m1, m2, m3, m4, m5, m6⟩, h7⟩ := h
  refine ⟨⟨fun q hq => h1 q (by omega), h2, fun t t1 t2 => h3 t t1 (by omega), StA_sub h4 m2 (by rw [h9]; exact StA_le h4 m1 m2 (Nat.le_refl _)), h5, ⟨m1, Nat.le_refl _, by omega, fun t t1 t2 => by rw [h9]; exact StA_le h4 t1 t2 m2, Nat.le_refl _, by omega⟩, h7⟩, fun q hq => ⟨fun _ => ⟨rfl, rfl, fun _ => ?_⟩, fun g => absurd rfl g⟩, m2, m3⟩
  have := h8 q hq; exact ⟨this.1, this.2.1, this.2.2.1, this.2.2.2.1⟩
/-- a feature that is not torn: its cells; gl, gr: whose look and row are -/
def fcA (cI : ClassId) (L : List Nat) (f : Nat → va_E) (own : Nat → Nat) (q gl gr fq nq cq : Nat) (fv : Value) (rk wd tw pa pb kd st gb it : Int32) (n : Nat) (C D : Nat → Int32) (lo lx ly ln : Nat) (LX LY : Nat → Int32) (we r rx ry cap : Nat) (X Y : Nat → Int32) : Prop :=
  (ce L f own (8 * q) fq (.inr (1, [.int rk, .int wd, .int tw, .int pa, .int pb, .ref lo, .ref nq, fv])) ∧ ce L f own gl nq (.inr (4, [.int kd, .int st, .ref r, .int gb, .int it, .int (nI we)])) ∧ rwG cI L f own gr r rx ry n cap X Y (rgK kd.toInt) ∧ rwG cI L f own (8 * q + 1) lo lx ly ln cq LX LY 0) ∧
  (ln ≤ cq ∧ 1 ≤ cq ∧ cq ≤ 40) ∧ (n ≤ cap ∧ cap ≤ 40 ∧ we ≤ 40) ∧ (st.toInt = 0 → cap = (if kd.toInt = 0 then 1 else 40) ∧ we = 0) ∧ (∀ k, k < n → X k = C k ∧ Y k = D k) ∧ ((1 ≤ kd.toInt ∧ kd.toInt ≤ 5) → cq = 40 ∧ we + n ≤ 40)
theorem sh_fc {q : Nat} (hF : FeA cI L f own fN fe nw cl fm rk wd tw pa pb) (hN : NwA cI L f own ft nw cl md kd st gb it tn mn cx cy) (hf : ft ≤ fN) (hq : q < ft) (ht : (tn q).toInt = 0) : ∃ (lo lx ly ln : Nat) (LX LY : Nat → Int32) (we r rx ry cap : Nat) (X Y : Nat → Int32), fcA cI L f own q (glM (md q) q) (grM (md q) q) (fe q) (nw q) (cl q) (fm q) (rk q) (wd q) (tw q) (pa q) (pb q) (kd q) (st q) (gb q) (it q) (nN (mn q)) (cF40 cx q) (cF40 cy q) lo lx ly ln LX LY we r rx ry cap X Y := by
  obtain ⟨lo, lx, ly, ln, LX, LY, h1, h2, h3⟩ := hF q (by omega)
  obtain ⟨we, rv, n1, n2, n3, n4, n5⟩ := hN q hq
  obtain ⟨r, rx, ry, cap, X, Y, e, r1, r2, r3, r4, r5, r6⟩ := n5 ht
  subst e
  exact ⟨lo, lx, ly, ln, LX, LY, we, r, rx, ry, cap, X, Y, ⟨h1, n1, r1, h2⟩, h3, ⟨r2, r3, n2⟩, r4, r5, fun g => ⟨n3 g, r6 g⟩⟩
theorem fc_0 {q : Nat} {fq nq cq : Nat} {fv : Value} {rk wd tw pa pb kd st gb it : Int32} {n : Nat} {C D : Nat → Int32} {lo lx ly ln : Nat} {LX LY : Nat → Int32} {we r rx ry cap : Nat} {X Y : Nat → Int32} (h : fcA cI L f own q (glM 0 q) (grM 0 q) fq nq cq fv rk wd tw pa pb kd st gb it n C D lo lx ly ln LX LY we r rx ry cap X Y) : fcA cI L f own q (8 * q + 2) (8 * q + 3) fq nq cq fv rk wd tw pa pb kd st gb it n C D lo lx ly ln LX LY we r rx ry cap X Y := h
theorem fc_1 {q m : Nat} {fq nq cq : Nat} {fv : Value} {rk wd tw pa pb kd st gb it : Int32} {n : Nat} {C D : Nat → Int32} {lo lx ly ln : Nat} {LX LY : Nat → Int32} {we r rx ry cap : Nat} {X Y : Nat → Int32} (hm : m = 1) (h : fcA cI L f own q (glM m q) (grM m q) fq nq cq fv rk wd tw pa pb kd st gb it n C D lo lx ly ln LX LY we r rx ry cap X Y) : fcA cI L f own q (8 * q + 4) (8 * q + 5) fq nq cq fv rk wd tw pa pb kd st gb it n C D lo lx ly ln LX LY we r rx ry cap X Y := by subst hm; exact h
/-- the eight cells are apart -/
theorem pw8 {q gl gr fq nq cq : Nat} {fv : Value} {rk wd tw pa pb kd st gb it : Int32} {n : Nat} {C D : Nat → Int32} {lo lx ly ln : Nat} {LX LY : Nat → Int32} {we r rx ry cap : Nat} {X Y : Nat → Int32} {x1 x2 x3 x4 x5 x6 x7 x8 : va_E} (h : fcA cI L f own q gl gr fq nq cq fv rk wd tw pa pb kd st gb it n C D lo lx ly ln LX LY we r rx ry cap X Y) (hg : gr ≠ 8 * q + 1) :
    List.Pairwise (fun p q : Nat × va_E => p.1 ≠ q.1) [(fq, x1), (nq, x2), (r, x3), (rx, x4), (ry, x5), (lo, x6), (lx, x7), (ly, x8)] := by
  obtain ⟨⟨a1, a2, ⟨a3, a4, a5, a6⟩, ⟨a7, a8, a9, a10⟩⟩, _⟩ := h
  have b1 := cl_ne a1.2.1 a2.2.1 (by decide); have b2 := cl_ne a1.2.1 a3.2.1 (by decide); have b3 := ca_ne a1.2.1 a4.2.1; have b4 := ca_ne a1.2.1 a5.2.1; have b5 := cl_ne a1.2.1 a7.2.1 (by decide); have b6 := ca_ne a1.2.1 a8.2.1; have b7 := ca_ne a1.2.1 a9.2.1
  have c1 := cl_ne a2.2.1 a3.2.1 (by decide); have c2 := ca_ne a2.2.1 a4.2.1; have c3 := ca_ne a2.2.1 a5.2.1; have c4 := cl_ne a2.2.1 a7.2.1 (by decide); have c5 := ca_ne a2.2.1 a8.2.1; have c6 := ca_ne a2.2.1 a9.2.1
  have d1 := ca_ne a3.2.1 a4.2.1; have d2 := ca_ne a3.2.1 a5.2.1; have d3 := ce_ne a3 a7 hg; have d4 := ca_ne a3.2.1 a8.2.1; have d5 := ca_ne a3.2.1 a9.2.1
  have e1 := (ca_ne a7.2.1 a4.2.1).symm; have e2 := ce_ne a4 a8 hg; have e3 := ce_ne a4 a9 hg
  have g1 := (ca_ne a7.2.1 a5.2.1).symm; have g2 := ce_ne a5 a8 hg; have g3 := ce_ne a5 a9 hg
  have i1 := ca_ne a7.2.1 a8.2.1; have i2 := ca_ne a7.2.1 a9.2.1
  simp [b1, b2, b3, b4, b5, b6, b7, c1, c2, c3, c4, c5, c6, d1, d2, d3, d4, d5, a6, e1, e2, e3, g1, g2, g3, i1, i2, a10]
/-- others, seen while one feature is out -/
theorem fc_vw {q gl gr fq nq cq : Nat} {fv : Value} {rk9 wd9 tw9 pa9 pb9 kd9 st9 gb9 it9 : Int32} {n : Nat} {C D : Nat → Int32} {lo lx ly ln : Nat} {LX LY : Nat → Int32} {we9 r rx ry cap : Nat} {X Y : Nat → Int32} {x1 x2 x3 x4 x5 x6 x7 x8 : va_E} (h : fcA cI L f own q gl gr fq nq cq fv rk9 wd9 tw9 pa9 pb9 kd9 st9 gb9 it9 n C D lo lx ly ln LX LY we9 r rx ry cap X Y) (hgl : gl / 8 = q) (hgr : gr / 8 = q)
    (hF : FeA cI L f own fN fe nw cl fm rk wd tw pa pb) (hN : NwA cI L f own ft nw cl md kd st gb it tn mn cx cy) (hA : ∀ q, q < ft → FA q = some (fe q)) (hf : ft ≤ fN) : ∀ p, p < ft → p ≠ q → vwO cI (outPl L [(fq, x1), (nq, x2), (r, x3), (rx, x4), (ry, x5), (lo, x6), (lx, x7), (ly, x8)]) f FA kd st tn mn cx cy p := by
  obtain ⟨⟨a1, a2, ⟨a3, a4, a5, a6⟩, ⟨a7, a8, a9, a10⟩⟩, _⟩ := h
  intro p hp hpq
  refine sh_vw hF hN hA hf hp (fun c hc => ?_)
  simp only [List.mem_cons, List.not_mem_nil, or_false] at hc
  rcases hc with rfl | rfl | rfl | rfl | rfl | rfl | rfl | rfl
  · rw [a1.2.2]; omega
  · rw [a2.2.2, hgl]; omega
  · rw [a3.2.2, hgr]; omega
  · rw [a4.2.2, hgr]; omega
  · rw [a5.2.2, hgr]; omega
  · rw [a7.2.2]; omega
  · rw [a8.2.2]; omega
  · rw [a9.2.2]; omega
/-- one feature leaves, or takes a new look: its eight cells back, and what is new -/
theorem M_leave {q m : Nat} {fv : Value} {lo lx ly ln : Nat} {LX LY : Nat → Int32} {we9 r rx ry cap : Nat} {X Y : Nat → Int32} {Xw : va_W} {nq : Nat} {kq sq gq iq : Int32} {x2 x3 x4 x5 : va_E}
    (hG : shG cI cO L f e0 FA ea n9 own fe cl la nw md sp fm SA bs dn dn ft ft FT V VX VY tn rk wd tw pa pb wh of9 we kd st gb it mn cx cy) (hM : mdA dn ft FT la nw md fm V kd st gb it) (hm : md q = 0) (hq : q < ft) (hqd : q < FT dn) (hs : ¬ (st q).toInt = 0) (hs1 : ¬ (st1 q).toInt = 0) (ht : (tn q).toInt = 0)
    (hc : fcA cI L f own q (8 * q + 2) (8 * q + 3) (fe q) (nw q) (cl q) fv (rk q) (wd q) (tw q) (pa q) (pb q) (kd q) (st q) (gb q) (it q) (nN (mn q)) (cF40 cx q) (cF40 cy q) lo lx ly ln LX LY we9 r rx ry cap X Y)
    (hx : x2 = .inr (4, [.int (kd q), .int (st q), .ref r, .int (gb q), .int (it q), .int (nI we9)]) ∧ x3 = .inr (6, [.ref rx, .ref ry, .int (nI (nN (mn q))), .int (rgK (kd q).toInt)]) ∧ x4 = .inl (cI, cap, .inl X) ∧ x5 = .inl (cI, cap, .inl Y))
    (hp : pinD L f Xw [(fe q, .inr (1, [.int (rk q), .int (wd q), .int (tw q), .int (pa q), .int (pb q), .ref lo, .ref nq, .ref (nw q)])), (nw q, x2), (r, x3), (rx, x4), (ry, x5), (lo, .inr (6, [.ref lx, .ref ly, .int (nI ln), .int 0])), (lx, .inl (cI, cl q, .inl LX)), (ly, .inl (cI, cl q, .inl LY))] [(nq, .inr (4, [.int kq, .int sq, .ref r, .int gq, .int iq, .int (nI we9)]))]
      [(fe q, .inr (1, [.int (rk q), .int (wd q), .int (tw q), .int (pa q), .int (pb q), .ref lo, .ref nq, .ref (nw q)])), (nw q, x2), (r, x3), (rx, x4), (ry, x5), (lo, .inr (6, [.ref lx, .ref ly, .int (nI ln), .int 0])), (lx, .inl (cI, cl q, .inl LX)), (ly, .inl (cI, cl q, .inl LY)), (nq, .inr (4, [.int kq, .int sq, .ref r, .int gq, .int iq, .int (nI we9)]))] L1 f1)
    (ho : othS q kd st gb it mn cx cy kd1 st1 gb1 it1 mn cx cy) (hk1 : kd1 q = kq) (hst1 : st1 q = sq) (hgb1 : gb1 q = gq) (hit1 : it1 q = iq) (hkr : rgK kq.toInt = rgK (kd q).toInt) (hkb : (1 ≤ kq.toInt ∧ kq.toInt ≤ 5) → (1 ≤ (kd q).toInt ∧ (kd q).toInt ≤ 5)) :
    ∃ (own1 nw1 md1 : Nat → Nat) (fm1 : Nat → Value), shG cI cO L1 f1 e0 FA ea n9 own1 fe cl la nw1 md1 sp fm1 SA bs dn dn ft ft FT V VX VY tn rk wd tw pa pb wh of9 we kd1 st1 gb1 it1 mn cx cy ∧ mdA dn ft FT la nw1 md1 fm1 V kd1 st1 gb1 it1 ∧ md1 = upN md q 2 := by
  obtain ⟨hfr, hkp, hce, hsx, hpw⟩ := hp
  obtain ⟨⟨a1, a2, ⟨a3, a4, a5, a6⟩, ⟨a7, a8, a9, a10⟩⟩, b1, b2, b3, b4, b5⟩ := hc
  obtain ⟨e2, e3, e4, e5⟩ := hx
  have hn : nq ∉ L := hfr _ (List.mem_singleton.mpr rfl)
  have how := ow_L (own := own) (g := 8 * q + 4) (fun _ _ => rfl) hn
  have hnL : ∀ a, a ∈ L → ow own nq (8 * q + 4) a = own a := how
  have hk := hkp own (ow own nq (8 * q + 4)) (notQ q) how ⟨fun _ h => absurd a1.2.2 h.1, fun _ _ => by rw [e2]; exact a2.2.1, fun _ _ => by rw [e3]; exact a3.2.1, fun _ _ => by rw [e4]; exact a4.2.1, fun _ _ => by rw [e5]; exact a5.2.1, fun _ h => absurd a7.2.2 h.2.1, fun _ h => absurd a8.2.2 h.2.1, fun _ h => absurd a9.2.2 h.2.1, trivial⟩
  have hla : nw q = la dn q := ((hM q hq).1 hm).2.1
  have hV := ((hM q hq).1 hm).2.2 hqd
  have hfe : feG cI L1 f1 (ow own nq (8 * q + 4)) q (fe q) nq (cl q) (.ref (la dn q)) (rk q) (wd q) (tw q) (pa q) (pb q) := ⟨lo, lx, ly, ln, LX, LY, by rw [← hla]; exact hce _ 0 _ _ _ rfl (by rw [how _ a1.1]; exact a1.2.2), ⟨hce _ 5 _ _ _ rfl (by rw [how _ a7.1]; exact a7.2.2), hce _ 6 _ _ _ rfl (by rw [how _ a8.1]; exact a8.2.2), hce _ 7 _ _ _ rfl (by rw [how _ a9.1]; exact a9.2.2), a10⟩, b1⟩
  have hlk : lkG cI L1 f1 (ow own nq (8 * q + 4)) (glM 2 q) (grM 2 q) nq (cl q) (kd1 q) (st1 q) (gb1 q) (it1 q) (tn q) (nN (mn q)) (cF40 cx q) (cF40 cy q) := by
    have hs2 : ¬ sq.toInt = 0 := by rw [← hst1]; exact hs1
    rw [hk1, hst1, hgb1, hit1]
    refine ⟨we9, .ref r, hce _ 8 _ _ _ rfl ow_at, b2.2.2, fun g => (b5 (hkb g)).1, fun g => absurd ht g, fun _ => ⟨r, rx, ry, cap, X, Y, rfl, ?_, b2.1, b2.2.1, fun g => absurd g hs2, b4, fun g => (b5 (hkb g)).2⟩⟩
    rw [hkr]; exact rwG_kp hk (show notQ q (8 * q + 3) from ⟨by omega, by omega, by omega, by omega⟩) ⟨a3, a4, a5, a6⟩
  have hres := M_new (m := 2) (nq := nq) hG hM hk hfe hlk ho (by decide) hq hqd (by rw [hV.2.1]; exact hs) hs1
  exact ⟨_, _, _, _, hres.1, hres.2, rfl⟩
/-- a new look with a row of its own; what went may be written anew -/
theorem M_resh {q : Nat} {fv : Value} {lo lx ly ln ln1 : Nat} {LX LY LX1 LY1 : Nat → Int32} {we9 we1 r rx ry cap : Nat} {X Y : Nat → Int32} {Xw : va_W} {nq w wx wy n1 cap1 : Nat} {X1 Y1 : Nat → Int32} {kq sq gq iq rg1 : Int32} {x2 x3 x4 x5 : va_E}
    (hG : shG cI cO L f e0 FA ea n9 own fe cl la nw md sp fm SA bs dn dn ft ft FT V VX VY tn rk wd tw pa pb wh of9 we kd st gb it mn cx cy) (hM : mdA dn ft FT la nw md fm V kd st gb it) (hm : md q = 0) (hq : q < ft) (hqd : q < FT dn) (hs : ¬ (st q).toInt = 0) (hs1 : ¬ (st1 q).toInt = 0) (ht : (tn q).toInt = 0)
    (hc : fcA cI L f own q (8 * q + 2) (8 * q + 3) (fe q) (nw q) (cl q) fv (rk q) (wd q) (tw q) (pa q) (pb q) (kd q) (st q) (gb q) (it q) (nN (mn q)) (cF40 cx q) (cF40 cy q) lo lx ly ln LX LY we9 r rx ry cap X Y)
    (hx : x2 = .inr (4, [.int (kd q), .int (st q), .ref r, .int (gb q), .int (it q), .int (nI we9)]) ∧ x3 = .inr (6, [.ref rx, .ref ry, .int (nI (nN (mn q))), .int (rgK (kd q).toInt)]) ∧ x4 = .inl (cI, cap, .inl X) ∧ x5 = .inl (cI, cap, .inl Y))
    (hp : pinD L f Xw [(fe q, .inr (1, [.int (rk q), .int (wd q), .int (tw q), .int (pa q), .int (pb q), .ref lo, .ref nq, .ref (nw q)])), (nw q, x2), (r, x3), (rx, x4), (ry, x5), (lo, .inr (6, [.ref lx, .ref ly, .int (nI ln1), .int 0])), (lx, .inl (cI, cl q, .inl LX1)), (ly, .inl (cI, cl q, .inl LY1))] [(nq, .inr (4, [.int kq, .int sq, .ref w, .int gq, .int iq, .int (nI we1)])), (w, .inr (6, [.ref wx, .ref wy, .int (nI n1), .int rg1])), (wx, .inl (cI, cap1, .inl X1)), (wy, .inl (cI, cap1, .inl Y1))]
      [(fe q, .inr (1, [.int (rk q), .int (wd q), .int (tw q), .int (pa q), .int (pb q), .ref lo, .ref nq, .ref (nw q)])), (nw q, x2), (r, x3), (rx, x4), (ry, x5), (lo, .inr (6, [.ref lx, .ref ly, .int (nI ln1), .int 0])), (lx, .inl (cI, cl q, .inl LX1)), (ly, .inl (cI, cl q, .inl LY1)), (nq, .inr (4, [.int kq, .int sq, .ref w, .int gq, .int iq, .int (nI we1)])), (w, .inr (6, [.ref wx, .ref wy, .int (nI n1), .int rg1])), (wx, .inl (cI, cap1, .inl X1)), (wy, .inl (cI, cap1, .inl Y1))] L1 f1)
    (ho : othS q kd st gb it mn cx cy kd1 st1 gb1 it1 mn1 cx1 cy1) (hk1 : kd1 q = kq) (hst1 : st1 q = sq) (hgb1 : gb1 q = gq) (hit1 : it1 q = iq) (hrg : rg1 = rgK kq.toInt) (hn1 : nN (mn1 q) = n1) (hX1 : ∀ k, k < n1 → X1 k = cF40 cx1 q k ∧ Y1 k = cF40 cy1 q k) (hcap : n1 ≤ cap1 ∧ cap1 ≤ 40 ∧ we1 ≤ 40) (hln : ln1 ≤ cl q) (hkb : (1 ≤ kq.toInt ∧ kq.toInt ≤ 5) → (1 ≤ (kd q).toInt ∧ (kd q).toInt ≤ 5) ∧ we1 + n1 ≤ 40) :
    ∃ (own1 nw1 md1 : Nat → Nat) (fm1 : Nat → Value), shG cI cO L1 f1 e0 FA ea n9 own1 fe cl la nw1 md1 sp fm1 SA bs dn dn ft ft FT V VX VY tn rk wd tw pa pb wh of9 we kd1 st1 gb1 it1 mn1 cx1 cy1 ∧ mdA dn ft FT la nw1 md1 fm1 V kd1 st1 gb1 it1 ∧ md1 = upN md q 1 := by
  obtain ⟨hfr, hkp, hce, hsx, hpw⟩ := hp
  obtain ⟨⟨a1, a2, ⟨a3, a4, a5, a6⟩, ⟨a7, a8, a9, a10⟩⟩, b1, b2, b3, b4, b5⟩ := hc
  obtain ⟨e2, e3, e4, e5⟩ := hx
  have hn : nq ∉ L := hfr _ (List.mem_cons_self ..)
  have hw : w ∉ L := hfr _ (List.mem_cons_of_mem _ (List.mem_cons_self ..))
  have hwx : wx ∉ L := hfr _ (List.mem_cons_of_mem _ (List.mem_cons_of_mem _ (List.mem_cons_self ..)))
  have hwy : wy ∉ L := hfr _ (List.mem_cons_of_mem _ (List.mem_cons_of_mem _ (List.mem_cons_of_mem _ (List.mem_cons_self ..))))
  have p1 : nq ≠ w := pwN hpw (i := 8) (j := 9) rfl rfl (by decide)
  have p2 : nq ≠ wx := pwN hpw (i := 8) (j := 10) rfl rfl (by decide)
  have p3 : nq ≠ wy := pwN hpw (i := 8) (j := 11) rfl rfl (by decide)
  have p4 : w ≠ wx := pwN hpw (i := 9) (j := 10) rfl rfl (by decide)
  have p5 : w ≠ wy := pwN hpw (i := 9) (j := 11) rfl rfl (by decide)
  have p6 : wx ≠ wy := pwN hpw (i := 10) (j := 11) rfl rfl (by decide)
  obtain ⟨o, ho9⟩ : ∃ o : Nat → Nat, o = ow (ow (ow (ow own nq (8 * q + 4)) w (8 * q + 5)) wx (8 * q + 5)) wy (8 * q + 5) := ⟨_, rfl⟩
  have how : ∀ a ∈ L, o a = own a := by rw [ho9]; exact ow_L (ow_L (ow_L (ow_L (fun _ _ => rfl) hn) hw) hwx) hwy
  have on : o nq = 8 * q + 4 := by rw [ho9, ow_o p3, ow_o p2, ow_o p1]; exact ow_at
  have o1 : o w = 8 * q + 5 := by rw [ho9, ow_o p5, ow_o p4]; exact ow_at
  have o2 : o wx = 8 * q + 5 := by rw [ho9, ow_o p6]; exact ow_at
  have o3 : o wy = 8 * q + 5 := by rw [ho9]; exact ow_at
  have hk := hkp own o (notQ q) how ⟨fun _ h => absurd a1.2.2 h.1, fun _ _ => by rw [e2]; exact a2.2.1, fun _ _ => by rw [e3]; exact a3.2.1, fun _ _ => by rw [e4]; exact a4.2.1, fun _ _ => by rw [e5]; exact a5.2.1, fun _ h => absurd a7.2.2 h.2.1, fun _ h => absurd a8.2.2 h.2.1, fun _ h => absurd a9.2.2 h.2.1, trivial⟩
  have hla : nw q = la dn q := ((hM q hq).1 hm).2.1
  have hV := ((hM q hq).1 hm).2.2 hqd
  have hfe : feG cI L1 f1 o q (fe q) nq (cl q) (.ref (la dn q)) (rk q) (wd q) (tw q) (pa q) (pb q) := ⟨lo, lx, ly, ln1, LX1, LY1, by rw [← hla]; exact hce _ 0 _ _ _ rfl (by rw [how _ a1.1]; exact a1.2.2), ⟨hce _ 5 _ _ _ rfl (by rw [how _ a7.1]; exact a7.2.2), hce _ 6 _ _ _ rfl (by rw [how _ a8.1]; exact a8.2.2), hce _ 7 _ _ _ rfl (by rw [how _ a9.1]; exact a9.2.2), a10⟩, hln, b1.2⟩
  have hlk : lkG cI L1 f1 o (glM 1 q) (grM 1 q) nq (cl q) (kd1 q) (st1 q) (gb1 q) (it1 q) (tn q) (nN (mn1 q)) (cF40 cx1 q) (cF40 cy1 q) := by
    have hs2 : ¬ sq.toInt = 0 := by rw [← hst1]; exact hs1
    rw [hk1, hst1, hgb1, hit1, hn1]
    exact ⟨we1, .ref w, hce _ 8 _ _ _ rfl on, hcap.2.2, fun g => (b5 (hkb g).1).1, fun g => absurd ht g, fun _ => ⟨w, wx, wy, cap1, X1, Y1, rfl, ⟨by rw [← hrg]; exact hce _ 9 _ _ _ rfl o1, hce _ 10 _ _ _ rfl o2, hce _ 11 _ _ _ rfl o3, p6⟩, hcap.1, hcap.2.1, fun g => absurd g hs2, hX1, fun g => (hkb g).2⟩⟩
  have hres := M_new (m := 1) (nq := nq) hG hM hk hfe hlk ho (by decide) hq hqd (by rw [hV.2.1]; exact hs) hs1
  exact ⟨_, _, _, _, hres.1, hres.2, rfl⟩
end
theorem vw2 {cI : ClassId} {L : List Nat} {f : Nat → va_E} {FA : Nat → Option Nat} {kd st tn mn cx cy : Nat → Int32} {i : Nat} (h : vwO cI L f FA kd st tn mn cx cy i) : (¬ (tn i).toInt = 0 ∧ vwT L f FA kd st i) ∨ ((tn i).toInt = 0 ∧ vwL cI L f FA kd st mn cx cy i) := by
  by_cases t0 : (tn i).toInt = 0
  · exact Or.inr ⟨t0, h.2.2 t0⟩
  · exact Or.inl ⟨t0, h.2.1 t0⟩
