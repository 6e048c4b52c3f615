/-! JOIN by the class -/
theorem pw_ap {A B : va_W} {own : Nat → Nat} {p : Nat} (hA : A.Pairwise (fun p q => p.1 ≠ q.1)) (hB : B.Pairwise (fun p q => p.1 ≠ q.1)) (h1 : ∀ c ∈ A, own c.1 / 8 ≠ p) (h2 : ∀ r, r ≠ p → ∀ c ∈ B, own c.1 / 8 ≠ r) : (A ++ B).Pairwise (fun p q => p.1 ≠ q.1) :=
  List.pairwise_append.mpr ⟨hA, hB, fun a ha b hb e => h1 a ha (Classical.byContradiction fun g => h2 (own a.1 / 8) g b hb (by rw [e]))⟩
theorem pls4 {P Q : Nat → Int32} {a b c d : Int32} (hp : P 0 = a ∧ P 1 = b ∧ P 2 = b ∧ P 3 = a) (hq : Q 0 = c ∧ Q 1 = c ∧ Q 2 = d ∧ Q 3 = d) (ha : pl a) (hb : pl b) (hc : pl c) (hd : pl d) : pls 4 P Q := by
  intro j hj
  rcases (show j = 0 ∨ j = 1 ∨ j = 2 ∨ j = 3 by omega) with rfl | rfl | rfl | rfl
  · rw [hp.1, hq.1]; exact ⟨ha, hc⟩
  · rw [hp.2.1, hq.2.1]; exact ⟨hb, hc⟩
  · rw [hp.2.2.1, hq.2.2.1]; exact ⟨hb, hd⟩
  · rw [hp.2.2.2, hq.2.2.2]; exact ⟨ha, hd⟩
theorem jbox {cx cy : Nat → Int32} {f n g m : Nat} {X Y U V : Nat → Int32} (hc : ∀ j, j < n → X j = cF40 cx f j ∧ Y j = cF40 cy f j) (hd : ∀ j, j < m → U j = cF40 cx g j ∧ V j = cF40 cy g j) (hn : 1 ≤ n) :
    iI (mnI (mnI (X 0).toInt X n) U m) = jlo cx f n g m ∧ iI (mxI (mxI (X 0).toInt X n) U m) = jhi cx f n g m ∧ iI (mnI (mnI (Y 0).toInt Y n) V m) = jlo cy f n g m ∧ iI (mxI (mxI (Y 0).toInt Y n) V m) = jhi cy f n g m := by
  have a1 := mnI_cg (z := (X 0).toInt) (fun j hj => (hc j hj).1) n (Nat.le_refl _)
  have a2 := mnI_cg (z := (Y 0).toInt) (fun j hj => (hc j hj).2) n (Nat.le_refl _)
  have b1 : ∀ z, mnI z U m = mnI z (cF40 cx g) m ∧ mxI z U m = mxI z (cF40 cx g) m := fun z => mnI_cg (z := z) (fun j hj => (hd j hj).1) m (Nat.le_refl _)
  have b2 : ∀ z, mnI z V m = mnI z (cF40 cy g) m ∧ mxI z V m = mxI z (cF40 cy g) m := fun z => mnI_cg (z := z) (fun j hj => (hd j hj).2) m (Nat.le_refl _)
  rw [a1.1, a1.2, a2.1, a2.2, (hc 0 hn).1, (hc 0 hn).2]
  unfold jlo jhi
  rw [(b1 _).1, (b1 _).2, (b2 _).1, (b2 _).2]
  exact ⟨rfl, rfl, rfl, rfl⟩
theorem eO_lq {k : Int} {n : Nat} (h : okK k n) : eO k n ≤ n := by
  unfold eO
  rcases h with h | h
  · rw [if_pos h.1]; omega
  · rw [if_neg h.1]; split <;> omega
theorem dcP_cg {n m e i : Nat} {X Y C D U V P Q : Nat → Int32} (hc : ∀ j, j < n → X j = C j ∧ Y j = D j) (hd : ∀ j, j < m → U j = P j ∧ V j = Q j) (hi : i ≤ n) (he : e ≤ m) {A B : Int} (h : dcP n X Y m U V e i 0 A B) : dcP n C D m P Q e i 0 A B := by
  obtain ⟨i1, k1, g, s⟩ := h
  refine ⟨i1, k1, g, ?_⟩
  rw [dcS_cg hc hd (by omega) (by omega)] at s
  exact s
theorem IM_cq {P Q : Int → Int → Prop} {u d : Int} (h : ∀ A B, P A B ↔ Q A B) (g : IM P u d) : IM Q u d := by
  rcases g with ⟨a, b, c⟩ | ⟨a, b, c⟩
  · exact Or.inl ⟨a, b, fun U D h9 => c U D ((h U D).mpr h9)⟩
  · exact Or.inr ⟨a, (h _ _).mp b, fun U D h9 => c U D ((h U D).mpr h9)⟩
/-- the class's least distance is the reference's -/
theorem bt_IM {k1 k2 : Int} {n m : Nat} {X Y C D U V P Q : Nat → Int32} {zu zd : Int} (hc : ∀ j, j < n → X j = C j ∧ Y j = D j) (hd : ∀ j, j < m → U j = P j ∧ V j = Q j) (o1 : okK k1 n) (o2 : okK k2 m) (him : IM (btP n X Y (prt n (rgK k1)) m U V (prt m (rgK k2))) zu zd) : IM (dcP n C D m P Q (eO k2 m) (eO k1 n) 0) zu zd := by
  have e1 := eO_lq o1
  have e2 := eO_lq o2
  rw [prt_eO (rgK_t k1) o1, prt_eO (rgK_t k2) o2] at him
  refine IM_cq (fun A B => (bt_dc e1 e2 (eO_cov o1) (eO_cov o2) A B).trans ⟨fun h => dcP_cg hc hd e1 e2 h, fun h => dcP_cg (fun j hj => ⟨(hc j hj).1.symm, (hc j hj).2.symm⟩) (fun j hj => ⟨(hd j hj).1.symm, (hd j hj).2.symm⟩) e1 e2 h⟩) him
theorem jfar_iff {k1 k2 g : Int} {n m : Nat} {X Y C D U V P Q : Nat → Int32} {zu zd : Int} (hc : ∀ j, j < n → X j = C j ∧ Y j = D j) (hd : ∀ j, j < m → U j = P j ∧ V j = Q j) (o1 : okK k1 n) (o2 : okK k2 m) (him : IM (btP n X Y (prt n (rgK k1)) m U V (prt m (rgK k2))) zu zd) (hz : 0 ≤ zu ∧ 1 ≤ zd) (hnt : ¬ mtF k1 n C D k2 m P Q) :
    g * g * zd < zu ↔ (¬ mtF k1 n C D k2 m P Q ∧ ∀ u d : Nat, 1 ≤ d → IM (dcP n C D m P Q (eO k2 m) (eO k1 n) 0) ((u : Nat) : Int) ((d : Nat) : Int) → g * g * ((d : Nat) : Int) < ((u : Nat) : Int)) := by
  have him2 := bt_IM hc hd o1 o2 him
  constructor
  · intro h
    exact ⟨hnt, fun u d hd1 hI => (IM_gap him2 hI hz.2 (by omega)).mp h⟩
  · intro h
    have e1 : ((zu.toNat : Nat) : Int) = zu := Int.toNat_of_nonneg hz.1
    have e2 : ((zd.toNat : Nat) : Int) = zd := Int.toNat_of_nonneg (by omega)
    have h9 := h.2 zu.toNat zd.toNat (by omega) (by rw [e1, e2]; exact him2)
    rw [e1, e2] at h9
    exact h9
theorem jtch_iff {k1 k2 : Int} {n m : Nat} {X Y C D U V P Q : Nat → Int32} (hn : 1 ≤ n) (hm : 1 ≤ m) (hc : ∀ j, j < n → X j = C j ∧ Y j = D j) (hd : ∀ j, j < m → U j = P j ∧ V j = Q j) (o1 : okK k1 n) (o2 : okK k2 m) : (∃ i, i < prt n (rgK k1) ∧ ∃ j, j < prt m (rgK k2) ∧ eMt n X Y i m U V j) ↔ mtF k1 n C D k2 m P Q :=
  (tch_mt o1 o2).trans (mtF_cg hn hm hc hd)
theorem gg_0 {g : Int} : 0 ≤ g * g := by
  rcases Int.le_total 0 g with h | h
  · exact Int.mul_nonneg h h
  · exact Int.mul_nonneg_of_nonpos_of_nonpos h h
section
variable {cI cO : ClassId} {L L1 : List Nat} {f f1 : Nat → va_E} {own : Nat → Nat} {e0 ea n9 : Nat} {FA : Nat → Option Nat} {fe cl nw md sp : Nat → Nat} {la : Nat → Nat → Nat} {fm : Nat → Value} {SA : Nat → Option Nat} {bs dn ft fN : Nat} {FT : Nat → Nat} {V : Nat → Nat → Nat → Int32} {VX VY : Nat → Nat → Int32} {tn rk wd tw pa pb wh of9 we kd st gb it mn cx cy cx1 cy1 : Nat → Int32}
theorem sh_vw2 {A B : va_W} {q p : Nat} (hA : ∀ r, r ≠ q → ∀ c ∈ A, own c.1 / 8 ≠ r) (hB : ∀ r, r ≠ p → ∀ c ∈ B, own c.1 / 8 ≠ r) (hF : FeA cI L f own fN fe nw cl fm rk wd tw pa pb) (hN : NwA cI L f own ft nw cl md kd st gb it tn mn cx cy) (hFA : ∀ q, q < ft → FA q = some (fe q)) (hf : ft ≤ fN) : ∀ r, r < ft → r ≠ q → r ≠ p → vwO cI (outPl L (A ++ B)) f FA kd st tn mn cx cy r :=
  fun r hr h1 h2 => sh_vw hF hN hFA hf hr (fun c hc => (List.mem_append.mp hc).elim (hA r h1 c) (hB r h2 c))
theorem J_made {Xw : va_W} {fq nq lo lx ly r rx ry : Nat} {k2 k3 k4 k5 k6 : Int32} {X7 Y7 : Nat → Int32} (h : shG cI cO L f e0 FA ea n9 own fe cl la nw md sp fm SA bs dn dn ft ft FT V VX VY tn rk wd tw pa pb wh of9 we kd st gb it mn cx cy) (hM : mdA dn ft FT la nw md fm V kd st gb it) (hft : ft = FT dn) (h200 : ft < 200) (hmd : md ft = 0)
    (hp : pinD L f Xw [] [(fq, .inr (1, [.int k2, .int k3, .int k4, .int k5, .int k6, .ref lo, .ref nq, .null])), (nq, .inr (4, [.int 6, .int 1, .ref r, .int 0, .int (-1), .int 0])), (r, .inr (6, [.ref rx, .ref ry, .int (nI 4), .int 1])), (rx, .inl (cI, 4, .inl X7)), (ry, .inl (cI, 4, .inl Y7)), (lo, .inr (6, [.ref lx, .ref ly, .int (nI 0), .int 0])), (lx, .inl (cI, 1, .inl (fun _ => 0))), (ly, .inl (cI, 1, .inl (fun _ => 0)))] [(fq, .inr (1, [.int k2, .int k3, .int k4, .int k5, .int k6, .ref lo, .ref nq, .null])), (nq, .inr (4, [.int 6, .int 1, .ref r, .int 0, .int (-1), .int 0])), (r, .inr (6, [.ref rx, .ref ry, .int (nI 4), .int 1])), (rx, .inl (cI, 4, .inl X7)), (ry, .inl (cI, 4, .inl Y7)), (lo, .inr (6, [.ref lx, .ref ly, .int (nI 0), .int 0])), (lx, .inl (cI, 1, .inl (fun _ => 0))), (ly, .inl (cI, 1, .inl (fun _ => 0)))] L1 f1) (hX : ∀ k, k < 4 → X7 k = cF40 cx1 ft k ∧ Y7 k = cF40 cy1 ft k) (ho : ∀ p, p ≠ ft → ∀ k, k < 40 → cF40 cx1 p k = cF40 cx p k ∧ cF40 cy1 p k = cF40 cy p k) :
    ∃ o : Nat → Nat, shG cI cO L1 f1 e0 (va_up FA ft (some fq)) ea n9 o (upN fe ft fq) (upN cl ft 1) (fun t => upN (la t) ft nq) (upN nw ft nq) md sp (upN fm ft .null) SA bs dn dn (ft + 1) (ft + 1) FT V VX VY (upd tn ft 0) (upd rk ft k2) (upd wd ft k3) (upd tw ft k4) (upd pa ft k5) (upd pb ft k6) wh of9 we (upd kd ft 6) (upd st ft 1) (upd gb ft 0) (upd it ft (-1)) (upd mn ft 4) cx1 cy1 ∧ mdA dn (ft + 1) FT (fun t => upN (la t) ft nq) (upN nw ft nq) md (upN fm ft .null) V (upd kd ft 6) (upd st ft 1) (upd gb ft 0) (upd it ft (-1)) := by
  obtain ⟨hfr, hkp, hce, hsx, hpw⟩ := hp
  obtain ⟨o, how, of0, of1, ⟨of2, of3, of4⟩, of5, of6, of7⟩ := F_own (own := own) (t := ft) (hfr _ (List.mem_of_getElem? (i := 0) rfl)) (hfr _ (List.mem_of_getElem? (i := 1) rfl)) (hfr _ (List.mem_of_getElem? (i := 2) rfl)) (hfr _ (List.mem_of_getElem? (i := 3) rfl)) (hfr _ (List.mem_of_getElem? (i := 4) rfl)) (hfr _ (List.mem_of_getElem? (i := 5) rfl)) (hfr _ (List.mem_of_getElem? (i := 6) rfl)) (hfr _ (List.mem_of_getElem? (i := 7) rfl)) (pwN hpw (i := 1) (j := 0) rfl rfl (by decide)) (pwN hpw (i := 2) (j := 0) rfl rfl (by decide)) (pwN hpw (i := 3) (j := 0) rfl rfl (by decide)) (pwN hpw (i := 4) (j := 0) rfl rfl (by decide)) (pwN hpw (i := 5) (j := 0) rfl rfl (by decide)) (pwN hpw (i := 6) (j := 0) rfl rfl (by decide)) (pwN hpw (i := 7) (j := 0) rfl rfl (by decide)) (pwN hpw (i := 2) (j := 1) rfl rfl (by decide)) (pwN hpw (i := 3) (j := 1) rfl rfl (by decide)) (pwN hpw (i := 4) (j := 1) rfl rfl (by decide)) (pwN hpw (i := 5) (j := 1) rfl rfl (by decide)) (pwN hpw (i := 6) (j := 1) rfl rfl (by decide)) (pwN hpw (i := 7) (j := 1) rfl rfl (by decide)) (fun h => h.elim (pwN hpw (i := 5) (j := 2) rfl rfl (by decide)) (fun h => h.elim (pwN hpw (i := 5) (j := 3) rfl rfl (by decide)) (pwN hpw (i := 5) (j := 4) rfl rfl (by decide)))) (fun h => h.elim (pwN hpw (i := 6) (j := 2) rfl rfl (by decide)) (fun h => h.elim (pwN hpw (i := 6) (j := 3) rfl rfl (by decide)) (pwN hpw (i := 6) (j := 4) rfl rfl (by decide)))) (fun h => h.elim (pwN hpw (i := 7) (j := 2) rfl rfl (by decide)) (fun h => h.elim (pwN hpw (i := 7) (j := 3) rfl rfl (by decide)) (pwN hpw (i := 7) (j := 4) rfl rfl (by decide))))
  have x34 := pwN hpw (i := 3) (j := 4) rfl rfl (by decide)
  have x67 := pwN hpw (i := 6) (j := 7) rfl rfl (by decide)
  have hk2 := hkp own o (fun _ => True) how trivial
  have g0 := hce o 0 _ _ _ rfl of0
  have g1 := hce o 1 _ _ _ rfl of1
  have g2 := hce o 2 _ _ _ rfl of2
  have g3 := hce o 3 _ _ _ rfl of3
  have g4 := hce o 4 _ _ _ rfl of4
  have g5 := hce o 5 _ _ _ rfl of5
  have g6 := hce o 6 _ _ _ rfl of6
  have g7 := hce o 7 _ _ _ rfl of7
  clear hfr hkp hce hsx hpw
  have nN4 : nN (4 : Int32) = 4 := by decide
  have hr6 : rgK (6 : Int32).toInt = 1 := by decide
  refine ⟨o, M_made (fq := fq) (nq := nq) (c := 1) h hM hft h200 hk2 ?_ ?_ (fun p hp => ⟨if_neg hp, if_neg hp, if_neg hp, if_neg hp, if_neg hp, ho p hp⟩) (fun p hp => ⟨if_neg hp, if_neg hp, if_neg hp, if_neg hp, if_neg hp, if_neg hp⟩) hmd⟩
  · rw [up_at, up_at, up_at, up_at, up_at]
    exact ⟨lo, lx, ly, 0, _, _, g0, ⟨g5, g6, g7, x67⟩, by decide⟩
  · rw [up_at, up_at, up_at, up_at, up_at, up_at, nN4]
    exact ⟨0, .ref r, g1, Nat.zero_le _, fun g => absurd g.2 (by decide), fun g => absurd rfl g, fun _ => ⟨r, rx, ry, 4, X7, Y7, rfl, by rw [hr6]; exact ⟨g2, g3, g4, x34⟩, Nat.le_refl _, by decide, fun g => absurd g (by decide), hX, fun g => absurd g.2 (by decide)⟩⟩
end
