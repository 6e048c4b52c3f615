section
/-! PLAINER of one feature, by the class -/
section
variable {ft : Nat} {st tn kd mn cx cy : Nat → Int32} {f0 n : Nat} {X Y A B : Nat → Int32} {rg lim : Int32}
theorem ctF_cg (h : ∀ j, j < n → X j = A j ∧ Y j = B j) {k : Nat} : ∀ j, j < n - 1 → ctF X k j = ctF A k j ∧ ctF Y k j = ctF B k j := by
  intro j hj
  unfold ctF
  by_cases q : j < k
  · rw [if_pos q, if_pos q, if_pos q, if_pos q]; exact h j (by omega)
  · rw [if_neg q, if_neg q, if_neg q, if_neg q]; exact h (j + 1) (by omega)
theorem swC_cg (h : ∀ j, j < n → X j = A j ∧ Y j = B j) {k : Nat} (hk : k < n) {x y : Int} : swC n X Y k x y = swC n A B k x y := by
  have h1 := h _ (prv_lt (n := n) (i := k) hk); have h2 := h _ (nxt_lt (n := n) (i := k) (by omega)); have h3 := h k hk
  unfold swC; rw [h1.1, h1.2, h2.1, h2.2, h3.1, h3.2]
theorem asb_cx (hn : 1 ≤ n) (h : ∀ j, j < n → X j = A j ∧ Y j = B j) {nd m : Nat} {P Q U V : Nat → Int32} {rd rh : Int32} : asb n X Y rg nd P Q rd m U V rh ↔ asb n A B rg nd P Q rd m U V rh := by
  unfold asb
  rw [tch_cl h, (h 0 (by omega)).1, (h 0 (by omega)).2]
  exact and_congr_right fun _ => and_congr (imp_congr_right fun _ => forall_congr' fun k => imp_congr_right fun _ => by rw [inF_cg hn h]) Iff.rfl
theorem alC_cx (hn : 2 ≤ n) (h : ∀ j, j < n → X j = A j ∧ Y j = B j) {k : Nat} (hk : k < n) : alC ft st tn kd mn cx cy f0 n X Y rg (n - 1) (ctF X k) (ctF Y k) rg k ↔ alC ft st tn kd mn cx cy f0 n A B rg (n - 1) (ctF A k) (ctF B k) rg k := by
  rw [alC_cg (by omega) (ctF_cg h)]
  have h1 := h _ (prv_lt (n := n) (i := k) hk); have h2 := h _ (nxt_lt (n := n) (i := k) (by omega)); have h3 := h k hk
  unfold alC
  rw [h1.1, h1.2, h2.1, h2.2, h3.1, h3.2]
  refine and_congr_right fun _ => and_congr_right fun _ => forall_congr' fun q => imp_congr_right fun _ => imp_congr_right fun _ => imp_congr_right fun _ => or_congr Iff.rfl (and_congr (asb_cx (by omega) h) (not_congr (exists_congr fun j => by rw [swC_cg h hk])))
theorem arT_cg (h : ∀ j, j < n → X j = A j ∧ Y j = B j) {k : Nat} (hk : k < n) : arT n X Y k = arT n A B k := by
  have hv := prv_lt (n := n) (i := k) hk
  have h1 := h _ hv; have h2 := h _ (nxt_lt (n := n) (i := k) (by omega)); have h3 := h _ (nxt_lt (n := n) (i := prv n k) (by omega))
  unfold arT eCr; rw [h1.1, h1.2, h2.1, h2.2, h3.1, h3.2]
theorem goK_cg (hn : 2 ≤ n) (h : ∀ j, j < n → X j = A j ∧ Y j = B j) {k : Nat} (hk : k < n) : goK ft st tn kd mn cx cy f0 n X Y rg lim k ↔ goK ft st tn kd mn cx cy f0 n A B rg lim k := by
  unfold goK
  rw [arT_cg h hk, (h k hk).1, (h k hk).2, alC_cx hn h hk]
end
/-- what holds of a feature while its corners go one by one -/
def thI (ft : Nat) (st tn kd : Nat → Int32) (f : Nat) (mn cx cy : Nat → Int32) (n : Nat) : Prop :=
  plI ft st tn kd f mn cx cy n ∧ mSm (kd f).toInt n (cF40 cx f) (cF40 cy f) ∧ okN ft st tn kd mn ∧ (1 ≤ (kd f).toInt ∧ (kd f).toInt ≤ 5) ∧ 2 ≤ n ∧ (5 ≤ (kd f).toInt → 3 ≤ n) ∧ lvF ft st tn f
/-- the corner that the class lets go is the reference's -/
theorem thB {ft : Nat} {st tn kd mn cx cy : Nat → Int32} {f n L : Nat} {X Y : Nat → Int32} {lim zb : Int32} (hI : thI ft st tn kd f mn cx cy n) (hn : n ≤ 40) (hL : lim.toInt = ((L : Nat) : Int)) (hX : ∀ j, j < n → X j = cF40 cx f j ∧ Y j = cF40 cy f j) (hr : ¬ 5 ≤ (kd f).toInt ∨ 4 ≤ n) (hwf : ∀ q, lvF ft st tn q → wfM mn cx cy q)
    (hb : bstS (arT n X Y) (fun k => ¬ goK ft st tn kd mn cx cy f n X Y (rgK (kd f).toInt) lim k) n zb) : (zb.toInt = -1 ∧ ¬ ∃ k, pBest ft st tn kd mn cx cy f n L k) ∨ ∃ k, zb = nI k ∧ pBest ft st tn kd mn cx cy f n L k := by
  obtain ⟨_, hs, hk, hkd, h2, _, _⟩ := hI
  have go : ∀ k, k < n → (goK ft st tn kd mn cx cy f n X Y (rgK (kd f).toInt) lim k ↔ (cnd ft st tn kd mn cx cy f n L k ∧ lwP ft st tn kd mn cx cy f n k)) := fun k hkn => (goK_cg h2 hX hkn).trans (go_iff hL hkn hn hkd hr h2 hs hwf hk)
  have et : ∀ k, k < n → arT n X Y k = trF cx cy f n k := fun k hkn => by
    rw [arT_cg hX hkn]
    have nxp : nxt n (prv n k) = k := by unfold nxt prv; (repeat' split) <;> omega
    unfold arT eCr; rw [nxp]
  rcases hb with ⟨hz, hall⟩ | ⟨b, hz, hb, hF, hm⟩
  · refine Or.inl ⟨by rw [hz]; decide, fun ⟨k, hk1, hk2, hk3, _⟩ => ?_⟩
    exact hall k hk1 ((go k hk1).mpr ⟨hk2, hk3⟩)
  · have g := (go b hb).mp (Classical.not_not.mp hF)
    refine Or.inr ⟨b, hz, hb, g.1, g.2, fun j hj h1 h2 => ?_⟩
    have := hm j hj (fun q => q ((go j hj).mpr ⟨h1, h2⟩))
    rw [et b hb, et j hj] at this; exact this
/-- a feature that others have not touched is as it was -/
theorem vwO_cg {cI : ClassId} {L : List Nat} {f : Nat → va_E} {FA : Nat → Option Nat} {kd st tn mn cx cy mn1 cx1 cy1 : Nat → Int32} {q : Nat} (hm : mn1 q = mn q) (hc : ∀ j, j < 40 → cF40 cx1 q j = cF40 cx q j ∧ cF40 cy1 q j = cF40 cy q j) (h : vwO cI L f FA kd st tn mn cx cy q) : vwO cI L f FA kd st tn mn1 cx1 cy1 q := by
  refine ⟨h.1, h.2.1, fun g => ?_⟩
  obtain ⟨fe, lk, lo, rk, wd, tw, pa, pb, gb, jt, we, fm, r, rx, ry, cap, X, Y, rg, h1, h2, h3, h4, h5⟩ := h.2.2 g
  refine ⟨fe, lk, lo, rk, wd, tw, pa, pb, gb, jt, we, fm, r, rx, ry, cap, X, Y, rg, h1, h2, h3, by rw [hm]; exact h4, ?_⟩
  obtain ⟨a, b, c, d, e⟩ := h5
  unfold rwR
  rw [hm]
  exact ⟨a, b, c, d, fun k hk => by rw [(hc k (by omega)).1, (hc k (by omega)).2]; exact e k hk⟩
end
