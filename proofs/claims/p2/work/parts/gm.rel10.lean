/-! the law's words over a row that stands for the corners -/
section
variable {ft : Nat} {st tn kd mn cx cy : Nat → Int32} {f0 n nd : Nat} {X Y A B P Q : Nat → Int32} {rg rd k9 : Int32}
theorem apMv_cx (h1 : 1 ≤ n) (h : ∀ j, j < n → X j = A j ∧ Y j = B j) {q : Nat} : apMv mn cx cy n X Y nd P Q q = apMv mn cx cy n A B nd P Q q := by
  have e1 := (mnI_cg (z := (A 0).toInt) (fun j hj => (h j hj).1) n (Nat.le_refl _)); have e2 := (mnI_cg (z := (B 0).toInt) (fun j hj => (h j hj).2) n (Nat.le_refl _))
  unfold apMv
  rw [(h 0 (by omega)).1, (h 0 (by omega)).2, e1.1, e1.2, e2.1, e2.2]
theorem swR_cx (h : ∀ j, j < n → X j = A j ∧ Y j = B j) {x y : Int} {i : Nat} (hi : i < n) : swR n X Y P Q x y i = swR n A B P Q x y i := by
  have h1 := h i hi; have h2 := h _ (nxt_lt (n := n) (i := i) (by omega))
  unfold swR spr stay
  rw [h1.1, h1.2, h2.1, h2.2]
theorem alM_cx (h1 : 1 ≤ n) (h : ∀ j, j < n → X j = A j ∧ Y j = B j) : alM ft st tn kd mn cx cy f0 n X Y rg nd P Q rd k9 ↔ alM ft st tn kd mn cx cy f0 n A B rg nd P Q rd k9 := by
  unfold alM
  refine and_congr_right fun _ => and_congr_right fun _ => forall_congr' fun q => imp_congr_right fun _ => imp_congr_right fun _ => imp_congr_right fun _ => or_congr (by rw [apMv_cx h1 h]) (and_congr (asb_cx h1 h) (not_congr (exists_congr fun i => and_congr_right fun hi => exists_congr fun k => and_congr_right fun _ => by rw [swR_cx h (by have := edg_le n rg; omega)])))
theorem alW_cx (h1 : 1 ≤ n) (h : ∀ j, j < n → X j = A j ∧ Y j = B j) : alW ft st tn kd mn cx cy f0 n X Y rg nd P Q rd k9 ↔ alW ft st tn kd mn cx cy f0 n A B rg nd P Q rd k9 := by
  unfold alW
  refine and_congr_right fun _ => and_congr_right fun _ => forall_congr' fun q => imp_congr_right fun _ => imp_congr_right fun _ => imp_congr_right fun _ => or_congr (by rw [apMv_cx h1 h]) (and_congr (asb_cx h1 h) ?_)
  rw [(h 0 (by omega)).1, (h 0 (by omega)).2]
theorem alB_cx (h1 : 1 ≤ n) (h : ∀ j, j < n → X j = A j ∧ Y j = B j) : alB ft st tn kd mn cx cy f0 n X Y rg nd P Q rd ↔ alB ft st tn kd mn cx cy f0 n A B rg nd P Q rd := by
  unfold alB
  refine and_congr_right fun _ => and_congr_right fun _ => forall_congr' fun q => imp_congr_right fun _ => imp_congr_right fun _ => imp_congr_right fun _ => or_congr (by rw [apMv_cx h1 h]) (asb_cx h1 h)
end
theorem mv_alk {n : Nat} {VX VY C D P Q X Y : Nat → Int32} (hv : ∀ k, k < n → P k = VX k ∧ Q k = VY k) (hc : ∀ k, k < n → X k = C k ∧ Y k = D k) : (n = n ∧ ∀ k, k < n → (P k).toInt = (X k).toInt ∧ (Q k).toInt = (Y k).toInt) ↔ ¬ mvd n VX VY C D := by
  constructor
  · rintro ⟨_, h⟩ ⟨k, hk, g⟩
    refine g ⟨?_, ?_⟩
    · rw [← (hv k hk).1, ← (hc k hk).1]; exact Int32.toInt_inj.mp (h k hk).1
    · rw [← (hv k hk).2, ← (hc k hk).2]; exact Int32.toInt_inj.mp (h k hk).2
  · intro h
    refine ⟨rfl, fun k hk => ?_⟩
    have g := Classical.byContradiction fun g => h ⟨k, hk, g⟩
    rw [(hv k hk).1, (hv k hk).2, (hc k hk).1, (hc k hk).2, g.1, g.2]; exact ⟨rfl, rfl⟩
theorem sm_hv {kd : Int} {n : Nat} {P X C : Nat → Int32} {k : Nat} (hk : k < n) (hc : ∀ k, k < n → X k = C k) (h : P k = smv (pI ((rgK kd).toInt = 0 ∧ (k = 0 ∨ k = n - 1))) (X (prv n k)) (X k) (X (nxt n k))) : P k = smv (pI (¬ 5 ≤ kd ∧ (k = 0 ∨ k = n - 1))) (C (prv n k)) (C k) (C (nxt n k)) := by
  rw [h, hc _ (prv_lt (n := n) (i := k) hk), hc k hk, hc _ (nxt_lt (n := n) (i := k) (by omega))]
  congr 1
  exact zp_iff (and_congr_left fun _ => rgK_0 _)
theorem sh_hv {kd : Int} {n kk rr : Nat} {dx : Int32} {P X C : Nat → Int32} {k : Nat} (hk : k < n) (hc : ∀ k, k < n → X k = C k) (h : P k = shV kd n kk dx rr X k) : P k = shV kd n kk dx rr C k := by
  rw [h]; unfold shV; rw [hc k hk]
