/-! the moves keep what holds of a state -/
section
variable {ft f : Nat} {kd st tn mn it cx cy VX VY : Nat → Int32} {cc : Nat → Nat} {AD : Nat}
theorem wfS_mv (h : wfS ft kd st tn mn it cx cy) (hl : lvF ft st tn f) (hlw : lwM ft st tn kd mn cx cy f (nN (mn f)) VX VY) : wfS ft kd st tn mn it (fgX f (nN (mn f)) VX cx) (fgX f (nN (mn f)) VY cy) := by
  have m := wfS_wf h f hl
  have m2 := m.2.1.2
  exact wfS_row (m := 0) h hl (fun _ _ => rfl) (fun j hj => ⟨fgX_o (by omega), fgX_o (by omega)⟩) m.1 m2 hlw.1 hlw.2.1
theorem wfS_sq {z1 z2 z3 z4 : Int32} (h : wfS ft kd st tn mn it cx cy) (hlw : lwS ft st tn kd mn cx cy f (nN (mn f))) (e1 : z1 = iI (bL (cF40 cx f) (nN (mn f)))) (e2 : z2 = iI (bL (cF40 cy f) (nN (mn f)))) (e3 : z3 = iI (bH (cF40 cx f) (nN (mn f)))) (e4 : z4 = iI (bH (cF40 cy f) (nN (mn f)))) : wfS ft (upd kd f 6) st tn (upd mn f 4) it (bxX f z1 z3 4 cx) (bxY f z2 z4 4 cy) := by
  obtain ⟨p, s, _⟩ := hlw
  rw [← e1, ← e2, ← e3, ← e4] at p s
  refine wfS_1 (f := f) h (fun p _ e => ⟨upo9 e, rfl, rfl, upo9 e, rfl, fun k hk => ⟨show bxX f z1 z3 4 cx (40 * p + k) = cx (40 * p + k) from bxX_o (by omega), show bxY f z2 z4 4 cy (40 * p + k) = cy (40 * p + k) from bxY_o (by omega)⟩⟩) (fun hf => ?_)
  obtain ⟨h1, h2, h3, h4⟩ := h f hf
  rw [up_at] at s
  rw [up_at, up_at]
  have n4 : nN (4 : Int32) = 4 := by decide
  have e6 : (6 : Int32).toInt = 6 := by decide
  refine ⟨by rw [e6]; omega, h2, fun ht => ?_, h4⟩
  rw [n4]
  exact ⟨⟨by decide, by omega, fun g => by rw [e6] at g; omega, p⟩, fun _ => s⟩
theorem bdC_sq (h : bdC cc AD ft kd st mn tn) : bdC cc AD ft (upd kd f 6) st (upd mn f 4) tn := bdC_cg h (fun _ _ g => g) (fun q _ g => by
  by_cases e : q = f
  · rw [e, up_at, up_at]; exact Or.inr ⟨by decide, by decide⟩
  · rw [upo9 e, upo9 e]; exact Or.inl ⟨g, rfl, Nat.le_refl _⟩)
/-- a house that grows moves -/
theorem gw_mv {n : Nat} {X Y : Nat → Int32} (h : mSm 6 n X Y) : mvd n (fun i => 2 * X i - X 0) (fun i => 2 * Y i - Y 0) X Y := by
  obtain ⟨⟨i, j, hi, hj, hlt⟩, _⟩ := ho_nd h
  have key : ∀ k, 2 * X k - X 0 = X k → X k = X 0 := fun k hk => by
    have h1 : 2 * X k - X 0 - X k + X 0 = X k - X k + X 0 := by rw [hk]
    have h2 : 2 * X k - X 0 - X k + X 0 = X k := by grind
    have h3 : X k - X k + X 0 = X 0 := by grind
    rw [← h2, h1, h3]
  by_cases g : X i = X 0
  · refine ⟨j, hj, fun e => ?_⟩
    have := key j e.1
    rw [g, this] at hlt
    omega
  · exact ⟨i, hi, fun e => g (key i e.1)⟩
/-- room for a corner -/
theorem cor_lt {kd st tn mn it : Int32} {X Y : Nat → Int32} (h : wfQ kd st tn mn it X Y) (ht : tn.toInt = 0) (hn : ¬ nN mn = cpk kd.toInt) : nN mn < (if kd.toInt = 0 then 1 else 40) := by
  obtain ⟨⟨_, a2, a3, _⟩, _⟩ := h.2.2.1 ht
  unfold cpk at hn
  by_cases e : kd.toInt = 0
  · rw [if_pos e] at hn ⊢
    have := a3 e; omega
  · rw [if_neg e] at hn ⊢
    omega
theorem cor_ne {n : Nat} {k : Int} (h : n < (if k = 0 then 1 else 40)) : ¬ n = cpk k := by
  unfold cpk
  intro e
  rw [← e] at h
  omega
end
theorem up_same {I : Nat → Int32} {k : Nat} {v : Int32} (h : I k = v) : upd I k v = I := by
  funext j
  unfold upd
  by_cases e : j = k
  · rw [if_pos e, e, h]
  · rw [if_neg e]
theorem smN_q {c : Nat → Nat} {q n : Nat} (h : q < n) : c q ≤ smN c n := Nat.le_trans (show c q ≤ smN c (q + 1) from Nat.le_add_left (c q) (smN c q)) (smN_le c h)
/-! a position's sheet -/
section
variable {K Sn AD C : Nat} {cc W : Nat → Nat} {bs dn T ft cp ln cl t : Nat} {FT : Nat → Nat} {V : Nat → Nat → Nat → Int32} {VX VY : Nat → Nat → Int32} {tn rk wd tw pa pb kd st gb it mn cx cy sa sh lb lc : Nat → Int32}
theorem INV_at (h : INV K Sn AD C cc W bs T ft cp ln cl FT V VX VY tn rk wd tw pa pb kd st it mn cx cy sa sh lb lc) (hT : bs < T) (t1 : bs ≤ t) (t2 : t ≤ T) : sa (t - bs) = nI (W t) ∧ sh (W t) = nI (FT t) ∧ (∀ g, g < FT t → ∀ j, j < 10 + 2 * nnV V tn t g → sh (psN (nnV V tn t) (W t) g + j) = DV V VX VY pa pb rk wd tw tn t g j) ∧ psN (nnV V tn t) (W t) (FT t) ≤ 4096 * cp := by
  obtain ⟨_, _, ⟨k1, k2, k3, k4, k5, k6⟩, _, _⟩ := h
  have b := k1.2.2.2 hT t t1 t2
  refine ⟨k1.2.1 t t1 t2, b.1, b.2, ?_⟩
  by_cases e : t = T
  · rw [e]; exact k5 hT
  · rw [← k1.2.2.1 t t1 (by omega)]
    exact Nat.le_trans (kpB_le k1 (show bs ≤ t + 1 by omega) (show t + 1 ≤ T by omega) (Nat.le_refl _)) k4
theorem rsM_e (hV : wfV FT V VX VY tn t) : (∀ q, q < FT t → (¬ (V t 1 q).toInt = 0 ∧ (tn q).toInt = 0) → rsM (FT t) (DV V VX VY pa pb rk wd tw tn t) (nnV V tn t) tn mn q = nI (nN (rsM (FT t) (DV V VX VY pa pb rk wd tw tn t) (nnV V tn t) tn mn q))) ∧ ∀ q, ¬ (tn q).toInt = 0 → rsM (FT t) (DV V VX VY pa pb rk wd tw tn t) (nnV V tn t) tn mn q = mn q := by
  refine ⟨fun q hq hs => ?_, fun q g => ?_⟩
  · have e : rsM (FT t) (DV V VX VY pa pb rk wd tw tn t) (nnV V tn t) tn mn q = nI (nnV V tn t q) := by unfold rsM; exact if_pos ⟨hq, hs.1, hs.2⟩
    rw [e, nN_nI (by have := nnV_40 hV hq; omega)]
  · unfold rsM; exact if_neg (fun c => g c.2.2)
/-- what a run asks for -/
theorem smd_b (h : bdC cc AD ft kd st mn tn) (h0 : ∀ q, q < 200 → ¬ (tn q).toInt = 0 → mn q = 0) (hf : ft ≤ 200) : ∀ k, k ≤ ft → smd (fun _ => 1) (fun q => nN (mn q)) k ≤ 18 * k + 2 * smN cc k := by
  intro k
  induction k with
  | zero => intro _; exact Nat.le_refl _
  | succ k ih =>
    intro hk
    have h1 := ih (by omega)
    have h2 : smd (fun _ => 1) (fun q => nN (mn q)) (k + 1) = smd (fun _ => 1) (fun q => nN (mn q)) k + (2 * nN (mn k) + 10) := rfl
    have h3 : smN cc (k + 1) = smN cc k + cc k := rfl
    have h4 : nN (mn k) ≤ 4 + cc k := by
      by_cases t0 : (tn k).toInt = 0
      · exact (h.2 k (by omega) t0).1
      · rw [h0 k (by omega) t0, show nN (0 : Int32) = 0 by decide]; exact Nat.zero_le _
    omega
end
