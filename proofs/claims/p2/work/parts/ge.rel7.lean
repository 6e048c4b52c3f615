/-! changes that are no steps -/
section
variable {cI cO : ClassId} {L L1 L2 : List Nat} {f f1 f2 : Nat → va_E} {own own1 own2 : Nat → Nat} {e0 ea n9 : Nat} {FA : Nat → Option Nat} {fe cl nw md sp : Nat → Nat} {la : Nat → Nat → Nat} {fm : Nat → Value} {SA SA1 : Nat → Option Nat} {bs dn T ft fN : Nat} {FT : Nat → Nat} {V : Nat → Nat → Nat → Int32} {VX VY : Nat → Nat → Int32} {tn rk wd tw pa pb wh of9 we kd st gb it mn cx cy kd1 st1 gb1 it1 mn1 cx1 cy1 tn1 rk1 wd1 tw1 pa1 pb1 : Nat → Int32}
/-- one feature's look has changed, and the past is forgotten -/
theorem S_seal {q : Nat} (hG : shG cI cO L f e0 FA ea n9 own fe cl la (la dn) (fun _ => 0) sp (fun _ => .null) SA bs dn dn ft ft FT V VX VY tn rk wd tw pa pb wh of9 we kd st gb it mn cx cy) (hk : kpT (fun g => g ≠ 8 * q + 2 ∧ g ≠ 8 * q + 3 ∧ g ≠ 8002) L f own L1 f1 own1) (hq : q < ft)
    (hlk : lkG cI L1 f1 own1 (8 * q + 2) (8 * q + 3) (la dn q) (cl q) (kd q) (st1 q) (gb q) (it q) (tn1 q) (nN (mn1 q)) (cF40 cx q) (cF40 cy q)) (ho : ∀ p, p ≠ q → st1 p = st p ∧ tn1 p = tn p ∧ mn1 p = mn p) (hL1 : LsA cO L1 f1 own1 e0 ea dn SA1) (hS : ∀ i, i < dn → SA1 i = SA i) :
    shB cI cO L1 f1 e0 FA ea dn dn dn ft (fun _ => ft) (fun _ => vC kd st1 gb it mn1) (fun _ => cx) (fun _ => cy) tn1 rk wd tw pa pb wh of9 we kd st1 gb it mn1 cx cy := by
  obtain ⟨h1, h2, h3, h4, h5, ⟨m1, m2, m3, m4, m5, m6⟩, h7⟩ := hG
  refine S_new (nw := la dn) (fe := fe) (cl := cl) (own := own1) (FT := FT) (la := la) (sp := sp) (SA := SA1) (FeA_kp hk (fun p hp => ⟨⟨by omega, by omega, by omega⟩, ⟨by omega, by omega, by omega⟩⟩) h1) (fun p hp => ?_) (fun t t1 t2 => ?_) hL1 h7 m6 m3
  · by_cases e : p = q
    · rw [e]; exact hlk
    · rw [(ho p e).1, (ho p e).2.1, (ho p e).2.2]
      exact lkG_kp hk (by show 8 * p + 2 ≠ _ ∧ 8 * p + 2 ≠ _ ∧ 8 * p + 2 ≠ _; omega) (by show 8 * p + 3 ≠ _ ∧ 8 * p + 3 ≠ _ ∧ 8 * p + 3 ≠ _; omega) (h2 p hp)
  · obtain ⟨g1, mv, ch, g2, g3⟩ := h4 t t1 t2
    exact ⟨by rw [hS _ (by omega)]; exact g1, mv, ch, hk _ _ _ ⟨by omega, by omega, by omega⟩ g2, fun hb => by omega⟩
/-- an open feature gets a corner -/
theorem S_corner {q : Nat} (hG : shG cI cO L f e0 FA ea T own fe cl la (la dn) (fun _ => 0) sp (fun _ => .null) SA bs dn T ft (FT T) FT V VX VY tn rk wd tw pa pb wh of9 we kd st gb it mn cx cy) (hD : HiD dn ft V VX VY kd st gb it tn mn cx cy) (hft : ft = FT dn) (hk : kpT (fun g => g ≠ 8 * q + 3) L f own L1 f1 own1) (hq : q < ft) (hs : (st q).toInt = 0)
    (hlk : lkG cI L1 f1 own1 (8 * q + 2) (8 * q + 3) (la dn q) (cl q) (kd q) (st q) (gb q) (it q) (tn q) (nN (mn1 q)) (cF40 cx1 q) (cF40 cy1 q)) (ho : ∀ p, p ≠ q → mn1 p = mn p ∧ ∀ k, k < 40 → cF40 cx1 p k = cF40 cx p k ∧ cF40 cy1 p k = cF40 cy p k) (h40 : ∀ p, p < ft → ¬ (st p).toInt = 0 → (tn p).toInt = 0 → nN (mn p) ≤ 40) :
    shB cI cO L1 f1 e0 FA ea bs dn T ft FT V VX VY tn rk wd tw pa pb wh of9 we kd st gb it mn1 cx1 cy1 := by
  obtain ⟨h1, h2, h3, h4, h5, ⟨m1, m2, m3, m4, m5, m6⟩, h7⟩ := hG
  refine ⟨own1, fe, cl, la, sp, SA, ⟨FeA_kp hk (fun p hp => ⟨by omega, by omega⟩) h1, fun p hp => ?_, fun t t1 t2 p hp => ⟨fun h0 => ?_, (h3 t t1 t2 p hp).2⟩, StA_kp hk ⟨by omega, by omega⟩ h4, LsA_kp hk ⟨by omega, by omega⟩ h5, ⟨m1, m2, m3, m4, m5, m6⟩, h7⟩, fun p hp => ?_, hft⟩
  · by_cases e : p = q
    · rw [e]; exact hlk
    · rw [(ho p e).1]
      exact lkG_cg (ho p e).2 (lkG_kp hk (by show 8 * p + 2 ≠ _; omega) (by show 8 * p + 3 ≠ _; omega) (h2 p hp))
  · by_cases e : p = q
    · have h0' := (h3 t t1 t2 p hp).2 (Or.inr ⟨by rw [e, ← hft]; exact hq, by rw [e, (hD q hq).2.1]; exact hs⟩)
      exact absurd (by rw [h0'.2.2.2.1, e, (hD q hq).2.1]; exact hs) h0
    · exact lkG_kp hk (by omega) (by omega) ((h3 t t1 t2 p hp).1 h0)
  · have hd := hD p hp
    refine ⟨hd.1, hd.2.1, hd.2.2.1, hd.2.2.2.1, fun s0 t0 => ?_⟩
    have e : p ≠ q := fun e => s0 (by rw [e]; exact hs)
    have hd2 := hd.2.2.2.2 s0 t0
    have n40 := h40 p hp s0 t0
    rw [(ho p e).1]
    exact ⟨hd2.1, fun k hk2 => by rw [((ho p e).2 k (by omega)).1, ((ho p e).2 k (by omega)).2]; exact hd2.2 k hk2⟩
/-- a new feature -/
theorem S_feature {fq nq c : Nat} (hG : shG cI cO L f e0 FA ea n9 own fe cl la (la dn) (fun _ => 0) sp (fun _ => .null) SA bs dn dn ft ft FT V VX VY tn rk wd tw pa pb wh of9 we kd st gb it mn cx cy) (hk : kpT (fun g => g ≠ 8002) L f own L1 f1 own1) (h200 : ft < 200)
    (hfe : feG cI L1 f1 own1 ft fq nq c .null (rk1 ft) (wd1 ft) (tw1 ft) (pa1 ft) (pb1 ft)) (hlk : lkG cI L1 f1 own1 (8 * ft + 2) (8 * ft + 3) nq c (kd1 ft) (st1 ft) (gb1 ft) (it1 ft) (tn1 ft) (nN (mn1 ft)) (cF40 cx ft) (cF40 cy ft))
    (ho : ∀ p, p ≠ ft → kd1 p = kd p ∧ st1 p = st p ∧ gb1 p = gb p ∧ it1 p = it p ∧ mn1 p = mn p ∧ tn1 p = tn p ∧ rk1 p = rk p ∧ wd1 p = wd p ∧ tw1 p = tw p ∧ pa1 p = pa p ∧ pb1 p = pb p) (hL1 : LsA cO L1 f1 own1 e0 ea dn SA1) (hS : ∀ i, i < dn → SA1 i = SA i) :
    shB cI cO L1 f1 e0 (va_up FA ft (some fq)) ea dn dn dn (ft + 1) (fun _ => ft + 1) (fun _ => vC kd1 st1 gb1 it1 mn1) (fun _ => cx) (fun _ => cy) tn1 rk1 wd1 tw1 pa1 pb1 wh of9 we kd1 st1 gb1 it1 mn1 cx cy := by
  obtain ⟨h1, h2, h3, h4, h5, ⟨m1, m2, m3, m4, m5, m6⟩, h7⟩ := hG
  refine S_new (nw := upN (la dn) ft nq) (fe := upN fe ft fq) (cl := upN cl ft c) (own := own1) (FT := FT) (la := la) (sp := sp) (SA := SA1) (fun p hp => ?_) (fun p hp => ?_) (fun t t1 t2 => ?_) hL1 (fun p hp => ?_) (by omega) m3
  · by_cases e : p = ft
    · rw [e]; simp only [upN_at]; exact hfe
    · obtain ⟨a1, a2, a3, a4, a5, a6, a7, a8, a9, a10, a11⟩ := ho p e
      simp only [upN_o e]; rw [a7, a8, a9, a10, a11]
      exact feG_kp hk (by omega) (by omega) (h1 p (by omega))
  · by_cases e : p = ft
    · rw [e]; simp only [upN_at]; exact hlk
    · obtain ⟨a1, a2, a3, a4, a5, a6, a7, a8, a9, a10, a11⟩ := ho p e
      simp only [upN_o e]; rw [a1, a2, a3, a4, a5, a6]
      exact lkG_kp hk (by show 8 * p + 2 ≠ _; omega) (by show 8 * p + 3 ≠ _; omega) (h2 p (by omega))
  · obtain ⟨g1, mv, ch, g2, g3⟩ := h4 t t1 t2
    exact ⟨by rw [hS _ (by omega)]; exact g1, mv, ch, hk _ _ _ (by omega) g2, fun hb => by omega⟩
  · by_cases e : p = ft
    · rw [e, upN_at]; unfold va_up; rw [if_pos rfl]
    · rw [upN_o e]; unfold va_up; rw [if_neg e]; exact h7 p (by omega)
end
