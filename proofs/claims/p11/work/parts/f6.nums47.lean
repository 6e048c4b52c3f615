section
/-! the class's law is the reference's: corners move, or a row becomes its box -/
section
variable (ft : Nat) (st tn kd mn cx cy : Nat → Int32) (f0 n : Nat) (X Y : Nat → Int32) (rg : Int32) (nd : Nat) (P Q : Nat → Int32) (rd kd9 : Int32)
abbrev apMv (q : Nat) : Prop := apB (mnI (mnI (X 0).toInt X n) P nd) (mnI (mnI (Y 0).toInt Y n) Q nd) (mxI (mxI (X 0).toInt X n) P nd) (mxI (mxI (Y 0).toInt Y n) Q nd) (nN (mn q)) (cF40 cx q) (cF40 cy q)
abbrev asQ (q : Nat) : Prop := asb n X Y rg nd P Q rd (nN (mn q)) (cF40 cx q) (cF40 cy q) (rgK (kd q).toInt)
abbrev sndK : Prop := (∀ i, i < edg nd rd → eFr nd P Q rd i (i + 1)) ∧ (¬ kd9.toInt = 6 ∨ ∀ k, k < nd → eRt nd P Q k)
/-- lawful: corners move -/
def alM : Prop := pls nd P Q ∧ sndK nd P Q rd kd9 ∧ ∀ q, q < ft → (q ≠ f0 → lvF ft st tn q → (apMv mn cx cy n X Y nd P Q q ∨ (asQ kd mn cx cy n X Y rg nd P Q rd q ∧ (¬ ∃ i, i < edg n rg ∧ ∃ k, k < nN (mn q) ∧ swR n X Y P Q (cF40 cx q k).toInt (cF40 cy q k).toInt i))))
/-- lawful: a point moves -/
def alW : Prop := pls nd P Q ∧ sndK nd P Q rd kd9 ∧ ∀ q, q < ft → (q ≠ f0 → lvF ft st tn q → (apMv mn cx cy n X Y nd P Q q ∨ (asQ kd mn cx cy n X Y rg nd P Q rd q ∧ (∀ k, k < prt (nN (mn q)) (rgK (kd q).toInt) → wyF2 (X 0).toInt (Y 0).toInt (P 0).toInt (Q 0).toInt (nN (mn q)) (cF40 cx q) (cF40 cy q) k))))
/-- lawful: a row becomes its box -/
def alB : Prop := pls nd P Q ∧ sndK nd P Q rd 6 ∧ ∀ q, q < ft → (q ≠ f0 → lvF ft st tn q → (apMv mn cx cy n X Y nd P Q q ∨ asQ kd mn cx cy n X Y rg nd P Q rd q))
end
theorem swR_p {n : Nat} {X Y P Q : Nat → Int32} {x y : Int} {i : Nat} : swR n X Y P Q x y i ↔ swp n X Y P Q x y i := by
  unfold swR swp; rw [wtR_iff, wtR_iff]
theorem law_mv {kf kg : Int} {n m : Nat} {X Y P Q U V : Nat → Int32} {x0 y0 : Int32} (h0 : ¬ kf = 0) (h1 : okK kf n) (h3 : okK kg m) :
    (asb n X Y (rgK kf) n P Q (rgK kf) m U V (rgK kg) ∧ ¬ ∃ i, i < edg n (rgK kf) ∧ ∃ k, k < m ∧ swR n X Y P Q (U k).toInt (V k).toInt i) ↔ lawTo x0 y0 kf n P Q kg m U V (mtF kf n X Y kg m U V) (inF kg m U V (X 0).toInt (Y 0).toInt) (fun j => inF kf n X Y (U j).toInt (V j).toInt) (fun k => ∃ e, e < eO kf n ∧ swp n X Y P Q (U k).toInt (V k).toInt e) := by
  have e : edg n (rgK kf) = eO kf n := edg_eO (rgK_t kf) h0 (by unfold okK at h1; omega)
  rw [asb_law h1 h1 h3 Iff.rfl, e]
  unfold lawTo
  constructor
  · rintro ⟨⟨a, b, c⟩, d⟩
    exact ⟨a, b, fun j hj => ⟨c j hj, fun _ ⟨i, hi, g⟩ => d ⟨i, hi, j, hj, swR_p.mpr g⟩⟩, fun g => absurd g h0⟩
  · rintro ⟨a, b, c, _⟩
    exact ⟨⟨a, b, fun j hj => (c j hj).1⟩, fun ⟨i, hi, j, hj, g⟩ => (c j hj).2 h0 ⟨i, hi, swR_p.mp g⟩⟩
theorem law_wy {kg : Int} {m : Nat} {X Y P Q U V : Nat → Int32} {sw : Nat → Prop} (h3 : okK kg m) :
    (asb 1 X Y (rgK 0) 1 P Q (rgK 0) m U V (rgK kg) ∧ ∀ k, k < prt m (rgK kg) → wyF2 (X 0).toInt (Y 0).toInt (P 0).toInt (Q 0).toInt m U V k) ↔ lawTo (X 0) (Y 0) 0 1 P Q kg m U V (mtF 0 1 X Y kg m U V) (inF kg m U V (X 0).toInt (Y 0).toInt) (fun j => inF 0 1 X Y (U j).toInt (V j).toInt) sw := by
  have o1 : okK 0 1 := Or.inl ⟨rfl, rfl⟩
  rw [asb_law o1 o1 h3 Iff.rfl, prt_eO (rgK_t kg) h3]
  unfold lawTo
  constructor
  · rintro ⟨⟨a, b, c⟩, d⟩
    exact ⟨a, b, fun j hj => ⟨c j hj, fun g => absurd rfl g⟩, fun _ k hk => wy_fWy.mp (d k hk)⟩
  · rintro ⟨a, b, c, d⟩
    exact ⟨⟨a, b, fun j hj => (c j hj).1⟩, fun k hk => wy_fWy.mpr (d rfl k hk)⟩
theorem law_bx {kg : Int} {n m : Nat} {X Y P Q U V : Nat → Int32} {x0 y0 : Int32} (h1 : okK 5 n) (h3 : okK kg m) :
    asb n X Y (rgK 5) 4 P Q (rgK 6) m U V (rgK kg) ↔ lawTo x0 y0 6 4 P Q kg m U V (mtF 5 n X Y kg m U V) (inF kg m U V (X 0).toInt (Y 0).toInt) (fun j => inF 5 n X Y (U j).toInt (V j).toInt) (fun _ => False) := by
  have o2 : okK 6 4 := Or.inr ⟨by decide, by decide⟩
  rw [asb_law h1 o2 h3 ⟨fun _ => by decide, fun _ => by decide⟩]
  unfold lawTo
  constructor
  · rintro ⟨a, b, c⟩
    exact ⟨a, b, fun j hj => ⟨c j hj, fun _ g => g⟩, fun g => absurd g (by decide)⟩
  · rintro ⟨a, b, c, _⟩
    exact ⟨a, b, fun j hj => (c j hj).1⟩
theorem fgX_f {f n : Nat} {V c : Nat → Int32} : ∀ j, j < n → cF40 (fgX f n V c) f j = V j := by
  intro j hj
  show fgX f n V c (40 * f + j) = V j
  unfold fgX; rw [if_pos (by omega), show 40 * f + j - 40 * f = j by omega]
theorem fgX_q {f n q : Nat} {V c : Nat → Int32} (hq : q ≠ f) (hn : n ≤ 40) : ∀ j, j < 40 → cF40 (fgX f n V c) q j = cF40 c q j := by
  intro j hj
  show fgX f n V c (40 * q + j) = c (40 * q + j)
  unfold fgX; rw [if_neg (by omega)]
section
variable {ft : Nat} {st tn kd mn cx cy : Nat → Int32} {f n : Nat} {P Q VX VY : Nat → Int32}
theorem alM_lw (hn : n ≤ 40) (h0 : ¬ (kd f).toInt = 0) (hmc : mnc (kd f).toInt ≤ n) (hv : ∀ j, j < n → P j = VX j ∧ Q j = VY j) (hwf : ∀ q, lvF ft st tn q → wfM mn cx cy q) (hkn : okN ft st tn kd mn) :
    alM ft st tn kd mn cx cy f n (cF40 cx f) (cF40 cy f) (rgK (kd f).toInt) n P Q (rgK (kd f).toInt) (kd f) ↔ lwM ft st tn kd mn cx cy f n VX VY := by
  have h2 : 2 ≤ n := by unfold mnc at hmc; split at hmc <;> omega
  have o1 : okK (kd f).toInt n := Or.inr ⟨h0, h2⟩
  have c1 : ∀ j, j < n → cF40 (fgX f n VX cx) f j = P j ∧ cF40 (fgX f n VY cy) f j = Q j := fun j hj => by rw [fgX_f j hj, fgX_f j hj, (hv j hj).1, (hv j hj).2]; exact ⟨rfl, rfl⟩
  unfold alM lwM lwA
  rw [pls_cg c1]
  refine and_congr_right fun _ => and_congr ?_ ?_
  · exact (snd_iff (rgK_t _) h0 hmc).trans ⟨mSm_cg fun j hj => ⟨(c1 j hj).1.symm, (c1 j hj).2.symm⟩, mSm_cg c1⟩
  · have one : ∀ q, lvF ft st tn q → q ≠ f → ((apMv mn cx cy n (cF40 cx f) (cF40 cy f) n P Q q ∨ (asQ kd mn cx cy n (cF40 cx f) (cF40 cy f) (rgK (kd f).toInt) n P Q (rgK (kd f).toInt) q ∧ (¬ ∃ i, i < edg n (rgK (kd f).toInt) ∧ ∃ k, k < nN (mn q) ∧ swR n (cF40 cx f) (cF40 cy f) P Q (cF40 cx q k).toInt (cF40 cy q k).toInt i))) ↔
        lawTo (cF40 cx f 0) (cF40 cy f 0) (kd f).toInt n (cF40 (fgX f n VX cx) f) (cF40 (fgX f n VY cy) f) (kd q).toInt (nN (mn q)) (cF40 (fgX f n VX cx) q) (cF40 (fgX f n VY cy) q) (bMt kd mn cx cy f n q) (bWi kd mn cx cy f q) (bIn kd cx cy f n q) (sWm (kd f).toInt n (cF40 cx f) (cF40 cy f) (fgX f n VX cx) (fgX f n VY cy) f q)) := by
      intro q hq hqf
      have w := hwf q hq
      have c2 : ∀ j, j < nN (mn q) → cF40 (fgX f n VX cx) q j = cF40 cx q j ∧ cF40 (fgX f n VY cy) q j = cF40 cy q j := fun j hj => ⟨fgX_q hqf hn j (by have := w.2.1; omega), fgX_q hqf hn j (by have := w.2.1; omega)⟩
      have le := eO_le (k := (kd f).toInt) (n := n) (by omega)
      have sw : ∀ k, k < nN (mn q) → (sWm (kd f).toInt n (cF40 cx f) (cF40 cy f) (fgX f n VX cx) (fgX f n VY cy) f q k ↔ ∃ e, e < eO (kd f).toInt n ∧ swp n (cF40 cx f) (cF40 cy f) P Q (cF40 cx q k).toInt (cF40 cy q k).toInt e) := fun k hk => by
        refine exists_congr fun e => and_congr_right fun he => ?_
        have hx := nxt_lt (n := n) (i := e) (by omega)
        unfold swp spr stay
        rw [(c2 k hk).1, (c2 k hk).2, (c1 e (by omega)).1, (c1 e (by omega)).2, (c1 _ hx).1, (c1 _ hx).2]
      rw [lawTo_cg (A := P) (B := Q) (S := cF40 cx q) (T := cF40 cy q) (sv := fun k => ∃ e, e < eO (kd f).toInt n ∧ swp n (cF40 cx f) (cF40 cy f) P Q (cF40 cx q k).toInt (cF40 cy q k).toInt e) (by omega) w.2.1.1 c1 c2 sw]
      rw [← law_mv h0 o1 (hkn q hq)]
      have bx := mv_in (n := n) (nd := n) (X := cF40 cx f) (Y := cF40 cy f) (P := P) (Q := Q)
      exact ⟨fun g => g.elim (fun g => ⟨ap_asb (by omega) (by omega) w.2.1.1 bx.1 bx.2 g, ap_swM bx.1 bx.2 g⟩) id, Or.inr⟩
    exact ⟨fun h q hq hqf => (one q hq hqf).mp (h q hq.1 hqf hq), fun h q _ hqf hq => (one q hq hqf).mpr (h q hq hqf)⟩
theorem alW_lw (h0 : (kd f).toInt = 0) (hv : ∀ j, j < 1 → P j = VX j ∧ Q j = VY j) (hwf : ∀ q, lvF ft st tn q → wfM mn cx cy q) (hkn : okN ft st tn kd mn) :
    alW ft st tn kd mn cx cy f 1 (cF40 cx f) (cF40 cy f) (rgK (kd f).toInt) 1 P Q (rgK (kd f).toInt) (kd f) ↔ lwM ft st tn kd mn cx cy f 1 VX VY := by
  have c1 : ∀ j, j < 1 → cF40 (fgX f 1 VX cx) f j = P j ∧ cF40 (fgX f 1 VY cy) f j = Q j := fun j hj => by rw [fgX_f j hj, fgX_f j hj, (hv j hj).1, (hv j hj).2]; exact ⟨rfl, rfl⟩
  unfold alW lwM lwA
  rw [pls_cg c1, h0]
  refine and_congr_right fun _ => and_congr ?_ ?_
  · refine ⟨fun _ => ⟨fun _ => rfl, fun g => absurd rfl g⟩, fun _ => ⟨fun i hi => ?_, Or.inl (by omega)⟩⟩
    unfold edg at hi; rw [if_pos (by omega)] at hi; omega
  · have one : ∀ q, lvF ft st tn q → q ≠ f → ((apMv mn cx cy 1 (cF40 cx f) (cF40 cy f) 1 P Q q ∨ (asQ kd mn cx cy 1 (cF40 cx f) (cF40 cy f) (rgK 0) 1 P Q (rgK 0) q ∧ (∀ k, k < prt (nN (mn q)) (rgK (kd q).toInt) → wyF2 (cF40 cx f 0).toInt (cF40 cy f 0).toInt (P 0).toInt (Q 0).toInt (nN (mn q)) (cF40 cx q) (cF40 cy q) k))) ↔
        lawTo (cF40 cx f 0) (cF40 cy f 0) 0 1 (cF40 (fgX f 1 VX cx) f) (cF40 (fgX f 1 VY cy) f) (kd q).toInt (nN (mn q)) (cF40 (fgX f 1 VX cx) q) (cF40 (fgX f 1 VY cy) q) (mtF 0 1 (cF40 cx f) (cF40 cy f) (kd q).toInt (nN (mn q)) (cF40 cx q) (cF40 cy q)) (bWi kd mn cx cy f q) (fun k => inF 0 1 (cF40 cx f) (cF40 cy f) (cF40 cx q k).toInt (cF40 cy q k).toInt) (sWm 0 1 (cF40 cx f) (cF40 cy f) (fgX f 1 VX cx) (fgX f 1 VY cy) f q)) := by
      intro q hq hqf
      have w := hwf q hq
      have c2 : ∀ j, j < nN (mn q) → cF40 (fgX f 1 VX cx) q j = cF40 cx q j ∧ cF40 (fgX f 1 VY cy) q j = cF40 cy q j := fun j hj => ⟨fgX_q hqf (by omega) j (by have := w.2.1; omega), fgX_q hqf (by omega) j (by have := w.2.1; omega)⟩
      rw [lawTo_cg (A := P) (B := Q) (S := cF40 cx q) (T := cF40 cy q) (by omega) w.2.1.1 c1 c2 (fun _ _ => Iff.rfl)]
      rw [← law_wy (hkn q hq)]
      have bx := mv_in (n := 1) (nd := 1) (X := cF40 cx f) (Y := cF40 cy f) (P := P) (Q := Q)
      exact ⟨fun g => g.elim (fun g => ⟨ap_asb (by omega) (by omega) w.2.1.1 bx.1 bx.2 g, ap_wy (by omega) (by omega) bx.1 bx.2 g⟩) id, Or.inr⟩
    have hb : ∀ q, bMt kd mn cx cy f 1 q ↔ mtF 0 1 (cF40 cx f) (cF40 cy f) (kd q).toInt (nN (mn q)) (cF40 cx q) (cF40 cy q) := fun q => by show mtF (kd f).toInt 1 _ _ _ _ _ _ ↔ _; rw [h0]
    constructor
    · intro h q hq hqf
      have := (one q hq hqf).mp (h q hq.1 hqf hq)
      rw [← h0] at this ⊢; exact this
    · intro h q _ hqf hq
      refine (one q hq hqf).mpr ?_
      have := h q hq hqf
      rw [← h0] at this ⊢; exact this
end
end
