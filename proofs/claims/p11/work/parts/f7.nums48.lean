section
/-! the class's law is the reference's: a row becomes its box; two rows become one -/
theorem bx_f {f : Nat} {a b c d : Int32} {cx cy P Q : Nat → Int32} (h0 : P 0 = a ∧ Q 0 = c) (h1 : P 1 = b ∧ Q 1 = c) (h2 : P 2 = b ∧ Q 2 = d) (h3 : P 3 = a ∧ Q 3 = d) : ∀ j, j < 4 → cF40 (bxX f a b 4 cx) f j = P j ∧ cF40 (bxY f c d 4 cy) f j = Q j := by
  intro j hj
  have e1 : cF40 (bxX f a b 4 cx) f j = if j = 1 ∨ j = 2 then b else a := by
    show bxX f a b 4 cx (40 * f + j) = _
    unfold bxX
    rw [if_pos (by omega)]
    by_cases q : j = 1 ∨ j = 2
    · rw [if_pos q, if_pos (by omega)]
    · rw [if_neg q, if_neg (by omega)]
  have e2 : cF40 (bxY f c d 4 cy) f j = if 1 < j then d else c := by
    show bxY f c d 4 cy (40 * f + j) = _
    unfold bxY
    rw [if_pos (by omega)]
    by_cases q : 1 < j
    · rw [if_pos q, if_pos (by omega)]
    · rw [if_neg q, if_neg (by omega)]
  rw [e1, e2]
  rcases (show j = 0 ∨ j = 1 ∨ j = 2 ∨ j = 3 by omega) with rfl | rfl | rfl | rfl
  · exact ⟨h0.1.symm, h0.2.symm⟩
  · exact ⟨h1.1.symm, h1.2.symm⟩
  · exact ⟨h2.1.symm, h2.2.symm⟩
  · exact ⟨h3.1.symm, h3.2.symm⟩
section
variable {ft : Nat} {st tn kd mn cx cy : Nat → Int32} {f n : Nat} {P Q : Nat → Int32}
theorem alB_lw (hn : 3 ≤ n ∧ n ≤ 40) (h5 : (kd f).toInt = 5) (h0 : P 0 = iI (bL (cF40 cx f) n) ∧ Q 0 = iI (bL (cF40 cy f) n)) (h1 : P 1 = iI (bH (cF40 cx f) n) ∧ Q 1 = iI (bL (cF40 cy f) n)) (h2 : P 2 = iI (bH (cF40 cx f) n) ∧ Q 2 = iI (bH (cF40 cy f) n)) (h3 : P 3 = iI (bL (cF40 cx f) n) ∧ Q 3 = iI (bH (cF40 cy f) n)) (hwf : ∀ q, lvF ft st tn q → wfM mn cx cy q) (hkn : okN ft st tn kd mn) :
    alB ft st tn kd mn cx cy f n (cF40 cx f) (cF40 cy f) (rgK 5) 4 P Q (rgK 6) ↔ lwS ft st tn kd mn cx cy f n := by
  have c1 := bx_f (f := f) (cx := cx) (cy := cy) h0 h1 h2 h3
  have u6 : ((upd kd f 6) f).toInt = 6 := by rw [up_at]; decide
  unfold alB lwS lwA
  rw [pls_cg c1, u6]
  refine and_congr_right fun _ => and_congr ?_ ?_
  · have s := snd_iff (kd := 6) (n := 4) (X := P) (Y := Q) (rg := rgK 6) (rgK_t _) (by decide) (by decide)
    have e6 : (6 : Int32).toInt = 6 := by decide
    show ((∀ i, i < edg 4 (rgK 6) → eFr 4 P Q (rgK 6) i (i + 1)) ∧ (¬ (6 : Int32).toInt = 6 ∨ ∀ k, k < 4 → eRt 4 P Q k)) ↔ _
    rw [e6, s]
    exact ⟨mSm_cg fun j hj => ⟨(c1 j hj).1.symm, (c1 j hj).2.symm⟩, mSm_cg c1⟩
  · have one : ∀ q, lvF ft st tn q → q ≠ f → ((apMv mn cx cy n (cF40 cx f) (cF40 cy f) 4 P Q q ∨ asQ kd mn cx cy n (cF40 cx f) (cF40 cy f) (rgK 5) 4 P Q (rgK 6) q) ↔
        lawTo (cF40 cx f 0) (cF40 cy f 0) 6 4 (cF40 (bxX f (iI (bL (cF40 cx f) n)) (iI (bH (cF40 cx f) n)) 4 cx) f) (cF40 (bxY f (iI (bL (cF40 cy f) n)) (iI (bH (cF40 cy f) n)) 4 cy) f) ((upd kd f 6) q).toInt (nN ((upd mn f 4) q)) (cF40 (bxX f (iI (bL (cF40 cx f) n)) (iI (bH (cF40 cx f) n)) 4 cx) q) (cF40 (bxY f (iI (bL (cF40 cy f) n)) (iI (bH (cF40 cy f) n)) 4 cy) q) (bMt kd mn cx cy f n q) (bWi kd mn cx cy f q) (bIn kd cx cy f n q) (sW0 q)) := by
      intro q hq hqf
      have w := hwf q hq
      have c2 : ∀ j, j < nN (mn q) → cF40 (bxX f (iI (bL (cF40 cx f) n)) (iI (bH (cF40 cx f) n)) 4 cx) q j = cF40 cx q j ∧ cF40 (bxY f (iI (bL (cF40 cy f) n)) (iI (bH (cF40 cy f) n)) 4 cy) q j = cF40 cy q j := fun j hj => by
        have := w.2.1
        exact ⟨bxX_o (by omega), bxY_o (by omega)⟩
      rw [show (upd kd f 6) q = kd q from if_neg hqf, show (upd mn f 4) q = mn q from if_neg hqf]
      rw [lawTo_cg (A := P) (B := Q) (S := cF40 cx q) (T := cF40 cy q) (sv := fun _ => False) (by omega) w.2.1.1 c1 c2 (fun _ _ => Iff.rfl)]
      have hb : bMt kd mn cx cy f n q ↔ mtF 5 n (cF40 cx f) (cF40 cy f) (kd q).toInt (nN (mn q)) (cF40 cx q) (cF40 cy q) := by show mtF (kd f).toInt n _ _ _ _ _ _ ↔ _; rw [h5]
      have hi : bIn kd cx cy f n q = fun k => inF 5 n (cF40 cx f) (cF40 cy f) (cF40 cx q k).toInt (cF40 cy q k).toInt := by funext k; show inF (kd f).toInt n _ _ _ _ = _; rw [h5]
      rw [hi, propext hb, ← law_bx (Or.inr ⟨by decide, by omega⟩) (hkn q hq)]
      have bx := mv_in (n := n) (nd := 4) (X := cF40 cx f) (Y := cF40 cy f) (P := P) (Q := Q)
      exact ⟨fun g => g.elim (fun g => ap_asb (by omega) (by omega) w.2.1.1 bx.1 bx.2 g) id, Or.inr⟩
    exact ⟨fun h q hq hqf => (one q hq hqf).mp (h q hq.1 hqf hq), fun h q _ hqf hq => (one q hq hqf).mpr (h q hq hqf)⟩
end
/-- nobody but two is met by the box of a JOIN, or begins inside it -/
theorem free_iff {ft : Nat} {st tn kd mn cx cy : Nat → Int32} {f g : Nat} {a b c d : Int32} {P Q : Nat → Int32} (h200 : ft ≤ 200) (h0 : P 0 = a ∧ Q 0 = c) (h1 : P 1 = b ∧ Q 1 = c) (h2 : P 2 = b ∧ Q 2 = d) (h3 : P 3 = a ∧ Q 3 = d) (hwf : ∀ q, lvF ft st tn q → wfM mn cx cy q) (hkn : okN ft st tn kd mn) :
    (∀ q, q < ft → (q ≠ f → q ≠ g → lvF ft st tn q → ¬ tch 4 P Q (rgK 6) (nN (mn q)) (cF40 cx q) (cF40 cy q) (rgK (kd q).toInt) ∧ ¬ inF 5 4 P Q (cF40 cx q 0).toInt (cF40 cy q 0).toInt)) ↔ jFr ft st tn (upd kd 200 6) (upd mn 200 4) (bxX 200 a b 4 cx) (bxY 200 c d 4 cy) f g ft := by
  have c1 := bx_f (f := 200) (cx := cx) (cy := cy) h0 h1 h2 h3
  have u6 : ((upd kd 200 6) 200).toInt = 6 := by rw [up_at]; decide
  have o2 : okK 6 4 := Or.inr ⟨by decide, by decide⟩
  unfold jFr
  rw [u6]
  refine forall_congr' fun q => imp_congr_right fun hq => imp_congr_right fun _ => imp_congr_right fun _ => imp_congr_right fun hl => ?_
  have w := hwf q hl
  have hq2 : q ≠ 200 := by omega
  have c2 : ∀ j, j < nN (mn q) → cF40 (bxX 200 a b 4 cx) q j = cF40 cx q j ∧ cF40 (bxY 200 c d 4 cy) q j = cF40 cy q j := fun j hj => by
    have := w.2.1
    exact ⟨bxX_o (by omega), bxY_o (by omega)⟩
  have z := c2 0 w.2.1.1
  have z1 : bxX 200 a b 4 cx (40 * q) = cF40 cx q 0 := z.1
  have z2 : bxY 200 c d 4 cy (40 * q) = cF40 cy q 0 := z.2
  rw [show (upd kd 200 6) q = kd q from if_neg hq2, show (upd mn 200 4) q = mn q from if_neg hq2, tch_mt o2 (hkn q hl), mtF_cg (by omega) w.2.1.1 c1 c2, z1, z2, inF_cg (by omega) c1, inF_5 (k := 6) (by decide)]
end
