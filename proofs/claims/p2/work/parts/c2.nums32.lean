/-! JOIN: the box of two rows, and who is free of it -/
def jlo (C : Nat → Int32) (f n g m : Nat) : Int32 := iI (mnI (mnI (cF40 C f 0).toInt (cF40 C f) n) (cF40 C g) m)
def jhi (C : Nat → Int32) (f n g m : Nat) : Int32 := iI (mxI (mxI (cF40 C f 0).toInt (cF40 C f) n) (cF40 C g) m)
theorem jlo_e {C : Nat → Int32} {f n g m : Nat} {x y : Int32} {z : Int} (ez : z = mnI (cF40 C f 0).toInt (cF40 C f) n) (ha : y = iI z) (hz : 0 ≤ z ∧ z ≤ 1000) (hx : x.toInt = mnI y.toInt (cF40 C g) m) : x = jlo C f n g m := by
  subst ha; rw [iI_toInt (by omega)] at hx; subst ez; exact iI_of hx
theorem jhi_e {C : Nat → Int32} {f n g m : Nat} {x y : Int32} {z : Int} (ez : z = mxI (cF40 C f 0).toInt (cF40 C f) n) (ha : y = iI z) (hz : 0 ≤ z ∧ z ≤ 1000) (hx : x.toInt = mxI y.toInt (cF40 C g) m) : x = jhi C f n g m := by
  subst ha; rw [iI_toInt (by omega)] at hx; subst ez; exact iI_of hx
theorem jpl {cx cy : Nat → Int32} {f n g m : Nat} (hf : pls n (cF40 cx f) (cF40 cy f)) (hn : 1 ≤ n) (hg : pls m (cF40 cx g) (cF40 cy g)) : pl (jlo cx f n g m) ∧ pl (jhi cx f n g m) ∧ pl (jlo cy f n g m) ∧ pl (jhi cy f n g m) := by
  have h0 := hf 0 (by omega); unfold pl at h0
  have a := mnP h0.1 hf n (Nat.le_refl _)
  have b := mnP h0.2 hf n (Nat.le_refl _)
  have c1 := (mnP a.1 hg m (Nat.le_refl _)).1
  have c2 := (mnP a.2.2.1 hg m (Nat.le_refl _)).2.2.1
  have c3 := (mnP b.2.1 hg m (Nat.le_refl _)).2.1
  have c4 := (mnP b.2.2.2 hg m (Nat.le_refl _)).2.2.2
  unfold jlo jhi pl
  rw [iI_toInt (by omega), iI_toInt (by omega), iI_toInt (by omega), iI_toInt (by omega)]
  exact ⟨c1, c2, c3, c4⟩
theorem bx_pls {f : Nat} {a b c d : Int32} {cx cy : Nat → Int32} (ha : pl a) (hb : pl b) (hc : pl c) (hd : pl d) : pls 4 (cF40 (bxX f a b 4 cx) f) (cF40 (bxY f c d 4 cy) f) := by
  intro j hj
  constructor
  · show pl (bxX f a b 4 cx (40 * f + j)); unfold bxX; rw [if_pos (by omega)]; split <;> assumption
  · show pl (bxY f c d 4 cy (40 * f + j)); unfold bxY; rw [if_pos (by omega)]; split <;> assumption
/-- nobody but two among the first k meets the box that lies at 200, or begins inside it -/
def jFr (ft : Nat) (st tn kd mn cx cy : Nat → Int32) (f g k : Nat) : Prop := ∀ q, q < k → ¬ q = f → ¬ q = g → lvF ft st tn q → ¬ mtF (kd 200).toInt 4 (cF40 cx 200) (cF40 cy 200) (kd q).toInt (nN (mn q)) (cF40 cx q) (cF40 cy q) ∧ ¬ inF (kd 200).toInt 4 (cF40 cx 200) (cF40 cy 200) (cx (40 * q)).toInt (cy (40 * q)).toInt
section
variable {ft : Nat} {st tn kd mn cx cy : Nat → Int32} {f g k : Nat}
theorem jF_0 : jFr ft st tn kd mn cx cy f g 0 := fun q h => absurd h (Nat.not_lt_zero _)
theorem jF_y (h : ¬ k = f → ¬ k = g → lvF ft st tn k → ¬ mtF (kd 200).toInt 4 (cF40 cx 200) (cF40 cy 200) (kd k).toInt (nN (mn k)) (cF40 cx k) (cF40 cy k) ∧ ¬ inF (kd 200).toInt 4 (cF40 cx 200) (cF40 cy 200) (cx (40 * k)).toInt (cy (40 * k)).toInt) : jFr ft st tn kd mn cx cy f g (k + 1) ↔ jFr ft st tn kd mn cx cy f g k := by
  constructor
  · intro a q hq; exact a q (by omega)
  · intro a q hq
    rcases Nat.lt_or_ge q k with h1 | h1
    · exact a q h1
    · obtain rfl : q = k := by omega
      exact h
theorem jF_n (h1 : ¬ k = f) (h2 : ¬ k = g) (h3 : lvF ft st tn k) (h : mtF (kd 200).toInt 4 (cF40 cx 200) (cF40 cy 200) (kd k).toInt (nN (mn k)) (cF40 cx k) (cF40 cy k) ∨ inF (kd 200).toInt 4 (cF40 cx 200) (cF40 cy 200) (cx (40 * k)).toInt (cy (40 * k)).toInt) : ¬ jFr ft st tn kd mn cx cy f g (k + 1) := fun a => by
  have b := a k (by omega) h1 h2 h3
  rcases h with h | h
  · exact b.1 h
  · exact b.2 h
end
theorem psN_cg {nn mm : Nat → Nat} {ft w0 : Nat} (h : ∀ g, g < ft → nn g = mm g) : ∀ g, g ≤ ft → psN nn w0 g = psN mm w0 g := by
  intro g
  induction g with
  | zero => intro _; rfl
  | succ g ih => intro hg; show psN nn w0 g + (10 + 2 * nn g) = psN mm w0 g + (10 + 2 * mm g); rw [ih (by omega), h g (by omega)]
theorem nn200 {st tn mn : Nat → Int32} {g : Nat} {x : Int32} (h : g < 200) : nnF st tn (upd mn 200 x) g = nnF st tn mn g := by
  unfold nnF; rw [show upd mn 200 x g = mn g from if_neg (by omega)]
theorem sh200 {kd st gb it pa pb rk wd tw : Nat → Int32} {nn mm : Nat → Nat} {cx cy : Nat → Int32} {g j : Nat} {a b c d x : Int32} (h : g < 200) (hn : nn g = mm g) (h40 : mm g ≤ 40) (hj : j < 10 + 2 * mm g) : shD (upd kd 200 x) st gb it pa pb rk wd tw nn (bxX 200 a b 4 cx) (bxY 200 c d 4 cy) g j = shD kd st gb it pa pb rk wd tw mm cx cy g j := by
  rcases Nat.lt_or_ge j 10 with q | q
  · rcases (show j = 0 ∨ j = 1 ∨ j = 2 ∨ j = 3 ∨ j = 4 ∨ j = 5 ∨ j = 6 ∨ j = 7 ∨ j = 8 ∨ j = 9 by omega) with rfl | rfl | rfl | rfl | rfl | rfl | rfl | rfl | rfl | rfl
    · exact if_neg (by omega)
    all_goals first | rfl | (show nI (nn g) = nI (mm g); rw [hn])
  · rcases Nat.mod_two_eq_zero_or_one j with q2 | q2
    · rw [shD_x (k := (j - 10) / 2) (by omega), shD_x (k := (j - 10) / 2) (by omega)]; exact bxX_o (by omega)
    · rw [shD_y (k := (j - 11) / 2) (by omega), shD_y (k := (j - 11) / 2) (by omega)]; exact bxY_o (by omega)
theorem upd2 {m : Nat → Int32} {f : Nat} {x y : Int32} : upd (upd m f x) f y = upd m f y := by
  funext j; unfold upd; by_cases h : j = f
  · rw [if_pos h, if_pos h]
  · rw [if_neg h, if_neg h, if_neg h]
