section
/-! what lies apart from the box of all that moves is as before -/
theorem mnI_le {z : Int} {X : Nat → Int32} : ∀ {n k : Nat}, k < n → mnI z X n ≤ (X k).toInt := by
  intro n
  induction n with
  | zero => intro k hk; exact absurd hk (Nat.not_lt_zero _)
  | succ n ih =>
    intro k hk
    rw [mnI_s]
    rcases Nat.lt_or_ge k n with q | q
    · have := ih q; omega
    · rw [show k = n by omega]; omega
theorem le_mxI {z : Int} {X : Nat → Int32} : ∀ {n k : Nat}, k < n → (X k).toInt ≤ mxI z X n := by
  intro n
  induction n with
  | zero => intro k hk; exact absurd hk (Nat.not_lt_zero _)
  | succ n ih =>
    intro k hk
    rw [mxI_s]
    rcases Nat.lt_or_ge k n with q | q
    · have := ih q; omega
    · rw [show k = n by omega]; omega
theorem mnI_z {z : Int} {X : Nat → Int32} : ∀ n, mnI z X n ≤ z := by
  intro n
  induction n with
  | zero => exact Int.le_refl _
  | succ n ih => rw [mnI_s]; omega
theorem mxI_z {z : Int} {X : Nat → Int32} : ∀ n, z ≤ mxI z X n := by
  intro n
  induction n with
  | zero => exact Int.le_refl _
  | succ n ih => rw [mxI_s]; omega
/-- all of one row lie on one side of all of another -/
def sepR (n : Nat) (X Y : Nat → Int32) (m : Nat) (U V : Nat → Int32) : Prop :=
  (∀ i, i < n → ∀ j, j < m → (X i).toInt < (U j).toInt) ∨ (∀ i, i < n → ∀ j, j < m → (U j).toInt < (X i).toInt) ∨ (∀ i, i < n → ∀ j, j < m → (Y i).toInt < (V j).toInt) ∨ (∀ i, i < n → ∀ j, j < m → (V j).toInt < (Y i).toInt)
/-- a row inside a box -/
def inB (l o r h : Int) (n : Nat) (X Y : Nat → Int32) : Prop := ∀ i, i < n → (l ≤ (X i).toInt ∧ (X i).toInt ≤ r) ∧ (o ≤ (Y i).toInt ∧ (Y i).toInt ≤ h)
theorem ap_sep {l o r h : Int} {n m : Nat} {X Y U V : Nat → Int32} (hb : inB l o r h n X Y) (ha : apB l o r h m U V) : sepR n X Y m U V := by
  rcases ha with g | g | g | g
  · exact Or.inl fun i hi j hj => by have := (hb i hi).1; have := mnI_le (z := (U 0).toInt) (X := U) hj; omega
  · exact Or.inr (Or.inl fun i hi j hj => by have := (hb i hi).1; have := le_mxI (z := (U 0).toInt) (X := U) hj; omega)
  · exact Or.inr (Or.inr (Or.inl fun i hi j hj => by have := (hb i hi).2; have := mnI_le (z := (V 0).toInt) (X := V) hj; omega))
  · exact Or.inr (Or.inr (Or.inr fun i hi j hj => by have := (hb i hi).2; have := le_mxI (z := (V 0).toInt) (X := V) hj; omega))
section
variable {n m : Nat} {X Y U V : Nat → Int32}
theorem sep_mt (h : sepR n X Y m U V) {i j : Nat} (hi : i < n) (hj : j < m) : ¬ eMt n X Y i m U V j := by
  have h2 := nxt_lt (n := n) (i := i) (by omega); have h3 := nxt_lt (n := m) (i := j) (by omega)
  intro g
  unfold eMt mtC at g
  have g1 := g.1; have g2 := g.2.1
  rcases h with h | h | h | h
  · have := h i hi j hj; have := h i hi _ h3; have := h _ h2 j hj; have := h _ h2 _ h3; omega
  · have := h i hi j hj; have := h i hi _ h3; have := h _ h2 j hj; have := h _ h2 _ h3; omega
  · have := h i hi j hj; have := h i hi _ h3; have := h _ h2 j hj; have := h _ h2 _ h3; omega
  · have := h i hi j hj; have := h i hi _ h3; have := h _ h2 j hj; have := h _ h2 _ h3; omega
theorem sep_tch (h : sepR n X Y m U V) {rg rh : Int32} : ¬ tch n X Y rg m U V rh := fun ⟨i, hi, j, hj, g⟩ => by
  have := prt_le n rg; have := prt_le m rh
  exact sep_mt h (by omega) (by omega) g
theorem sep_in (h : sepR n X Y m U V) (hn : 1 ≤ n) {j : Nat} (hj : j < m) : ¬ inF 5 n X Y (U j).toInt (V j).toInt := by
  rw [← whr_in, whr_out hn (by
    rcases h with h | h | h | h
    · exact Or.inl fun i hi => h i hi j hj
    · exact Or.inr (Or.inl fun i hi => h i hi j hj)
    · exact Or.inr (Or.inr (Or.inl fun i hi => h i hi j hj))
    · exact Or.inr (Or.inr (Or.inr fun i hi => h i hi j hj)))]
  decide
theorem sep_ni (h : sepR n X Y m U V) (hm : 1 ≤ m) {i : Nat} (hi : i < n) : ¬ inF 5 m U V (X i).toInt (Y i).toInt := by
  rw [← whr_in, whr_out hm (by
    rcases h with h | h | h | h
    · exact Or.inr (Or.inl fun j hj => h i hi j hj)
    · exact Or.inl fun j hj => h i hi j hj
    · exact Or.inr (Or.inr (Or.inr fun j hj => h i hi j hj))
    · exact Or.inr (Or.inr (Or.inl fun j hj => h i hi j hj)))]
  decide
/-- a triangle of corners in a box has no place that lies apart from it -/
theorem box_wt {l o r h : Int} {a1 a2 b1 b2 c1 c2 : Int32} {x y : Int} (ha : (l ≤ a1.toInt ∧ a1.toInt ≤ r) ∧ (o ≤ a2.toInt ∧ a2.toInt ≤ h)) (hb : (l ≤ b1.toInt ∧ b1.toInt ≤ r) ∧ (o ≤ b2.toInt ∧ b2.toInt ≤ h)) (hc : (l ≤ c1.toInt ∧ c1.toInt ≤ r) ∧ (o ≤ c2.toInt ∧ c2.toInt ≤ h)) (hx : r < x ∨ x < l ∨ h < y ∨ y < o) : ¬ wtR a1 a2 b1 b2 c1 c2 x y := by
  unfold wtR
  rw [whr_out (n := 3) (by decide) (by
    have k : ∀ i, i < 3 → i = 0 ∨ i = 1 ∨ i = 2 := fun i hi => by omega
    rcases hx with g | g | g | g
    · refine Or.inl fun i hi => ?_
      rcases k i hi with rfl | rfl | rfl
      · show a1.toInt < x; omega
      · show b1.toInt < x; omega
      · show c1.toInt < x; omega
    · refine Or.inr (Or.inl fun i hi => ?_)
      rcases k i hi with rfl | rfl | rfl
      · show x < a1.toInt; omega
      · show x < b1.toInt; omega
      · show x < c1.toInt; omega
    · refine Or.inr (Or.inr (Or.inl fun i hi => ?_))
      rcases k i hi with rfl | rfl | rfl
      · show a2.toInt < y; omega
      · show b2.toInt < y; omega
      · show c2.toInt < y; omega
    · refine Or.inr (Or.inr (Or.inr fun i hi => ?_))
      rcases k i hi with rfl | rfl | rfl
      · show y < a2.toInt; omega
      · show y < b2.toInt; omega
      · show y < c2.toInt; omega)]
  decide
end
theorem ap_out {l o r h : Int} {m : Nat} {U V : Nat → Int32} (ha : apB l o r h m U V) {j : Nat} (hj : j < m) : r < (U j).toInt ∨ (U j).toInt < l ∨ h < (V j).toInt ∨ (V j).toInt < o := by
  have a := mnI_le (z := (U 0).toInt) (X := U) hj; have b := le_mxI (z := (U 0).toInt) (X := U) hj
  have c := mnI_le (z := (V 0).toInt) (X := V) hj; have d := le_mxI (z := (V 0).toInt) (X := V) hj
  unfold apB at ha; omega
theorem mv_in {n nd : Nat} {X Y P Q : Nat → Int32} : inB (mnI (mnI (X 0).toInt X n) P nd) (mnI (mnI (Y 0).toInt Y n) Q nd) (mxI (mxI (X 0).toInt X n) P nd) (mxI (mxI (Y 0).toInt Y n) Q nd) n X Y ∧ inB (mnI (mnI (X 0).toInt X n) P nd) (mnI (mnI (Y 0).toInt Y n) Q nd) (mxI (mxI (X 0).toInt X n) P nd) (mxI (mxI (Y 0).toInt Y n) Q nd) nd P Q := by
  refine ⟨fun i hi => ?_, fun i hi => ?_⟩
  · have a := mnI_le (z := (X 0).toInt) (X := X) hi; have b := le_mxI (z := (X 0).toInt) (X := X) hi; have c := mnI_le (z := (Y 0).toInt) (X := Y) hi; have d := le_mxI (z := (Y 0).toInt) (X := Y) hi
    have e := mnI_z (z := mnI (X 0).toInt X n) (X := P) nd; have f := mxI_z (z := mxI (X 0).toInt X n) (X := P) nd; have g := mnI_z (z := mnI (Y 0).toInt Y n) (X := Q) nd; have k := mxI_z (z := mxI (Y 0).toInt Y n) (X := Q) nd
    omega
  · exact ⟨⟨mnI_le hi, le_mxI hi⟩, mnI_le hi, le_mxI hi⟩
/-- the prune of a move: as before, nothing swept, and a free way -/
theorem ap_asb {n nd m : Nat} {X Y P Q U V : Nat → Int32} {rg rd rh : Int32} {l o r h : Int} (hn : 1 ≤ n) (hd : 1 ≤ nd) (hm : 1 ≤ m) (h1 : inB l o r h n X Y) (h2 : inB l o r h nd P Q) (ha : apB l o r h m U V) : asb n X Y rg nd P Q rd m U V rh := by
  have s1 := ap_sep h1 ha; have s2 := ap_sep h2 ha
  exact ⟨⟨fun g => absurd g (sep_tch s1), fun g => absurd g (sep_tch s2)⟩, fun _ k hk => ⟨fun g => absurd g (sep_in s1 hn hk), fun g => absurd g (sep_in s2 hd hk)⟩, fun _ => ⟨fun g => absurd g (sep_ni s1 hm (by omega)), fun g => absurd g (sep_ni s2 hm (by omega))⟩⟩
theorem ap_swM {n m : Nat} {X Y P Q U V : Nat → Int32} {rg : Int32} {l o r h : Int} (h1 : inB l o r h n X Y) (h2 : inB l o r h n P Q) (ha : apB l o r h m U V) : ¬ ∃ i, i < edg n rg ∧ ∃ k, k < m ∧ swR n X Y P Q (U k).toInt (V k).toInt i := by
  rintro ⟨i, hi, k, hk, _, g⟩
  have le := edg_le n rg
  have hx := nxt_lt (n := n) (i := i) (by omega)
  have ho := ap_out ha hk
  rcases g with g | g
  · exact box_wt (h1 i (by omega)) (h1 _ hx) (h2 _ hx) ho g
  · exact box_wt (h1 i (by omega)) (h2 i (by omega)) (h2 _ hx) ho g
theorem ap_wy {nd n m : Nat} {X Y P Q U V : Nat → Int32} {rh : Int32} {l o r h : Int} (hn : 1 ≤ n) (hd : 1 ≤ nd) (h1 : inB l o r h n X Y) (h2 : inB l o r h nd P Q) (ha : apB l o r h m U V) : ∀ k, k < prt m rh → wyF2 (X 0).toInt (Y 0).toInt (P 0).toInt (Q 0).toInt m U V k := by
  intro k hk g
  exfalso
  have le := prt_le m rh
  have hx := nxt_lt (n := m) (i := k) (by omega)
  have a := h1 0 (by omega); have b := h2 0 (by omega)
  have m1 := mnI_le (z := (U 0).toInt) (X := U) (show k < m by omega); have m2 := le_mxI (z := (U 0).toInt) (X := U) (show k < m by omega); have m3 := mnI_le (z := (V 0).toInt) (X := V) (show k < m by omega); have m4 := le_mxI (z := (V 0).toInt) (X := V) (show k < m by omega)
  have p1 := mnI_le (z := (U 0).toInt) (X := U) hx; have p2 := le_mxI (z := (U 0).toInt) (X := U) hx; have p3 := mnI_le (z := (V 0).toInt) (X := V) hx; have p4 := le_mxI (z := (V 0).toInt) (X := V) hx
  have g1 := g.1; have g2 := g.2.1
  unfold apB at ha
  omega
end
