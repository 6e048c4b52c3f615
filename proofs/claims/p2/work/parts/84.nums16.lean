/-! FEW: areas, and who comes before whom -/
def arF (mn cx cy : Nat → Int32) (f : Nat) : Nat := Int.natAbs (ar2 (nN (mn f)) (cF40 cx f) (cF40 cy f) (nN (mn f)))
theorem arF_b {mn cx cy : Nat → Int32} {f : Nat} (h : wfM mn cx cy f) : arF mn cx cy f ≤ 40000000 := by
  have h2 := ar2B h.2.2 _ (Nat.le_refl _)
  have h3 := h.2.1
  unfold arF; omega
def smF (ft : Nat) (st tn kd mn cx cy : Nat → Int32) (le : Int) (f : Nat) : Prop := lvF ft st tn f ∧ (kd f).toInt = 6 ∧ ((arF mn cx cy f : Nat) : Int) < le
def gtF (ft : Nat) (st tn kd mn tw cx cy : Nat → Int32) (f g : Nat) : Prop := g ≠ f ∧ lvF ft st tn g ∧ (kd g).toInt = 6 ∧ (tw g).toInt = (tw f).toInt ∧ (arF mn cx cy f < arF mn cx cy g ∨ (arF mn cx cy g = arF mn cx cy f ∧ g < f))
/-- those that go by FEW -/
def fwM (ft : Nat) (st tn kd mn tw cx cy : Nat → Int32) (le mv : Int) (f : Nat) : Prop := smF ft st tn kd mn cx cy le f ∧ mv ≤ ((cntP (gtF ft st tn kd mn tw cx cy f) ft : Nat) : Int)
