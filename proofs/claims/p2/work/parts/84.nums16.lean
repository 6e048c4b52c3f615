/-! FEW: areas, and who comes before whom -/
def arF (mn cx cy : Nat → Int32) (f : Nat) : Nat := Int.natAbs (ar2 (nN (mn f)) (cF40 cx f) (cF40 cy f) (nN (mn f)))
theorem arF_b {mn cx cy : Nat → Int32} {f : Nat} (h : wfM mn cx cy f) : arF mn cx cy f ≤ 40000000 := by
  have h2 := ar2B h.2.2 _ (Nat.le_refl _)
  have h3 := h.2.1
  unfold arF; omega
def smF (ft : Nat) (st tn kd mn cx cy : Nat → Int32) (le : Int) (f : Nat) : Prop := lvF ft st tn f ∧ (kd f).toInt = 6 ∧ ((arF mn cx cy f : Nat) : Int) < le
def gtF (ft : Nat) (st tn kd mn tw cx cy : Nat → Int32) (f g : Nat) : Prop := g ≠ f ∧ lvF ft st tn g ∧ (kd g).toInt = 6 ∧ (tw g).toInt = (tw f).toInt ∧ (arF mn cx cy f < arF mn cx cy g ∨ (arF mn cx cy g = arF mn cx cy f ∧ g < f))
/-- those that go by FEW -/
def fwM (ft : Nat) (st tn kd mn tw cx cy : Nat → Int32) (le mv : Int) (f : Nat) : Prop := smF ft st tn kd mn cx cy le f ∧ mv ≤ ((cntP (gtF ft st tn kd mn tw cx cy f) ft : Nat) : Int)
theorem fw_s {ft : Nat} {st tn kd mn tw cx cy : Nat → Int32} {le mv : Int} {f : Nat} (h : ¬ smF ft st tn kd mn cx cy le f) : (0 : Int32) = pI (fwM ft st tn kd mn tw cx cy le mv f) := (zp_f (fun q => h q.1)).symm
theorem fw_t {ft : Nat} {st tn kd mn tw cx cy : Nat → Int32} {le mv : Int} {f k : Nat} (h : smF ft st tn kd mn cx cy le f) (hk : k = ft) (hm : mv ≤ ((cntP (gtF ft st tn kd mn tw cx cy f) k : Nat) : Int)) : (1 : Int32) = pI (fwM ft st tn kd mn tw cx cy le mv f) := by
  rw [hk] at hm; exact (zp_t ⟨h, hm⟩).symm
theorem fw_n {ft : Nat} {st tn kd mn tw cx cy : Nat → Int32} {le mv : Int} {f k : Nat} (hk : k = ft) (hm : ((cntP (gtF ft st tn kd mn tw cx cy f) k : Nat) : Int) < mv) : (0 : Int32) = pI (fwM ft st tn kd mn tw cx cy le mv f) := by
  rw [hk] at hm; exact (zp_f (fun q => by have := q.2; omega)).symm
