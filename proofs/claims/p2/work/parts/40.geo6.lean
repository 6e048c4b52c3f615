/-! the reference's features: how many corners; those that are there -/
def nN (v : Int32) : Nat := v.toInt.toNat
def wfM (mn cx cy : Nat → Int32) (g : Nat) : Prop := mn g = nI (nN (mn g)) ∧ (1 ≤ nN (mn g) ∧ nN (mn g) ≤ 40) ∧ pls (nN (mn g)) (cF40 cx g) (cF40 cy g)
/-- a place is of a feature's set -/
def onF (kd mn cx cy : Nat → Int32) (g : Nat) (x y : Int) : Prop := ∃ i, i < eO (kd g).toInt (nN (mn g)) ∧ eOn (nN (mn g)) (cF40 cx g) (cF40 cy g) i x y
/-- a place is inside a ring -/
def inF (k : Int) (n : Nat) (X Y : Nat → Int32) (x y : Int) : Prop := ¬ (∃ i, i < eO k n ∧ eOn n X Y i x y) ∧ par2 (eTg n X Y x y) (eO k n)
def mtF (k : Int) (n : Nat) (X Y : Nat → Int32) (k2 : Int) (m : Nat) (U V : Nat → Int32) : Prop := ∃ i, i < eO k n ∧ ∃ j, j < eO k2 m ∧ eMt n X Y i m U V j
theorem zp_eq {p q : Prop} : pI p = pI q ↔ (p ↔ q) := by
  by_cases hp : p <;> by_cases hq : q <;> simp [pI, hp, hq]
theorem zp_ieq {p q : Prop} : (pI p).toInt = (pI q).toInt ↔ (p ↔ q) :=
  ⟨fun h => zp_eq.mp (Int32.toInt_inj.mp h), fun h => congrArg Int32.toInt (zp_eq.mpr h)⟩
/-- a feature's change is lawful to another one: what was met, inside; what is swept; a point's way -/
def lawTo (x0 y0 : Int32) (kf : Int) (n : Nat) (X Y : Nat → Int32) (kg : Int) (m : Nat) (U V : Nat → Int32) (mt wi : Prop) (ins sw : Nat → Prop) : Prop :=
  (mtF kf n X Y kg m U V ↔ mt) ∧ (5 ≤ kg → (inF kg m U V (X 0).toInt (Y 0).toInt ↔ wi)) ∧ (∀ k, k < m → (5 ≤ kf → (inF kf n X Y (U k).toInt (V k).toInt ↔ ins k)) ∧ (¬ kf = 0 → ¬ sw k)) ∧ (kf = 0 → ∀ k, k < eO kg m → fWy x0.toInt y0.toInt (X 0).toInt (Y 0).toInt m U V k)
