/-! the reference's features: how many corners; those that are there -/
def nN (v : Int32) : Nat := v.toInt.toNat
def wfM (mn cx cy : Nat → Int32) (g : Nat) : Prop := mn g = nI (nN (mn g)) ∧ (1 ≤ nN (mn g) ∧ nN (mn g) ≤ 40) ∧ pls (nN (mn g)) (cF40 cx g) (cF40 cy g)
/-- a place is of a feature's set -/
def onF (kd mn cx cy : Nat → Int32) (g : Nat) (x y : Int) : Prop := ∃ i, i < eO (kd g).toInt (nN (mn g)) ∧ eOn (nN (mn g)) (cF40 cx g) (cF40 cy g) i x y
/-- a place is inside a ring -/
def inF (k : Int) (n : Nat) (X Y : Nat → Int32) (x y : Int) : Prop := ¬ (∃ i, i < eO k n ∧ eOn n X Y i x y) ∧ par2 (eTg n X Y x y) (eO k n)
def mtF (k : Int) (n : Nat) (X Y : Nat → Int32) (k2 : Int) (m : Nat) (U V : Nat → Int32) : Prop := ∃ i, i < eO k n ∧ ∃ j, j < eO k2 m ∧ eMt n X Y i m U V j
theorem zp_eq {p q : Prop} : pI p = pI q ↔ (p ↔ q) := by
  by_cases hp : p <;> by_cases hq : q <;> simp [pI, hp, hq]
