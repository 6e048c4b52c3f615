theorem vwA_l {cI : ClassId} {L : List Nat} {f : Nat → va_E} {FA : Nat → Option Nat} {rk wd tw pa pb kd st gb it tn mn cx cy : Nat → Int32} {i : Nat} (h : vwA cI L f FA rk wd tw pa pb kd st gb it tn mn cx cy i) (ht : (tn i).toInt = 0) :
    ∃ (fe lk lo : Nat) (we : Int32) (fm : Value) (r rx ry cap : Nat) (X Y : Nat → Int32) (rg : Int32), FA i = some fe ∧ (fe ∈ L ∧ f fe = .inr (1, [.int (rk i), .int (wd i), .int (tw i), .int (pa i), .int (pb i), .ref lo, .ref lk, fm])) ∧ (lk ∈ L ∧ f lk = .inr (4, [.int (kd i), .int (st i), .ref r, .int (gb i), .int (it i), .int we])) ∧ rwA cI L f r rx ry (nN (mn i)) cap X Y rg ∧ rwR kd mn cx cy i cap X Y rg := by
  rcases vwA_2 h with g | g
  · exact absurd ht g.1
  · exact g.2
theorem vwA_d {cI : ClassId} {L : List Nat} {f : Nat → va_E} {FA : Nat → Option Nat} {rk wd tw pa pb kd st gb it tn mn cx cy : Nat → Int32} {i ft : Nat} (h : vwA cI L f FA rk wd tw pa pb kd st gb it tn mn cx cy i) (hi : i < ft) (hb : ¬ lvF ft st tn i) :
    (¬ (tn i).toInt = 0 ∧ ∃ (fe lk lo : Nat) (we : Int32) (fm : Value), FA i = some fe ∧ (fe ∈ L ∧ f fe = .inr (1, [.int (rk i), .int (wd i), .int (tw i), .int (pa i), .int (pb i), .ref lo, .ref lk, fm])) ∧ (lk ∈ L ∧ f lk = .inr (4, [.int (kd i), .int (st i), .null, .int (gb i), .int (it i), .int we]))) ∨
    ((tn i).toInt = 0 ∧ ¬ (st i).toInt = 1 ∧ ∃ (fe lk lo : Nat) (we : Int32) (fm : Value) (r rx ry cap : Nat) (X Y : Nat → Int32) (rg : Int32), FA i = some fe ∧ (fe ∈ L ∧ f fe = .inr (1, [.int (rk i), .int (wd i), .int (tw i), .int (pa i), .int (pb i), .ref lo, .ref lk, fm])) ∧ (lk ∈ L ∧ f lk = .inr (4, [.int (kd i), .int (st i), .ref r, .int (gb i), .int (it i), .int we])) ∧ rwA cI L f r rx ry (nN (mn i)) cap X Y rg ∧ rwR kd mn cx cy i cap X Y rg) := by
  rcases vwA_2 h with g | ⟨t0, g⟩
  · exact Or.inl g
  · exact Or.inr ⟨t0, fun e => hb ⟨hi, e, t0⟩, g⟩
