/-! two features at a time -/
theorem fc_ne {cI : ClassId} {L : List Nat} {f : Nat → va_E} {own : Nat → Nat} {q gl gr fq nq cq p : Nat} {fv : Value} {rk9 wd9 tw9 pa9 pb9 kd9 st9 gb9 it9 : Int32} {n : Nat} {C D : Nat → Int32} {lo lx ly ln : Nat} {LX LY : Nat → Int32} {we9 r rx ry cap : Nat} {X Y : Nat → Int32} {x1 x2 x3 x4 x5 x6 x7 x8 : va_E} (h : fcA cI L f own q gl gr fq nq cq fv rk9 wd9 tw9 pa9 pb9 kd9 st9 gb9 it9 n C D lo lx ly ln LX LY we9 r rx ry cap X Y) (hgl : gl / 8 = q) (hgr : gr / 8 = q) (hp : p ≠ q) :
    ∀ c ∈ ([(fq, x1), (nq, x2), (r, x3), (rx, x4), (ry, x5), (lo, x6), (lx, x7), (ly, x8)] : va_W), own c.1 / 8 ≠ p := by
  obtain ⟨⟨a1, a2, ⟨a3, a4, a5, a6⟩, ⟨a7, a8, a9, a10⟩⟩, _⟩ := h
  intro c hc
  simp only [List.mem_cons, List.not_mem_nil, or_false] at hc
  rcases hc with rfl | rfl | rfl | rfl | rfl | rfl | rfl | rfl
  · rw [a1.2.2]; omega
  · rw [a2.2.2, hgl]; omega
  · rw [a3.2.2, hgr]; omega
  · rw [a4.2.2, hgr]; omega
  · rw [a5.2.2, hgr]; omega
  · rw [a7.2.2]; omega
  · rw [a8.2.2]; omega
  · rw [a9.2.2]; omega
theorem rk_c {cI : ClassId} {L : List Nat} {f : Nat → va_E} {FA : Nat → Option Nat} {rk wd tw pa pb kd st gb it tn mn cx cy : Nat → Int32} {i j ft : Nat} (hi : i < ft) (h : i ≠ j → vwA cI L f FA rk wd tw pa pb kd st gb it tn mn cx cy i) :
    i = j ∨ (i ≠ j ∧ ¬ (tn i).toInt = 0 ∧ ∃ (fe lk lo : Nat) (we : Int32) (fm : Value), FA i = some fe ∧ (fe ∈ L ∧ f fe = .inr (1, [.int (rk i), .int (wd i), .int (tw i), .int (pa i), .int (pb i), .ref lo, .ref lk, fm])) ∧ (lk ∈ L ∧ f lk = .inr (4, [.int (kd i), .int (st i), .null, .int (gb i), .int (it i), .int we]))) ∨
    (i ≠ j ∧ (tn i).toInt = 0 ∧ ((st i).toInt = 1 ∧ (kd i).toInt = 6) ∧ ∃ (fe lk lo : Nat) (we : Int32) (fm : Value) (r rx ry cap : Nat) (X Y : Nat → Int32) (rg : Int32), FA i = some fe ∧ (fe ∈ L ∧ f fe = .inr (1, [.int (rk i), .int (wd i), .int (tw i), .int (pa i), .int (pb i), .ref lo, .ref lk, fm])) ∧ (lk ∈ L ∧ f lk = .inr (4, [.int (kd i), .int (st i), .ref r, .int (gb i), .int (it i), .int we])) ∧ rwA cI L f r rx ry (nN (mn i)) cap X Y rg ∧ rwR kd mn cx cy i cap X Y rg) ∨
    (i ≠ j ∧ (tn i).toInt = 0 ∧ ¬ ((st i).toInt = 1 ∧ (kd i).toInt = 6) ∧ ∃ (fe lk lo : Nat) (we : Int32) (fm : Value) (r rx ry cap : Nat) (X Y : Nat → Int32) (rg : Int32), FA i = some fe ∧ (fe ∈ L ∧ f fe = .inr (1, [.int (rk i), .int (wd i), .int (tw i), .int (pa i), .int (pb i), .ref lo, .ref lk, fm])) ∧ (lk ∈ L ∧ f lk = .inr (4, [.int (kd i), .int (st i), .ref r, .int (gb i), .int (it i), .int we])) ∧ rwA cI L f r rx ry (nN (mn i)) cap X Y rg ∧ rwR kd mn cx cy i cap X Y rg) := by
  by_cases e : i = j
  · exact Or.inl e
  · rcases vwA_3 (P9 := (st i).toInt = 1 ∧ (kd i).toInt = 6) (h e) with ⟨t0, g⟩ | ⟨t0, p, g⟩ | ⟨t0, p, g⟩
    · exact Or.inr (Or.inl ⟨e, t0, g⟩)
    · exact Or.inr (Or.inr (Or.inl ⟨e, t0, p, g⟩))
    · exact Or.inr (Or.inr (Or.inr ⟨e, t0, p, g⟩))
