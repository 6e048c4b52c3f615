/-! a number that may be none of a feature -/
theorem v_c {v : Int32} {ft : Nat} (h : ft ≤ 200) : (¬ (0 ≤ v.toInt ∧ v.toInt < ((ft : Nat) : Int))) ∨ ∃ q, q < ft ∧ v = nI q := by
  by_cases e : 0 ≤ v.toInt ∧ v.toInt < ((ft : Nat) : Int)
  · refine Or.inr ⟨v.toInt.toNat, by omega, Int32.toInt_inj.mp ?_⟩
    rw [nI_toInt (by omega)]
    omega
  · exact Or.inl e
theorem nI_inj9 {a b : Nat} (ha : a ≤ 200) (hb : b ≤ 200) (h : nI a = nI b) : a = b := by
  have e := congrArg Int32.toInt h
  rw [nI_toInt (by omega), nI_toInt (by omega)] at e
  omega
theorem nI_bad {v : Int32} {ft q : Nat} (h200 : ft ≤ 200) (h : ¬ (0 ≤ v.toInt ∧ v.toInt < ((ft : Nat) : Int))) (hq : q < ft) (e : v = nI q) : False := by
  rw [e, nI_toInt (by omega)] at h
  omega
theorem eMt_self {n i : Nat} {X Y : Nat → Int32} : eMt n X Y i n X Y i := by
  unfold eMt mtC
  have c1 : ∀ a b c d : Int, cr a b c d a b = 0 := fun a b c d => by unfold cr; simp
  have c2 : ∀ a b c d : Int, cr a b c d c d = 0 := fun a b c d => by unfold cr; rw [Int.mul_comm (c - a)]; exact Int.sub_self _
  simp only [c1, c2]
  omega
