/-! the class's soundness of a row is the reference's -/
theorem edg_eO {kd : Int} {n : Nat} {rg : Int32} (hr : rg.toInt = if 5 ≤ kd then 1 else 0) (hk : ¬ kd = 0) (hn : 2 ≤ n) : edg n rg = eO kd n := by
  unfold edg eO
  rw [if_neg (by omega), if_neg hk]
  by_cases h : 5 ≤ kd
  · rw [if_pos h] at hr ⊢; rw [if_neg (by omega)]
  · rw [if_neg h] at hr ⊢; rw [if_pos hr]
theorem nxt_s {n i : Nat} (h : i + 1 < n) : nxt n i = i + 1 := by unfold nxt; rw [if_pos h]
theorem nxt_l {n i : Nat} (h : ¬ i + 1 < n) : nxt n i = 0 := by unfold nxt; rw [if_neg h]
theorem mFl_f {n i : Nat} {X Y : Nat → Int32} (h : i + 1 < n) : mFl n X Y i (i + 1) = eFd n X Y (i + 1) := by
  unfold mFl eFd; rw [nxt_s h, show prv n (i + 1) = i by unfold prv; rw [if_pos (by omega)]; omega]
theorem mFl_l {n : Nat} {X Y : Nat → Int32} (h : 2 ≤ n) : mFl n X Y (n - 1) 0 = eFd n X Y 0 := by
  unfold mFl eFd; rw [nxt_l (n := n) (i := n - 1) (by omega), show prv n 0 = n - 1 by unfold prv; rw [if_neg (by omega)]]
theorem snd_iff {kd : Int} {n : Nat} {X Y : Nat → Int32} {rg : Int32} (hr : rg.toInt = if 5 ≤ kd then 1 else 0) (hk : ¬ kd = 0) (hn : mnc kd ≤ n) : ((∀ i, i < edg n rg → eFr n X Y rg i (i + 1)) ∧ (¬ kd = 6 ∨ ∀ k, k < n → eRt n X Y k)) ↔ mSm kd n X Y := by
  have h2 : 2 ≤ n := by unfold mnc at hn; split at hn <;> omega
  have he := edg_eO hr hk h2
  have hle := eO_le (k := kd) (n := n) (by omega)
  have hE : (eO kd n = n ∧ 5 ≤ kd) ∨ (eO kd n = n - 1 ∧ ¬ 5 ≤ kd) := by
    unfold eO; rw [if_neg hk]
    by_cases h : 5 ≤ kd
    · rw [if_pos h]; exact Or.inl ⟨rfl, h⟩
    · rw [if_neg h]; exact Or.inr ⟨rfl, h⟩
  rw [he]
  constructor
  · intro h
    refine ⟨fun h0 => absurd h0 hk, fun _ => ⟨hn, fun i hi => (h.1 i hi).1, fun i k h1 hk2 => ?_, h.2⟩⟩
    have g := (h.1 i (by omega)).2 k (by omega) (by rw [he]; exact hk2) (by omega)
    refine ⟨fun e => ?_, fun e q => ?_, fun e q => ?_⟩
    · subst e; rw [mFl_f (by omega)]; exact g.1 (nxt_s (by omega))
    · obtain ⟨q1, q2, q3⟩ := q
      subst q2
      have hk3 : k = n - 1 := by omega
      rw [hk3, mFl_l h2]
      exact g.2.1 (by rw [nxt_s (by omega)]; omega) (nxt_l (by omega))
    · refine g.2.2 (by rw [nxt_s (by omega)]; omega) ?_
      by_cases c : k + 1 < n
      · rw [nxt_s c]; omega
      · rw [nxt_l c]; intro h0; exact q (by omega)
  · intro h
    have g := h.2 hk
    refine ⟨fun i hi => ⟨g.2.1 i hi, fun j h1 h3 h4 => ?_⟩, g.2.2.2⟩
    rw [he] at h3
    have c := g.2.2.1 i j (by omega) h3
    refine ⟨fun e => ?_, fun e q => ?_, fun e q => ?_⟩
    · rw [nxt_s (by omega)] at e
      subst e; rw [← mFl_f (by omega)]; exact c.1 rfl
    · rw [nxt_s (by omega)] at e
      by_cases w : j + 1 < n
      · rw [nxt_s w] at q; omega
      · rw [nxt_l w] at q
        have hj : j = n - 1 := by omega
        have hm := c.2.1 (by omega) (by omega)
        rw [← q, hj, mFl_l h2] at hm
        rw [← q]; exact hm
    · rw [nxt_s (by omega)] at e
      exact c.2.2 (by omega) (fun w => by
        by_cases v : j + 1 < n
        · omega
        · rw [nxt_l v] at q; omega)
