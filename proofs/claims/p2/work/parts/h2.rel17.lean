/-! what is asked: sound rows, inside -/
theorem snd_n {kd : Int} {n : Nat} {X Y C D : Nat → Int32} {rg : Int32} (hr : rg.toInt = if 5 ≤ kd then 1 else 0) (hc : ∀ k, k < n → X k = C k ∧ Y k = D k) (hf : (if kd = 0 then 1 else if kd < 5 then 2 else 3) ≤ n) (h1 : kd = 0 → n ≤ 1) (h : (∀ i, i < edg n rg → eFr n X Y rg i (i + 1)) ∧ (¬ kd = 6 ∨ ∀ k, k < n → eRt n X Y k)) : mSm kd n C D := by
  by_cases e : kd = 0
  · refine ⟨fun _ => ?_, fun g => absurd e g⟩
    rw [if_pos e] at hf
    have := h1 e
    omega
  · refine mSm_cg hc ((snd_iff hr e ?_).mp h)
    rw [if_neg e] at hf
    unfold mnc
    by_cases e2 : kd < 5
    · rw [if_pos e2] at hf; split <;> omega
    · rw [if_neg e2] at hf; split <;> omega
theorem wh_inV {kd : Int} {n : Nat} {X Y C D : Nat → Int32} {px py : Int} (h5 : 5 ≤ kd) (hc : ∀ k, k < n → X k = C k ∧ Y k = D k) : whr n X Y px py = inV (∃ i, i < eO kd n ∧ eOn n C D i px py) (inF kd n C D px py) := by
  have he : eO kd n = n := by unfold eO; rw [if_neg (by omega), if_pos h5]
  rw [whr_cg hc]
  by_cases o : ∃ i, i < n ∧ eOn n C D i px py
  · rw [whr_2 o]; exact inV_2 (by rw [he]; exact o)
  · rw [whr_n o]
    by_cases p : par2 (eTg n C D px py) n
    · rw [zp_t p]; exact inV_1 (by rw [he]; exact o) ⟨by rw [he]; exact o, by rw [he]; exact p⟩
    · rw [zp_f p]; exact inV_0 (by rw [he]; exact o) (fun h => p (by have h9 := h.2; rw [he] at h9; exact h9))
