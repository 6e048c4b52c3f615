section
/-! a corner goes: only the edge over the gap is new -/
theorem mtC_sy {a1 a2 b1 b2 c1 c2 d1 d2 : Int} (h : mtC a1 a2 b1 b2 c1 c2 d1 d2) : mtC c1 c2 d1 d2 a1 a2 b1 b2 := by
  obtain ⟨h1, h2, h3, h4⟩ := h
  exact ⟨fun g => h1 (by omega), fun g => h2 (by omega), h4, h3⟩
/-- two edges of one row get on -/
def eC (n : Nat) (X Y : Nat → Int32) (i j : Nat) : Prop := (nxt n i = j → ¬ eFd n X Y j) ∧ (nxt n i ≠ j → nxt n j = i → ¬ eFd n X Y i) ∧ (nxt n i ≠ j → nxt n j ≠ i → ¬ eMt n X Y i n X Y j)
theorem nxt_no2 {n i j : Nat} (hn : 3 ≤ n) (hi : i < n) (hj : j < n) (h : nxt n i = j) : nxt n j ≠ i := by
  unfold nxt at h ⊢
  split at h <;> split <;> omega
theorem eC_sy {n : Nat} {X Y : Nat → Int32} {i j : Nat} (hn : 3 ≤ n) (hi : i < n) (hj : j < n) (h : eC n X Y i j) : eC n X Y j i := by
  refine ⟨fun g => ?_, fun g g2 => ?_, fun g g2 => ?_⟩
  · exact h.2.1 (nxt_no2 hn hj hi g) g
  · exact h.1 g2
  · exact fun q => h.2.2 g2 g (mtC_sy q)
theorem eFr_e {n : Nat} {X Y : Nat → Int32} {rg : Int32} {i f : Nat} : eFr n X Y rg i f ↔ (¬ ((X i).toInt = (X (nxt n i)).toInt ∧ (Y i).toInt = (Y (nxt n i)).toInt) ∧ ∀ j, f ≤ j → j < edg n rg → j ≠ i → eC n X Y i j) := Iff.rfl
theorem phi_inj {k i j : Nat} (h : phi k i = phi k j) : i = j := by unfold phi at h; split at h <;> split at h <;> omega
theorem phi_lt {k i j : Nat} (h : i < j) : phi k i < phi k j := by unfold phi; split <;> split <;> omega
theorem prv_nx {n i : Nat} (hi : i < n) : prv n (nxt n i) = i := by unfold prv nxt; (repeat' split) <;> omega
/-- two old edges get on as they did -/
theorem eC_cut {n k : Nat} {X Y : Nat → Int32} {i j : Nat} (hk : k < n) (hn : 4 ≤ n) (hi : i < n - 1) (hj : j < n - 1) (gi : i ≠ gap n k) (gj : j ≠ gap n k) (h : eC n X Y (phi k i) (phi k j)) : eC (n - 1) (ctF X k) (ctF Y k) i j := by
  have pi := phi_nx hk (by omega) hi gi; have pj := phi_nx hk (by omega) hj gj
  have ni := nxt_lt (n := n - 1) (i := i) (by omega); have nj := nxt_lt (n := n - 1) (i := j) (by omega)
  -- the fold at a corner between two old edges
  have fd : ∀ {s t : Nat}, s < n - 1 → t < n - 1 → s ≠ gap n k → t ≠ gap n k → nxt (n - 1) s = t → (eFd (n - 1) (ctF X k) (ctF Y k) t ↔ eFd n X Y (phi k t)) := by
    intro s t hs ht gs gt e
    have ps := phi_nx hk (by omega) hs gs; have pt := phi_nx hk (by omega) ht gt
    have e1 : prv (n - 1) t = s := by rw [← e]; exact prv_nx hs
    have e2 : prv n (phi k t) = phi k s := by rw [← e, ps.1]; exact prv_nx ps.2.1
    unfold eFd
    rw [ct_phi, ct_phi, ct_phi, ct_phi, ct_phi, ct_phi, e1, e2, pt.1]
  refine ⟨fun g => ?_, fun g g2 => ?_, fun g g2 => ?_⟩
  · rw [fd hi hj gi gj g]; exact h.1 (by rw [← pi.1, g])
  · rw [fd hj hi gj gi g2]; exact h.2.1 (fun q => g (phi_inj (by rw [pi.1]; exact q))) (by rw [← pj.1, g2])
  · rw [ct_mt hk (by omega) hi gi]
    unfold eMt
    rw [ct_phi, ct_phi, ct_phi, ct_phi, pj.1]
    exact h.2.2 (fun q => g (phi_inj (by rw [pi.1]; exact q))) (fun q => g2 (phi_inj (by rw [pj.1]; exact q)))
/-- where all edges got on before, the row without a corner is sound just where the edge over the gap gets on with all -/
theorem gap_snd {n k : Nat} {X Y : Nat → Int32} {rg : Int32} (hk : k < n) (hr : (¬ rg.toInt = 0 ∧ 4 ≤ n) ∨ (rg.toInt = 0 ∧ 0 < k ∧ k < n - 1)) (ho : ∀ i, i < edg n rg → eFr n X Y rg i (i + 1)) :
    eFr (n - 1) (ctF X k) (ctF Y k) rg (gap n k) 0 ↔ ∀ i, i < edg (n - 1) rg → eFr (n - 1) (ctF X k) (ctF Y k) rg i (i + 1) := by
  have hn : 3 ≤ n := by omega
  have pd : edg (n - 1) rg = if rg.toInt = 0 then n - 2 else n - 1 := by unfold edg; rw [if_neg (by omega)]; split <;> omega
  have po : edg n rg = if rg.toInt = 0 then n - 1 else n := by unfold edg; rw [if_neg (by omega)]
  have gl : gap n k < edg (n - 1) rg := by
    rw [gap_e hk hn, pd]
    split <;> split <;> omega
  have le : edg (n - 1) rg ≤ n - 1 := by rw [pd]; split <;> omega
  have el : ∀ j, j < edg (n - 1) rg → phi k j < edg n rg := fun j hj => by
    rw [po]; rw [pd] at hj; unfold phi
    split at hj <;> (repeat' split) <;> omega
  have two : ∀ {i j : Nat}, i < edg (n - 1) rg → j < edg (n - 1) rg → i ≠ j → 4 ≤ n := by
    intro i j hi hj hij
    rw [pd] at hi hj
    by_cases z : rg.toInt = 0
    · rw [if_pos z] at hi hj; omega
    · omega
  have oldC : ∀ {i j : Nat}, i < edg n rg → j < edg n rg → i < j → eC n X Y i j := fun hi hj hij => (ho _ hi).2 _ hij hj (by omega)
  have oldN : ∀ i, i < edg (n - 1) rg → i ≠ gap n k → ¬ ((ctF X k i).toInt = (ctF X k (nxt (n - 1) i)).toInt ∧ (ctF Y k i).toInt = (ctF Y k (nxt (n - 1) i)).toInt) := fun i hi gi => by
    rw [ct_phi, ct_phi, ct_phi, ct_phi, (phi_nx hk hn (by omega) gi).1]
    exact (ho _ (el i hi)).1
  constructor
  · intro h i hi
    refine eFr_e.mpr ⟨?_, fun j h1 hj hji => ?_⟩
    · by_cases gi : i = gap n k
      · rw [gi]; exact h.1
      · exact oldN i hi gi
    · have h4 := two hi hj (fun q => hji q.symm)
      by_cases gi : i = gap n k
      · rw [gi]; exact h.2 j (Nat.zero_le _) hj (by omega)
      · by_cases gj : j = gap n k
        · rw [gj]; exact eC_sy (by omega) (by omega) (by omega) (h.2 i (Nat.zero_le _) hi gi)
        · exact eC_cut hk h4 (by omega) (by omega) gi gj (oldC (el i hi) (el j hj) (phi_lt (by omega)))
  · intro h
    refine eFr_e.mpr ⟨(h _ gl).1, fun j _ hj hjg => ?_⟩
    have h4 := two hj gl hjg
    rcases Nat.lt_or_ge (gap n k) j with q | q
    · exact (h _ gl).2 j q hj hjg
    · exact eC_sy (by omega) (by omega) (by omega) ((h j hj).2 (gap n k) (by omega) gl (fun e => hjg e.symm))
end
