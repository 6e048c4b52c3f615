/-! PLAINER: which corner goes, and what is left when none goes any more -/
abbrev trF (cx cy : Nat → Int32) (f n k : Nat) : Nat := Int.natAbs (cr (cF40 cx f (prv n k)).toInt (cF40 cy f (prv n k)).toInt (cF40 cx f k).toInt (cF40 cy f k).toInt (cF40 cx f (nxt n k)).toInt (cF40 cy f (nxt n k)).toInt)
def cnd (ft : Nat) (st tn kd mn cx cy : Nat → Int32) (f n L k : Nat) : Prop := mGo ft st tn kd mn cx cy f n k ∧ trF cx cy f n k ≤ L
def pBest (ft : Nat) (st tn kd mn cx cy : Nat → Int32) (f n L k : Nat) : Prop := k < n ∧ cnd ft st tn kd mn cx cy f n L k ∧ lwP ft st tn kd mn cx cy f n k ∧ ∀ j, j < n → cnd ft st tn kd mn cx cy f n L j → lwP ft st tn kd mn cx cy f n j → trF cx cy f n k < trF cx cy f n j ∨ (trF cx cy f n k = trF cx cy f n j ∧ k ≤ j)
theorem pBest_u {ft : Nat} {st tn kd mn cx cy : Nat → Int32} {f n L k j : Nat} (h : pBest ft st tn kd mn cx cy f n L k) (h2 : pBest ft st tn kd mn cx cy f n L j) : k = j := by
  have a := h.2.2.2 j h2.1 h2.2.1 h2.2.2.1
  have b := h2.2.2.2 k h.1 h.2.1 h.2.2.1
  omega
/-- how many below n are so -/
noncomputable def cntP (P : Nat → Prop) : Nat → Nat
  | 0 => 0
  | n + 1 => cntP P n + @ite Nat (P n) (Classical.propDecidable _) 1 0
theorem cntP_le {P Q : Nat → Prop} (h : ∀ j, Q j → P j) (n : Nat) : cntP Q n ≤ cntP P n := by
  induction n with
  | zero => exact Nat.le_refl _
  | succ n ih =>
    show cntP Q n + _ ≤ cntP P n + _
    by_cases q : Q n
    · rw [if_pos q, if_pos (h n q)]; omega
    · rw [if_neg q]; omega
theorem cntP_lt {P Q : Nat → Prop} {i n : Nat} (h : ∀ j, Q j → P j) (hi : i < n) (h1 : P i) (h2 : ¬ Q i) : cntP Q n < cntP P n := by
  induction n with
  | zero => omega
  | succ n ih =>
    show cntP Q n + _ < cntP P n + _
    rcases Nat.lt_or_ge i n with q | q
    · have := ih q
      by_cases q2 : Q n
      · rw [if_pos q2, if_pos (h n q2)]; omega
      · rw [if_neg q2]; omega
    · obtain rfl : i = n := by omega
      rw [if_neg h2, if_pos h1]
      have := cntP_le h i; omega
/-- the best so far below k, as the loop finds it -/
def bstS (T : Nat → Nat) (FS : Nat → Prop) (k : Nat) (z : Int32) : Prop := (z = -1 ∧ ∀ j, j < k → FS j) ∨ ∃ b, z = nI b ∧ b < k ∧ ¬ FS b ∧ ∀ j, j < k → ¬ FS j → T b < T j ∨ (T b = T j ∧ b ≤ j)
theorem bst_0 (T : Nat → Nat) (FS : Nat → Prop) : bstS T FS 0 (-1) := Or.inl ⟨rfl, fun j hj => by omega⟩
theorem bst_f {T : Nat → Nat} {FS : Nat → Prop} {k : Nat} {z : Int32} (h : bstS T FS k z) (hf : FS k) : bstS T FS (k + 1) z := by
  rcases h with ⟨h, h1⟩ | ⟨b, h, h1, h2, h3⟩
  · refine Or.inl ⟨h, fun j hj => ?_⟩
    rcases Nat.lt_or_ge j k with q | q
    · exact h1 j q
    · rw [show j = k by omega]; exact hf
  · refine Or.inr ⟨b, h, by omega, h2, fun j hj hn => ?_⟩
    rcases Nat.lt_or_ge j k with q | q
    · exact h3 j q hn
    · rw [show j = k by omega] at hn; exact absurd hf hn
theorem bst_n {T : Nat → Nat} {FS : Nat → Prop} {k : Nat} {z : Int32} (h : bstS T FS k z) (hz : z.toInt = -1) (hk : k < 2147483648) (hf : ¬ FS k) : bstS T FS (k + 1) (nI k) := by
  rcases h with ⟨h, h1⟩ | ⟨b, h, h1, h2, h3⟩
  · refine Or.inr ⟨k, rfl, by omega, hf, fun j hj hn => ?_⟩
    rcases Nat.lt_or_ge j k with q | q
    · exact absurd (h1 j q) hn
    · exact Or.inr ⟨by rw [show j = k by omega], by omega⟩
  · rw [h, nI_toInt (by omega)] at hz; omega
theorem bst_l {T : Nat → Nat} {FS : Nat → Prop} {k b : Nat} {z : Int32} (hz : z = nI b) (h1 : b < k) (h2 : ¬ FS b) (h3 : ∀ j, j < k → ¬ FS j → T b < T j ∨ (T b = T j ∧ b ≤ j)) (hf : ¬ FS k) (hl : T k < T b) : bstS T FS (k + 1) (nI k) := by
  refine Or.inr ⟨k, rfl, by omega, hf, fun j hj hn => ?_⟩
  rcases Nat.lt_or_ge j k with q | q
  · have := h3 j q hn; omega
  · exact Or.inr ⟨by rw [show j = k by omega], by omega⟩
theorem bst_g {T : Nat → Nat} {FS : Nat → Prop} {k b : Nat} {z : Int32} (hz : z = nI b) (h1 : b < k) (h2 : ¬ FS b) (h3 : ∀ j, j < k → ¬ FS j → T b < T j ∨ (T b = T j ∧ b ≤ j)) (hl : T b ≤ T k) : bstS T FS (k + 1) z := by
  refine Or.inr ⟨b, hz, by omega, h2, fun j hj hn => ?_⟩
  rcases Nat.lt_or_ge j k with q | q
  · exact h3 j q hn
  · rw [show j = k by omega]; omega
theorem bst_get {T : Nat → Nat} {FS : Nat → Prop} {k : Nat} {z : Int32} (h : bstS T FS k z) (hz : ¬ z.toInt = -1) : ∃ b, z = nI b ∧ b < k ∧ ¬ FS b ∧ ∀ j, j < k → ¬ FS j → T b < T j ∨ (T b = T j ∧ b ≤ j) := by
  rcases h with ⟨h, h1⟩ | h
  · rw [h] at hz; exact absurd (by decide) hz
  · exact h
theorem bst_no {T : Nat → Nat} {FS : Nat → Prop} {k : Nat} {z : Int32} (h : bstS T FS k z) (hz : z.toInt = -1) (hk : k < 2147483648) : ∀ j, j < k → FS j := by
  rcases h with ⟨h, h1⟩ | ⟨b, h, h1, _⟩
  · exact h1
  · rw [h, nI_toInt (by omega)] at hz; omega
theorem mGo_2 {ft : Nat} {st tn kd mn cx cy : Nat → Int32} {f n k : Nat} (h : mGo ft st tn kd mn cx cy f n k) (hk : k < n) (h3 : 5 ≤ (kd f).toInt → 3 ≤ n) : 2 ≤ n := by
  unfold mGo at h; omega
theorem trB {cx cy : Nat → Int32} {f n k : Nat} (hp : pls n (cF40 cx f) (cF40 cy f)) (hk : k < n) : trF cx cy f n k ≤ 2000000 := by
  have h1 := prv_lt (n := n) (i := k) hk; have h2 := nxt_lt (n := n) (i := k) (by omega)
  have := crBp (hp _ h1).1 (hp _ h1).2 (hp k hk).1 (hp k hk).2 (hp _ h2).1 (hp _ h2).2
  unfold trF; omega
/-- a method's end with an answer that is only told of -/
def zQe (B : Option Value → State → Prop) (A : Nat → Prop) : Array Value → State → Outcome → State → Prop := fun _ st oc t => (∃ v, oc = .returned v ∧ B v t) ∧ va_F A st t
section ZE
variable {p : Program} {l : Launch} {e : Env} {R : Room} {s : State} {m : MethodId} {args : Array Value} {below : List Frame} {meth : Method} {c : Code} {H : Heap} {locs : List Loc} {cells slots : Nat} {Q : State → Prop}
variable {pc : Nat} {ls : Array Slot} {rest st0 : List Value} {a : Array Value} {A0 A1 : Nat → Prop} {H0 : Heap} {mc ms : Nat} {free : Addr → Prop}
theorem zcalle {B : Option Value → State → Prop} (hr : va_Run p l e R s m args below meth c H locs cells slots mc ms (F0 m pc ls st0) rest (zQe B A1 a) free) (hS : va_S A0 H0 H locs) (hA : ∀ q, A1 q → A0 q) (hf : ∀ q, free q → A0 q)
    (kk : ∀ (v : Option Value) (t : State) (H1 : Heap) (locs1 : List Loc), t.heap = H1 → B v t → (∀ q : Nat, q < H.size → ¬ A1 q → H1[q]? = H[q]?) → va_S A0 H0 H1 locs1 → W p l e R s m args below meth c H1 locs1 (cells + mc) (slots + ms) Q (F0 m (pc + 3) ls (v.toList ++ rest))) : W p l e R s m args below meth c H locs cells slots Q (F0 m pc ls st0) := by
  intro T hT X
  obtain ⟨v1, st₀, t, T', L, h0, X', hL, e1, e2, ⟨⟨v2, hv, hb⟩, hz, hk⟩, st⟩ := hr T hT X
  cases hv
  rw [h0] at hz hk
  obtain ⟨t2, a1, b1⟩ := kk v1 t T'.heap (locs ++ L) e1.symm hb (fun q h1 h2 => by rw [e1]; exact hk q h1 h2)
    ⟨Nat.le_trans hS.1 (by rw [e1]; exact hz), fun q h1 h2 => by rw [e1, hk q (Nat.lt_of_lt_of_le h1 hS.1) (fun z => h2 (hA q z))]; exact hS.2.1 q h1 h2, fun q hq => by
      rcases List.mem_append.mp hq with h | h
      · exact hS.2.2 q h
      · exact hf _ (hL q h)⟩ T' rfl X'
  exact ⟨t2, st t2 a1, b1⟩
end ZE
