/-! what is said of a row hangs on its corners alone -/
section CG
variable {n m : Nat} {X Y P Q U V S T : Nat → Int32}
theorem pls_cg (h : ∀ j, j < n → X j = P j ∧ Y j = Q j) : pls n X Y ↔ pls n P Q :=
  ⟨fun g k hk => by rw [← (h k hk).1, ← (h k hk).2]; exact g k hk, fun g k hk => by rw [(h k hk).1, (h k hk).2]; exact g k hk⟩
theorem eOn_cg (h : ∀ j, j < n → X j = P j ∧ Y j = Q j) {i : Nat} (hi : i < n) {x y : Int} : eOn n X Y i x y = eOn n P Q i x y := by
  have h2 := h _ (nxt_lt (n := n) (i := i) (by omega)); have h1 := h i hi
  unfold eOn; rw [h1.1, h1.2, h2.1, h2.2]
theorem eTg_cg (h : ∀ j, j < n → X j = P j ∧ Y j = Q j) {i : Nat} (hi : i < n) {x y : Int} : eTg n X Y x y i = eTg n P Q x y i := by
  have h2 := h _ (nxt_lt (n := n) (i := i) (by omega)); have h1 := h i hi
  unfold eTg eCr; rw [h1.1, h1.2, h2.1, h2.2]
theorem par2_cg {A B : Nat → Prop} : ∀ k, (∀ j, j < k → (A j ↔ B j)) → (par2 A k ↔ par2 B k) := by
  intro k
  induction k with
  | zero => intro _; exact Iff.rfl
  | succ k ih =>
    intro h
    have h1 := ih (fun j hj => h j (by omega))
    have h2 := h k (by omega)
    show (par2 A k ∧ ¬ A k) ∨ (¬ par2 A k ∧ A k) ↔ (par2 B k ∧ ¬ B k) ∨ (¬ par2 B k ∧ B k)
    rw [h1, h2]
theorem inF_cg (h1 : 1 ≤ n) (h : ∀ j, j < n → X j = P j ∧ Y j = Q j) {k : Int} {x y : Int} : inF k n X Y x y ↔ inF k n P Q x y := by
  have hle := eO_le (k := k) h1
  have a : (∃ i, i < eO k n ∧ eOn n X Y i x y) ↔ ∃ i, i < eO k n ∧ eOn n P Q i x y := ⟨fun ⟨i, hi, g⟩ => ⟨i, hi, by rw [← eOn_cg h (by omega)]; exact g⟩, fun ⟨i, hi, g⟩ => ⟨i, hi, by rw [eOn_cg h (by omega)]; exact g⟩⟩
  have b := par2_cg (A := eTg n X Y x y) (B := eTg n P Q x y) (eO k n) (fun j hj => by rw [eTg_cg h (by omega)])
  unfold inF; rw [a, b]
theorem eMt_cg (h : ∀ j, j < n → X j = P j ∧ Y j = Q j) (g : ∀ j, j < m → U j = S j ∧ V j = T j) {i k : Nat} (hi : i < n) (hk : k < m) : eMt n X Y i m U V k = eMt n P Q i m S T k := by
  have h2 := h _ (nxt_lt (n := n) (i := i) (by omega)); have h1 := h i hi
  have g2 := g _ (nxt_lt (n := m) (i := k) (by omega)); have g1 := g k hk
  unfold eMt; rw [h1.1, h1.2, h2.1, h2.2, g1.1, g1.2, g2.1, g2.2]
theorem mtF_cg (hn : 1 ≤ n) (hm : 1 ≤ m) (h : ∀ j, j < n → X j = P j ∧ Y j = Q j) (g : ∀ j, j < m → U j = S j ∧ V j = T j) {k k2 : Int} : mtF k n X Y k2 m U V ↔ mtF k n P Q k2 m S T := by
  have l1 := eO_le (k := k) hn; have l2 := eO_le (k := k2) hm
  unfold mtF
  exact ⟨fun ⟨i, hi, j, hj, q⟩ => ⟨i, hi, j, hj, by rw [← eMt_cg h g (by omega) (by omega)]; exact q⟩, fun ⟨i, hi, j, hj, q⟩ => ⟨i, hi, j, hj, by rw [eMt_cg h g (by omega) (by omega)]; exact q⟩⟩
theorem eRt_cg (h : ∀ j, j < n → X j = P j ∧ Y j = Q j) {k : Nat} (hk : k < n) : eRt n X Y k = eRt n P Q k := by
  have h2 := h _ (nxt_lt (n := n) (i := k) (by omega)); have h3 := h _ (prv_lt (n := n) (i := k) hk); have h1 := h k hk
  unfold eRt; rw [h1.1, h1.2, h2.1, h2.2, h3.1, h3.2]
theorem mFl_cg (h : ∀ j, j < n → X j = P j ∧ Y j = Q j) {i k : Nat} (hi : i < n) (hk : k < n) : mFl n X Y i k = mFl n P Q i k := by
  have h2 := h _ (nxt_lt (n := n) (i := i) (by omega)); have h3 := h _ (nxt_lt (n := n) (i := k) (by omega)); have h1 := h i hi
  unfold mFl; rw [h1.1, h1.2, h2.1, h2.2, h3.1, h3.2]
theorem mCn_cg (h : ∀ j, j < n → X j = P j ∧ Y j = Q j) {kd : Int} {i k : Nat} (hi : i < n) (hk : k < n) : mCn kd n X Y i k = mCn kd n P Q i k := by
  unfold mCn; rw [mFl_cg h hi hk, mFl_cg h hk hi, eMt_cg h h hi hk]
theorem mSm_cg (h : ∀ j, j < n → X j = P j ∧ Y j = Q j) {kd : Int} : mSm kd n X Y → mSm kd n P Q := by
  intro g
  refine ⟨g.1, fun h0 => ?_⟩
  have g2 := g.2 h0
  have hn : 1 ≤ n := mSm_pos g
  have hle := eO_le (k := kd) hn
  refine ⟨g2.1, fun i hi => ?_, fun i k h1 h2 => by rw [← mCn_cg h (by omega) (by omega)]; exact g2.2.2.1 i k h1 h2, g2.2.2.2.elim Or.inl (fun q => Or.inr (fun k hk => by rw [← eRt_cg h hk]; exact q k hk))⟩
  have e1 := h i (by omega); have e2 := h _ (nxt_lt (n := n) (i := i) (by omega))
  rw [← e1.1, ← e1.2, ← e2.1, ← e2.2]; exact g2.2.1 i hi
end CG
