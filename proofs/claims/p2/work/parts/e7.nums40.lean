/-! a corner goes, by the class -/
def ctF (X : Nat → Int32) (k : Nat) : Nat → Int32 := fun j => if j < k then X j else X (j + 1)
def bareK (ft : Nat) (st tn kd mn cx cy : Nat → Int32) (f0 : Nat) (x y : Int) : Prop := ∀ q, q < ft → (q ≠ f0 → lvF ft st tn q → ¬ onF kd mn cx cy q x y)
/-- the draft is lawful where corner k goes -/
def alC (ft : Nat) (st tn kd mn cx cy : Nat → Int32) (f0 n : Nat) (X Y : Nat → Int32) (rg : Int32) (nd : Nat) (P Q : Nat → Int32) (rd : Int32) (k5 : Nat) : Prop :=
  pls nd P Q ∧ eFr nd P Q rd (prv nd (gpK nd k5)) 0 ∧ ∀ q, q < ft → (q ≠ f0 → lvF ft st tn q → (apB (min (min (X k5).toInt (X (prv n k5)).toInt) (X (nxt n k5)).toInt) (min (min (Y k5).toInt (Y (prv n k5)).toInt) (Y (nxt n k5)).toInt) (max (max (X k5).toInt (X (prv n k5)).toInt) (X (nxt n k5)).toInt) (max (max (Y k5).toInt (Y (prv n k5)).toInt) (Y (nxt n k5)).toInt) (nN (mn q)) (cF40 cx q) (cF40 cy q) ∨ (asb n X Y rg nd P Q rd (nN (mn q)) (cF40 cx q) (cF40 cy q) (rgK (kd q).toInt) ∧ (¬ ∃ j, j < nN (mn q) ∧ swC n X Y k5 (cF40 cx q j).toInt (cF40 cy q j).toInt))))
section
variable {n m : Nat} {X Y P Q U V S T : Nat → Int32}
theorem eFd_cg (h : ∀ j, j < n → X j = P j ∧ Y j = Q j) {k : Nat} (hk : k < n) : eFd n X Y k = eFd n P Q k := by
  have a := prv_lt (n := n) (i := k) hk; have b := nxt_lt (n := n) (i := k) (by omega)
  unfold eFd; rw [(h k hk).1, (h k hk).2, (h _ a).1, (h _ a).2, (h _ b).1, (h _ b).2]
theorem eFr_cg (h : ∀ j, j < n → X j = P j ∧ Y j = Q j) {rg : Int32} {i f : Nat} (hi : i < n) : eFr n X Y rg i f ↔ eFr n P Q rg i f := by
  have b := nxt_lt (n := n) (i := i) (by omega)
  have le := edg_le n rg
  unfold eFr
  rw [(h i hi).1, (h i hi).2, (h _ b).1, (h _ b).2]
  refine and_congr_right fun _ => forall_congr' fun j => imp_congr_right fun h1 => imp_congr_right fun h2 => imp_congr_right fun h3 => ?_
  rw [eFd_cg h (k := j) (by omega), eFd_cg h hi, eMt_cg h h hi (k := j) (by omega)]
theorem tch_cl (h : ∀ j, j < n → X j = P j ∧ Y j = Q j) {rg rh : Int32} : tch n X Y rg m U V rh ↔ tch n P Q rg m U V rh := by
  have p1 := prt_le n rg; have p2 := prt_le m rh
  exact exists_congr fun i => and_congr_right fun hi => exists_congr fun j => and_congr_right fun hj => by rw [eMt_cg h (fun _ _ => ⟨rfl, rfl⟩) (by omega) (by omega)]
theorem asb_cd {nd : Nat} {rg rd rh : Int32} (h1 : 1 ≤ nd) (h : ∀ j, j < nd → P j = S j ∧ Q j = T j) : asb n X Y rg nd P Q rd m U V rh ↔ asb n X Y rg nd S T rd m U V rh := by
  unfold asb
  rw [tch_cl h, (h 0 (by omega)).1, (h 0 (by omega)).2]
  exact and_congr_right fun _ => and_congr (imp_congr_right fun _ => forall_congr' fun k => imp_congr_right fun _ => by rw [inF_cg h1 h]) Iff.rfl
end
theorem alC_cg {ft : Nat} {st tn kd mn cx cy : Nat → Int32} {f0 n : Nat} {X Y : Nat → Int32} {rg : Int32} {nd : Nat} {P Q S T : Nat → Int32} {rd : Int32} {k5 : Nat} (h1 : 1 ≤ nd) (h : ∀ j, j < nd → P j = S j ∧ Q j = T j) : alC ft st tn kd mn cx cy f0 n X Y rg nd P Q rd k5 ↔ alC ft st tn kd mn cx cy f0 n X Y rg nd S T rd k5 := by
  have hg : gpK nd k5 < nd := by unfold gpK; split <;> omega
  have hp := prv_lt (n := nd) (i := gpK nd k5) hg
  unfold alC
  rw [pls_cg h, eFr_cg h hp]
  refine and_congr_right fun _ => and_congr_right fun _ => forall_congr' fun q => imp_congr_right fun _ => imp_congr_right fun _ => imp_congr_right fun _ => or_congr Iff.rfl (and_congr (asb_cd h1 h) Iff.rfl)
theorem ct_cg {n k : Nat} {X Y P Q P1 Q1 : Nat → Int32} (hc : ∀ j, j < n → P j = X j ∧ Q j = Y j) (h1 : ∀ j, j < k → P1 j = P j ∧ Q1 j = Q j) (h2 : ∀ j, k ≤ j → j < n - 1 → P1 j = P (j + 1) ∧ Q1 j = Q (j + 1)) (hk : k < n) : ∀ j, j < n - 1 → P1 j = ctF X k j ∧ Q1 j = ctF Y k j := by
  intro j hj
  unfold ctF
  rcases Nat.lt_or_ge j k with g | g
  · rw [if_pos g, if_pos g, (h1 j g).1, (h1 j g).2]; exact hc j (by omega)
  · rw [if_neg (by omega), if_neg (by omega), (h2 j g hj).1, (h2 j g hj).2]; exact hc (j + 1) (by omega)
/-- a corner's area, -1 where it is an end -/
def arE (n : Nat) (rg : Int32) (k : Nat) : Prop := rg.toInt = 0 ∧ (k = 0 ∨ k = n - 1)
def arT (n : Nat) (X Y : Nat → Int32) (k : Nat) : Nat := Int.natAbs (eCr n X Y (prv n k) (X (nxt n k)).toInt (Y (nxt n k)).toInt)
theorem arT_b {n : Nat} {X Y : Nat → Int32} (hp : pls n X Y) {k : Nat} (hk : k < n) : arT n X Y k ≤ 2000000 := by
  have hv := prv_lt (n := n) (i := k) hk; have hx := nxt_lt (n := n) (i := k) (by omega)
  have hy := nxt_lt (n := n) (i := prv n k) (by omega)
  have hB := crBp (hp _ hv).1 (hp _ hv).2 (hp _ hy).1 (hp _ hy).2 (hp _ hx).1 (hp _ hx).2
  unfold arT; have : -2000000 ≤ eCr n X Y (prv n k) (X (nxt n k)).toInt (Y (nxt n k)).toInt ∧ eCr n X Y (prv n k) (X (nxt n k)).toInt (Y (nxt n k)).toInt ≤ 2000000 := hB
  omega
/-- the areas as they stand while some corners were tried in vain -/
def arI (n : Nat) (X Y : Nat → Int32) (rg : Int32) (R : Nat → Prop) (AR : Nat → Int32) : Prop := ∀ j, j < n → ((R j ∨ arE n rg j) → AR j = -1) ∧ (¬ (R j ∨ arE n rg j) → AR j = nI (arT n X Y j))
theorem arI_f {n : Nat} {X Y : Nat → Int32} {rg : Int32} {R : Nat → Prop} {AR : Nat → Int32} (hp : pls n X Y) (h : arI n X Y rg R AR) {lim : Int32} {j : Nat} (hj : j < n) : (0 ≤ (AR j).toInt ∧ (AR j).toInt ≤ lim.toInt) ↔ (¬ R j ∧ ¬ arE n rg j ∧ ((arT n X Y j : Nat) : Int) ≤ lim.toInt) := by
  have hb := arT_b hp hj
  by_cases e : R j ∨ arE n rg j
  · rw [(h j hj).1 e]
    exact ⟨fun q => absurd q.1 (by decide), fun q => e.elim (fun g => absurd g q.1) (fun g => absurd g q.2.1)⟩
  · rw [(h j hj).2 e, nI_toInt (by omega)]
    exact ⟨fun q => ⟨fun g => e (Or.inl g), fun g => e (Or.inr g), q.2⟩, fun q => ⟨by omega, q.2.2⟩⟩
theorem arI_t {n : Nat} {X Y : Nat → Int32} {rg : Int32} {R : Nat → Prop} {AR : Nat → Int32} (hp : pls n X Y) (h : arI n X Y rg R AR) {j : Nat} (hj : j < n) (e : ¬ (R j ∨ arE n rg j)) : (AR j).toInt.toNat = arT n X Y j := by
  have hb := arT_b hp hj
  rw [(h j hj).2 e, nI_toInt (by omega)]; omega
theorem arI_s {n : Nat} {X Y : Nat → Int32} {rg : Int32} {R : Nat → Prop} {AR : Nat → Int32} {b : Nat} (h : arI n X Y rg R AR) : arI n X Y rg (fun j => R j ∨ j = b) (upd AR b (-1)) := by
  intro j hj
  by_cases e : j = b
  · rw [e, up_at]; exact ⟨fun _ => rfl, fun g => absurd (Or.inl (Or.inr rfl)) g⟩
  · rw [show upd AR b (-1) j = AR j from if_neg e]
    exact ⟨fun g => (h j hj).1 (g.elim (fun g => g.elim Or.inl (fun g => absurd g e)) Or.inr), fun g => (h j hj).2 (fun q => g (q.elim (fun q => Or.inl (Or.inl q)) Or.inr))⟩
/-- which corners may go: no end, small enough, bare and lawful -/
def goK (ft : Nat) (st tn kd mn cx cy : Nat → Int32) (f0 n : Nat) (X Y : Nat → Int32) (rg lim : Int32) (k : Nat) : Prop :=
  ¬ arE n rg k ∧ ((arT n X Y k : Nat) : Int) ≤ lim.toInt ∧ bareK ft st tn kd mn cx cy f0 (X k).toInt (Y k).toInt ∧ alC ft st tn kd mn cx cy f0 n X Y rg (n - 1) (ctF X k) (ctF Y k) rg k
theorem go_no {ft : Nat} {st tn kd mn cx cy : Nat → Int32} {f0 n : Nat} {X Y : Nat → Int32} {rg lim : Int32} {R : Nat → Prop} {AR : Nat → Int32} {z : Int32} (hp : pls n X Y) (hn : n ≤ 40) (h : arI n X Y rg R AR) (hR : ∀ j, j < n → R j → ¬ goK ft st tn kd mn cx cy f0 n X Y rg lim j)
    (hb : bstS (fun k => (AR k).toInt.toNat) (fun k => ¬ (0 ≤ (AR k).toInt ∧ (AR k).toInt ≤ lim.toInt)) n z) (hz : z.toInt = -1) : bstS (arT n X Y) (fun k => ¬ goK ft st tn kd mn cx cy f0 n X Y rg lim k) n (-1) := by
  refine Or.inl ⟨rfl, fun j hj g => ?_⟩
  have a := bst_no hb hz (by omega) j hj
  exact a ((arI_f hp h hj).mpr ⟨fun q => hR j hj q g, g.1, g.2.1⟩)
theorem go_all {ft : Nat} {st tn kd mn cx cy : Nat → Int32} {f0 n : Nat} {X Y : Nat → Int32} {rg lim : Int32} {R : Nat → Prop} (hR : ∀ j, j < n → R j → ¬ goK ft st tn kd mn cx cy f0 n X Y rg lim j) (hc : n ≤ cntP R n) : bstS (arT n X Y) (fun k => ¬ goK ft st tn kd mn cx cy f0 n X Y rg lim k) n (-1) :=
  Or.inl ⟨rfl, fun j hj => hR j hj (cntP_all hc j hj)⟩
theorem go_yes {ft : Nat} {st tn kd mn cx cy : Nat → Int32} {f0 n b : Nat} {X Y : Nat → Int32} {rg lim : Int32} {R : Nat → Prop} {AR : Nat → Int32} (hp : pls n X Y) (h : arI n X Y rg R AR) (hR : ∀ j, j < n → R j → ¬ goK ft st tn kd mn cx cy f0 n X Y rg lim j)
    (hb : b < n) (hF : ¬ R b ∧ ¬ arE n rg b ∧ ((arT n X Y b : Nat) : Int) ≤ lim.toInt) (hm : ∀ j, j < n → ¬ ¬ (0 ≤ (AR j).toInt ∧ (AR j).toInt ≤ lim.toInt) → (AR b).toInt.toNat < (AR j).toInt.toNat ∨ ((AR b).toInt.toNat = (AR j).toInt.toNat ∧ b ≤ j))
    (h1 : bareK ft st tn kd mn cx cy f0 (X b).toInt (Y b).toInt) (h2 : alC ft st tn kd mn cx cy f0 n X Y rg (n - 1) (ctF X b) (ctF Y b) rg b) : bstS (arT n X Y) (fun k => ¬ goK ft st tn kd mn cx cy f0 n X Y rg lim k) n (nI b) := by
  refine Or.inr ⟨b, rfl, hb, fun q => q ⟨hF.2.1, hF.2.2, h1, h2⟩, fun j hj g => ?_⟩
  have g := Classical.not_not.mp g
  have hj2 : ¬ R j := fun q => hR j hj q g
  have m := hm j hj (fun q => q ((arI_f hp h hj).mpr ⟨hj2, g.1, g.2.1⟩))
  rw [arI_t hp h hb (fun q => q.elim hF.1 hF.2.1), arI_t hp h hj (fun q => q.elim hj2 g.1)] at m
  exact m
