section
/-! a corner goes: what lies apart from its triangle is as before -/
def phi (k j : Nat) : Nat := if j < k then j else j + 1
def gap (n k : Nat) : Nat := prv (n - 1) (gpK (n - 1) k)
theorem gap_e {n k : Nat} (hk : k < n) (hn : 3 ≤ n) : gap n k = if k = 0 then n - 2 else k - 1 := by
  unfold gap gpK prv
  repeat' split
  all_goals omega
theorem ct_phi (X : Nat → Int32) (k j : Nat) : ctF X k j = X (phi k j) := by unfold ctF phi; split <;> rfl
theorem phi_gap {n k : Nat} (hk : k < n) (hn : 3 ≤ n) : phi k (gap n k) = prv n k ∧ phi k (nxt (n - 1) (gap n k)) = nxt n k := by
  rw [gap_e hk hn]
  unfold phi prv nxt
  constructor <;> (repeat' split) <;> omega
theorem phi_nx {n k j : Nat} (hk : k < n) (hn : 3 ≤ n) (hj : j < n - 1) (hg : j ≠ gap n k) : phi k (nxt (n - 1) j) = nxt n (phi k j) ∧ phi k j < n ∧ phi k j ≠ k ∧ phi k j ≠ prv n k := by
  rw [gap_e hk hn] at hg
  have hg2 : (k = 0 → j ≠ n - 2) ∧ (k ≠ 0 → j ≠ k - 1) := by
    by_cases h0 : k = 0
    · rw [if_pos h0] at hg; omega
    · rw [if_neg h0] at hg; omega
  clear hg
  unfold phi prv nxt
  refine ⟨?_, ?_, ?_, ?_⟩ <;> (repeat' split) <;> omega
theorem phi_ex {n k i : Nat} (hk : k < n) (hn : 3 ≤ n) (hi : i < n) (h1 : i ≠ k) (h2 : i ≠ prv n k) : ∃ j, j < n - 1 ∧ j ≠ gap n k ∧ phi k j = i := by
  rw [gap_e hk hn]
  have h3 : (k = 0 → i ≠ n - 1) ∧ (k ≠ 0 → i ≠ k - 1) := by
    unfold prv at h2
    by_cases h0 : 0 < k
    · rw [if_pos h0] at h2; omega
    · rw [if_neg h0] at h2; omega
  unfold phi
  by_cases q : i < k
  · exact ⟨i, by omega, by split <;> omega, by rw [if_pos q]⟩
  · exact ⟨i - 1, by omega, by split <;> omega, by rw [if_neg (by omega)]; omega⟩
section
variable {n k : Nat} {X Y : Nat → Int32}
theorem ct_mt (hk : k < n) (hn : 3 ≤ n) {j : Nat} (hj : j < n - 1) (hg : j ≠ gap n k) {m q : Nat} {U V : Nat → Int32} : eMt (n - 1) (ctF X k) (ctF Y k) j m U V q = eMt n X Y (phi k j) m U V q := by
  have e := phi_nx hk hn hj hg
  unfold eMt; rw [ct_phi, ct_phi, ct_phi, ct_phi, e.1]
theorem ct_on (hk : k < n) (hn : 3 ≤ n) {j : Nat} (hj : j < n - 1) (hg : j ≠ gap n k) {x y : Int} : eOn (n - 1) (ctF X k) (ctF Y k) j x y = eOn n X Y (phi k j) x y := by
  have e := phi_nx hk hn hj hg
  unfold eOn; rw [ct_phi, ct_phi, ct_phi, ct_phi, e.1]
theorem ct_tg (hk : k < n) (hn : 3 ≤ n) {j : Nat} (hj : j < n - 1) (hg : j ≠ gap n k) {x y : Int} : eTg (n - 1) (ctF X k) (ctF Y k) x y j = eTg n X Y x y (phi k j) := by
  have e := phi_nx hk hn hj hg
  unfold eTg eCr; rw [ct_phi, ct_phi, ct_phi, ct_phi, e.1]
end
/-- three corners in a box, a place apart from it: the third edge turns the parity as the first two do -/
theorem tg_box {a1 a2 b1 b2 c1 c2 x y l o r h : Int} (ha : (l ≤ a1 ∧ a1 ≤ r) ∧ (o ≤ a2 ∧ a2 ≤ h)) (hb : (l ≤ b1 ∧ b1 ≤ r) ∧ (o ≤ b2 ∧ b2 ≤ h)) (hc : (l ≤ c1 ∧ c1 ≤ r) ∧ (o ≤ c2 ∧ c2 ≤ h)) (hx : r < x ∨ x < l ∨ h < y ∨ y < o) : tg2 a1 a2 c1 c2 x y ↔ (tg2 a1 a2 b1 b2 x y ↔ ¬ tg2 b1 b2 c1 c2 x y) := by
  have left : ∀ {p1 p2 q1 q2 : Int}, x < p1 → x < q1 → (tg2 p1 p2 q1 q2 x y ↔ (y < p2 ↔ ¬ y < q2)) := by
    intro p1 p2 q1 q2 g1 g2
    refine ⟨fun g => g.1, fun g => ⟨g, ?_⟩⟩
    have t := tg_left (a1 := -p1) (a2 := p2) (b1 := -q1) (b2 := q2) (x := -x) (y := y) (by omega) (by omega) g
    have e : cr (-p1) p2 (-q1) q2 (-x) y = - cr p1 p2 q1 q2 x y := by unfold cr; grind
    rw [e] at t
    by_cases q : p2 < q2
    · exact Or.inl ⟨q, by have := t.1 q; omega⟩
    · exact Or.inr ⟨q, by have := t.2 q; omega⟩
  have right : ∀ {p1 p2 q1 q2 : Int}, p1 < x → q1 < x → ¬ tg2 p1 p2 q1 q2 x y := by
    intro p1 p2 q1 q2 g1 g2 g
    have t := tg_left g1 g2 g.1
    rcases g.2 with q | q
    · have := t.1 q.1; omega
    · have := t.2 q.1; omega
  rcases hx with g | g | g | g
  · have t1 := right (p1 := a1) (p2 := a2) (q1 := c1) (q2 := c2) (by omega) (by omega)
    have t2 := right (p1 := a1) (p2 := a2) (q1 := b1) (q2 := b2) (by omega) (by omega)
    have t3 := right (p1 := b1) (p2 := b2) (q1 := c1) (q2 := c2) (by omega) (by omega)
    simp [t1, t2, t3]
  · rw [left (by omega) (by omega), left (by omega) (by omega), left (by omega) (by omega)]
    by_cases s1 : y < a2 <;> by_cases s2 : y < b2 <;> by_cases s3 : y < c2 <;> simp [s1, s2, s3]
  · have t1 : ¬ tg2 a1 a2 c1 c2 x y := fun q => by have := q.1; omega
    have t2 : ¬ tg2 a1 a2 b1 b2 x y := fun q => by have := q.1; omega
    have t3 : ¬ tg2 b1 b2 c1 c2 x y := fun q => by have := q.1; omega
    simp [t1, t2, t3]
  · have t1 : ¬ tg2 a1 a2 c1 c2 x y := fun q => by have := q.1; omega
    have t2 : ¬ tg2 a1 a2 b1 b2 x y := fun q => by have := q.1; omega
    have t3 : ¬ tg2 b1 b2 c1 c2 x y := fun q => by have := q.1; omega
    simp [t1, t2, t3]
theorem par2_x {A : Nat → Prop} {i : Nat} : par2 A (i + 1) ↔ (par2 A i ↔ ¬ A i) := by
  by_cases h : A i
  · rw [par2_y h]; by_cases g : par2 A i <;> simp [g, h]
  · rw [par2_n h]; simp [h]
/-- the parities, where one edge stands for two -/
theorem par_cut {A B : Nat → Prop} {n k : Nat} (hk : k < n) (hn : 3 ≤ n) (h : ∀ j, j < n - 1 → j ≠ gap n k → (B j ↔ A (phi k j))) (hg : B (gap n k) ↔ (A (prv n k) ↔ ¬ A k)) : par2 A n ↔ par2 B (n - 1) := by
  rw [gap_e hk hn] at h hg
  by_cases h0 : k = 0
  · subst h0
    simp only [if_true] at h hg
    have hp : prv n 0 = n - 1 := by unfold prv; rw [if_neg (by omega)]
    rw [hp] at hg
    have st : ∀ t, t ≤ n - 2 → (par2 A (1 + t) ↔ (A 0 ↔ ¬ par2 B t)) := by
      intro t
      induction t with
      | zero => intro _; show par2 A (0 + 1) ↔ _; rw [par2_x]; show (False ↔ ¬ A 0) ↔ (A 0 ↔ ¬ False); by_cases q : A 0 <;> simp [q]
      | succ t ih =>
        intro ht
        have e := h t (by omega) (by omega)
        rw [show phi 0 t = t + 1 from if_neg (by omega)] at e
        rw [show 1 + (t + 1) = (1 + t) + 1 by omega, par2_x, ih (by omega), par2_x, show 1 + t = t + 1 by omega, e]
        by_cases q : A 0 <;> by_cases q2 : par2 B t <;> by_cases q3 : A (t + 1) <;> simp [q, q2, q3]
    have e1 : par2 A n ↔ (par2 A (1 + (n - 2)) ↔ ¬ A (n - 1)) := by
      have := par2_x (A := A) (i := n - 1)
      rw [show n - 1 + 1 = n by omega] at this
      rw [this, show 1 + (n - 2) = n - 1 by omega]
    have e2 : par2 B (n - 1) ↔ (par2 B (n - 2) ↔ ¬ B (n - 2)) := by
      have := par2_x (A := B) (i := n - 2)
      rw [show n - 2 + 1 = n - 1 by omega] at this; exact this
    rw [e1, st (n - 2) (Nat.le_refl _), e2, hg]
    by_cases q : A 0 <;> by_cases q2 : par2 B (n - 2) <;> by_cases q3 : A (n - 1) <;> simp [q, q2, q3]
  · simp only [h0, if_false] at h hg
    have hp : prv n k = k - 1 := by unfold prv; rw [if_pos (by omega)]
    rw [hp] at hg
    obtain ⟨c, rfl⟩ : ∃ c, k = c + 1 := ⟨k - 1, by omega⟩
    simp only [Nat.add_sub_cancel] at h hg
    have lo : par2 A c ↔ par2 B c := par2_cg c fun j hj => by
      have e := h j (by omega) (by omega)
      rw [show phi (c + 1) j = j from if_pos (by omega)] at e; exact e.symm
    have mid : par2 A (c + 2) ↔ par2 B (c + 1) := by
      rw [show c + 2 = (c + 1) + 1 from rfl, par2_x, par2_x, par2_x (A := B), lo, hg]
      by_cases q : par2 B c <;> by_cases q2 : A c <;> by_cases q3 : A (c + 1) <;> simp [q, q2, q3]
    have st : ∀ t, c + 1 + t ≤ n - 1 → (par2 A (c + 2 + t) ↔ par2 B (c + 1 + t)) := by
      intro t
      induction t with
      | zero => intro _; exact mid
      | succ t ih =>
        intro ht
        have e := h (c + 1 + t) (by omega) (by omega)
        rw [show phi (c + 1) (c + 1 + t) = c + 2 + t from (if_neg (by omega)).trans (by omega)] at e
        rw [show c + 2 + (t + 1) = (c + 2 + t) + 1 by omega, show c + 1 + (t + 1) = (c + 1 + t) + 1 by omega, par2_x, par2_x, ih (by omega), e]
    have := st (n - 1 - (c + 1)) (by omega)
    rw [show c + 2 + (n - 1 - (c + 1)) = n by omega, show c + 1 + (n - 1 - (c + 1)) = n - 1 by omega] at this
    exact this
/-- the triangle's box -/
theorem ap_cut {n k m : Nat} {X Y U V : Nat → Int32} {rg rh : Int32} {l o r h : Int} (hk : k < n) (hr : (¬ rg.toInt = 0 ∧ 4 ≤ n) ∨ (rg.toInt = 0 ∧ 0 < k ∧ k < n - 1)) (hm : 1 ≤ m) (ha : apB l o r h m U V)
    (hp : (l ≤ (X (prv n k)).toInt ∧ (X (prv n k)).toInt ≤ r) ∧ (o ≤ (Y (prv n k)).toInt ∧ (Y (prv n k)).toInt ≤ h)) (hc : (l ≤ (X k).toInt ∧ (X k).toInt ≤ r) ∧ (o ≤ (Y k).toInt ∧ (Y k).toInt ≤ h)) (hx : (l ≤ (X (nxt n k)).toInt ∧ (X (nxt n k)).toInt ≤ r) ∧ (o ≤ (Y (nxt n k)).toInt ∧ (Y (nxt n k)).toInt ≤ h)) :
    asb n X Y rg (n - 1) (ctF X k) (ctF Y k) rg m U V rh ∧ ¬ ∃ j, j < m ∧ swC n X Y k (U j).toInt (V j).toInt := by
  have hn : 3 ≤ n := by omega
  have hpv := prv_lt (n := n) (i := k) hk
  have hgl : gap n k < n - 1 := by rw [gap_e hk hn]; split <;> omega
  have pg := phi_gap hk hn
  -- an edge of two corners in the box meets nobody apart from it
  have nomt : ∀ {a1 a2 b1 b2 : Int}, ((l ≤ a1 ∧ a1 ≤ r) ∧ (o ≤ a2 ∧ a2 ≤ h)) → ((l ≤ b1 ∧ b1 ≤ r) ∧ (o ≤ b2 ∧ b2 ≤ h)) → ∀ q, q < m → ¬ mtC a1 a2 b1 b2 (U q).toInt (V q).toInt (U (nxt m q)).toInt (V (nxt m q)).toInt := by
    intro a1 a2 b1 b2 g1 g2 q hq g
    have hx := nxt_lt (n := m) (i := q) (by omega)
    have m1 := mnI_le (z := (U 0).toInt) (X := U) hq; have m2 := le_mxI (z := (U 0).toInt) (X := U) hq; have m3 := mnI_le (z := (V 0).toInt) (X := V) hq; have m4 := le_mxI (z := (V 0).toInt) (X := V) hq
    have p1 := mnI_le (z := (U 0).toInt) (X := U) hx; have p2 := le_mxI (z := (U 0).toInt) (X := U) hx; have p3 := mnI_le (z := (V 0).toInt) (X := V) hx; have p4 := le_mxI (z := (V 0).toInt) (X := V) hx
    have q1 := g.1; have q2 := g.2.1
    unfold apB at ha
    omega
  have nxp : nxt n (prv n k) = k := by unfold nxt prv; (repeat' split) <;> omega
  have e1 : ∀ q, q < m → ¬ eMt n X Y k m U V q := fun q hq => nomt hc hx q hq
  have e2 : ∀ q, q < m → ¬ eMt n X Y (prv n k) m U V q := fun q hq => by unfold eMt; rw [nxp]; exact nomt hp hc q hq
  have e3 : ∀ q, q < m → ¬ eMt (n - 1) (ctF X k) (ctF Y k) (gap n k) m U V q := fun q hq => by unfold eMt; rw [ct_phi, ct_phi, ct_phi, ct_phi, pg.1, pg.2]; exact nomt hp hx q hq
  have pm2 := prt_le m rh
  have po : prt n rg = if rg.toInt = 0 then n - 1 else n := by unfold prt edg; rw [if_neg (by omega), if_neg (by omega)]
  have pd : prt (n - 1) rg = if rg.toInt = 0 then n - 2 else n - 1 := by
    unfold prt edg
    by_cases q : n - 1 = 1
    · omega
    · rw [if_neg q, if_neg (by omega)]; split <;> omega
  refine ⟨⟨⟨?_, ?_⟩, fun hrd q hq => ?_, fun _ => ?_⟩, ?_⟩
  · rintro ⟨i, hi, q, hq, g⟩
    have hi2 : i < n := by rw [po] at hi; split at hi <;> omega
    have i1 : i ≠ k := fun e => e1 q (by omega) (by rw [← e]; exact g)
    have i2 : i ≠ prv n k := fun e => e2 q (by omega) (by rw [← e]; exact g)
    obtain ⟨j, hj, hjg, ej⟩ := phi_ex hk hn hi2 i1 i2
    refine ⟨j, ?_, q, hq, by rw [ct_mt hk hn hj hjg, ej]; exact g⟩
    rw [pd]; rw [po] at hi
    by_cases z : rg.toInt = 0
    · rw [if_pos z] at hi ⊢
      have : ¬ j = n - 2 := fun e => by
        have : phi k j = n - 1 := by unfold phi; rw [if_neg (by omega)]; omega
        omega
      omega
    · rw [if_neg z]; exact hj
  · rintro ⟨j, hj, q, hq, g⟩
    have hj2 : j < n - 1 := by rw [pd] at hj; split at hj <;> omega
    have jg : j ≠ gap n k := fun e => e3 q (by omega) (by rw [← e]; exact g)
    have pn := phi_nx hk hn hj2 jg
    refine ⟨phi k j, ?_, q, hq, by rw [← ct_mt hk hn hj2 jg]; exact g⟩
    rw [po]; rw [pd] at hj
    by_cases z : rg.toInt = 0
    · rw [if_pos z] at hj ⊢; unfold phi; split <;> omega
    · rw [if_neg z]; exact pn.2.1
  · have out := ap_out ha hq
    have eo : ∀ z, eO 5 z = z := fun z => by unfold eO; rw [if_neg (by decide), if_pos (by decide)]
    unfold inF
    rw [eo, eo]
    have noon : ∀ {a1 a2 b1 b2 : Int}, ((l ≤ a1 ∧ a1 ≤ r) ∧ (o ≤ a2 ∧ a2 ≤ h)) → ((l ≤ b1 ∧ b1 ≤ r) ∧ (o ≤ b2 ∧ b2 ≤ h)) → ¬ onS a1 a2 b1 b2 (U q).toInt (V q).toInt := by
      intro a1 a2 b1 b2 g1 g2 g
      obtain ⟨_, z1, z2, z3, z4⟩ := g
      omega
    refine and_congr (not_congr ⟨?_, ?_⟩) ?_
    · rintro ⟨i, hi, g⟩
      have i1 : i ≠ k := fun e => noon hc hx (by rw [e] at g; exact g)
      have i2 : i ≠ prv n k := fun e => noon hp hc (by rw [e] at g; unfold eOn at g; rw [nxp] at g; exact g)
      obtain ⟨j, hj, hjg, ej⟩ := phi_ex hk hn hi i1 i2
      exact ⟨j, hj, by rw [ct_on hk hn hj hjg, ej]; exact g⟩
    · rintro ⟨j, hj, g⟩
      have jg : j ≠ gap n k := fun e => noon hp hx (by rw [e] at g; unfold eOn at g; rw [ct_phi, ct_phi, ct_phi, ct_phi, pg.1, pg.2] at g; exact g)
      exact ⟨phi k j, (phi_nx hk hn hj jg).2.1, by rw [← ct_on hk hn hj jg]; exact g⟩
    · refine par_cut hk hn (fun j hj hjg => by rw [ct_tg hk hn hj hjg]) ?_
      have t := tg_box (a1 := (X (prv n k)).toInt) (a2 := (Y (prv n k)).toInt) (b1 := (X k).toInt) (b2 := (Y k).toInt) (c1 := (X (nxt n k)).toInt) (c2 := (Y (nxt n k)).toInt) hp hc hx out
      have g1 : eTg (n - 1) (ctF X k) (ctF Y k) (U q).toInt (V q).toInt (gap n k) ↔ tg2 (X (prv n k)).toInt (Y (prv n k)).toInt (X (nxt n k)).toInt (Y (nxt n k)).toInt (U q).toInt (V q).toInt := by
        unfold eTg eCr tg2; rw [ct_phi, ct_phi, ct_phi, ct_phi, pg.1, pg.2]
      have g2 : eTg n X Y (U q).toInt (V q).toInt (prv n k) ↔ tg2 (X (prv n k)).toInt (Y (prv n k)).toInt (X k).toInt (Y k).toInt (U q).toInt (V q).toInt := by
        unfold eTg eCr tg2; rw [nxp]
      have g3 : eTg n X Y (U q).toInt (V q).toInt k ↔ tg2 (X k).toInt (Y k).toInt (X (nxt n k)).toInt (Y (nxt n k)).toInt (U q).toInt (V q).toInt := Iff.rfl
      rw [g1, g2, g3]; exact t
  · by_cases h0 : k = 0
    · subst h0
      have z : ctF X 0 0 = X (nxt n 0) ∧ ctF Y 0 0 = Y (nxt n 0) := by
        have : nxt n 0 = 1 := by unfold nxt; rw [if_pos (by omega)]
        rw [this]; exact ⟨rfl, rfl⟩
      rw [z.1, z.2]
      have ni : ∀ {x y : Int}, ((l ≤ x ∧ x ≤ r) ∧ (o ≤ y ∧ y ≤ h)) → ¬ inF 5 m U V x y := by
        intro x y g
        rw [← whr_in, whr_out hm (by
          unfold apB at ha
          rcases ha with q | q | q | q
          · exact Or.inr (Or.inl fun j hj => by have := mnI_le (z := (U 0).toInt) (X := U) hj; omega)
          · exact Or.inl fun j hj => by have := le_mxI (z := (U 0).toInt) (X := U) hj; omega
          · exact Or.inr (Or.inr (Or.inr fun j hj => by have := mnI_le (z := (V 0).toInt) (X := V) hj; omega))
          · exact Or.inr (Or.inr (Or.inl fun j hj => by have := le_mxI (z := (V 0).toInt) (X := V) hj; omega)))]
        decide
      exact ⟨fun g => absurd g (ni hc), fun g => absurd g (ni hx)⟩
    · have z : ctF X k 0 = X 0 ∧ ctF Y k 0 = Y 0 := ⟨if_pos (by omega), if_pos (by omega)⟩
      rw [z.1, z.2]
  · rintro ⟨j, hj, g⟩
    exact box_wt hp hc hx (ap_out ha hj) g.2.2
end
