/-! DISTANCE: the least of all distances of ends from edges -/
def dcS (n : Nat) (X Y : Nat → Int32) (m : Nat) (U V : Nat → Int32) (i k : Nat) (zu zd : Int) : Prop :=
  (zu = nrU (X i).toInt (Y i).toInt (X (nxt n i)).toInt (Y (nxt n i)).toInt (U k).toInt (V k).toInt ∧ zd = nrD (X i).toInt (Y i).toInt (X (nxt n i)).toInt (Y (nxt n i)).toInt (U k).toInt (V k).toInt) ∨
  (zu = nrU (X i).toInt (Y i).toInt (X (nxt n i)).toInt (Y (nxt n i)).toInt (U (nxt m k)).toInt (V (nxt m k)).toInt ∧ zd = nrD (X i).toInt (Y i).toInt (X (nxt n i)).toInt (Y (nxt n i)).toInt (U (nxt m k)).toInt (V (nxt m k)).toInt) ∨
  (zu = nrU (U k).toInt (V k).toInt (U (nxt m k)).toInt (V (nxt m k)).toInt (X i).toInt (Y i).toInt ∧ zd = nrD (U k).toInt (V k).toInt (U (nxt m k)).toInt (V (nxt m k)).toInt (X i).toInt (Y i).toInt) ∨
  (zu = nrU (U k).toInt (V k).toInt (U (nxt m k)).toInt (V (nxt m k)).toInt (X (nxt n i)).toInt (Y (nxt n i)).toInt ∧ zd = nrD (U k).toInt (V k).toInt (U (nxt m k)).toInt (V (nxt m k)).toInt (X (nxt n i)).toInt (Y (nxt n i)).toInt)
/-- a fraction is the least of a set of them, or there is none yet -/
def IM (P : Int → Int → Prop) (u d : Int) : Prop := (d = 0 ∧ u = 0 ∧ ∀ U D, ¬ P U D) ∨ (1 ≤ d ∧ P u d ∧ ∀ U D, P U D → u * D ≤ U * d)
theorem IM_cg {P Q : Int → Int → Prop} {u d : Int} (h : ∀ U D, P U D ↔ Q U D) (hI : IM P u d) : IM Q u d := by
  rcases hI with ⟨h1, h2, h3⟩ | ⟨h1, h2, h3⟩
  · exact Or.inl ⟨h1, h2, fun U D q => h3 U D ((h U D).mpr q)⟩
  · exact Or.inr ⟨h1, (h u d).mp h2, fun U D q => h3 U D ((h U D).mpr q)⟩
theorem fr_tr {u d U D V E : Int} (hd : 1 ≤ d) (hD : 1 ≤ D) (hE : 1 ≤ E) (h1 : U * d < u * D) (h2 : u * E ≤ V * d) : U * E ≤ V * D := by
  have a : U * d * E ≤ u * D * E := Int.mul_le_mul_of_nonneg_right (Int.le_of_lt h1) (by omega)
  have b : u * E * D ≤ V * d * D := Int.mul_le_mul_of_nonneg_right h2 (by omega)
  have c : U * E * d ≤ V * D * d := by
    have e1 : U * E * d = U * d * E := by rw [Int.mul_assoc, Int.mul_comm E d, ← Int.mul_assoc]
    have e2 : u * D * E = u * E * D := by rw [Int.mul_assoc, Int.mul_comm D E, ← Int.mul_assoc]
    have e3 : V * d * D = V * D * d := by rw [Int.mul_assoc, Int.mul_comm d D, ← Int.mul_assoc]
    omega
  exact Int.le_of_mul_le_mul_right c (by omega)
theorem IM_s {P : Int → Int → Prop} {u d U D zu zd : Int} (hI : IM P u d) (hP : ∀ A B, P A B → 1 ≤ B) (hD : 1 ≤ D) (hn : ndP u d U D zu zd) : IM (fun A B => P A B ∨ (A = U ∧ B = D)) zu zd := by
  rcases hn with ⟨h1, rfl, rfl⟩ | ⟨h1, rfl, rfl⟩
  · refine Or.inr ⟨hD, Or.inr ⟨rfl, rfl⟩, fun A B hAB => ?_⟩
    rcases hAB with hAB | ⟨rfl, rfl⟩
    · rcases hI with ⟨_, _, h3⟩ | ⟨g1, g2, g3⟩
      · exact absurd hAB (h3 A B)
      · rcases h1 with h1 | h1
        · omega
        · exact fr_tr g1 hD (hP A B hAB) h1 (g3 A B hAB)
    · exact Int.le_refl _
  · rcases hI with ⟨g1, _⟩ | ⟨g1, g2, g3⟩
    · exact absurd (Or.inl g1) h1
    · refine Or.inr ⟨g1, Or.inl g2, fun A B hAB => ?_⟩
      rcases hAB with hAB | ⟨rfl, rfl⟩
      · exact g3 A B hAB
      · exact Int.not_lt.mp (fun q => h1 (Or.inr q))
theorem IM_p {P : Int → Int → Prop} {U D : Int} (hP : ∀ A B, P A B → 1 ≤ B) (hD : 1 ≤ D) : ∀ A B, (P A B ∨ (A = U ∧ B = D)) → 1 ≤ B := fun A B g => g.elim (hP A B) (fun g => by rw [g.2]; exact hD)
theorem ndP_b {u d U D zu zd : Int} (h1 : 0 ≤ u ∧ u ≤ 4000000000000) (h2 : 0 ≤ d ∧ d ≤ 2000000) (hU : (0 ≤ U ∧ U ≤ 4000000000000) ∧ (1 ≤ D ∧ D ≤ 2000000)) (h : ndP u d U D zu zd) : (0 ≤ zu ∧ zu ≤ 4000000000000) ∧ (0 ≤ zd ∧ zd ≤ 2000000) := by
  rcases h with ⟨_, rfl, rfl⟩ | ⟨_, rfl, rfl⟩
  · exact ⟨hU.1, by omega, hU.2.2⟩
  · exact ⟨h1, h2⟩
theorem dcS_b {n : Nat} {X Y : Nat → Int32} {m : Nat} {U V : Nat → Int32} {i k : Nat} (hp : pls n X Y) (hq : pls m U V) (hi : i < n) (hk : k < m) {A B : Int} (h : dcS n X Y m U V i k A B) : 1 ≤ B := by
  have hi2 := nxt_lt (n := n) (i := i) (by omega); have hk2 := nxt_lt (n := m) (i := k) (by omega)
  rcases h with ⟨_, rfl⟩ | ⟨_, rfl⟩ | ⟨_, rfl⟩ | ⟨_, rfl⟩
  · exact (nrU_b (hp i hi).1 (hp i hi).2 (hp _ hi2).1 (hp _ hi2).2 (hq k hk).1 (hq k hk).2).2.1
  · exact (nrU_b (hp i hi).1 (hp i hi).2 (hp _ hi2).1 (hp _ hi2).2 (hq _ hk2).1 (hq _ hk2).2).2.1
  · exact (nrU_b (hq k hk).1 (hq k hk).2 (hq _ hk2).1 (hq _ hk2).2 (hp i hi).1 (hp i hi).2).2.1
  · exact (nrU_b (hq k hk).1 (hq k hk).2 (hq _ hk2).1 (hq _ hk2).2 (hp _ hi2).1 (hp _ hi2).2).2.1
/-- the candidates of the first pairs of edges -/
def dcP (n : Nat) (X Y : Nat → Int32) (m : Nat) (U V : Nat → Int32) (e i k : Nat) (A B : Int) : Prop := ∃ i1 k1, ((i1 < i ∧ k1 < e) ∨ (i1 = i ∧ k1 < k)) ∧ dcS n X Y m U V i1 k1 A B
theorem dcP_0 (n : Nat) (X Y : Nat → Int32) (m : Nat) (U V : Nat → Int32) (e : Nat) : IM (dcP n X Y m U V e 0 0) 0 0 := Or.inl ⟨rfl, rfl, fun A B ⟨i1, k1, h, _⟩ => by omega⟩
theorem dcP_n {n : Nat} {X Y : Nat → Int32} {m : Nat} {U V : Nat → Int32} {e i : Nat} {u d : Int} (h : IM (dcP n X Y m U V e i e) u d) : IM (dcP n X Y m U V e (i + 1) 0) u d :=
  IM_cg (fun A B => ⟨fun ⟨i1, k1, h, h2⟩ => ⟨i1, k1, by omega, h2⟩, fun ⟨i1, k1, h, h2⟩ => ⟨i1, k1, by omega, h2⟩⟩) h
theorem dcP_s {n : Nat} {X Y : Nat → Int32} {m : Nat} {U V : Nat → Int32} {e i k : Nat} {u d u1 d1 u2 d2 u3 d3 u4 d4 : Int} (hp : pls n X Y) (hq : pls m U V) (hi : i < n) (hk : k < m) (hen : e ≤ m) (h : IM (dcP n X Y m U V e i k) u d)
    (h1 : ndP u d (nrU (X i).toInt (Y i).toInt (X (nxt n i)).toInt (Y (nxt n i)).toInt (U k).toInt (V k).toInt) (nrD (X i).toInt (Y i).toInt (X (nxt n i)).toInt (Y (nxt n i)).toInt (U k).toInt (V k).toInt) u1 d1)
    (h2 : ndP u1 d1 (nrU (X i).toInt (Y i).toInt (X (nxt n i)).toInt (Y (nxt n i)).toInt (U (nxt m k)).toInt (V (nxt m k)).toInt) (nrD (X i).toInt (Y i).toInt (X (nxt n i)).toInt (Y (nxt n i)).toInt (U (nxt m k)).toInt (V (nxt m k)).toInt) u2 d2)
    (h3 : ndP u2 d2 (nrU (U k).toInt (V k).toInt (U (nxt m k)).toInt (V (nxt m k)).toInt (X i).toInt (Y i).toInt) (nrD (U k).toInt (V k).toInt (U (nxt m k)).toInt (V (nxt m k)).toInt (X i).toInt (Y i).toInt) u3 d3)
    (h4 : ndP u3 d3 (nrU (U k).toInt (V k).toInt (U (nxt m k)).toInt (V (nxt m k)).toInt (X (nxt n i)).toInt (Y (nxt n i)).toInt) (nrD (U k).toInt (V k).toInt (U (nxt m k)).toInt (V (nxt m k)).toInt (X (nxt n i)).toInt (Y (nxt n i)).toInt) u4 d4) : IM (dcP n X Y m U V e i (k + 1)) u4 d4 := by
  have hi2 := nxt_lt (n := n) (i := i) (by omega); have hk2 := nxt_lt (n := m) (i := k) (by omega)
  have b1 := (nrU_b (hp i hi).1 (hp i hi).2 (hp _ hi2).1 (hp _ hi2).2 (hq k hk).1 (hq k hk).2).2.1
  have b2 := (nrU_b (hp i hi).1 (hp i hi).2 (hp _ hi2).1 (hp _ hi2).2 (hq _ hk2).1 (hq _ hk2).2).2.1
  have b3 := (nrU_b (hq k hk).1 (hq k hk).2 (hq _ hk2).1 (hq _ hk2).2 (hp i hi).1 (hp i hi).2).2.1
  have b4 := (nrU_b (hq k hk).1 (hq k hk).2 (hq _ hk2).1 (hq _ hk2).2 (hp _ hi2).1 (hp _ hi2).2).2.1
  have p0 : ∀ A B, dcP n X Y m U V e i k A B → 1 ≤ B := fun A B ⟨i1, k1, g, g2⟩ => dcS_b hp hq (by omega) (by omega) g2
  have s1 := IM_s h p0 b1 h1
  have s2 := IM_s s1 (IM_p p0 b1) b2 h2
  have s3 := IM_s s2 (IM_p (IM_p p0 b1) b2) b3 h3
  have s4 := IM_s s3 (IM_p (IM_p (IM_p p0 b1) b2) b3) b4 h4
  refine IM_cg (fun A B => ⟨fun g => ?_, fun g => ?_⟩) s4
  · rcases g with (((g | g) | g) | g) | g
    · obtain ⟨i1, k1, g1, g2⟩ := g; exact ⟨i1, k1, by omega, g2⟩
    · exact ⟨i, k, by omega, Or.inl g⟩
    · exact ⟨i, k, by omega, Or.inr (Or.inl g)⟩
    · exact ⟨i, k, by omega, Or.inr (Or.inr (Or.inl g))⟩
    · exact ⟨i, k, by omega, Or.inr (Or.inr (Or.inr g))⟩
  · obtain ⟨i1, k1, g1, g2⟩ := g
    by_cases q : i1 = i ∧ k1 = k
    · obtain ⟨rfl, rfl⟩ := q
      rcases g2 with g2 | g2 | g2 | g2
      · exact Or.inl (Or.inl (Or.inl (Or.inr g2)))
      · exact Or.inl (Or.inl (Or.inr g2))
      · exact Or.inl (Or.inr g2)
      · exact Or.inr g2
    · exact Or.inl (Or.inl (Or.inl (Or.inl ⟨i1, k1, by omega, g2⟩)))
theorem dcP_e {n : Nat} {X Y : Nat → Int32} {m : Nat} {U V : Nat → Int32} {e i : Nat} {u d : Int} (h : IM (dcP n X Y m U V e i 0) u d) (hi : 1 ≤ i) (he : 1 ≤ e) : 1 ≤ d := by
  rcases h with ⟨_, _, h3⟩ | ⟨h1, _⟩
  · exact absurd ⟨0, 0, by omega, Or.inl ⟨rfl, rfl⟩⟩ (h3 _ _)
  · exact h1
theorem jI_0 : (0 : Int64) = jI 0 := jI_of (by decide)
