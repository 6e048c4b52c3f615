/-! the class's law: what it asks of two rows and a draft -/
theorem whr_in {n : Nat} {X Y : Nat → Int32} {x y : Int} : (whr n X Y x y).toInt = 1 ↔ inF 5 n X Y x y := by
  have e : eO 5 n = n := by unfold eO; rw [if_neg (by decide), if_pos (by decide)]
  unfold inF; rw [e]
  by_cases h : ∃ i, i < n ∧ eOn n X Y i x y
  · rw [whr_2 h]; exact ⟨fun q => absurd q (by decide), fun q => absurd h q.1⟩
  · rw [whr_n h]
    by_cases q : par2 (eTg n X Y x y) n
    · rw [zp_t q]; exact ⟨fun _ => ⟨h, q⟩, fun _ => by decide⟩
    · rw [zp_f q]; exact ⟨fun g => absurd g (by decide), fun g => absurd g.2 q⟩
abbrev tch (n : Nat) (X Y : Nat → Int32) (rg : Int32) (m : Nat) (U V : Nat → Int32) (rh : Int32) : Prop := ∃ i, i < prt n rg ∧ ∃ j, j < prt m rh ∧ eMt n X Y i m U V j
def tr3 (a b c : Int32) : Nat → Int32 := fun i => if i = 0 then a else if i = 1 then b else c
/-- the class's triangle has a place -/
def wtR (a1 a2 b1 b2 c1 c2 : Int32) (x y : Int) : Prop := ¬ (whr 3 (tr3 a1 b1 c1) (tr3 a2 b2 c2) x y).toInt = 0
theorem wtR_e {a1 a2 b1 b2 c1 c2 : Int32} {T S : Nat → Int32} {x y : Int} : ¬ (whr 3 (upd (upd (upd T 0 a1) 1 b1) 2 c1) (upd (upd (upd S 0 a2) 1 b2) 2 c2) x y).toInt = 0 ↔ wtR a1 a2 b1 b2 c1 c2 x y := by
  unfold wtR
  rw [whr_cg (P := tr3 a1 b1 c1) (Q := tr3 a2 b2 c2) (fun j hj => by
    rcases (show j = 0 ∨ j = 1 ∨ j = 2 by omega) with rfl | rfl | rfl <;> exact ⟨rfl, rfl⟩)]
theorem tr3_pl {a1 a2 b1 b2 c1 c2 : Int32} {T S : Nat → Int32} (h1 : pl a1) (h2 : pl a2) (h3 : pl b1) (h4 : pl b2) (h5 : pl c1) (h6 : pl c2) : pls 3 (upd (upd (upd T 0 a1) 1 b1) 2 c1) (upd (upd (upd S 0 a2) 1 b2) 2 c2) := by
  intro j hj
  rcases (show j = 0 ∨ j = 1 ∨ j = 2 by omega) with rfl | rfl | rfl
  · exact ⟨h1, h2⟩
  · exact ⟨h3, h4⟩
  · exact ⟨h5, h6⟩
/-- a place lies straight ahead on a way -/
def ldT (x0 y0 x1 y1 px py : Int) : Prop := cr x0 y0 x1 y1 px py = 0 ∧ 0 < nrT x0 y0 x1 y1 px py
/-- the class's free way -/
def wyF2 (x0 y0 x1 y1 : Int) (m : Nat) (U V : Nat → Int32) (k : Nat) : Prop := mtC x0 y0 x1 y1 (U k).toInt (V k).toInt (U (nxt m k)).toInt (V (nxt m k)).toInt → onS (U k).toInt (V k).toInt (U (nxt m k)).toInt (V (nxt m k)).toInt x0 y0 ∧ ¬ ldT x0 y0 x1 y1 (U k).toInt (V k).toInt ∧ ¬ ldT x0 y0 x1 y1 (U (nxt m k)).toInt (V (nxt m k)).toInt
theorem wy_pl {a1 a2 b1 b2 : Int32} {T S : Nat → Int32} (h1 : pl a1) (h2 : pl a2) (h3 : pl b1) (h4 : pl b2) : pls 2 (upd (upd T 0 a1) 1 b1) (upd (upd S 0 a2) 1 b2) := by
  intro j hj
  rcases (show j = 0 ∨ j = 1 by omega) with rfl | rfl
  · exact ⟨h1, h2⟩
  · exact ⟨h3, h4⟩
/-- what a moving edge sweeps, by the class -/
def swR (on : Nat) (X Y P Q : Nat → Int32) (x y : Int) (k : Nat) : Prop := ¬ spr on X Y P Q k x y ∧ (wtR (X k) (Y k) (X (nxt on k)) (Y (nxt on k)) (P (nxt on k)) (Q (nxt on k)) x y ∨ wtR (X k) (Y k) (P k) (Q k) (P (nxt on k)) (Q (nxt on k)) x y)
/-- what a corner that goes sweeps, by the class -/
def swC (on : Nat) (X Y : Nat → Int32) (b : Nat) (x y : Int) : Prop := ¬ ((X (prv on b)).toInt = x ∧ (Y (prv on b)).toInt = y) ∧ ¬ ((X (nxt on b)).toInt = x ∧ (Y (nxt on b)).toInt = y) ∧ wtR (X (prv on b)) (Y (prv on b)) (X b) (Y b) (X (nxt on b)) (Y (nxt on b)) x y
/-- as before, by the class: all but what is swept -/
def asb (n : Nat) (X Y : Nat → Int32) (rg : Int32) (nd : Nat) (P Q : Nat → Int32) (rd : Int32) (m : Nat) (U V : Nat → Int32) (rh : Int32) : Prop :=
  (tch n X Y rg m U V rh ↔ tch nd P Q rd m U V rh) ∧ (¬ rd.toInt = 0 → ∀ k, k < m → (inF 5 n X Y (U k).toInt (V k).toInt ↔ inF 5 nd P Q (U k).toInt (V k).toInt)) ∧ (¬ rh.toInt = 0 → (inF 5 m U V (X 0).toInt (Y 0).toInt ↔ inF 5 m U V (P 0).toInt (Q 0).toInt))
section SP
variable {n m i : Nat} {X Y P Q U V : Nat → Int32} {A B : Nat → Prop}
theorem sp_rn (h1 : (P i).toInt = (X i).toInt ∧ (Q i).toInt = (Y i).toInt) (h2 : ¬ ((P (nxt n i)).toInt = (X (nxt n i)).toInt ∧ (Q (nxt n i)).toInt = (Y (nxt n i)).toInt)) (h : ∀ k, A k ↔ B k) : (∃ k, k < m ∧ ¬ ((X i).toInt = (U k).toInt ∧ (Y i).toInt = (V k).toInt) ∧ A k) ↔ ∃ k, k < m ∧ ¬ spr n X Y P Q i (U k).toInt (V k).toInt ∧ B k := by
  refine exists_congr fun k => and_congr_right fun _ => and_congr ?_ (h k)
  unfold spr stay; omega
theorem sp_nr (h1 : ¬ ((P i).toInt = (X i).toInt ∧ (Q i).toInt = (Y i).toInt)) (h2 : (P (nxt n i)).toInt = (X (nxt n i)).toInt ∧ (Q (nxt n i)).toInt = (Y (nxt n i)).toInt) (h : ∀ k, A k ↔ B k) : (∃ k, k < m ∧ ¬ ((X (nxt n i)).toInt = (U k).toInt ∧ (Y (nxt n i)).toInt = (V k).toInt) ∧ A k) ↔ ∃ k, k < m ∧ ¬ spr n X Y P Q i (U k).toInt (V k).toInt ∧ B k := by
  refine exists_congr fun k => and_congr_right fun _ => and_congr ?_ (h k)
  unfold spr stay; omega
theorem sp_nn (h1 : ¬ ((P i).toInt = (X i).toInt ∧ (Q i).toInt = (Y i).toInt)) (h2 : ¬ ((P (nxt n i)).toInt = (X (nxt n i)).toInt ∧ (Q (nxt n i)).toInt = (Y (nxt n i)).toInt)) (h : ∀ k, A k ↔ B k) : (∃ k, k < m ∧ A k) ↔ ∃ k, k < m ∧ ¬ spr n X Y P Q i (U k).toInt (V k).toInt ∧ B k := by
  refine exists_congr fun k => and_congr_right fun _ => ?_
  have g : ¬ spr n X Y P Q i (U k).toInt (V k).toInt := by unfold spr stay; omega
  exact (h k).trans ⟨fun q => ⟨g, q⟩, fun q => q.2⟩
end SP
theorem pls_nr {n : Nat} {X Y : Nat → Int32} (h : pls n X Y) : (∀ k, k < n → nr (X k).toInt) ∧ ∀ k, k < n → nr (Y k).toInt := by
  refine ⟨fun k hk => ?_, fun k hk => ?_⟩ <;> · have := h k hk; unfold pl at this; unfold nr; omega
