/-! an answer of two values; a switch's reach -/
section ZD
variable {p : Program} {l : Launch} {e : Env} {R : Room} {s : State} {m : MethodId} {args : Array Value} {below : List Frame} {meth : Method} {c : Code} {H : Heap} {locs : List Loc} {cells slots : Nat} {Q : State → Prop}
variable {pc : Nat} {ls : Array Slot} {rest : List Value}
theorem zz_i2 {x v1 v2 : Int32} {P1 P2 : Prop} (h : (x = v1 ∧ P1) ∨ (x = v2 ∧ P2)) (k1 : P1 → W p l e R s m args below meth c H locs cells slots Q (F0 m pc ls (.int v1 :: rest))) (k2 : P2 → W p l e R s m args below meth c H locs cells slots Q (F0 m pc ls (.int v2 :: rest))) : W p l e R s m args below meth c H locs cells slots Q (F0 m pc ls (.int x :: rest)) := by
  rcases h with ⟨h, h1⟩ | ⟨h, h1⟩
  · rw [h]; exact k1 h1
  · rw [h]; exact k2 h1
end ZD
theorem zz_sw {lo hi : Int} {x : Int32} {z : Int} (hx : x.toInt = z) : ((x.toInt < lo ∨ hi < x.toInt) ∧ (z < lo ∨ hi < z)) ∨ ((lo ≤ z ∧ z ≤ hi) ∧ ¬ x.toInt < lo ∧ ¬ hi < x.toInt) := by rw [hx]; omega
/-- what is left of a row when a corner goes -/
def shp (f k i : Nat) (c : Nat → Int32) : Nat → Int32 := fun j => if 40 * f + k ≤ j ∧ j < 40 * f + i then c (j + 1) else c j
theorem shp_0 (f k : Nat) (c : Nat → Int32) : c = shp f k k c := by
  funext j; unfold shp; rw [if_neg (by omega)]
theorem shp_s {f k i : Nat} {c c1 : Nat → Int32} {x : Int32} (h : k ≤ i) (h1 : c1 = shp f k i c) (hx : x = c (40 * f + (i + 1))) : upd c1 (40 * f + i) x = shp f k (i + 1) c := by
  subst h1 hx
  funext j; unfold upd shp
  by_cases q : j = 40 * f + i
  · subst q; rw [if_pos rfl, if_pos (by omega)]; rfl
  · rw [if_neg q]
    by_cases q2 : 40 * f + k ≤ j ∧ j < 40 * f + i
    · rw [if_pos q2, if_pos (by omega)]
    · rw [if_neg q2, if_neg (by omega)]
theorem shp_o {f k i j : Nat} {c : Nat → Int32} (h : i ≤ 40) (hj : j < 40 * f ∨ 40 * f + 40 ≤ j) : shp f k i c j = c j := by unfold shp; rw [if_neg (by omega)]
theorem mSm_pos {kd : Int} {n : Nat} {X Y : Nat → Int32} (h : mSm kd n X Y) : 1 ≤ n := by
  unfold mSm at h
  by_cases q : kd = 0
  · have := h.1 q; omega
  · have := (h.2 q).1; unfold mnc at this; split at this <;> omega
theorem wfM_o {mn mn1 cx cx1 cy cy1 : Nat → Int32} {f q : Nat} (h : wfM mn cx cy q) (hq : q ≠ f) (hm : ∀ j, j ≠ f → mn1 j = mn j) (hx : ∀ j, (j < 40 * f ∨ 40 * f + 40 ≤ j) → cx1 j = cx j ∧ cy1 j = cy j) : wfM mn1 cx1 cy1 q := by
  unfold wfM at *
  rw [hm q hq]
  refine ⟨h.1, h.2.1, fun k hk => ?_⟩
  have h2 := hx (40 * q + k) (by omega)
  show pl (cx1 (40 * q + k)) ∧ pl (cy1 (40 * q + k))
  rw [h2.1, h2.2]; exact h.2.2 k hk
/-- features that are there, and not torn -/
abbrev lvF (ft : Nat) (st tn : Nat → Int32) (q : Nat) : Prop := q < ft ∧ (st q).toInt = 1 ∧ (tn q).toInt = 0
/-- what two features had in common before a change -/
abbrev bMt (kd mn cx cy : Nat → Int32) (f n q : Nat) : Prop := mtF (kd f).toInt n (cF40 cx f) (cF40 cy f) (kd q).toInt (nN (mn q)) (cF40 cx q) (cF40 cy q)
abbrev bWi (kd mn cx cy : Nat → Int32) (f q : Nat) : Prop := inF (kd q).toInt (nN (mn q)) (cF40 cx q) (cF40 cy q) (cF40 cx f 0).toInt (cF40 cy f 0).toInt
abbrev bIn (kd cx cy : Nat → Int32) (f n q k : Nat) : Prop := inF (kd f).toInt n (cF40 cx f) (cF40 cy f) (cF40 cx q k).toInt (cF40 cy q k).toInt
/-- a corner may go, but for the law -/
def mGo (ft : Nat) (st tn kd mn cx cy : Nat → Int32) (f n k : Nat) : Prop := ((5 ≤ (kd f).toInt ∧ ¬ n = 3) ∨ (¬ 5 ≤ (kd f).toInt ∧ ¬ k = 0 ∧ ¬ k = n - 1)) ∧ ¬ ∃ q, lvF ft st tn q ∧ q ≠ f ∧ onF kd mn cx cy q (cF40 cx f k).toInt (cF40 cy f k).toInt
/-- the change of a row is lawful: X Y with on corners it was, the arrays say what it is -/
def lwA (ft : Nat) (st tn kd mn cx cy : Nat → Int32) (f n : Nat) (x0 y0 : Int32) (MT WI : Nat → Prop) (IN SW : Nat → Nat → Prop) : Prop :=
  pls n (cF40 cx f) (cF40 cy f) ∧ mSm (kd f).toInt n (cF40 cx f) (cF40 cy f) ∧ ∀ q, lvF ft st tn q → q ≠ f → lawTo x0 y0 (kd f).toInt n (cF40 cx f) (cF40 cy f) (kd q).toInt (nN (mn q)) (cF40 cx q) (cF40 cy q) (MT q) (WI q) (IN q) (SW q)
abbrev sWp (on : Nat) (ox oy cx cy : Nat → Int32) (b q k : Nat) : Prop := swB on ox oy b (cF40 cx q k).toInt (cF40 cy q k).toInt
abbrev sWm (kf : Int) (on : Nat) (ox oy cx cy : Nat → Int32) (f q k : Nat) : Prop := ∃ e, e < eO kf on ∧ swp on ox oy (cF40 cx f) (cF40 cy f) (cF40 cx q k).toInt (cF40 cy q k).toInt e
abbrev sW0 (_ _ : Nat) : Prop := False
theorem swB_c {on b : Nat} {X Y U V : Nat → Int32} {x y : Int} (hb : b < on) (h : ∀ j, j < on → X j = U j ∧ Y j = V j) : swB on X Y b x y = swB on U V b x y := by
  have h1 := h _ (prv_lt (n := on) (i := b) hb); have h2 := h _ (nxt_lt (n := on) (i := b) (by omega)); have h3 := h b hb
  unfold swB; rw [h1.1, h1.2, h2.1, h2.2, h3.1, h3.2]
/-- a corner goes lawfully -/
def lwP (ft : Nat) (st tn kd mn cx cy : Nat → Int32) (f n k : Nat) : Prop := lwA ft st tn kd (upd mn f (nI (n - 1))) (shp f k (n - 1) cx) (shp f k (n - 1) cy) f (n - 1) (cF40 cx f 0) (cF40 cy f 0) (bMt kd mn cx cy f n) (bWi kd mn cx cy f) (bIn kd cx cy f n) (sWp n (cF40 cx f) (cF40 cy f) (shp f k (n - 1) cx) (shp f k (n - 1) cy) k)
theorem fn_c {c c1 X : Nat → Int32} {f n : Nat} (h1 : ∀ j, j < n → c1 (40 * f + j) = X j) (h2 : ∀ j, j < n → X j = c (40 * f + j)) (h3 : ∀ j, (j < 40 * f ∨ 40 * f + n ≤ j) → c1 j = c j) : c1 = c := by
  funext j
  by_cases q : j < 40 * f ∨ 40 * f + n ≤ j
  · exact h3 j q
  · obtain ⟨i, rfl⟩ : ∃ i, j = 40 * f + i := ⟨j - 40 * f, by omega⟩
    rw [h1 i (by omega), h2 i (by omega)]
theorem upd_back {m : Nat → Int32} {f : Nat} {x y : Int32} (h : m f = y) : upd (upd m f x) f y = m := by
  funext j; unfold upd
  by_cases q : j = f
  · rw [if_pos q, q, h]
  · rw [if_neg q, if_neg q]
theorem upd_self {m : Nat → Int32} {f : Nat} {y : Int32} (h : m f = y) : upd m f y = m := by
  funext j; unfold upd
  by_cases q : j = f
  · rw [if_pos q, q, h]
  · rw [if_neg q]
def wrN (v : Int32) : Int32 := @ite Int32 (v.toInt = 1) (inferInstanceAs (Decidable (v.toInt = 1))) 0 2
theorem wrN_s (v : Int32) : (wrN v = 0 ∧ v.toInt = 1) ∨ (wrN v = 2 ∧ ¬ v.toInt = 1) := by
  unfold wrN
  by_cases h : v.toInt = 1
  · rw [if_pos h]; exact Or.inl ⟨rfl, h⟩
  · rw [if_neg h]; exact Or.inr ⟨rfl, h⟩
