/-! a feature as the class holds it, among cells of a pool -/
theorem vaD_ad {A : Nat → Prop} {ws ws' : va_W} (h : ws.map Prod.fst = ws'.map Prod.fst) (hD : va_D A ws) : va_D A ws' := by
  rw [vaD_mem] at hD ⊢
  have e : ∀ v : va_W, v.Pairwise (fun p q => p.1 ≠ q.1) ↔ (v.map Prod.fst).Pairwise (· ≠ ·) := fun v => List.pairwise_map.symm
  refine ⟨(e ws').mpr (by rw [← h]; exact (e ws).mp hD.1), fun q hq => ?_⟩
  have hm : q.1 ∈ ws.map Prod.fst := by rw [h]; exact List.mem_map.mpr ⟨q, hq, rfl⟩
  obtain ⟨p, hp, ep⟩ := List.mem_map.mp hm
  rw [← ep]; exact hD.2 p hp
theorem pl_sep {A : Nat → Prop} {X : va_W} {L : List Nat} {f : Nat → va_E} {q : Nat × va_E} {a : Nat} (hD : va_D A (X ++ va_pl L f)) (hq : q ∈ X) (ha : a ∈ L) : ¬ a = q.1 := fun e =>
  (List.pairwise_append.mp (vaD_mem.mp hD).1).2.2 q hq (a, f a) (pl_mem.mpr ⟨ha, rfl⟩) e.symm
/-- a row's cells -/
def rwA (cI : ClassId) (L : List Nat) (f : Nat → va_E) (r rx ry n cap : Nat) (X Y : Nat → Int32) (rg : Int32) : Prop :=
  (r ∈ L ∧ f r = .inr (6, [.ref rx, .ref ry, .int (nI n), .int rg])) ∧ (rx ∈ L ∧ f rx = .inl (cI, cap, .inl X)) ∧ (ry ∈ L ∧ f ry = .inl (cI, cap, .inl Y)) ∧ rx ≠ ry
/-- how a row stands for a feature's corners -/
def rwR (kd mn cx cy : Nat → Int32) (i cap : Nat) (X Y : Nat → Int32) (rg : Int32) : Prop :=
  nN (mn i) ≤ cap ∧ cap ≤ 40 ∧ (rg = 0 ∨ rg = 1) ∧ rg.toInt = (if 5 ≤ (kd i).toInt then 1 else 0) ∧ ∀ k, k < nN (mn i) → X k = cF40 cx i k ∧ Y k = cF40 cy i k
/-- feature i: there, and not torn -/
def vwL (cI : ClassId) (L : List Nat) (f : Nat → va_E) (FA : Nat → Option Nat) (kd st mn cx cy : Nat → Int32) (i : Nat) : Prop :=
  ∃ (fe lk lo : Nat) (rk wd tw pa pb gb jt we : Int32) (fm : Value) (r rx ry cap : Nat) (X Y : Nat → Int32) (rg : Int32),
    FA i = some fe ∧ (fe ∈ L ∧ f fe = .inr (1, [.int rk, .int wd, .int tw, .int pa, .int pb, .ref lo, .ref lk, fm])) ∧ (lk ∈ L ∧ f lk = .inr (4, [.int (kd i), .int (st i), .ref r, .int gb, .int jt, .int we])) ∧ rwA cI L f r rx ry (nN (mn i)) cap X Y rg ∧ rwR kd mn cx cy i cap X Y rg
/-- feature i: any look -/
def vwS (L : List Nat) (f : Nat → va_E) (FA : Nat → Option Nat) (kd st : Nat → Int32) (i : Nat) : Prop :=
  ∃ (fe lk lo : Nat) (rk wd tw pa pb gb jt we : Int32) (fm rw : Value),
    FA i = some fe ∧ (fe ∈ L ∧ f fe = .inr (1, [.int rk, .int wd, .int tw, .int pa, .int pb, .ref lo, .ref lk, fm])) ∧ (lk ∈ L ∧ f lk = .inr (4, [.int (kd i), .int (st i), rw, .int gb, .int jt, .int we]))
/-- feature i: torn -/
def vwT (L : List Nat) (f : Nat → va_E) (FA : Nat → Option Nat) (kd st : Nat → Int32) (i : Nat) : Prop :=
  ∃ (fe lk lo : Nat) (rk wd tw pa pb gb jt we : Int32) (fm : Value),
    FA i = some fe ∧ (fe ∈ L ∧ f fe = .inr (1, [.int rk, .int wd, .int tw, .int pa, .int pb, .ref lo, .ref lk, fm])) ∧ (lk ∈ L ∧ f lk = .inr (4, [.int (kd i), .int (st i), .null, .int gb, .int jt, .int we]))
/-- feature i as the reference has it -/
def vwO (cI : ClassId) (L : List Nat) (f : Nat → va_E) (FA : Nat → Option Nat) (kd st tn mn cx cy : Nat → Int32) (i : Nat) : Prop :=
  vwS L f FA kd st i ∧ (¬ (tn i).toInt = 0 → vwT L f FA kd st i) ∧ ((tn i).toInt = 0 → vwL cI L f FA kd st mn cx cy i)
theorem vw4 {cI : ClassId} {L : List Nat} {f : Nat → va_E} {FA : Nat → Option Nat} {kd st tn mn cx cy : Nat → Int32} {i f0 ft : Nat} (h : i < ft → i ≠ f0 → vwO cI L f FA kd st tn mn cx cy i) (hi : i < ft) :
    i = f0 ∨ (i ≠ f0 ∧ ¬ (st i).toInt = 1 ∧ vwS L f FA kd st i) ∨ (i ≠ f0 ∧ ¬ (tn i).toInt = 0 ∧ vwT L f FA kd st i) ∨ (i ≠ f0 ∧ lvF ft st tn i ∧ vwL cI L f FA kd st mn cx cy i) := by
  by_cases e : i = f0
  · exact Or.inl e
  · have v := h hi e
    by_cases s1 : (st i).toInt = 1
    · by_cases t0 : (tn i).toInt = 0
      · exact Or.inr (Or.inr (Or.inr ⟨e, ⟨hi, s1, t0⟩, v.2.2 t0⟩))
      · exact Or.inr (Or.inr (Or.inl ⟨e, t0, v.2.1 t0⟩))
    · exact Or.inr (Or.inl ⟨e, s1, v.1⟩)
theorem pw2 {a b : Nat} {x y : va_E} (h : a ≠ b) : List.Pairwise (fun p q : Nat × va_E => p.1 ≠ q.1) [(a, x), (b, y)] := by
  simp [h]
theorem pwF {f : Nat → va_E} {fe lk : Nat} {x1 x2 : List Value} {e1 e2 : va_E} (h1 : f fe = .inr (1, x1)) (h2 : f lk = .inr (4, x2)) : List.Pairwise (fun p q : Nat × va_E => p.1 ≠ q.1) [(fe, e1), (lk, e2)] := pw2 (cl_ne h1 h2 (by decide))
theorem pwR {f : Nat → va_E} {fe lk r rx ry : Nat} {x1 x2 x3 : List Value} {y1 y2 : ClassId × vp_A} {e1 e2 e3 e4 e5 : va_E} (h1 : f fe = .inr (1, x1)) (h2 : f lk = .inr (4, x2)) (h3 : f r = .inr (6, x3)) (h4 : f rx = .inl y1) (h5 : f ry = .inl y2) (h : rx ≠ ry) :
    List.Pairwise (fun p q : Nat × va_E => p.1 ≠ q.1) [(fe, e1), (lk, e2), (r, e3), (rx, e4), (ry, e5)] := by
  have a1 := cl_ne h1 h2 (by decide); have a2 := cl_ne h1 h3 (by decide); have a3 := ca_ne h1 h4; have a4 := ca_ne h1 h5
  have b1 := cl_ne h2 h3 (by decide); have b2 := ca_ne h2 h4; have b3 := ca_ne h2 h5
  have c1 := ca_ne h3 h4; have c2 := ca_ne h3 h5
  simp [a1, a2, a3, a4, b1, b2, b3, c1, c2, h]
/-- those that are there have corners enough -/
def okN (ft : Nat) (st tn kd mn : Nat → Int32) : Prop := ∀ q, lvF ft st tn q → ((kd q).toInt = 0 ∧ nN (mn q) = 1) ∨ (¬ (kd q).toInt = 0 ∧ 2 ≤ nN (mn q))
theorem prt_eO {kd : Int} {n : Nat} {rg : Int32} (hr : rg.toInt = if 5 ≤ kd then 1 else 0) (h : (kd = 0 ∧ n = 1) ∨ (¬ kd = 0 ∧ 2 ≤ n)) : prt n rg = eO kd n := by
  rcases h with ⟨h1, h2⟩ | ⟨h1, h2⟩
  · subst h1 h2; unfold prt eO; rw [if_pos rfl, if_pos rfl]
  · unfold prt; rw [if_neg (by omega)]; exact edg_eO hr h1 h2
theorem on_iff {kd mn cx cy : Nat → Int32} {i cap : Nat} {X Y : Nat → Int32} {rg : Int32} {x y : Int} (h : rwR kd mn cx cy i cap X Y rg) (h2 : ((kd i).toInt = 0 ∧ nN (mn i) = 1) ∨ (¬ (kd i).toInt = 0 ∧ 2 ≤ nN (mn i))) :
    (∃ j, j < prt (nN (mn i)) rg ∧ eOn (nN (mn i)) X Y j x y) ↔ onF kd mn cx cy i x y := by
  unfold onF
  rw [prt_eO h.2.2.2.1 h2]
  have he := eO_le (k := (kd i).toInt) (n := nN (mn i)) (by omega)
  exact exists_congr fun j => and_congr_right fun hj => by rw [eOn_cg h.2.2.2.2 (by omega)]
theorem rw_pls {kd mn cx cy : Nat → Int32} {i cap : Nat} {X Y : Nat → Int32} {rg : Int32} (h : rwR kd mn cx cy i cap X Y rg) (hw : wfM mn cx cy i) : pls (nN (mn i)) X Y := (pls_cg h.2.2.2.2).mpr hw.2.2
