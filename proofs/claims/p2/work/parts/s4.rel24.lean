/-! what holds of a state: of one feature, of all -/
def wfQ (kd st tn mn it : Int32) (X Y : Nat → Int32) : Prop :=
  (0 ≤ kd.toInt ∧ kd.toInt ≤ 6) ∧ (0 ≤ st.toInt ∧ st.toInt ≤ 2) ∧ (tn.toInt = 0 → (mn = nI (nN mn) ∧ nN mn ≤ 40 ∧ (kd.toInt = 0 → nN mn ≤ 1) ∧ pls (nN mn) X Y) ∧ (¬ st.toInt = 0 → mSm kd.toInt (nN mn) X Y)) ∧ (¬ st.toInt = 2 → it = -1)
def wfS (ft : Nat) (kd st tn mn it cx cy : Nat → Int32) : Prop := ∀ q, q < ft → wfQ (kd q) (st q) (tn q) (mn q) (it q) (cF40 cx q) (cF40 cy q)
theorem wfQ_cg {kd st tn mn it : Int32} {X Y X1 Y1 : Nat → Int32} (hc : ∀ k, k < 40 → X1 k = X k ∧ Y1 k = Y k) (h : wfQ kd st tn mn it X Y) : wfQ kd st tn mn it X1 Y1 := by
  obtain ⟨h1, h2, h3, h4⟩ := h
  refine ⟨h1, h2, fun t => ?_, h4⟩
  obtain ⟨⟨a1, a2, a3, a4⟩, a5⟩ := h3 t
  have hc2 : ∀ k, k < nN mn → X k = X1 k ∧ Y k = Y1 k := fun k hk => ⟨(hc k (by omega)).1.symm, (hc k (by omega)).2.symm⟩
  exact ⟨⟨a1, a2, a3, (pls_cg hc2).mp a4⟩, fun s => mSm_cg hc2 (a5 s)⟩
section
variable {ft f : Nat} {kd st tn mn it cx cy kd1 st1 tn1 mn1 it1 cx1 cy1 : Nat → Int32}
theorem wfS_wf (h : wfS ft kd st tn mn it cx cy) : ∀ q, lvF ft st tn q → wfM mn cx cy q := fun q hq => by
  obtain ⟨_, _, h3, _⟩ := h q hq.1
  obtain ⟨⟨a1, a2, _, a4⟩, a5⟩ := h3 hq.2.2
  have s := a5 (by have := hq.2.1; omega)
  exact ⟨a1, ⟨mSm_pos s, a2⟩, a4⟩
theorem wfS_sm (h : wfS ft kd st tn mn it cx cy) {q : Nat} (hq : lvF ft st tn q) : mSm (kd q).toInt (nN (mn q)) (cF40 cx q) (cF40 cy q) := by
  obtain ⟨_, _, h3, _⟩ := h q hq.1
  exact (h3 hq.2.2).2 (by have := hq.2.1; omega)
theorem mSm_kn {kd : Int} {n : Nat} {X Y : Nat → Int32} (h : mSm kd n X Y) : (kd = 0 ∧ n = 1) ∨ (¬ kd = 0 ∧ 2 ≤ n) := by
  by_cases e : kd = 0
  · exact Or.inl ⟨e, h.1 e⟩
  · have := (h.2 e).1
    unfold mnc at this
    exact Or.inr ⟨e, by split at this <;> omega⟩
theorem wfS_kn (h : wfS ft kd st tn mn it cx cy) : okN ft st tn kd mn := fun q hq => mSm_kn (wfS_sm h hq)
theorem wfS_ok (h : wfS ft kd st tn mn it cx cy) : okA ft st tn kd mn cx cy := fun q hq => ⟨wfS_wf h q hq, wfS_sm h hq⟩
theorem wfS_it (h : wfS ft kd st tn mn it cx cy) : ∀ q, q < ft → (st q).toInt = 1 → it q = -1 := fun q hq s1 => (h q hq).2.2.2 (by omega)
theorem wfS_io (h : wfS ft kd st tn mn it cx cy) : ∀ q, q < ft → (st q).toInt = 0 → it q = -1 := fun q hq s0 => (h q hq).2.2.2 (by omega)
theorem wfS_mn (h : wfS ft kd st tn mn it cx cy) : ∀ q, q < ft → (tn q).toInt = 0 → ¬ (st q).toInt = 0 → mn q = nI (nN (mn q)) ∧ nN (mn q) ≤ 40 := fun q hq ht _ => ⟨((h q hq).2.2.1 ht).1.1, ((h q hq).2.2.1 ht).1.2.1⟩
/-- one feature has changed -/
theorem wfS_1 (h : wfS ft kd st tn mn it cx cy) (ho : ∀ p, p < ft → p ≠ f → kd1 p = kd p ∧ st1 p = st p ∧ tn1 p = tn p ∧ mn1 p = mn p ∧ it1 p = it p ∧ ∀ k, k < 40 → cF40 cx1 p k = cF40 cx p k ∧ cF40 cy1 p k = cF40 cy p k) (hf : f < ft → wfQ (kd1 f) (st1 f) (tn1 f) (mn1 f) (it1 f) (cF40 cx1 f) (cF40 cy1 f)) : wfS ft kd1 st1 tn1 mn1 it1 cx1 cy1 := by
  intro p hp
  by_cases e : p = f
  · rw [e]; exact hf (by omega)
  · obtain ⟨o1, o2, o3, o4, o5, o6⟩ := ho p hp e
    rw [o1, o2, o3, o4, o5]
    exact wfQ_cg o6 (h p hp)
theorem wfS_cg (h : wfS ft kd st tn mn it cx cy) (ho : ∀ p, p < ft → kd1 p = kd p ∧ st1 p = st p ∧ tn1 p = tn p ∧ mn1 p = mn p ∧ it1 p = it p ∧ ∀ k, k < 40 → cF40 cx1 p k = cF40 cx p k ∧ cF40 cy1 p k = cF40 cy p k) : wfS ft kd1 st1 tn1 mn1 it1 cx1 cy1 := fun p hp => by
  obtain ⟨o1, o2, o3, o4, o5, o6⟩ := ho p hp
  rw [o1, o2, o3, o4, o5]
  exact wfQ_cg o6 (h p hp)
/-- it goes -/
theorem wfQ_go {k s t m i : Int32} {X Y : Nat → Int32} (h : wfQ k s t m i X Y) (hs : s.toInt = 1) (j : Int32) : wfQ k 2 t m j X Y := by
  obtain ⟨h1, h2, h3, h4⟩ := h
  have e2 : (2 : Int32).toInt = 2 := by decide
  refine ⟨h1, by rw [e2]; omega, fun ht => ⟨(h3 ht).1, fun _ => (h3 ht).2 (by omega)⟩, fun g => absurd e2 g⟩
theorem wfS_go (h : wfS ft kd st tn mn it cx cy) (hs : f < ft → (st f).toInt = 1) (j : Int32) : wfS ft kd (upd st f 2) tn mn (upd it f j) cx cy :=
  wfS_1 (f := f) h (fun p _ e => ⟨rfl, if_neg e, rfl, rfl, if_neg e, fun k _ => ⟨rfl, rfl⟩⟩) (fun hf => by rw [up_at, up_at]; exact wfQ_go (h f hf) (hs hf) j)
theorem wfS_gn {M : Nat → Prop} (h : wfS ft kd st tn mn it cx cy) (hs : ∀ q, q < ft → M q → (st q).toInt = 1) (j : Int32) : wfS ft kd (gnA M ft 2 st) tn mn (gnA M ft j it) cx cy := by
  intro q hq
  by_cases m : M q
  · rw [show gnA M ft 2 st q = 2 by unfold gnA; rw [if_pos ⟨hq, m⟩], show gnA M ft j it q = j by unfold gnA; rw [if_pos ⟨hq, m⟩]]
    exact wfQ_go (h q hq) (hs q hq m) j
  · rw [show gnA M ft 2 st q = st q by unfold gnA; rw [if_neg (fun g => m g.2)], show gnA M ft j it q = it q by unfold gnA; rw [if_neg (fun g => m g.2)]]
    exact h q hq
/-- its corners move, or go -/
theorem wfS_row {n : Nat} {m : Int32} (h : wfS ft kd st tn mn it cx cy) (hl : lvF ft st tn f) (ho : ∀ p, p ≠ f → mn1 p = mn p) (hx : ∀ j, (j < 40 * f ∨ 40 * f + 40 ≤ j) → cx1 j = cx j ∧ cy1 j = cy j) (hm : mn1 f = nI n) (hn : n ≤ 40) (hp : pls n (cF40 cx1 f) (cF40 cy1 f)) (hs : mSm (kd f).toInt n (cF40 cx1 f) (cF40 cy1 f)) : wfS ft kd st tn mn1 it cx1 cy1 := by
  refine wfS_1 (f := f) h (fun p _ e => ⟨rfl, rfl, rfl, ho p e, rfl, fun k hk => hx (40 * p + k) (by omega)⟩) (fun hf => ?_)
  obtain ⟨h1, h2, h3, h4⟩ := h f hf
  refine ⟨h1, h2, fun ht => ?_, h4⟩
  rw [hm, nN_nI (by omega)]
  exact ⟨⟨rfl, hn, fun g => by have := hs.1 g; omega, hp⟩, fun _ => hs⟩
/-- a new feature -/
theorem wfS_new {k1 : Int32} (h : wfS ft kd st tn mn it cx cy) (hk : 0 ≤ k1.toInt ∧ k1.toInt ≤ 6) : wfS (ft + 1) (upd kd ft k1) (upd st ft 0) (upd tn ft 0) (upd mn ft 0) (upd it ft (-1)) cx cy := by
  intro q hq
  by_cases e : q = ft
  · rw [e, up_at, up_at, up_at, up_at, up_at]
    have n0 : nN (0 : Int32) = 0 := by decide
    have e0 : (0 : Int32).toInt = 0 := by decide
    refine ⟨hk, by rw [e0]; omega, fun _ => ⟨⟨by rw [n0]; rfl, by omega, fun _ => by omega, fun k hk => by omega⟩, fun g => absurd e0 g⟩, fun _ => rfl⟩
  · rw [show upd kd ft k1 q = kd q from if_neg e, show upd st ft 0 q = st q from if_neg e, show upd tn ft 0 q = tn q from if_neg e, show upd mn ft 0 q = mn q from if_neg e, show upd it ft (-1) q = it q from if_neg e]
    exact h q (by omega)
theorem wfS_cor {px py : Int32} (h : wfS ft kd st tn mn it cx cy) (hf : f < ft) (hs : (st f).toInt = 0) (ht : (tn f).toInt = 0) (hn : nN (mn f) < (if (kd f).toInt = 0 then 1 else 40)) (hx : pl px) (hy : pl py) : wfS ft kd st tn (upd mn f (nI (nN (mn f) + 1))) it (upd cx (40 * f + nN (mn f)) px) (upd cy (40 * f + nN (mn f)) py) := by
  have hn40 : nN (mn f) < 40 := by split at hn <;> omega
  refine wfS_1 (f := f) h (fun p _ e => ⟨rfl, rfl, rfl, if_neg e, rfl, fun k hk => ⟨if_neg (by omega), if_neg (by omega)⟩⟩) (fun hf => ?_)
  obtain ⟨h1, h2, h3, h4⟩ := h f hf
  obtain ⟨⟨a1, a2, a3, a4⟩, a5⟩ := h3 ht
  rw [up_at]
  refine ⟨h1, h2, fun _ => ?_, h4⟩
  rw [nN_nI (by omega)]
  refine ⟨⟨rfl, by omega, fun g => by rw [if_pos g] at hn; omega, fun k hk => ?_⟩, fun g => absurd hs g⟩
  by_cases e : k = nN (mn f)
  · show pl (upd cx (40 * f + nN (mn f)) px (40 * f + k)) ∧ pl (upd cy (40 * f + nN (mn f)) py (40 * f + k))
    rw [e, up_at, up_at]; exact ⟨hx, hy⟩
  · show pl (upd cx (40 * f + nN (mn f)) px (40 * f + k)) ∧ pl (upd cy (40 * f + nN (mn f)) py (40 * f + k))
    rw [show upd cx (40 * f + nN (mn f)) px (40 * f + k) = cx (40 * f + k) from if_neg (by omega), show upd cy (40 * f + nN (mn f)) py (40 * f + k) = cy (40 * f + k) from if_neg (by omega)]
    exact a4 k (by omega)
theorem wfS_tear (h : wfS ft kd st tn mn it cx cy) : wfS ft kd st (upd tn f 1) (upd mn f 0) it cx cy :=
  wfS_1 (f := f) h (fun p _ e => ⟨rfl, rfl, if_neg e, if_neg e, rfl, fun k _ => ⟨rfl, rfl⟩⟩) (fun hf => by
    obtain ⟨h1, h2, h3, h4⟩ := h f hf
    rw [up_at, up_at]
    exact ⟨h1, h2, fun g => absurd g (by decide), h4⟩)
theorem wfS_done (h : wfS ft kd st tn mn it cx cy) (hs : mSm (kd f).toInt (nN (mn f)) (cF40 cx f) (cF40 cy f)) (hi : it f = -1) : wfS ft kd (upd st f 1) tn mn it cx cy :=
  wfS_1 (f := f) h (fun p _ e => ⟨rfl, if_neg e, rfl, rfl, rfl, fun k _ => ⟨rfl, rfl⟩⟩) (fun hf => by
    obtain ⟨h1, h2, h3, h4⟩ := h f hf
    rw [up_at]
    exact ⟨h1, by decide, fun ht => ⟨(h3 ht).1, fun _ => hs⟩, fun _ => hi⟩)
end
