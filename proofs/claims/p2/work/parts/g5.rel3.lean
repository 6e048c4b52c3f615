/-! what a change makes of the relation -/
def upN {α : Type} (f : Nat → α) (k : Nat) (v : α) : Nat → α := fun j => if j = k then v else f j
theorem upN_at {α : Type} {f : Nat → α} {k : Nat} {v : α} : upN f k v k = v := if_pos rfl
theorem upN_o {α : Type} {f : Nat → α} {k j : Nat} {v : α} (h : j ≠ k) : upN f k v j = f j := if_neg h
/-- the kinds of cells that a change of feature q leaves alone -/
def notQ (q g : Nat) : Prop := g ≠ 8 * q ∧ g ≠ 8 * q + 1 ∧ g ≠ 8 * q + 4 ∧ g ≠ 8 * q + 5
/-- arrays that differ at q alone -/
def othS (q : Nat) (kd st gb it mn cx cy kd1 st1 gb1 it1 mn1 cx1 cy1 : Nat → Int32) : Prop :=
  ∀ p, p ≠ q → kd1 p = kd p ∧ st1 p = st p ∧ gb1 p = gb p ∧ it1 p = it p ∧ mn1 p = mn p ∧ ∀ k, k < 40 → cF40 cx1 p k = cF40 cx p k ∧ cF40 cy1 p k = cF40 cy p k
section
variable {P : Nat → Prop} {cI cO : ClassId} {L L1 : List Nat} {f f1 : Nat → va_E} {own own1 : Nat → Nat} {e0 ea n9 : Nat} {FA : Nat → Option Nat} {fe cl nw md sp : Nat → Nat} {la : Nat → Nat → Nat} {fm : Nat → Value} {SA : Nat → Option Nat} {bs dn T ft fN : Nat} {FT : Nat → Nat} {V : Nat → Nat → Nat → Int32} {VX VY : Nat → Nat → Int32} {tn rk wd tw pa pb wh of9 we kd st gb it mn cx cy kd1 st1 gb1 it1 mn1 cx1 cy1 : Nat → Int32}
/-- one feature has changed -/
theorem M_new {q nq m : Nat} (h : shG cI cO L f e0 FA ea n9 own fe cl la nw md sp fm SA bs dn dn ft ft FT V VX VY tn rk wd tw pa pb wh of9 we kd st gb it mn cx cy) (hM : mdA dn ft FT la nw md fm V kd st gb it) (hk : kpT (notQ q) L f own L1 f1 own1)
    (hfe : feG cI L1 f1 own1 q (fe q) nq (cl q) (.ref (la dn q)) (rk q) (wd q) (tw q) (pa q) (pb q)) (hlk : lkG cI L1 f1 own1 (glM m q) (grM m q) nq (cl q) (kd1 q) (st1 q) (gb1 q) (it1 q) (tn q) (nN (mn1 q)) (cF40 cx1 q) (cF40 cy1 q))
    (ho : othS q kd st gb it mn cx cy kd1 st1 gb1 it1 mn1 cx1 cy1) (hm : ¬ m = 0) (hq : q < ft) (hqd : q < FT dn) (hs : ¬ (V dn 1 q).toInt = 0) (hs1 : ¬ (st1 q).toInt = 0) :
    shG cI cO L1 f1 e0 FA ea n9 own1 fe cl la (upN nw q nq) (upN md q m) sp (upN fm q (.ref (la dn q))) SA bs dn dn ft ft FT V VX VY tn rk wd tw pa pb wh of9 we kd1 st1 gb1 it1 mn1 cx1 cy1 ∧ mdA dn ft FT la (upN nw q nq) (upN md q m) (upN fm q (.ref (la dn q))) V kd1 st1 gb1 it1 := by
  obtain ⟨h1, h2, h3, h4, h5, h6, h7⟩ := h
  have fN200 := h6.2.2.2.2.2
  refine ⟨⟨fun p hp => ?_, fun p hp => ?_, HiA_kp hk (fun t p t1 t2 hp => ⟨⟨by omega, by omega, by omega, by omega⟩, ⟨by omega, by omega, by omega, by omega⟩⟩) h3, StA_kp hk ⟨⟨by omega, by omega, by omega, by omega⟩, ⟨by omega, by omega, by omega, by omega⟩⟩ h4, LsA_kp hk ⟨⟨by omega, by omega, by omega, by omega⟩, ⟨by omega, by omega, by omega, by omega⟩⟩ h5, h6, h7⟩, fun p hp => ?_⟩
  · by_cases e : p = q
    · rw [e, upN_at, upN_at]; exact hfe
    · rw [upN_o e, upN_o e]; exact feG_kp hk ⟨by omega, by omega, by omega, by omega⟩ ⟨by omega, by omega, by omega, by omega⟩ (h1 p hp)
  · by_cases e : p = q
    · rw [e, upN_at, upN_at]; exact hlk
    · obtain ⟨a1, a2, a3, a4, a5, a6⟩ := ho p e
      rw [upN_o e, upN_o e, a1, a2, a3, a4, a5]
      refine lkG_cg a6 (lkG_kp hk ?_ ?_ (h2 p hp))
      · unfold glM; split <;> exact ⟨by omega, by omega, by omega, by omega⟩
      · unfold grM; split <;> exact ⟨by omega, by omega, by omega, by omega⟩
  · by_cases e : p = q
    · rw [e, upN_at, upN_at, upN_at]; exact ⟨fun g => absurd g hm, fun _ => ⟨rfl, hqd, hs, hs1⟩⟩
    · obtain ⟨a1, a2, a3, a4, a5, a6⟩ := ho p e
      rw [upN_o e, upN_o e, upN_o e, a1, a2, a3, a4]
      exact hM p hp
/-- nothing of the past is kept -/
def vC (kd st gb it mn : Nat → Int32) (j q : Nat) : Int32 := match j with
  | 0 => kd q | 1 => st q | 2 => gb q | 3 => it q | _ => mn q
theorem S_new (h1 : FeA cI L f own ft fe nw cl (fun _ => .null) rk wd tw pa pb) (h2 : NwA cI L f own ft nw cl (fun _ => 0) kd st gb it tn mn cx cy) (h4 : StA L f own dn dn ft FT fe la sp SA wh of9 we) (h5 : LsA cO L f own e0 ea dn SA) (h7 : ∀ q, q < ft → FA q = some (fe q)) (hft : ft ≤ 200) (hdn : dn ≤ 512) :
    shB cI cO L f e0 FA ea dn dn dn ft (fun _ => ft) (fun _ => vC kd st gb it mn) (fun _ => cx) (fun _ => cy) tn rk wd tw pa pb wh of9 we kd st gb it mn cx cy := by
  refine ⟨own, fe, cl, fun _ => nw, sp, SA, ⟨h1, h2, fun t t1 t2 q hq => ⟨fun g => h2 q hq, fun _ => ⟨rfl, hq, rfl, rfl, rfl, rfl⟩⟩, fun t t1 t2 => ?_, h5, ⟨Nat.le_refl _, Nat.le_refl _, hdn, fun _ _ _ => Nat.le_refl _, Nat.le_refl _, hft⟩, h7⟩, fun q hq => ⟨rfl, rfl, rfl, rfl, fun _ _ => ⟨rfl, fun k hk => ⟨rfl, rfl⟩⟩⟩, rfl⟩
  obtain ⟨g1, mv, ch, g2, g3⟩ := h4 t t1 t2
  exact ⟨g1, mv, ch, g2, fun hb => by omega⟩
/-- a step is booked -/
def rtG (g : Nat) : Nat := if g % 8 = 4 ∨ g % 8 = 5 then g - 2 else g
theorem ce_rt {g a : Nat} {e : va_E} (h : ce L f own g a e) : ce L f (fun b => rtG (own b)) (rtG g) a e := ⟨h.1, h.2.1, by show rtG (own a) = _; rw [h.2.2]⟩
theorem rwG_rt {g r rx ry n cap : Nat} {X Y : Nat → Int32} {rg : Int32} (h : rwG cI L f own g r rx ry n cap X Y rg) : rwG cI L f (fun b => rtG (own b)) (rtG g) r rx ry n cap X Y rg := ⟨ce_rt h.1, ce_rt h.2.1, ce_rt h.2.2.1, h.2.2.2⟩
theorem lkG_rt {gl gr a c : Nat} {kd st gb it tn : Int32} {n : Nat} {C D : Nat → Int32} (h : lkG cI L f own gl gr a c kd st gb it tn n C D) : lkG cI L f (fun b => rtG (own b)) (rtG gl) (rtG gr) a c kd st gb it tn n C D := by
  obtain ⟨we, rv, h1, h2, h3, h4⟩ := h
  refine ⟨we, rv, ce_rt h1, h2, h3, h4.1, fun h0 => ?_⟩
  obtain ⟨r, rx, ry, cap, X, Y, g1, g2, g3⟩ := h4.2 h0
  exact ⟨r, rx, ry, cap, X, Y, g1, rwG_rt g2, g3⟩
theorem feG_rt {q a nq c : Nat} {fv : Value} {rk wd tw pa pb : Int32} (h : feG cI L f own q a nq c fv rk wd tw pa pb) : feG cI L f (fun b => rtG (own b)) q a nq c fv rk wd tw pa pb := by
  obtain ⟨lo, lx, ly, ln, LX, LY, h1, h2, h3⟩ := h
  have e1 : rtG (8 * q) = 8 * q := by unfold rtG; rw [if_neg (by omega)]
  have e2 : rtG (8 * q + 1) = 8 * q + 1 := by unfold rtG; rw [if_neg (by omega)]
  refine ⟨lo, lx, ly, ln, LX, LY, ?_, ?_, h3⟩
  · have := ce_rt h1; rw [e1] at this; exact this
  · have := rwG_rt h2; rw [e2] at this; exact this
theorem rt_k : kpT (fun g => ¬ (g % 8 = 4 ∨ g % 8 = 5)) L f own L f (fun b => rtG (own b)) := fun g a e hp h => by
  have := ce_rt h
  unfold rtG at this
  rw [if_neg hp] at this
  exact this
theorem B_new {sq : Nat} {chv mv : Value} {qs : List Nat} {SA1 : Nat → Option Nat} {wq oq aq : Int32} (h1 : FeA cI L f own ft fe nw cl (fun _ => .null) rk wd tw pa pb) (h2 : NwA cI L f own ft nw cl md kd st gb it tn mn cx cy) (h3 : HiA cI L f own bs dn dn FT la cl V VX VY tn) (h4 : StA L f own bs dn ft FT fe la sp SA wh of9 we) (h5 : LsA cO L f own e0 ea (dn + 1) SA1) (hbs : bs ≤ dn) (hdn : dn + 1 ≤ 512) (hft : ft ≤ 200) (hF : ∀ t, bs ≤ t → t ≤ dn → FT t ≤ ft) (h7 : ∀ q, q < ft → FA q = some (fe q))
    (hM : ∀ q, q < ft → (md q = 0 → nw q = la dn q ∧ (q < FT dn → V dn 0 q = kd q ∧ V dn 1 q = st q ∧ V dn 2 q = gb q ∧ V dn 3 q = it q)) ∧ (¬ md q = 0 → q < FT dn ∧ ¬ (V dn 1 q).toInt = 0 ∧ ¬ (st q).toInt = 0)) (hnew : ∀ q, FT dn ≤ q → q < ft → ¬ (st q).toInt = 0)
    (hSA : ∀ i, i < dn → SA1 i = SA i) (hsq : SA1 dn = some sq) (hstep : ce L f own 8001 sq (.inr (11, [.int wq, .int oq, .int aq, mv, chv]))) (hch : chn L f own fe (la dn) nw chv qs) (hq1 : ∀ q ∈ qs, q < FT dn) (hq2 : ∀ q, q < ft → ¬ md q = 0 → q ∈ qs)
    (hmv : (ft = FT dn ∧ mv = .null) ∨ (ft = FT dn + 1 ∧ mv = .ref (fe (FT dn)))) :
    shB cI cO L f e0 FA ea bs (dn + 1) (dn + 1) ft (upN FT (dn + 1) ft) (upN V (dn + 1) (vC kd st gb it mn)) (upN VX (dn + 1) cx) (upN VY (dn + 1) cy) tn rk wd tw pa pb (upd wh (dn + 1) wq) (upd of9 (dn + 1) oq) (upd we (dn + 1) aq) kd st gb it mn cx cy := by
  have eF : upN FT (dn + 1) ft (dn + 1) = ft := upN_at
  have k8 : ∀ g, g = 8001 ∨ g = 8002 ∨ g = 8003 → ¬ (g % 8 = 4 ∨ g % 8 = 5) := fun g hg => by omega
  refine ⟨fun b => rtG (own b), fe, cl, upN la (dn + 1) nw, upN sp (dn + 1) sq, SA1, ⟨?_, ?_, ?_, ?_, LsA_kp rt_k ⟨k8 _ (by omega), k8 _ (by omega)⟩ h5, ⟨by omega, Nat.le_refl _, hdn, ?_, by rw [eF]; exact Nat.le_refl _, by rw [eF]; exact hft⟩, h7⟩, ?_, eF.symm⟩
  · rw [eF, upN_at]; exact fun q hq => feG_rt (h1 q hq)
  · rw [upN_at]
    intro q hq
    have := lkG_rt (h2 q hq)
    have e1 : rtG (glM (md q) q) = glM 0 q := by unfold rtG glM; split <;> split <;> simp <;> omega
    have e2 : rtG (grM (md q) q) = grM 0 q := by unfold rtG grM; split <;> split <;> simp <;> omega
    rw [e1, e2] at this; exact this
  · intro t t1 t2 q hq
    by_cases e : t = dn + 1
    · subst e
      simp only [upN_at] at hq ⊢
      have hbs9 : bs ≠ dn + 1 := by omega
      simp only [upN_o hbs9]
      refine ⟨fun _ => ?_, fun h0 => ⟨trivial, ?_, trivial, trivial, trivial, trivial⟩⟩
      rotate_left
      · have h0 : (st q).toInt = 0 := by
          rcases h0 with h0 | h0
          · exact h0
          · exact h0.2
        have hm : md q = 0 := Classical.byContradiction fun hm => ((hM q hq).2 hm).2.2 h0
        have hd : q < FT dn := Classical.byContradiction fun hd => hnew q (by omega) hq h0
        exact ((h3 dn hbs (Nat.le_refl _) q hd).2 (Or.inl (by rw [(((hM q hq).1 hm).2 hd).2.1]; exact h0))).2.1
      have := lkG_rt (h2 q hq)
      have e1 : rtG (glM (md q) q) = 8 * q + 2 := by unfold rtG glM; split <;> split <;> omega
      have e2 : rtG (grM (md q) q) = 8 * q + 3 := by unfold rtG grM; split <;> split <;> omega
      rw [e1, e2] at this; exact this
    · have ht : t ≤ dn := by omega
      simp only [upN_at, upN_o e] at hq ⊢
      have g := h3 t t1 ht q hq
      refine ⟨fun h0 => lkG_kp rt_k (by omega) (by omega) (g.1 h0), fun h0 => ?_⟩
      have hqf : q < ft := Nat.lt_of_lt_of_le hq (hF t t1 ht)
      have hqd : q < FT dn ∧ ((V t 1 q).toInt = 0 ∨ (q < FT dn ∧ (V dn 1 q).toInt = 0)) ∧ md q = 0 := by
        rcases h0 with h0 | ⟨_, h0⟩
        · have g2 := g.2 (Or.inl h0)
          refine ⟨Nat.lt_of_lt_of_le g2.2.1 (StA_le h4 (Nat.le_refl _) hbs (Nat.le_refl _)), Or.inl h0, Classical.byContradiction fun hm => ((hM q hqf).2 hm).2.1 ?_⟩
          rw [← g2.2.2.2.1]; exact h0
        · have h0 : (st q).toInt = 0 := h0
          have hm : md q = 0 := Classical.byContradiction fun hm => ((hM q hqf).2 hm).2.2 h0
          have hd : q < FT dn := Classical.byContradiction fun hd => hnew q (by omega) hqf h0
          exact ⟨hd, Or.inr ⟨hd, by rw [(((hM q hqf).1 hm).2 hd).2.1]; exact h0⟩, hm⟩
      obtain ⟨hd, h0, hm⟩ := hqd
      have g2 := g.2 h0
      have g3 := (hM q hqf).1 hm
      have g4 := g3.2 hd
      have hbs9 : bs ≠ dn + 1 := by omega
      simp only [upN_o hbs9]
      exact ⟨by rw [g2.1, g3.1], g2.2.1, g2.2.2.1.trans g4.1, g2.2.2.2.1.trans g4.2.1, g2.2.2.2.2.1.trans g4.2.2.1, g2.2.2.2.2.2.trans g4.2.2.2⟩
  · rw [eF]
    intro t t1 t2
    by_cases e : t = dn + 1
    · subst e
      simp only [show dn + 1 - 1 = dn by omega, upN_at, upN_o (show dn ≠ dn + 1 by omega)]
      refine ⟨hsq, mv, chv, ?_, fun _ => ⟨⟨qs, chn_kp rt_k (k8 _ (by omega)) hch, hq1, fun q hq hn => ?_⟩, hmv⟩⟩
      · rw [show upd wh (dn + 1) wq (dn + 1) = wq from up_at _ _ _, show upd of9 (dn + 1) oq (dn + 1) = oq from up_at _ _ _, show upd we (dn + 1) aq (dn + 1) = aq from up_at _ _ _]
        exact rt_k _ _ _ (k8 _ (by omega)) hstep
      · have hm : md q = 0 := Classical.byContradiction fun hm => hn (hq2 q hq hm)
        exact (((hM q hq).1 hm).1).symm
    · have ht : t ≤ dn := by omega
      obtain ⟨g1, m1, c1, g2, g3⟩ := StA_kp rt_k ⟨k8 _ (by omega), k8 _ (by omega)⟩ h4 t t1 ht
      simp only [upN_o e, upN_o (show t - 1 ≠ dn + 1 by omega)]
      rw [show upd wh (dn + 1) wq t = wh t from if_neg e, show upd of9 (dn + 1) oq t = of9 t from if_neg e, show upd we (dn + 1) aq t = we t from if_neg e]
      exact ⟨by rw [hSA _ (by omega)]; exact g1, m1, c1, g2, g3⟩
  · intro t t1 t2
    rw [eF]
    by_cases e : t = dn + 1
    · rw [e, eF]; exact Nat.le_refl _
    · rw [upN_o e]; exact hF t t1 (by omega)
  · intro q hq
    exact ⟨by rw [upN_at]; rfl, by rw [upN_at]; rfl, by rw [upN_at]; rfl, by rw [upN_at]; rfl, fun _ _ => ⟨by rw [upN_at]; rfl, fun k hk => ⟨by rw [upN_at], by rw [upN_at]⟩⟩⟩
end
