/-! booking a step: the loop over the features, the list -/
theorem ii_pre {n : Nat} (h : n < 2147483648) : nI n - 1 = iI (((n : Nat) : Int) - 1) := iI_of (by
  have h1 := nI_toInt (n := n) (by omega)
  have h2 : (1 : Int32).toInt = 1 := by decide
  rw [fb_subI (by rw [h1, h2]; omega) (by rw [h1, h2]; omega), h1, h2])
theorem ii_dec {z : Int} (h : -2147483647 ≤ z ∧ z < 2147483648) : iI z + Int32.ofInt (-1) = iI (z - 1) := iI_of (by
  have h1 := iI_toInt (z := z) (by omega)
  have h2 : (Int32.ofInt (-1)).toInt = -1 := by decide
  rw [fb_addI (by rw [h1, h2]; omega) (by rw [h1, h2]; omega), h1, h2]; omega)
theorem ii_nat {z : Int} {n : Nat} (h : z = ((n : Nat) : Int)) (hn : n < 2147483648) : iI z = nI n := by
  rw [h]; exact (iI_of (nI_toInt (by omega))).symm
def fmB (i : Nat) (fm : Nat → Value) : Nat → Value := fun q => if q < i then .null else fm q
theorem fmB_0 (fm : Nat → Value) : fmB 0 fm = fm := funext fun q => if_neg (Nat.not_lt_zero q)
section
variable {P : Nat → Prop} {cI cO : ClassId} {L L1 : List Nat} {f f1 : Nat → va_E} {own own1 : Nat → Nat} {e0 ea n9 : Nat} {FA : Nat → Option Nat} {fe cl nw md sp : Nat → Nat} {la : Nat → Nat → Nat} {fm : Nat → Value} {SA : Nat → Option Nat} {bs dn T ft fN : Nat} {FT : Nat → Nat} {V : Nat → Nat → Nat → Int32} {VX VY : Nat → Nat → Int32} {tn rk wd tw pa pb wh of9 we kd st gb it mn cx cy : Nat → Int32}
theorem fmB_e {i : Nat} (hF : FeA cI L f own i fe nw cl (fmB i fm) rk wd tw pa pb) : FeA cI L f own i fe nw cl (fun _ => .null) rk wd tw pa pb := fun q hq => by
  have := hF q hq
  unfold fmB at this
  rw [if_pos hq] at this
  exact this
/-- feature g in the loop -/
theorem bk_sp {g : Nat} (hF : FeA cI L f own ft fe nw cl (fmB g fm) rk wd tw pa pb) (hM : mdA dn ft FT la nw md fm V kd st gb it) (hg : g < ft) :
    (md g = 0 ∧ fm g = .null ∧ ∃ lo, ce L f own (8 * g) (fe g) (.inr (1, [.int (rk g), .int (wd g), .int (tw g), .int (pa g), .int (pb g), .ref lo, .ref (nw g), .null]))) ∨
    (¬ md g = 0 ∧ ∃ lo, ce L f own (8 * g) (fe g) (.inr (1, [.int (rk g), .int (wd g), .int (tw g), .int (pa g), .int (pb g), .ref lo, .ref (nw g), .ref (la dn g)]))) := by
  obtain ⟨lo, lx, ly, ln, LX, LY, h1, _⟩ := hF g hg
  unfold fmB at h1
  rw [if_neg (Nat.lt_irrefl g)] at h1
  by_cases m : md g = 0
  · rw [((hM g hg).1 m).1] at h1; exact Or.inl ⟨m, ((hM g hg).1 m).1, lo, h1⟩
  · rw [((hM g hg).2 m).1] at h1; exact Or.inr ⟨m, lo, h1⟩
theorem bk_F0 {g : Nat} (h0 : fm g = .null) (hF : FeA cI L f own ft fe nw cl (fmB g fm) rk wd tw pa pb) : FeA cI L f own ft fe nw cl (fmB (g + 1) fm) rk wd tw pa pb := fun q hq => by
  have := hF q hq
  unfold fmB at this ⊢
  by_cases e : q < g
  · rw [if_pos e] at this; rw [if_pos (by omega)]; exact this
  · rw [if_neg e] at this
    by_cases e2 : q = g
    · rw [if_pos (by omega)]; rw [e2, h0] at this; rw [e2]; exact this
    · rw [if_neg (by omega)]; exact this
theorem bk_F1 {g lo : Nat} {v : Value} (hF : FeA cI L f own ft fe nw cl (fmB g fm) rk wd tw pa pb) (hk : kpT (fun t => t ≠ 8 * g) L f own L1 f1 own1) (ho : ce L f own (8 * g) (fe g) (.inr (1, [.int (rk g), .int (wd g), .int (tw g), .int (pa g), .int (pb g), .ref lo, .ref (nw g), v]))) (hc : ce L1 f1 own1 (8 * g) (fe g) (.inr (1, [.int (rk g), .int (wd g), .int (tw g), .int (pa g), .int (pb g), .ref lo, .ref (nw g), .null]))) : FeA cI L1 f1 own1 ft fe nw cl (fmB (g + 1) fm) rk wd tw pa pb := fun q hq => by
  have h := hF q hq
  by_cases e2 : q = g
  · subst e2
    obtain ⟨lo2, lx, ly, ln, LX, LY, h1, h2, h3⟩ := h
    have e3 : lo2 = lo := by
      have := h1.2.1.symm.trans ho.2.1
      simp at this
      exact this.1
    subst e3
    refine ⟨lo2, lx, ly, ln, LX, LY, ?_, rwG_kp hk (by omega) h2, h3⟩
    unfold fmB; rw [if_pos (by omega)]; exact hc
  · have h := feG_kp hk (by omega) (by omega) h
    unfold fmB at h ⊢
    by_cases e : q < g
    · rw [if_pos e] at h; rw [if_pos (by omega)]; exact h
    · rw [if_neg e] at h; rw [if_neg (by omega)]; exact h
theorem chn_nc {fe lb la : Nat → Nat} {v : Value} {qs : List Nat} (h : chn L f own fe lb la v qs) : v = .null ∨ ∃ c, v = .ref c := by
  cases qs with
  | nil => exact Or.inl h
  | cons q qs => obtain ⟨c, nx, h1, _⟩ := h; exact Or.inr ⟨c, h1⟩
theorem bk_end {ea1 sq : Nat} {chv mv : Value} {qs : List Nat} {SA1 : Nat → Option Nat} {wq oq aq : Int32} (hG : shG cI cO L f e0 FA ea n9 own fe cl la nw md sp fm SA bs dn dn ft ft FT V VX VY tn rk wd tw pa pb wh of9 we kd st gb it mn cx cy) (hM : mdA dn ft FT la nw md fm V kd st gb it) (hk : kpT (fun g => ¬ g % 8 = 0 ∧ g ≠ 8002) L f own L1 f1 own1)
    (hF : FeA cI L1 f1 own1 ft fe nw cl (fun _ => .null) rk wd tw pa pb) (hL : LsA cO L1 f1 own1 e0 ea1 (dn + 1) SA1) (hdn : dn + 1 ≤ 512) (hnew : ∀ q, FT dn ≤ q → q < ft → ¬ (st q).toInt = 0) (hSA : ∀ i, i < dn → SA1 i = SA i) (hsq : SA1 dn = some sq) (hstep : ce L1 f1 own1 8001 sq (.inr (11, [.int wq, .int oq, .int aq, mv, chv]))) (hch : chn L1 f1 own1 fe (la dn) nw chv qs) (hq : (∀ q ∈ qs, q < ft ∧ ¬ md q = 0) ∧ ∀ q, q < ft → ¬ md q = 0 → q ∈ qs)
    (hmv : (ft = FT dn ∧ mv = .null) ∨ (ft = FT dn + 1 ∧ mv = .ref (fe (FT dn)))) :
    shB cI cO L1 f1 e0 FA ea1 bs (dn + 1) (dn + 1) ft (upN FT (dn + 1) ft) (upN V (dn + 1) (vC kd st gb it mn)) (upN VX (dn + 1) cx) (upN VY (dn + 1) cy) tn rk wd tw pa pb (upd wh (dn + 1) wq) (upd of9 (dn + 1) oq) (upd we (dn + 1) aq) kd st gb it mn cx cy := by
  obtain ⟨h1, h2, h3, h4, h5, ⟨m1, m2, m3, m4, m5, m6⟩, h7⟩ := hG
  refine B_new hF (NwA_kp hk (fun q hq => ⟨?_, ?_⟩) h2) (HiA_kp hk (fun t q t1 t2 hq => ?_) h3) (StA_kp hk ⟨by omega, by omega⟩ h4) hL m1 hdn m6 (fun t t1 t2 => m4 t t1 t2) h7 (fun q hq => ⟨fun g => ⟨((hM q hq).1 g).2.1, ((hM q hq).1 g).2.2⟩, fun g => ((hM q hq).2 g).2⟩) hnew hSA hsq hstep hch (fun q hq2 => ((hM q (hq.1 q hq2).1).2 (hq.1 q hq2).2).2.1) hq.2 hmv
  · unfold glM; split <;> omega
  · unfold grM; split <;> omega
  · have := m4 t t1 t2; omega
end
theorem bk_q0 {g : Nat} {md : Nat → Nat} {qs : List Nat} (h : (∀ q ∈ qs, q < g ∧ ¬ md q = 0) ∧ ∀ q, q < g → ¬ md q = 0 → q ∈ qs) (hm : md g = 0) : (∀ q ∈ qs, q < g + 1 ∧ ¬ md q = 0) ∧ ∀ q, q < g + 1 → ¬ md q = 0 → q ∈ qs :=
  ⟨fun q hq => ⟨by have := (h.1 q hq).1; omega, (h.1 q hq).2⟩, fun q hq hn => by
    by_cases e : q = g
    · rw [e] at hn; exact absurd hm hn
    · exact h.2 q (by omega) hn⟩
theorem bk_q1 {g : Nat} {md : Nat → Nat} {qs : List Nat} (h : (∀ q ∈ qs, q < g ∧ ¬ md q = 0) ∧ ∀ q, q < g → ¬ md q = 0 → q ∈ qs) (hm : ¬ md g = 0) : (∀ q ∈ g :: qs, q < g + 1 ∧ ¬ md q = 0) ∧ ∀ q, q < g + 1 → ¬ md q = 0 → q ∈ g :: qs :=
  ⟨fun q hq => by
    rcases List.mem_cons.mp hq with e | e
    · rw [e]; exact ⟨by omega, hm⟩
    · exact ⟨by have := (h.1 q e).1; omega, (h.1 q e).2⟩, fun q hq hn => by
    by_cases e : q = g
    · rw [e]; exact List.mem_cons_self ..
    · exact List.mem_cons_of_mem _ (h.2 q (by omega) hn)⟩
section
variable {cO : ClassId} {L L1 : List Nat} {f f1 : Nat → va_E} {own own1 : Nat → Nat} {e0 ea n sq cap : Nat} {SA SA1 : Nat → Option Nat}
theorem LsA_3 (h : LsA cO L f own e0 ea n SA) : (ea = e0 ∧ n = 0) ∨ (∃ cap : Nat, ce L f own 8002 ea (.inl (cO, cap, .inr (.inr (.inr (.inr SA))))) ∧ n < cap ∧ 10 ≤ cap ∧ cap ≤ 1000 ∧ ∀ i, i < n → ∃ (y : Nat) (vs : List Value), SA i = some y ∧ ce L f own 8001 y (.inr (11, vs))) ∨
    (ce L f own 8002 ea (.inl (cO, n, .inr (.inr (.inr (.inr SA))))) ∧ 10 ≤ n ∧ ∀ i, i < n → ∃ (y : Nat) (vs : List Value), SA i = some y ∧ ce L f own 8001 y (.inr (11, vs))) := by
  rcases h with h | ⟨cap, h1, h2, h3, h4, h5⟩
  · exact Or.inl h
  · by_cases e : n = cap
    · subst e; exact Or.inr (Or.inr ⟨h1, h3, h5⟩)
    · exact Or.inr (Or.inl ⟨cap, h1, by omega, h3, h4, h5⟩)
theorem LsA_add {vs : List Value} (hc : ce L1 f1 own1 8002 ea (.inl (cO, cap, .inr (.inr (.inr (.inr SA1)))))) (h1 : n + 1 ≤ cap) (h2 : 10 ≤ cap) (h3 : cap ≤ 1000) (hk : kpT (fun g => g ≠ 8002) L f own L1 f1 own1) (he : ∀ i, i < n → ∃ (y : Nat) (vs : List Value), SA i = some y ∧ ce L f own 8001 y (.inr (11, vs))) (hS : ∀ i, i < n → SA1 i = SA i) (hs : SA1 n = some sq) (hst : ce L1 f1 own1 8001 sq (.inr (11, vs))) : LsA cO L1 f1 own1 e0 ea (n + 1) SA1 :=
  Or.inr ⟨cap, hc, h1, h2, h3, fun i hi => by
    by_cases e : i = n
    · subst e; exact ⟨sq, vs, hs, hst⟩
    · obtain ⟨y, v, g1, g2⟩ := he i (by omega)
      exact ⟨y, v, by rw [hS i (by omega)]; exact g1, hk _ _ _ (by omega) g2⟩⟩
theorem up_oN {f : Nat → Option Nat} {k : Nat} {v : Option Nat} : ∀ i, i < k → va_up f k v i = f i := fun i hi => by unfold va_up; rw [if_neg (by omega)]
theorem up_atN {f : Nat → Option Nat} {k : Nat} {v : Option Nat} : va_up f k v k = v := by unfold va_up; rw [if_pos rfl]
theorem up_cpy {f g : Nat → Option Nat} {k : Nat} {v : Option Nat} : ∀ i, i < k → va_up (va_cpy f g 0 0 k) k v i = f i := fun i hi => by
  rw [up_oN i hi]; unfold va_cpy; rw [if_pos (by omega)]; congr 1; omega
end
