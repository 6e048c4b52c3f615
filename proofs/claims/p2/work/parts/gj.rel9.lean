/-! a step is taken back, or done again -/
theorem chn_ca {L : List Nat} {f : Nat → va_E} {own fe lb la : Nat → Nat} {v : Value} {qs : List Nat} (h : chn L f own fe lb la v qs) : (v = .null ∧ qs = []) ∨ ∃ (c q : Nat) (nx : Value) (r : List Nat), v = .ref c ∧ qs = q :: r ∧ ce L f own 8003 c (.inr (12, [.ref (fe q), .ref (lb q), .ref (la q), nx])) ∧ chn L f own fe lb la nx r := by
  cases qs with
  | nil => exact Or.inl ⟨h, rfl⟩
  | cons q r => obtain ⟨c, nx, h1, h2, h3⟩ := h; exact Or.inr ⟨c, q, nx, r, h1, rfl, h2, h3⟩
def tkI (qs qs5 : List Nat) (lb nw nw5 : Nat → Nat) : Prop := (∀ q, q ∈ qs5 → q ∈ qs) ∧ ∀ q, (q ∈ qs → q ∈ qs5 ∨ nw5 q = lb q) ∧ (q ∉ qs → nw5 q = nw q)
theorem tkI_0 (qs : List Nat) (lb nw : Nat → Nat) : tkI qs qs lb nw nw := ⟨fun _ h => h, fun _ => ⟨fun h => Or.inl h, fun _ => rfl⟩⟩
theorem tkI_s {qs r : List Nat} {lb nw nw5 : Nat → Nat} {q : Nat} (h : tkI qs (q :: r) lb nw nw5) : tkI qs r lb nw (upN nw5 q (lb q)) :=
  ⟨fun p hp => h.1 p (List.mem_cons_of_mem _ hp), fun p => ⟨fun hp => by
    by_cases e : p = q
    · rw [e, upN_at]; exact Or.inr rfl
    · rw [upN_o e]
      rcases (h.2 p).1 hp with g | g
      · rcases List.mem_cons.mp g with g | g
        · exact absurd g e
        · exact Or.inl g
      · exact Or.inr g, fun hp => by
    have e : p ≠ q := fun e => hp (h.1 p (by rw [e]; exact List.mem_cons_self ..))
    rw [upN_o e]; exact (h.2 p).2 hp⟩⟩
theorem tkI_e {qs : List Nat} {lb nw nw5 : Nat → Nat} (h : tkI qs [] lb nw nw5) : ∀ q, (q ∈ qs → nw5 q = lb q) ∧ (q ∉ qs → nw5 q = nw q) := fun q => ⟨fun hq => ((h.2 q).1 hq).resolve_left (fun g => by cases g), (h.2 q).2⟩
theorem ce_eq {L : List Nat} {f : Nat → va_E} {own : Nat → Nat} {g g2 a : Nat} {e e2 : va_E} (h : ce L f own g a e) (h2 : ce L f own g2 a e2) : g = g2 ∧ e = e2 := ⟨h.2.2.symm.trans h2.2.2, h.2.1.symm.trans h2.2.1⟩
theorem kp_out {P : Nat → Prop} {L : List Nat} {f : Nat → va_E} {own : Nat → Nat} {cs : va_W} (hn : ∀ c ∈ cs, ¬ P (own c.1)) : kpT P L f own (outPl L cs) f own := fun g a e hp h => ce_out h (fun c hc e2 => hn c hc (by rw [e2]; exact hp))
theorem kp_re {P : Nat → Prop} {L L2 L3 : List Nat} {f f2 f3 : Nat → va_E} {own : Nat → Nat} {cs : va_W} (h1 : kpT P (outPl L cs) f own L2 f2 own) (h2 : kpT P L2 f2 own L3 f3 own) (h3 : ∀ c ∈ cs, ∀ g e, ce L f own g c.1 e → ce L3 f3 own g c.1 e) : kpT P L f own L3 f3 own := fun g a e hp h => by
  by_cases q : a ∈ cs.map Prod.fst
  · obtain ⟨c, hc, e2⟩ := List.mem_map.mp q
    subst e2
    exact h3 c hc g e h
  · exact h2 g a e hp (h1 g a e hp ⟨outPl_mem.mpr ⟨h.1, q⟩, h.2⟩)
section
variable {cI cO : ClassId} {L L1 : List Nat} {f f1 : Nat → va_E} {own own1 : Nat → Nat} {fe cl nw nw1 : Nat → Nat} {fm : Nat → Value} {fN : Nat} {rk wd tw pa pb : Nat → Int32}
theorem FeA_cg (h : FeA cI L f own fN fe nw cl fm rk wd tw pa pb) (hq : ∀ q, q < fN → nw1 q = nw q) : FeA cI L f own fN fe nw1 cl fm rk wd tw pa pb := fun q h2 => by rw [hq q h2]; exact h q h2
theorem FeA_c {q : Nat} (h : FeA cI L f own fN fe nw cl (fun _ => .null) rk wd tw pa pb) (hq : q < fN) : ∃ lo, ce L f own (8 * q) (fe q) (.inr (1, [.int (rk q), .int (wd q), .int (tw q), .int (pa q), .int (pb q), .ref lo, .ref (nw q), .null])) := by
  obtain ⟨lo, lx, ly, ln, LX, LY, h1, _⟩ := h q hq; exact ⟨lo, h1⟩
theorem tk_F {g lo lb : Nat} {v : Nat} (hF : FeA cI L f own fN fe nw cl (fun _ => .null) rk wd tw pa pb) (hk : kpT (fun t => t ≠ 8 * g) L f own L1 f1 own1) (ho : ce L f own (8 * g) (fe g) (.inr (1, [.int (rk g), .int (wd g), .int (tw g), .int (pa g), .int (pb g), .ref lo, .ref v, .null]))) (hc : ce L1 f1 own1 (8 * g) (fe g) (.inr (1, [.int (rk g), .int (wd g), .int (tw g), .int (pa g), .int (pb g), .ref lo, .ref lb, .null]))) : FeA cI L1 f1 own1 fN fe (upN nw g lb) cl (fun _ => .null) rk wd tw pa pb := fun q hq => by
  have h := hF q hq
  by_cases e2 : q = g
  · subst e2
    obtain ⟨lo2, lx, ly, ln, LX, LY, h1, h2, h3⟩ := h
    have e3 : lo2 = lo := by
      have := h1.2.1.symm.trans ho.2.1
      simp at this
      exact this.1
    subst e3
    exact ⟨lo2, lx, ly, ln, LX, LY, by rw [upN_at]; exact hc, rwG_kp hk (by omega) h2, h3⟩
  · rw [upN_o e2]; exact feG_kp hk (by omega) (by omega) h
end
