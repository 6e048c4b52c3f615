/-! how much there can be: features, corners, kept sheets -/
def smN (c : Nat → Nat) : Nat → Nat
  | 0 => 0
  | n + 1 => smN c n + c n
theorem smN_le (c : Nat → Nat) {a b : Nat} (h : a ≤ b) : smN c a ≤ smN c b := by
  induction b with
  | zero => rw [show a = 0 by omega]; exact Nat.le_refl _
  | succ b ih =>
    rcases Nat.lt_or_ge a (b + 1) with g | g
    · have := ih (by omega); show _ ≤ smN c b + c b; omega
    · rw [show a = b + 1 by omega]; exact Nat.le_refl _
theorem smN_up (c : Nat → Nat) {f : Nat} : ∀ n, smN (upN c f (c f + 1)) n ≤ smN c n + 1 ∧ (n ≤ f → smN (upN c f (c f + 1)) n = smN c n) := by
  intro n
  induction n with
  | zero => exact ⟨Nat.zero_le _, fun _ => rfl⟩
  | succ n ih =>
    obtain ⟨h1, h2⟩ := ih
    show smN (upN c f (c f + 1)) n + upN c f (c f + 1) n ≤ smN c n + c n + 1 ∧ (n + 1 ≤ f → smN (upN c f (c f + 1)) n + upN c f (c f + 1) n = smN c n + c n)
    by_cases e : n = f
    · rw [h2 (by omega), e, upN_at]; exact ⟨by omega, fun g => by omega⟩
    · rw [upN_o e]; exact ⟨by omega, fun g => by rw [h2 (by omega)]⟩
/-- THERE, and all, against what was begun and done; corners against what was told -/
def bdC (cc : Nat → Nat) (AD F : Nat) (k s m tn : Nat → Int32) : Prop := cntP (fun q => (s q).toInt = 1) F + F ≤ AD ∧ ∀ q, q < F → (tn q).toInt = 0 → nN (m q) ≤ 4 + cc q ∧ ((k q).toInt ≤ 5 → nN (m q) ≤ cc q)
section
variable {cc cc1 : Nat → Nat} {AD AD1 C F ft f : Nat} {k s m tn kd kd1 st st1 mn mn1 tn1 : Nat → Int32}
theorem bdC_F (h : bdC cc AD F k s m tn) : F ≤ AD := by have := h.1; omega
theorem bdC_ps (h : bdC cc AD F k s m tn) {w : Nat} : ∀ g, g ≤ F → psN (nnF s tn m) w g ≤ w + 1 + 18 * g + 2 * smN cc g := by
  intro g
  induction g with
  | zero => intro _; show w + 1 ≤ _; omega
  | succ g ih =>
    intro hg
    have h1 := ih (by omega)
    have h2 : nnF s tn m g ≤ 4 + cc g := by
      unfold nnF
      by_cases c : (tn g).toInt = 0 ∧ ¬ (s g).toInt = 0
      · rw [if_pos c]; exact (h.2 g (by omega) c.1).1
      · rw [if_neg c]; omega
    show psN (nnF s tn m) w g + (10 + 2 * nnF s tn m g) ≤ w + 1 + 18 * (g + 1) + 2 * (smN cc g + cc g)
    omega
theorem bdC_p2 (h : bdC cc AD F k s m tn) (h200 : F ≤ 200) (hC : smN cc 200 ≤ C) {w : Nat} : psN (nnF s tn m) w F ≤ w + (1 + 18 * AD + 2 * C) := by
  have h1 := bdC_ps h (w := w) F (Nat.le_refl _)
  have h2 := smN_le cc h200
  have h3 := bdC_F h
  omega
theorem bdC_mono (h : bdC cc AD F k s m tn) (hA : AD ≤ AD1) (hc : ∀ q, cc q ≤ cc1 q) : bdC cc1 AD1 F k s m tn := ⟨Nat.le_trans h.1 hA, fun q hq ht => ⟨Nat.le_trans (h.2 q hq ht).1 (by have := hc q; omega), fun g => Nat.le_trans ((h.2 q hq ht).2 g) (hc q)⟩⟩
theorem bdC_cg (h : bdC cc AD F kd st mn tn) (hs : ∀ q, q < F → (st1 q).toInt = 1 → (st q).toInt = 1) (hm : ∀ q, q < F → (tn1 q).toInt = 0 → ((tn q).toInt = 0 ∧ kd1 q = kd q ∧ nN (mn1 q) ≤ nN (mn q)) ∨ ((kd1 q).toInt = 6 ∧ nN (mn1 q) ≤ 4)) : bdC cc AD F kd1 st1 mn1 tn1 := by
  refine ⟨Nat.le_trans (Nat.add_le_add_right ?_ _) h.1, fun q hq ht => ?_⟩
  · have e : cntP (fun q => (st1 q).toInt = 1) F = cntP (fun q => q < F ∧ (st1 q).toInt = 1) F := cntP_cg (fun q hq => ⟨fun g => ⟨hq, g⟩, fun g => g.2⟩)
    rw [e]
    exact cntP_le (fun q g => hs q g.1 g.2) F
  · rcases hm q hq ht with ⟨g1, g2, g3⟩ | ⟨g1, g2⟩
    · rw [g2]; exact ⟨Nat.le_trans g3 (h.2 q hq g1).1, fun g => Nat.le_trans g3 ((h.2 q hq g1).2 g)⟩
    · exact ⟨by omega, fun g => by omega⟩
theorem cnt_o {a : Int32} (hf : F ≤ f) : cntP (fun q => (upd st f a q).toInt = 1) F = cntP (fun q => (st q).toInt = 1) F := cntP_cg (fun q hq => by rw [upo9 (show q ≠ f by omega)])
theorem cnt_1 {a : Int32} (hf : f < F) (h0 : ¬ (st f).toInt = 1) (ha : a.toInt = 1) : cntP (fun q => (upd st f a q).toInt = 1) F = cntP (fun q => (st q).toInt = 1) F + 1 := by
  rw [← cntP_ins (P := fun q => (st q).toInt = 1) hf h0]
  refine cntP_cg (fun q _ => ?_)
  by_cases e : q = f
  · rw [e, up_at]; exact ⟨fun _ => Or.inr rfl, fun _ => ha⟩
  · rw [upo9 e]; exact ⟨Or.inl, fun g => g.resolve_right e⟩
theorem cnt_0 {a : Int32} (hf : f < F) (h0 : (st f).toInt = 1) (ha : ¬ a.toInt = 1) : cntP (fun q => (upd st f a q).toInt = 1) F + 1 = cntP (fun q => (st q).toInt = 1) F := by
  rw [← cntP_ins (P := fun q => (upd st f a q).toInt = 1) hf (by rw [up_at]; exact ha)]
  refine cntP_cg (fun q _ => ?_)
  by_cases e : q = f
  · rw [e]; exact ⟨fun _ => h0, fun _ => Or.inr rfl⟩
  · rw [upo9 e]; exact ⟨fun g => g.resolve_right e, Or.inl⟩
theorem bdC_new {k1 : Int32} (h : bdC cc AD ft kd st mn tn) : bdC cc (AD + 1) (ft + 1) (upd kd ft k1) (upd st ft 0) (upd mn ft 0) (upd tn ft 0) := by
  refine ⟨?_, fun q hq ht => ?_⟩
  · rw [cntP_n (by rw [up_at]; decide), cnt_o (Nat.le_refl _)]
    have := h.1; omega
  · by_cases e : q = ft
    · rw [e, up_at, up_at]; have : nN (0 : Int32) = 0 := by decide
      omega
    · rw [upo9 e] at ht
      rw [upo9 e, upo9 e]; exact h.2 q (by omega) ht
theorem bdC_done (h : bdC cc AD ft kd st mn tn) (hf : f < ft) (hs : (st f).toInt = 0) : bdC cc (AD + 1) ft kd (upd st f 1) mn tn :=
  ⟨by rw [cnt_1 hf (by omega) (by decide)]; have := h.1; omega, h.2⟩
theorem bdC_cor (h : bdC cc AD ft kd st mn tn) (hn : nN (mn f) < 40) : bdC (upN cc f (cc f + 1)) AD ft kd st (upd mn f (nI (nN (mn f) + 1))) tn := by
  refine ⟨h.1, fun q hq ht => ?_⟩
  by_cases e : q = f
  · rw [e] at hq ht ⊢
    rw [up_at, upN_at, nN_nI (by omega)]; have := h.2 f hq ht; exact ⟨by omega, fun g => by have := this.2 g; omega⟩
  · rw [upo9 e, upN_o e]; exact h.2 q hq ht
theorem bdC_join {g : Nat} (h : bdC cc AD ft kd st mn tn) (hf : f < ft) (hg : g < ft) (hgf : g ≠ f) (hs : (st f).toInt = 1) (hs2 : (st g).toInt = 1) : bdC cc AD (ft + 1) (upd kd ft 6) (upd (upd (upd st f 2) g 2) ft 1) (upd mn ft 4) (upd tn ft 0) := by
  refine ⟨?_, fun q hq ht => ?_⟩
  · have c1 := cnt_0 (st := st) (a := 2) hf hs (by decide)
    have c2 := cnt_0 (st := upd st f 2) (a := 2) hg (by rw [upo9 hgf]; exact hs2) (by decide)
    rw [cntP_y (by rw [up_at]; decide), cnt_o (Nat.le_refl _)]
    have := h.1; omega
  · by_cases e : q = ft
    · rw [e, up_at, up_at]; have : nN (4 : Int32) = 4 := by decide
      exact ⟨by omega, fun g => absurd g (by decide)⟩
    · rw [upo9 e] at ht
      rw [upo9 e, upo9 e]; exact h.2 q (by omega) ht
end
