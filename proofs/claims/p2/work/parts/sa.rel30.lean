/-! PLAINER and RUN keep a state sound, and how many corners they take -/
theorem smN_1 {c c1 : Nat → Nat} {g m : Nat} (hg : c1 g + m = c g) (ho : ∀ q, q ≠ g → c1 q = c q) : ∀ n, (g < n → smN c1 n + m = smN c n) ∧ (n ≤ g → smN c1 n = smN c n) := by
  intro n
  induction n with
  | zero => exact ⟨fun h => absurd h (Nat.not_lt_zero _), fun _ => rfl⟩
  | succ n ih =>
    show (g < n + 1 → smN c1 n + c1 n + m = smN c n + c n) ∧ (n + 1 ≤ g → smN c1 n + c1 n = smN c n + c n)
    refine ⟨fun h => ?_, fun h => ?_⟩
    · by_cases e : n = g
      · have h1 := ih.2 (by omega)
        rw [e] at h1 ⊢; omega
      · have h1 := ih.1 (by omega)
        rw [ho n e]; omega
    · rw [ih.2 (by omega), ho n (by omega)]
theorem smN_mono {c d : Nat → Nat} : ∀ n, (∀ q, q < n → c q ≤ d q) → smN c n ≤ smN d n := by
  intro n
  induction n with
  | zero => intro _; exact Nat.le_refl _
  | succ n ih =>
    intro h
    have h1 := ih (fun q hq => h q (by omega))
    have h2 := h n (by omega)
    show smN c n + c n ≤ smN d n + d n
    omega
noncomputable def rnC (ft : Nat) (st tn kd mn : Nat → Int32) (q : Nat) : Nat := @ite Nat (lvF ft st tn q ∧ ¬ (kd q).toInt = 0 ∧ ¬ (kd q).toInt = 6) (Classical.propDecidable _) (nN (mn q)) 0
section
variable {ft f L m n1 : Nat} {kd st tn mn it cx cy mn1 cx1 cy1 : Nat → Int32}
theorem pl_wf (h : wfS ft kd st tn mn it cx cy) (hl : lvF ft st tn f) (h0 : ¬ (kd f).toInt = 0) (h6 : ¬ (kd f).toInt = 6) (hp : plN ft st tn kd f L m mn cx cy (nN (mn f)) mn1 cx1 cy1 n1) : wfS ft kd st tn mn1 it cx1 cy1 ∧ (∀ q, q ≠ f → mn1 q = mn q) ∧ nN (mn1 f) + m = nN (mn f) := by
  have hk := (h f hl.1).1
  have hok := wfS_ok h
  have ho := okA_s hok hl (by omega) hp
  have he := plN_end _ _ _ _ _ _ _ _ _ (allI_p (okA_al hok) hl) hp
  have hn : nN (mn1 f) = n1 := by rw [he.1.1, nN_nI (by have := he.1.2.1; omega)]
  have hs := (ho f hl).2
  rw [hn] at hs
  exact ⟨wfS_row (m := 0) h hl he.2.2.1 he.2.2.2.1 he.1.1 he.1.2.1.2 he.1.2.2.1 hs, he.2.2.1, by rw [hn]; exact he.2.1⟩
theorem rn1_w {g : Nat} (h : wfS ft kd st tn mn it cx cy) (hr : rn1 ft st tn kd L g mn cx cy m mn1 cx1 cy1) : wfS ft kd st tn mn1 it cx1 cy1 ∧ smN (rnC ft st tn kd mn1) ft + m = smN (rnC ft st tn kd mn) ft ∧ ∀ q, nN (mn1 q) ≤ nN (mn q) ∧ (¬ lvF ft st tn q → mn1 q = mn q) := by
  by_cases b : lvF ft st tn g ∧ ¬ (kd g).toInt = 0 ∧ ¬ (kd g).toInt = 6
  · obtain ⟨n1, hp⟩ := hr.1 b
    obtain ⟨w1, w2, w3⟩ := pl_wf h b.1 b.2.1 b.2.2 hp
    refine ⟨w1, (smN_1 (g := g) ?_ (fun q hq => ?_) ft).1 b.1.1, fun q => ?_⟩
    · unfold rnC; rw [if_pos b, if_pos b]; exact w3
    · unfold rnC; rw [w2 q hq]
    · by_cases e : q = g
      · rw [e]; exact ⟨by omega, fun g => absurd b.1 g⟩
      · exact ⟨by rw [w2 q e]; exact Nat.le_refl _, fun _ => w2 q e⟩
  · obtain ⟨rfl, rfl, rfl, rfl⟩ := hr.2 b
    exact ⟨h, rfl, fun q => ⟨Nat.le_refl _, fun _ => rfl⟩⟩
end
section
variable {ft L : Nat} {kd st tn it : Nat → Int32}
theorem rnP_w : ∀ (j : Nat) (mn cx cy : Nat → Int32) (t : Nat) (mn1 cx1 cy1 : Nat → Int32), wfS ft kd st tn mn it cx cy → rnP ft st tn kd L j mn cx cy t mn1 cx1 cy1 → wfS ft kd st tn mn1 it cx1 cy1 ∧ smN (rnC ft st tn kd mn1) ft + t = smN (rnC ft st tn kd mn) ft ∧ ∀ q, nN (mn1 q) ≤ nN (mn q) ∧ (¬ lvF ft st tn q → mn1 q = mn q) := by
  intro j
  induction j with
  | zero =>
    intro mn cx cy t mn1 cx1 cy1 h hr
    obtain ⟨rfl, rfl, rfl, rfl⟩ := hr
    exact ⟨h, rfl, fun q => ⟨Nat.le_refl _, fun _ => rfl⟩⟩
  | succ j ih =>
    intro mn cx cy t mn1 cx1 cy1 h hr
    obtain ⟨m, mn2, cx2, cy2, t2, h1, h2, h3⟩ := hr
    obtain ⟨a1, a2, a3⟩ := rn1_w h h1
    obtain ⟨b1, b2, b3⟩ := ih _ _ _ _ _ _ _ a1 h2
    exact ⟨b1, by omega, fun q => ⟨Nat.le_trans (b3 q).1 (a3 q).1, fun g => ((b3 q).2 g).trans ((a3 q).2 g)⟩⟩
theorem rnA_w : ∀ (p : Nat) (mn cx cy : Nat → Int32) (t : Nat) (mn1 cx1 cy1 : Nat → Int32), wfS ft kd st tn mn it cx cy → rnA ft st tn kd L p mn cx cy t mn1 cx1 cy1 → wfS ft kd st tn mn1 it cx1 cy1 ∧ smN (rnC ft st tn kd mn1) ft + t = smN (rnC ft st tn kd mn) ft ∧ ∀ q, nN (mn1 q) ≤ nN (mn q) ∧ (¬ lvF ft st tn q → mn1 q = mn q) := by
  intro p
  induction p with
  | zero => intro mn cx cy t mn1 cx1 cy1 _ hr; exact absurd hr (fun g => g)
  | succ p ih =>
    intro mn cx cy t mn1 cx1 cy1 h hr
    obtain ⟨t2, mn2, cx2, cy2, h1, h2⟩ := hr
    obtain ⟨a1, a2, a3⟩ := rnP_w _ _ _ _ _ _ _ _ h h1
    rcases h2 with ⟨e1, e2, rfl, rfl, rfl⟩ | ⟨_, t3, h3, h4⟩
    · exact ⟨a1, by omega, a3⟩
    · obtain ⟨b1, b2, b3⟩ := ih _ _ _ _ _ _ _ a1 h3
      exact ⟨b1, by omega, fun q => ⟨Nat.le_trans (b3 q).1 (a3 q).1, fun g => ((b3 q).2 g).trans ((a3 q).2 g)⟩⟩
theorem rnC_le {cc : Nat → Nat} {AD : Nat} {mn : Nat → Int32} (h : bdC cc AD ft kd st mn tn) (hk : ∀ q, q < ft → (kd q).toInt ≤ 6) : smN (rnC ft st tn kd mn) ft ≤ smN cc ft := smN_mono ft (fun q hq => by
  unfold rnC
  by_cases b : lvF ft st tn q ∧ ¬ (kd q).toInt = 0 ∧ ¬ (kd q).toInt = 6
  · rw [if_pos b]; exact (h.2 q hq b.1.2.2).2 (by have := hk q hq; omega)
  · rw [if_neg b]; omega)
end
