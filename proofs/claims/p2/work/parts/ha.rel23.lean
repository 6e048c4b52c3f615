/-! CHOOSE by the class: the roads in their order, the groups of their ends -/
theorem cntP_cg {P Q : Nat → Prop} : ∀ {n : Nat}, (∀ q, q < n → (P q ↔ Q q)) → cntP P n = cntP Q n := by
  intro n
  induction n with
  | zero => intro _; rfl
  | succ n ih =>
    intro h
    have e := ih (fun q hq => h q (by omega))
    by_cases p : P n
    · rw [cntP_y p, cntP_y ((h n (by omega)).mp p), e]
    · rw [cntP_n p, cntP_n (fun q => p ((h n (by omega)).mpr q)), e]
theorem cntP_ins {P : Nat → Prop} {a : Nat} : ∀ {n : Nat}, a < n → ¬ P a → cntP (fun q => P q ∨ q = a) n = cntP P n + 1 := by
  intro n
  induction n with
  | zero => intro h; exact absurd h (Nat.not_lt_zero _)
  | succ n ih =>
    intro ha hn
    by_cases e : a = n
    · have e2 : cntP (fun q => P q ∨ q = a) n = cntP P n := cntP_cg (fun q hq => ⟨fun h => h.resolve_right (by omega), Or.inl⟩)
      rw [cntP_y (P := fun q => P q ∨ q = a) (Or.inr e.symm), cntP_n (by rw [← e]; exact hn), e2]
    · have e2 := ih (by omega) hn
      by_cases p : P n
      · rw [cntP_y (P := fun q => P q ∨ q = a) (Or.inl p), cntP_y p, e2]
      · rw [cntP_n (P := fun q => P q ∨ q = a) (fun h => h.elim p (fun g => e g.symm)), cntP_n p, e2]
def rdG (rd : Nat → Nat) (M : Nat → Prop) (i q : Nat) : Prop := (∃ k, k < i ∧ rd k = q) ∧ M q
section
variable {rd : Nat → Nat} {M : Nat → Prop} {i n ft : Nat} {x : Int32} {a : Nat → Int32}
theorem rdG_s (h : M (rd i)) : ∀ q, rdG rd M (i + 1) q ↔ (rdG rd M i q ∨ q = rd i) := by
  intro q
  constructor
  · rintro ⟨⟨k, hk, e⟩, m⟩
    rcases Nat.lt_or_ge k i with g | g
    · exact Or.inl ⟨⟨k, g, e⟩, m⟩
    · exact Or.inr (by rw [← e, show k = i by omega])
  · rintro (⟨⟨k, hk, e⟩, m⟩ | e)
    · exact ⟨⟨k, by omega, e⟩, m⟩
    · exact ⟨⟨i, by omega, e.symm⟩, by rw [e]; exact h⟩
theorem rdG_n (h : ¬ M (rd i)) : rdG rd M i = rdG rd M (i + 1) := by
  funext q
  apply propext
  constructor
  · rintro ⟨⟨k, hk, e⟩, m⟩
    exact ⟨⟨k, by omega, e⟩, m⟩
  · rintro ⟨⟨k, hk, e⟩, m⟩
    rcases Nat.lt_or_ge k i with g | g
    · exact ⟨⟨k, g, e⟩, m⟩
    · exact absurd (by rw [show i = k by omega, e]; exact m) h
theorem rdG_f (hf : ∀ k, k < i → rd k ≠ rd i) : ¬ rdG rd M i (rd i) := fun ⟨⟨k, hk, e⟩, _⟩ => hf k hk e
theorem gnG_y (h : M (rd i)) (hi : rd i < ft) : upd (gnA (rdG rd M i) ft x a) (rd i) x = gnA (rdG rd M (i + 1)) ft x a := by
  funext q
  unfold upd gnA
  by_cases e : q = rd i
  · rw [if_pos e, if_pos ⟨by omega, (rdG_s h q).mpr (Or.inr e)⟩]
  · rw [if_neg e]
    by_cases p : q < ft ∧ rdG rd M i q
    · rw [if_pos p, if_pos ⟨p.1, (rdG_s h q).mpr (Or.inl p.2)⟩]
    · rw [if_neg p, if_neg (fun g => p ⟨g.1, ((rdG_s h q).mp g.2).resolve_right e⟩)]
theorem gnG_0 : gnA (rdG rd M 0) ft x a = a := by
  funext q
  unfold gnA
  rw [if_neg (fun h => by obtain ⟨_, ⟨k, hk, _⟩, _⟩ := h; omega)]
theorem gnG_o {q : Nat} (hf : ¬ rdG rd M i q) : gnA (rdG rd M i) ft x a q = a q := by
  unfold gnA
  rw [if_neg (fun h => hf h.2)]
theorem gnG_e (h : ∀ q, q < ft → M q → ∃ k, k < n ∧ rd k = q) : gnA (rdG rd M n) ft x a = gnA M ft x a := by
  funext q
  unfold gnA
  by_cases p : q < ft ∧ M q
  · rw [if_pos p, if_pos ⟨p.1, h q p.1 p.2, p.2⟩]
  · rw [if_neg p, if_neg (fun g => p ⟨g.1, g.2.2⟩)]
theorem cnG_0 : cntP (rdG rd M 0) ft = 0 := by
  have h : ∀ n, cntP (rdG rd M 0) n = 0 := by
    intro n
    induction n with
    | zero => rfl
    | succ n ih => rw [cntP_n (fun h => by obtain ⟨⟨k, hk, _⟩, _⟩ := h; omega), ih]
  exact h ft
theorem cnG_y (h : M (rd i)) (hi : rd i < ft) (hf : ∀ k, k < i → rd k ≠ rd i) : cntP (rdG rd M (i + 1)) ft = cntP (rdG rd M i) ft + 1 := by
  rw [← cntP_ins hi (rdG_f hf)]
  exact cntP_cg (fun q _ => rdG_s h q)
theorem cnG_e (h : ∀ q, q < ft → M q → ∃ k, k < n ∧ rd k = q) : cntP (rdG rd M n) ft = cntP M ft := cntP_cg (fun q hq => ⟨fun g => g.2, fun g => ⟨h q hq g, g⟩⟩)
end
/-- the roads among the first g, the lightest first -/
def rdS (R : Nat → Prop) (T : Nat → Nat) (g n : Nat) (rd : Nat → Nat) : Prop := (∀ k, k < n → R (rd k) ∧ rd k < g) ∧ (∀ q, q < g → R q → ∃ k, k < n ∧ rd k = q) ∧ (∀ j k, j < k → k < n → bef T (rd j) (rd k))
def insN (rd : Nat → Nat) (p g k : Nat) : Nat := if k < p then rd k else if k = p then g else rd (k - 1)
section
variable {R : Nat → Prop} {T : Nat → Nat} {g n p k i ft : Nat} {rd : Nat → Nat}
theorem insN_lt (h : k < p) : insN rd p g k = rd k := if_pos h
theorem insN_at : insN rd p g p = g := by unfold insN; rw [if_neg (by omega), if_pos rfl]
theorem insN_gt (h : p < k) : insN rd p g k = rd (k - 1) := by unfold insN; rw [if_neg (by omega), if_neg (by omega)]
theorem insN_c (rd : Nat → Nat) (p g k : Nat) : (k < p ∧ insN rd p g k = rd k) ∨ (k = p ∧ insN rd p g k = g) ∨ (p < k ∧ insN rd p g k = rd (k - 1)) := by
  rcases Nat.lt_trichotomy k p with h | h | h
  · exact Or.inl ⟨h, insN_lt h⟩
  · subst h; exact Or.inr (Or.inl ⟨rfl, insN_at⟩)
  · exact Or.inr (Or.inr ⟨h, insN_gt h⟩)
theorem rdS_0 : rdS R T 0 0 rd := ⟨fun k hk => absurd hk (Nat.not_lt_zero _), fun q hq => absurd hq (Nat.not_lt_zero _), fun j k _ hk => absurd hk (Nat.not_lt_zero _)⟩
theorem rdS_skip (h : rdS R T g n rd) (hR : ¬ R g) : rdS R T (g + 1) n rd :=
  ⟨fun k hk => ⟨(h.1 k hk).1, by have := (h.1 k hk).2; omega⟩, fun q hq r => h.2.1 q (by have : q ≠ g := fun e => hR (by rw [← e]; exact r); omega) r, h.2.2⟩
theorem rdS_ins (h : rdS R T g n rd) (hR : R g) (hp : p ≤ n) (h1 : ∀ k, k < p → T (rd k) ≤ T g) (h2 : ∀ k, p ≤ k → k < n → T g < T (rd k)) : rdS R T (g + 1) (n + 1) (insN rd p g) := by
  refine ⟨fun k hk => ?_, fun q hq r => ?_, fun j k hjk hk => ?_⟩
  · rcases insN_c rd p g k with ⟨a, e⟩ | ⟨a, e⟩ | ⟨a, e⟩
    · rw [e]; have := h.1 k (by omega); exact ⟨this.1, by omega⟩
    · rw [e]; exact ⟨hR, by omega⟩
    · rw [e]; have := h.1 (k - 1) (by omega); exact ⟨this.1, by omega⟩
  · by_cases e : q = g
    · exact ⟨p, by omega, by rw [insN_at, e]⟩
    · obtain ⟨k, hk, e2⟩ := h.2.1 q (by omega) r
      rcases Nat.lt_or_ge k p with a | a
      · exact ⟨k, by omega, by rw [insN_lt a, e2]⟩
      · exact ⟨k + 1, by omega, by rw [insN_gt (by omega), Nat.add_sub_cancel, e2]⟩
  · rcases insN_c rd p g j with ⟨a, e⟩ | ⟨a, e⟩ | ⟨a, e⟩
    · rcases insN_c rd p g k with ⟨b, e2⟩ | ⟨b, e2⟩ | ⟨b, e2⟩
      · rw [e, e2]; exact h.2.2 j k hjk (by omega)
      · rw [e, e2]; have b1 := h1 j a; have b2 := (h.1 j (by omega)).2; unfold bef; omega
      · rw [e, e2]; exact h.2.2 j (k - 1) (by omega) (by omega)
    · rcases insN_c rd p g k with ⟨b, e2⟩ | ⟨b, e2⟩ | ⟨b, e2⟩
      · omega
      · omega
      · rw [e, e2]; exact Or.inl (h2 (k - 1) (by omega) (by omega))
    · rcases insN_c rd p g k with ⟨b, e2⟩ | ⟨b, e2⟩ | ⟨b, e2⟩
      · omega
      · omega
      · rw [e, e2]; exact h.2.2 (j - 1) (k - 1) (by omega) (by omega)
theorem rdS_f (h : rdS R T ft n rd) (hi : i < n) : ∀ k, k < i → rd k ≠ rd i := fun k hk e => by
  have := h.2.2 k i hk hi
  rw [e] at this
  unfold bef at this
  omega
theorem rdS_D (h : rdS R T ft n rd) (hR : ∀ q, R q → q < ft) (hi : i < n) : ∀ q, (∃ k, k < i ∧ rd k = q) ↔ (R q ∧ bef T q (rd i)) := by
  intro q
  constructor
  · rintro ⟨k, hk, e⟩
    subst e
    exact ⟨(h.1 k (by omega)).1, h.2.2 k i hk hi⟩
  · rintro ⟨r, b⟩
    obtain ⟨k, hk, e⟩ := h.2.1 q (hR q r) r
    refine ⟨k, ?_, e⟩
    rcases Nat.lt_trichotomy k i with c | c | c
    · exact c
    · subst c; subst e; unfold bef at b; omega
    · have d := h.2.2 i k c hk
      subst e
      unfold bef at b d
      omega
theorem rdS_so (h : rdS R T ft n rd) : ∀ j k, j ≤ k → k < n → T (rd j) ≤ T (rd k) := by
  intro j k hjk hk
  rcases Nat.lt_or_ge j k with c | c
  · have d := h.2.2 j k c hk
    unfold bef at d
    omega
  · rw [show j = k by omega]; exact Nat.le_refl _
end
/-- each end's group is the first end that lies there -/
def grI (P : Nat → Int32 × Int32) (G : Nat → Int32) (m : Nat) : Prop := ∀ j, j < m → ∃ k, k ≤ j ∧ G j = nI k ∧ P k = P j ∧ ∀ i, i < k → ¬ P i = P j
theorem grI_chI {b e P : Nat → Int32 × Int32} {G : Nat → Int32} {m : Nat} (hm : m < 1000) (h : grI P G m) : chI (fun _ => False) b e P G m := by
  have eq : ∀ {p r : Int32 × Int32}, chE (fun _ => False) b e p r → p = r := fun a => a (fun p r => p = r) (fun _ => rfl) (fun _ h => h.elim) (fun _ _ g => g.symm) (fun _ _ _ g1 g2 => g1.trans g2)
  refine ⟨fun i hi j hj => ⟨fun g => ?_, fun g => ?_⟩, fun i hi => ?_, fun q h => h.elim⟩
  · obtain ⟨k, k1, k2, k3, k4⟩ := h i hi
    obtain ⟨l, l1, l2, l3, l4⟩ := h j hj
    rw [k2, l2] at g
    have e9 := nI_ij (by omega) (by omega) g
    subst e9
    rw [k3.symm.trans l3]
    exact .rf _
  · have e9 := eq g
    obtain ⟨k, k1, k2, k3, k4⟩ := h i hi
    obtain ⟨l, l1, l2, l3, l4⟩ := h j hj
    rw [k2, l2]
    rcases Nat.lt_trichotomy k l with q | q | q
    · exact absurd (k3.trans e9) (l4 k q)
    · rw [q]
    · exact absurd (l3.trans e9.symm) (k4 l q)
  · obtain ⟨k, k1, k2, _⟩ := h i hi
    exact ⟨k, by omega, k2⟩
theorem grI_s {EX EY G : Nat → Int32} {m k : Nat} {px py : Int32} (h : grI (fun i => (EX i, EY i)) G m) (hk : k ≤ m) (hp : (upd EX m px k).toInt = px.toInt ∧ (upd EY m py k).toInt = py.toInt) (hn : ∀ i, i < k → ¬ ((upd EX m px i).toInt = px.toInt ∧ (upd EY m py i).toInt = py.toInt)) : grI (fun i => (upd EX m px i, upd EY m py i)) (upd G m (nI k)) (m + 1) := by
  intro j hj
  have o : ∀ i, i < m → upd EX m px i = EX i ∧ upd EY m py i = EY i := fun i hi => ⟨if_neg (by omega), if_neg (by omega)⟩
  rcases Nat.lt_or_ge j m with g | g
  · obtain ⟨l, l1, l2, l3, l4⟩ := h j g
    refine ⟨l, l1, by rw [show upd G m (nI k) j = G j from if_neg (by omega)]; exact l2, ?_, fun i hi => ?_⟩
    · show (upd EX m px l, upd EY m py l) = (upd EX m px j, upd EY m py j)
      rw [(o l (by omega)).1, (o l (by omega)).2, (o j g).1, (o j g).2]; exact l3
    · show ¬ (upd EX m px i, upd EY m py i) = (upd EX m px j, upd EY m py j)
      rw [(o i (by omega)).1, (o i (by omega)).2, (o j g).1, (o j g).2]; exact l4 i hi
  · obtain rfl : j = m := by omega
    refine ⟨k, hk, up_at _ _ _, ?_, fun i hi q => hn i hi ?_⟩
    · show (upd EX j px k, upd EY j py k) = (upd EX j px j, upd EY j py j)
      rw [up_at, up_at]; exact ptE hp.1 hp.2
    · have q : (upd EX j px i, upd EY j py i) = (upd EX j px j, upd EY j py j) := q
      rw [up_at, up_at] at q
      rw [(Prod.mk.inj q).1, (Prod.mk.inj q).2]; exact ⟨rfl, rfl⟩
theorem grI_cg {P Q : Nat → Int32 × Int32} {G H : Nat → Int32} {m m1 : Nat} (e : m1 = m) (h : grI P G m) (hP : P = Q) (hG : G = H) : grI Q H m1 := by rw [e, ← hP, ← hG]; exact h
/-- one road more was looked at -/
theorem chO_s {b e P : Nat → Int32 × Int32} {gr gs : Nat → Int32} {pc i : Nat} {rd : Nat → Nat} (h : chI (fun q => ∃ k, k < i ∧ rd k = q) b e P gr pc) (hi : 2 * i + 1 < pc) (e0 : P (2 * i) = b (rd i)) (e1 : P (2 * i + 1) = e (rd i)) (hs : ∀ k, k < pc → gs k = if gr k = gr (2 * i + 1) then gr (2 * i) else gr k) : chI (fun q => ∃ k, k < i + 1 ∧ rd k = q) b e P gs pc := by
  refine chI_cg (chI_un h (by omega) hi e0 e1 hs) (fun q => ⟨?_, ?_⟩) (fun i hi => ⟨rfl, rfl⟩)
  · rintro ⟨k, hk, e9⟩
    rcases Nat.lt_or_ge k i with g | g
    · exact Or.inl ⟨k, g, e9⟩
    · exact Or.inr (by rw [← e9, show k = i by omega])
  · rintro (⟨k, hk, e9⟩ | e9)
    · exact ⟨k, by omega, e9⟩
    · exact ⟨i, by omega, e9.symm⟩
theorem chO_0 {b e P : Nat → Int32 × Int32} {gr : Nat → Int32} {pc : Nat} {rd : Nat → Nat} (h : chI (fun _ => False) b e P gr pc) : chI (fun q => ∃ k, k < 0 ∧ rd k = q) b e P gr pc :=
  chI_cg h (fun q => ⟨fun ⟨k, hk, _⟩ => absurd hk (Nat.not_lt_zero _), fun g => g.elim⟩) (fun i hi => ⟨rfl, rfl⟩)
theorem unG_n {g2 gb : Nat → Int32} {A B : Int32} {k : Nat} (h : ∀ j, j < k → g2 j = if gb j = B then A else gb j) (h2 : g2 k = gb k) (e : ¬ (g2 k).toInt = B.toInt) : ∀ j, j < k + 1 → g2 j = if gb j = B then A else gb j := by
  intro j hj
  rcases Nat.lt_or_ge j k with q | q
  · exact h j q
  · obtain rfl : j = k := by omega
    rw [if_neg (by rw [← h2]; exact fun g => e (by rw [g])), h2]
theorem vup_o {f : Nat → Option Nat} {k j : Nat} {v : Option Nat} (h : j ≠ k) : va_up f k v j = f j := by unfold va_up; rw [if_neg h]
/-- a feature's cell, whatever it holds -/
def feC (L : List Nat) (f : Nat → va_E) (a : Nat) : Prop := ∃ v1 v2 v3 v4 v5 v6 v7 v8 : Value, a ∈ L ∧ f a = .inr (1, [v1, v2, v3, v4, v5, v6, v7, v8])
theorem ins_s {RA RAk : Nat → Option Nat} {WT WTk : Nat → Int32} {wt : Nat → Nat} {n j w a : Nat} (h1 : ∀ k, k < j + 1 → RAk k = RA k ∧ WTk k = WT k) (h2 : ∀ k, j + 1 ≤ k → k < n → RAk (k + 1) = RA k ∧ WTk (k + 1) = WT k ∧ w < wt k) (ha : RAk j = some a) (hw : WTk j = nI (wt j)) (hl : w < wt j) :
    (∀ k, k < j → va_up RAk (j + 1) (some a) k = RA k ∧ upd WTk (j + 1) (nI (wt j)) k = WT k) ∧ ∀ k, j ≤ k → k < n → va_up RAk (j + 1) (some a) (k + 1) = RA k ∧ upd WTk (j + 1) (nI (wt j)) (k + 1) = WT k ∧ w < wt k := by
  refine ⟨fun k hk => ⟨(vup_o (by omega)).trans (h1 k (by omega)).1, (if_neg (by omega)).trans (h1 k (by omega)).2⟩, fun k hk hn => ?_⟩
  rcases Nat.lt_or_ge j k with g | g
  · have := h2 k (by omega) hn
    exact ⟨(vup_o (by omega)).trans this.1, (if_neg (by omega)).trans this.2.1, this.2.2⟩
  · obtain rfl : k = j := by omega
    exact ⟨up_atN.trans (ha.symm.trans (h1 k (by omega)).1), (up_at _ _ _).trans (hw.symm.trans (h1 k (by omega)).2), hl⟩
theorem ins_e {RA RAk : Nat → Option Nat} {WT WTk : Nat → Int32} {wt : Nat → Nat} {n p w q : Nat} (h1 : ∀ k, k < p → RAk k = RA k ∧ WTk k = WT k) (h2 : ∀ k, p ≤ k → k < n → RAk (k + 1) = RA k ∧ WTk (k + 1) = WT k ∧ w < wt k) (hl : ∀ k, k < p → wt k ≤ w) :
    (∀ k, k < p → va_up RAk p (some q) k = RA k ∧ upd WTk p (nI w) k = WT k ∧ wt k ≤ w) ∧ (va_up RAk p (some q) p = some q ∧ upd WTk p (nI w) p = nI w) ∧ ∀ k, p ≤ k → k < n → va_up RAk p (some q) (k + 1) = RA k ∧ upd WTk p (nI w) (k + 1) = WT k ∧ w < wt k := by
  refine ⟨fun k hk => ⟨(vup_o (by omega)).trans (h1 k hk).1, (if_neg (by omega)).trans (h1 k hk).2, hl k hk⟩, ⟨up_atN, up_at _ _ _⟩, fun k hk hn => ?_⟩
  have := h2 k hk hn
  exact ⟨(vup_o (by omega)).trans this.1, (if_neg (by omega)).trans this.2.1, this.2.2⟩
theorem chW_i {rk : Int32} {l : Nat} (h : 0 ≤ rk.toInt ∧ rk.toInt ≤ 9) : (rk + 1) * nI l = nI ((rk.toInt.toNat + 1) * l) := by
  have e : rk = nI rk.toInt.toNat := Int32.toInt_inj.mp (by rw [nI_toInt (by omega)]; omega)
  have e2 : rk + 1 = nI (rk.toInt.toNat + 1) := by
    conv => lhs; rw [e]
    exact nI_add _ 1
  rw [e2, pk_mul]
theorem upo9 {m : Nat → Int32} {k j : Nat} {x : Int32} (h : j ≠ k) : upd m k x j = m j := if_neg h
theorem chL_e {mn cx cy : Nat → Int32} {q : Nat} (h : 1 ≤ nN (mn q)) : (cF40 cx q (nN (mn q) - 1), cF40 cy q (nN (mn q) - 1)) = chL mn cx cy q := by
  show (cx (40 * q + (nN (mn q) - 1)), cy (40 * q + (nN (mn q) - 1))) = (cx (40 * q + nN (mn q) - 1), cy (40 * q + nN (mn q) - 1))
  rw [show 40 * q + (nN (mn q) - 1) = 40 * q + nN (mn q) - 1 by omega]
theorem feC_F {cI : ClassId} {L : List Nat} {f : Nat → va_E} {own fe nw cl : Nat → Nat} {fm : Nat → Value} {fN q : Nat} {rk wd tw pa pb : Nat → Int32} (h : FeA cI L f own fN fe nw cl fm rk wd tw pa pb) (hq : q < fN) : feC L f (fe q) := by
  obtain ⟨lo, lx, ly, ln, LX, LY, h1, _⟩ := h q hq
  exact ⟨_, _, _, _, _, _, _, _, ce_pl h1⟩
theorem unG_s {gr : Nat → Int32} {A B : Int32} (h : A.toInt = B.toInt) (k : Nat) : gr k = if gr k = B then A else gr k := by
  by_cases e : gr k = B
  · rw [if_pos e, e, Int32.toInt_inj.mp h]
  · rw [if_neg e]
