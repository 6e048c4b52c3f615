/-! arrays that agree as far as features go -/
def agS (ft : Nat) (kd st gb it mn cx cy kd1 st1 gb1 it1 mn1 cx1 cy1 : Nat → Int32) : Prop :=
  ∀ q, q < ft → kd1 q = kd q ∧ st1 q = st q ∧ gb1 q = gb q ∧ it1 q = it q ∧ mn1 q = mn q ∧ ∀ k, k < 40 → cF40 cx1 q k = cF40 cx q k ∧ cF40 cy1 q k = cF40 cy q k
section
variable {cI cO : ClassId} {L : List Nat} {f : Nat → va_E} {e0 ea : Nat} {FA : Nat → Option Nat} {bs dn T ft : Nat} {FT : Nat → Nat} {V : Nat → Nat → Nat → Int32} {VX VY : Nat → Nat → Int32} {tn rk wd tw pa pb wh of9 we kd st gb it mn cx cy kd1 st1 gb1 it1 mn1 cx1 cy1 : Nat → Int32} {sa sh lb lc : Nat → Int32} {W cc : Nat → Nat} {K Sn AD C cp ln cl : Nat}
theorem shB_fx (h : shB cI cO L f e0 FA ea bs dn T ft FT V VX VY tn rk wd tw pa pb wh of9 we kd st gb it mn cx cy) : ∀ q, q < ft → ∃ a, FA q = some a := by
  obtain ⟨own, fe, cl, la, sp, SA, ⟨h1, h2, h3, h4, h5, h6, h7⟩, h8, h9⟩ := h
  exact fun q hq => ⟨_, h7 q hq⟩
theorem shB_cg (h : shB cI cO L f e0 FA ea bs dn T ft FT V VX VY tn rk wd tw pa pb wh of9 we kd st gb it mn cx cy) (hn : ∀ q, q < ft → (tn q).toInt = 0 → ¬ (st q).toInt = 0 → mn q = nI (nN (mn q)) ∧ nN (mn q) ≤ 40) (ha : agS ft kd st gb it mn cx cy kd1 st1 gb1 it1 mn1 cx1 cy1) : shB cI cO L f e0 FA ea bs dn T ft FT V VX VY tn rk wd tw pa pb wh of9 we kd1 st1 gb1 it1 mn1 cx1 cy1 := by
  obtain ⟨own, fe, cl, la, sp, SA, ⟨h1, h2, h3, h4, h5, h6, h7⟩, h8, h9⟩ := h
  refine ⟨own, fe, cl, la, sp, SA, ⟨h1, fun q hq => ?_, h3, h4, h5, h6, h7⟩, fun q hq => ?_, h9⟩
  · obtain ⟨a1, a2, a3, a4, a5, a6⟩ := ha q hq
    rw [a1, a2, a3, a4, a5]
    exact lkG_cg a6 (h2 q hq)
  · obtain ⟨a1, a2, a3, a4, a5, a6⟩ := ha q hq
    obtain ⟨b1, b2, b3, b4, b5⟩ := h8 q hq
    rw [a1, a2, a3, a4, a5]
    refine ⟨b1, b2, b3, b4, fun s t => ⟨(b5 s t).1, fun k hk => ?_⟩⟩
    have h40 := (hn q hq t s).2
    have c := a6 k (by omega)
    rw [c.1, c.2]
    exact (b5 s t).2 k hk
theorem INV_cg (h : INV K Sn AD C cc W bs T ft cp ln cl FT V VX VY tn rk wd tw pa pb kd st it mn cx cy sa sh lb lc) (ha : agS ft kd st gb it mn cx cy kd1 st1 gb1 it1 mn1 cx1 cy1) (h0 : ∀ q, q < 200 → ¬ (tn q).toInt = 0 → mn1 q = 0) : INV K Sn AD C cc W bs T ft cp ln cl FT V VX VY tn rk wd tw pa pb kd1 st1 it1 mn1 cx1 cy1 sa sh lb lc := by
  obtain ⟨⟨a1, a2, a3, a4⟩, b⟩ := h
  refine ⟨⟨wfS_cg a1 (fun p hp => ?_), a2, bdC_cg a3 (fun q hq g => ?_) (fun q hq g => ?_), h0⟩, b⟩
  · have c := ha p hp
    exact ⟨c.1, c.2.1, rfl, c.2.2.2.2.1, c.2.2.2.1, c.2.2.2.2.2⟩
  · rw [← (ha q hq).2.1]; exact g
  · exact Or.inl ⟨g, (ha q hq).1, by rw [(ha q hq).2.2.2.2.1]; exact Nat.le_refl _⟩
theorem bxX_p {f : Nat} {a b : Int32} {c c1 : Nat → Int32} {j : Nat} (h : c1 j = c j) : bxX f a b 4 c1 j = bxX f a b 4 c j := by unfold bxX; rw [h]
theorem bxY_p {f : Nat} {a b : Int32} {c c1 : Nat → Int32} {j : Nat} (h : c1 j = c j) : bxY f a b 4 c1 j = bxY f a b 4 c j := by unfold bxY; rw [h]
theorem ag_200 {z1 z2 z3 z4 : Int32} (h : ft ≤ 200) : agS ft kd st gb it mn cx cy (upd kd 200 6) st gb it (upd mn 200 4) (bxX 200 z1 z3 4 cx) (bxY 200 z2 z4 4 cy) := fun q hq =>
  ⟨upo9 (by omega), rfl, rfl, rfl, upo9 (by omega), fun k hk => ⟨show bxX 200 z1 z3 4 cx (40 * q + k) = cx (40 * q + k) from bxX_o (by omega), show bxY 200 z2 z4 4 cy (40 * q + k) = cy (40 * q + k) from bxY_o (by omega)⟩⟩
theorem ag_join {z1 z2 z3 z4 : Int32} (h : ft < 200) : agS (ft + 1) (upd kd ft 6) st gb it (upd mn ft 4) (bxX ft z1 z3 4 cx) (bxY ft z2 z4 4 cy) (upd (upd kd 200 6) ft 6) st gb it (upd (upd mn 200 4) ft 4) (bxX ft z1 z3 4 (bxX 200 z1 z3 4 cx)) (bxY ft z2 z4 4 (bxY 200 z2 z4 4 cy)) := fun q hq => by
  have e : ∀ (c : Nat → Int32) (x : Int32), upd (upd c 200 x) ft x q = upd c ft x q := fun c x => by
    by_cases g : q = ft
    · rw [g, up_at, up_at]
    · rw [upo9 g, upo9 g, upo9 (show q ≠ 200 by omega)]
  exact ⟨e kd 6, rfl, rfl, rfl, e mn 4, fun k hk => ⟨show bxX ft z1 z3 4 (bxX 200 z1 z3 4 cx) (40 * q + k) = bxX ft z1 z3 4 cx (40 * q + k) from bxX_p (bxX_o (by omega)), show bxY ft z2 z4 4 (bxY 200 z2 z4 4 cy) (40 * q + k) = bxY ft z2 z4 4 cy (40 * q + k) from bxY_p (bxY_o (by omega))⟩⟩
theorem upd3 {s : Nat → Int32} {a b c : Nat} {x y z : Int32} (h1 : b ≠ a) (h2 : c ≠ a) : upd (upd (upd s a x) b y) c z = upd (upd (upd s b y) c z) a x := by
  funext j
  by_cases e : j = a
  · rw [e, upo9 (fun g => h2 g.symm), upo9 (fun g => h1 g.symm), up_at, up_at]
  · rw [upo9 (m := upd (upd s b y) c z) e]
    by_cases g : j = c
    · rw [g, up_at, up_at]
    · rw [upo9 g, upo9 g]
      by_cases i : j = b
      · rw [i, up_at, up_at]
      · rw [upo9 i, upo9 i, upo9 e]
theorem nnF_ag (ha : agS ft kd st gb it mn cx cy kd1 st1 gb1 it1 mn1 cx1 cy1) (g : Nat) (hg : g < ft) : nnF st1 tn mn1 g = nnF st tn mn g := by
  unfold nnF
  rw [(ha g hg).2.1, (ha g hg).2.2.2.2.1]
theorem blK_ag {w : Nat} (ha : agS ft kd st gb it mn cx cy kd1 st1 gb1 it1 mn1 cx1 cy1) (h : blK sh pa pb rk wd tw tn ft (vC kd1 st1 gb1 it1 mn1) cx1 cy1 w) (hw : wfS ft kd st tn mn it cx cy) : blK sh pa pb rk wd tw tn ft (vC kd st gb it mn) cx cy w := by
  refine blK_cg h (fun j _ _ => rfl) (fun g _ => ⟨rfl, rfl, rfl, rfl, rfl, rfl⟩) (fun g hg => ?_)
  have c := ha g hg
  refine ⟨c.1.symm, c.2.1.symm, c.2.2.1.symm, c.2.2.2.1.symm, (nnF_ag ha g hg).symm, fun k hk => ?_⟩
  have hk : k < nnF st1 tn mn1 g := hk
  rw [nnF_ag ha g hg] at hk
  have h40 : nnF st tn mn g ≤ 40 := by
    unfold nnF
    by_cases d : (tn g).toInt = 0 ∧ ¬ (st g).toInt = 0
    · rw [if_pos d]; exact (wfS_mn hw g hg d.1 d.2).2
    · rw [if_neg d]; omega
  have e := c.2.2.2.2.2 k (by omega)
  exact ⟨e.1.symm, e.2.symm⟩
theorem wfS_join {f g : Nat} {z1 z2 z3 z4 : Int32} (h : wfS ft kd st tn mn it cx cy) (hf : f < ft) (hg : g < ft) (hs : (st f).toInt = 1) (hs2 : (st g).toInt = 1) (hgf : g ≠ f) (p1 : pl z1) (p2 : pl z2) (p3 : pl z3) (p4 : pl z4) (l1 : z1.toInt < z3.toInt) (l2 : z2.toInt < z4.toInt) : wfS (ft + 1) (upd kd ft 6) (upd (upd (upd st f 2) g 2) ft 1) (upd tn ft 0) (upd mn ft 4) (upd (upd (upd it f (nI ft)) g (nI ft)) ft (-1)) (bxX ft z1 z3 4 cx) (bxY ft z2 z4 4 cy) := by
  intro q hq
  by_cases e : q = ft
  · rw [e, up_at, up_at, up_at, up_at, up_at]
    have n4 : nN (4 : Int32) = 4 := by decide
    have e6 : (6 : Int32).toInt = 6 := by decide
    have e1 : (1 : Int32).toInt = 1 := by decide
    have c0 : cF40 (bxX ft z1 z3 4 cx) ft 0 = z1 ∧ cF40 (bxX ft z1 z3 4 cx) ft 1 = z3 ∧ cF40 (bxX ft z1 z3 4 cx) ft 2 = z3 ∧ cF40 (bxX ft z1 z3 4 cx) ft 3 = z1 := by
      refine ⟨?_, ?_, ?_, ?_⟩
      · show bxX ft z1 z3 4 cx (40 * ft + 0) = z1; unfold bxX; rw [if_pos (by omega), if_neg (by omega)]
      · show bxX ft z1 z3 4 cx (40 * ft + 1) = z3; unfold bxX; rw [if_pos (by omega), if_pos (by omega)]
      · show bxX ft z1 z3 4 cx (40 * ft + 2) = z3; unfold bxX; rw [if_pos (by omega), if_pos (by omega)]
      · show bxX ft z1 z3 4 cx (40 * ft + 3) = z1; unfold bxX; rw [if_pos (by omega), if_neg (by omega)]
    have d0 : cF40 (bxY ft z2 z4 4 cy) ft 0 = z2 ∧ cF40 (bxY ft z2 z4 4 cy) ft 1 = z2 ∧ cF40 (bxY ft z2 z4 4 cy) ft 2 = z4 ∧ cF40 (bxY ft z2 z4 4 cy) ft 3 = z4 := by
      refine ⟨?_, ?_, ?_, ?_⟩
      · show bxY ft z2 z4 4 cy (40 * ft + 0) = z2; unfold bxY; rw [if_pos (by omega), if_neg (by omega)]
      · show bxY ft z2 z4 4 cy (40 * ft + 1) = z2; unfold bxY; rw [if_pos (by omega), if_neg (by omega)]
      · show bxY ft z2 z4 4 cy (40 * ft + 2) = z4; unfold bxY; rw [if_pos (by omega), if_pos (by omega)]
      · show bxY ft z2 z4 4 cy (40 * ft + 3) = z4; unfold bxY; rw [if_pos (by omega), if_pos (by omega)]
    have sm := bx_sm c0 d0 l1 l2
    refine ⟨by rw [e6]; omega, by rw [e1]; omega, fun _ => ?_, fun _ => rfl⟩
    rw [n4, e6]
    refine ⟨⟨by decide, by omega, fun g => by omega, fun k hk => ?_⟩, fun _ => sm⟩
    rcases (show k = 0 ∨ k = 1 ∨ k = 2 ∨ k = 3 by omega) with rfl | rfl | rfl | rfl
    · rw [c0.1, d0.1]; exact ⟨p1, p2⟩
    · rw [c0.2.1, d0.2.1]; exact ⟨p3, p2⟩
    · rw [c0.2.2.1, d0.2.2.1]; exact ⟨p3, p4⟩
    · rw [c0.2.2.2, d0.2.2.2]; exact ⟨p1, p4⟩
  · rw [upo9 e, upo9 e, upo9 e, upo9 e, upo9 e]
    have hw := h q (by omega)
    refine wfQ_cg (fun k hk => ⟨show bxX ft z1 z3 4 cx (40 * q + k) = cx (40 * q + k) from bxX_o (by omega), show bxY ft z2 z4 4 cy (40 * q + k) = cy (40 * q + k) from bxY_o (by omega)⟩) ?_
    by_cases e2 : q = g
    · rw [e2, up_at, up_at]
      rw [e2] at hw
      exact wfQ_go hw hs2 _
    · rw [upo9 e2, upo9 e2]
      by_cases e3 : q = f
      · rw [e3, up_at, up_at]
        rw [e3] at hw
        exact wfQ_go hw hs _
      · rw [upo9 e3, upo9 e3]; exact hw
end
theorem eO_6 {k : Int} {n : Nat} (h : k = 6) (hn : 1 ≤ n) : 1 ≤ eO k n := by
  rw [h]; unfold eO; rw [if_neg (by decide), if_pos (by decide)]; exact hn
theorem cntP_no {P : Nat → Prop} {n : Nat} (h : cntP P n = 0) (q : Nat) (hq : q < n) : ¬ P q := fun hp => by
  have := cntP_lt (P := P) (Q := fun _ => False) (fun _ g => g.elim) hq hp (fun g => g)
  omega
theorem gn_1 {M : Nat → Prop} {ft q : Nat} {st : Nat → Int32} (h : M q → (st q).toInt = 1) (g : (gnA M ft 2 st q).toInt = 1) : (st q).toInt = 1 := by
  by_cases m : M q
  · exact h m
  · rw [show gnA M ft 2 st q = st q by unfold gnA; rw [if_neg (fun c => m c.2)]] at g; exact g
/-! a run that takes nothing -/
section
variable {ft L : Nat} {kd st tn : Nat → Int32}
theorem rnP_no : ∀ (j : Nat) (mn cx cy mn1 cx1 cy1 : Nat → Int32), j ≤ ft → rnP ft st tn kd L j mn cx cy 0 mn1 cx1 cy1 → ∀ q, ft - j ≤ q → q < ft → lvF ft st tn q → ¬ (kd q).toInt = 0 → ¬ (kd q).toInt = 6 → plN ft st tn kd q L 0 mn cx cy (nN (mn q)) mn cx cy (nN (mn q)) := by
  intro j
  induction j with
  | zero => intro mn cx cy mn1 cx1 cy1 _ _ q h1 h2; omega
  | succ j ih =>
    intro mn cx cy mn1 cx1 cy1 hj hr q h1 h2 hl k0 k6
    obtain ⟨m, mn2, cx2, cy2, t2, r1, r2, r3⟩ := hr
    have em : m = 0 := by omega
    have et : t2 = 0 := by omega
    subst em et
    have e : mn2 = mn ∧ cx2 = cx ∧ cy2 = cy := by
      by_cases b : lvF ft st tn (ft - (j + 1)) ∧ ¬ (kd (ft - (j + 1))).toInt = 0 ∧ ¬ (kd (ft - (j + 1))).toInt = 6
      · obtain ⟨n1, hp⟩ := r1.1 b
        have z := plN_z rfl hp
        exact ⟨z.1, z.2.1, z.2.2.1⟩
      · exact (r1.2 b).2
    obtain ⟨rfl, rfl, rfl⟩ := e
    by_cases g : q = ft - (j + 1)
    · have b : lvF ft st tn (ft - (j + 1)) ∧ ¬ (kd (ft - (j + 1))).toInt = 0 ∧ ¬ (kd (ft - (j + 1))).toInt = 6 := by rw [← g]; exact ⟨hl, k0, k6⟩
      obtain ⟨n1, hp⟩ := r1.1 b
      have z := plN_z rfl hp
      rw [z.2.2.2.1, ← g] at hp
      exact hp
    · exact ih _ _ _ _ _ _ (by omega) r2 q (by omega) h2 hl k0 k6
theorem rnA_no {p : Nat} {mn cx cy mn1 cx1 cy1 : Nat → Int32} (h : rnA ft st tn kd L p mn cx cy 0 mn1 cx1 cy1) (hk : ∀ q, q < ft → 0 ≤ (kd q).toInt ∧ (kd q).toInt ≤ 6) : ∀ q, lvF ft st tn q → (1 ≤ (kd q).toInt ∧ (kd q).toInt ≤ 5) → plN ft st tn kd q L 0 mn cx cy (nN (mn q)) mn cx cy (nN (mn q)) := by
  intro q hl hb
  cases p with
  | zero => exact absurd h (fun g => g)
  | succ p =>
    obtain ⟨t2, mn2, cx2, cy2, h1, h2⟩ := h
    have e : t2 = 0 := by
      rcases h2 with ⟨e, _⟩ | ⟨_, t3, _, e⟩
      · exact e
      · omega
    rw [e] at h1
    exact rnP_no ft _ _ _ _ _ _ (Nat.le_refl _) h1 q (by omega) hl.1 hl (by omega) (by omega)
end
theorem eO_1 {k : Int} {n : Nat} (h : (k = 0 ∧ n = 1) ∨ (¬ k = 0 ∧ 2 ≤ n)) : 1 ≤ eO k n := by
  unfold eO
  by_cases e : k = 0
  · rw [if_pos e]; exact Nat.le_refl _
  · rw [if_neg e]; split <;> omega
