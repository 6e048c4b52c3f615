section
/-! the class's law is the reference's: a corner goes -/
theorem rgK_t (k : Int) : (rgK k).toInt = if 5 ≤ k then 1 else 0 := by unfold rgK; split <;> decide
theorem rgK_0 (k : Int) : (rgK k).toInt = 0 ↔ ¬ 5 ≤ k := by rw [rgK_t]; split <;> omega
def okK (k : Int) (n : Nat) : Prop := (k = 0 ∧ n = 1) ∨ (¬ k = 0 ∧ 2 ≤ n)
theorem inF_5 {k : Int} {n : Nat} {X Y : Nat → Int32} {x y : Int} (h : 5 ≤ k) : inF k n X Y x y ↔ inF 5 n X Y x y := by
  have e1 : eO k n = n := by unfold eO; rw [if_neg (by omega), if_pos h]
  have e2 : eO 5 n = n := by unfold eO; rw [if_neg (by decide), if_pos (by decide)]
  unfold inF; rw [e1, e2]
theorem tch_mt {kf kg : Int} {n m : Nat} {X Y U V : Nat → Int32} (h1 : okK kf n) (h2 : okK kg m) : tch n X Y (rgK kf) m U V (rgK kg) ↔ mtF kf n X Y kg m U V := by
  show (∃ i, i < prt n (rgK kf) ∧ ∃ j, j < prt m (rgK kg) ∧ eMt n X Y i m U V j) ↔ _
  rw [prt_eO (rgK_t kf) h1, prt_eO (rgK_t kg) h2]; rfl
theorem asb_law {kf kd kg : Int} {n nd m : Nat} {X Y P Q U V : Nat → Int32} (h1 : okK kf n) (h2 : okK kd nd) (h3 : okK kg m) (hr : 5 ≤ kf ↔ 5 ≤ kd) : asb n X Y (rgK kf) nd P Q (rgK kd) m U V (rgK kg) ↔ ((mtF kd nd P Q kg m U V ↔ mtF kf n X Y kg m U V) ∧ (5 ≤ kg → (inF kg m U V (P 0).toInt (Q 0).toInt ↔ inF kg m U V (X 0).toInt (Y 0).toInt)) ∧ ∀ k, k < m → (5 ≤ kd → (inF kd nd P Q (U k).toInt (V k).toInt ↔ inF kf n X Y (U k).toInt (V k).toInt))) := by
  unfold asb
  rw [tch_mt h1 h3, tch_mt h2 h3, rgK_0, rgK_0]
  constructor
  · rintro ⟨a, b, c⟩
    refine ⟨a.symm, fun g => ?_, fun k hk g => ?_⟩
    · rw [inF_5 g, inF_5 g]; exact (c (fun q => q g)).symm
    · rw [inF_5 g, inF_5 (hr.mpr g)]; exact (b (fun q => q g) k hk).symm
  · rintro ⟨a, b, c⟩
    refine ⟨a.symm, fun g k hk => ?_, fun g => ?_⟩
    · have g := Classical.not_not.mp g
      have := c k hk g; rw [inF_5 g, inF_5 (hr.mpr g)] at this; exact this.symm
    · have g := Classical.not_not.mp g
      have := b g; rw [inF_5 g, inF_5 g] at this; exact this.symm
theorem swC_B {n : Nat} {X Y : Nat → Int32} {b : Nat} {x y : Int} : swC n X Y b x y ↔ swB n X Y b x y := by
  unfold swC swB
  rw [wtR_iff]
  exact and_congr (not_congr ⟨fun h => ⟨h.1.symm, h.2.symm⟩, fun h => ⟨h.1.symm, h.2.symm⟩⟩) (and_congr (not_congr ⟨fun h => ⟨h.1.symm, h.2.symm⟩, fun h => ⟨h.1.symm, h.2.symm⟩⟩) Iff.rfl)
theorem law_cut {kf kg : Int} {n nd m k : Nat} {X Y P Q U V : Nat → Int32} {x0 y0 : Int32} (h0 : ¬ kf = 0) (h1 : okK kf n) (h2 : okK kf nd) (h3 : okK kg m) :
    (asb n X Y (rgK kf) nd P Q (rgK kf) m U V (rgK kg) ∧ ¬ ∃ j, j < m ∧ swC n X Y k (U j).toInt (V j).toInt) ↔ lawTo x0 y0 kf nd P Q kg m U V (mtF kf n X Y kg m U V) (inF kg m U V (X 0).toInt (Y 0).toInt) (fun j => inF kf n X Y (U j).toInt (V j).toInt) (fun j => swB n X Y k (U j).toInt (V j).toInt) := by
  rw [asb_law h1 h2 h3 Iff.rfl]
  unfold lawTo
  constructor
  · rintro ⟨⟨a, b, c⟩, d⟩
    exact ⟨a, b, fun j hj => ⟨c j hj, fun _ g => d ⟨j, hj, swC_B.mpr g⟩⟩, fun g => absurd g h0⟩
  · rintro ⟨a, b, c, _⟩
    exact ⟨⟨a, b, fun j hj => (c j hj).1⟩, fun ⟨j, hj, g⟩ => (c j hj).2 h0 (swC_B.mp g)⟩
theorem fWy_cg {x0 y0 x1 y1 : Int} {m : Nat} {U V S T : Nat → Int32} {k : Nat} (hk : k < m) (h : ∀ j, j < m → U j = S j ∧ V j = T j) : fWy x0 y0 x1 y1 m U V k = fWy x0 y0 x1 y1 m S T k := by
  have hx := nxt_lt (n := m) (i := k) (by omega)
  unfold fWy; rw [(h k hk).1, (h k hk).2, (h _ hx).1, (h _ hx).2]
theorem lawTo_cg {x0 y0 : Int32} {kf kg : Int} {n m : Nat} {P Q A B U V S T : Nat → Int32} {mt wi : Prop} {ins sw sv : Nat → Prop} (hn : 1 ≤ n) (hm : 1 ≤ m) (h : ∀ j, j < n → P j = A j ∧ Q j = B j) (g : ∀ j, j < m → U j = S j ∧ V j = T j) (hs : ∀ k, k < m → (sw k ↔ sv k)) :
    lawTo x0 y0 kf n P Q kg m U V mt wi ins sw ↔ lawTo x0 y0 kf n A B kg m S T mt wi ins sv := by
  have le := eO_le (k := kg) (n := m) hm
  unfold lawTo
  rw [mtF_cg hn hm h g, (h 0 (by omega)).1, (h 0 (by omega)).2]
  refine and_congr Iff.rfl (and_congr (imp_congr_right fun _ => by rw [inF_cg hm g]) (and_congr (forall_congr' fun k => imp_congr_right fun hk => ?_) (imp_congr_right fun _ => forall_congr' fun k => imp_congr_right fun hk => by rw [fWy_cg (by omega) g])))
  rw [inF_cg hn h, (g k hk).1, (g k hk).2, hs k hk]
theorem shp_ct {f k n : Nat} {c : Nat → Int32} : ∀ j, j < n - 1 → cF40 (shp f k (n - 1) c) f j = ctF (cF40 c f) k j := by
  intro j hj
  show shp f k (n - 1) c (40 * f + j) = if j < k then c (40 * f + j) else c (40 * f + (j + 1))
  unfold shp
  by_cases q : j < k
  · rw [if_neg (by omega), if_pos q]
  · rw [if_pos (by omega), if_neg q]; rfl
theorem shp_ot {f k n q : Nat} {c : Nat → Int32} (hq : q ≠ f) (hn : n ≤ 40) : ∀ j, j < 40 → cF40 (shp f k (n - 1) c) q j = cF40 c q j := by
  intro j hj
  show shp f k (n - 1) c (40 * q + j) = c (40 * q + j)
  unfold shp; rw [if_neg (by omega)]
/-- the class's law and the reference's, where a corner goes -/
theorem alC_lw {ft : Nat} {st tn kd mn cx cy : Nat → Int32} {f n k : Nat} (hk : k < n) (hn : n ≤ 40) (hkd : 1 ≤ (kd f).toInt ∧ (kd f).toInt ≤ 5) (hr : (5 ≤ (kd f).toInt ∧ 4 ≤ n) ∨ (¬ 5 ≤ (kd f).toInt ∧ 0 < k ∧ k < n - 1)) (hs : mSm (kd f).toInt n (cF40 cx f) (cF40 cy f)) (hwf : ∀ q, lvF ft st tn q → wfM mn cx cy q) (hkn : okN ft st tn kd mn) :
    alC ft st tn kd mn cx cy f n (cF40 cx f) (cF40 cy f) (rgK (kd f).toInt) (n - 1) (ctF (cF40 cx f) k) (ctF (cF40 cy f) k) (rgK (kd f).toInt) k ↔ lwP ft st tn kd mn cx cy f n k := by
  have hrg : (¬ (rgK (kd f).toInt).toInt = 0 ∧ 4 ≤ n) ∨ ((rgK (kd f).toInt).toInt = 0 ∧ 0 < k ∧ k < n - 1) := by rw [rgK_0]; omega
  have h3 : 3 ≤ n := by omega
  have c1 : ∀ j, j < n - 1 → cF40 (shp f k (n - 1) cx) f j = ctF (cF40 cx f) k j ∧ cF40 (shp f k (n - 1) cy) f j = ctF (cF40 cy f) k j := fun j hj => ⟨shp_ct j hj, shp_ct j hj⟩
  have o1 : okK (kd f).toInt n := Or.inr ⟨by omega, by omega⟩
  have o2 : okK (kd f).toInt (n - 1) := Or.inr ⟨by omega, by omega⟩
  have hso := (snd_iff (rg := rgK (kd f).toInt) (rgK_t _) (by omega) (by unfold mnc; split <;> omega)).mpr hs
  have sm : mSm (kd f).toInt (n - 1) (ctF (cF40 cx f) k) (ctF (cF40 cy f) k) ↔ eFr (n - 1) (ctF (cF40 cx f) k) (ctF (cF40 cy f) k) (rgK (kd f).toInt) (gap n k) 0 := by
    rw [← snd_iff (rg := rgK (kd f).toInt) (rgK_t _) (by omega) (by unfold mnc; split <;> omega), gap_snd hk hrg hso.1]
    exact ⟨fun h => h.1, fun h => ⟨h, Or.inl (by omega)⟩⟩
  unfold alC lwP lwA
  rw [pls_cg c1]
  refine and_congr_right fun _ => and_congr (sm.symm.trans ⟨mSm_cg fun j hj => ⟨(c1 j hj).1.symm, (c1 j hj).2.symm⟩, mSm_cg c1⟩) ?_
  have one : ∀ q, lvF ft st tn q → q ≠ f → ((apB (min (min (cF40 cx f k).toInt (cF40 cx f (prv n k)).toInt) (cF40 cx f (nxt n k)).toInt) (min (min (cF40 cy f k).toInt (cF40 cy f (prv n k)).toInt) (cF40 cy f (nxt n k)).toInt) (max (max (cF40 cx f k).toInt (cF40 cx f (prv n k)).toInt) (cF40 cx f (nxt n k)).toInt) (max (max (cF40 cy f k).toInt (cF40 cy f (prv n k)).toInt) (cF40 cy f (nxt n k)).toInt) (nN (mn q)) (cF40 cx q) (cF40 cy q) ∨ (asb n (cF40 cx f) (cF40 cy f) (rgK (kd f).toInt) (n - 1) (ctF (cF40 cx f) k) (ctF (cF40 cy f) k) (rgK (kd f).toInt) (nN (mn q)) (cF40 cx q) (cF40 cy q) (rgK (kd q).toInt) ∧ (¬ ∃ j, j < nN (mn q) ∧ swC n (cF40 cx f) (cF40 cy f) k (cF40 cx q j).toInt (cF40 cy q j).toInt))) ↔
      lawTo (cF40 cx f 0) (cF40 cy f 0) (kd f).toInt (n - 1) (cF40 (shp f k (n - 1) cx) f) (cF40 (shp f k (n - 1) cy) f) (kd q).toInt (nN (upd mn f (nI (n - 1)) q)) (cF40 (shp f k (n - 1) cx) q) (cF40 (shp f k (n - 1) cy) q) (bMt kd mn cx cy f n q) (bWi kd mn cx cy f q) (bIn kd cx cy f n q) (sWp n (cF40 cx f) (cF40 cy f) (shp f k (n - 1) cx) (shp f k (n - 1) cy) k q)) := by
    intro q hq hqf
    have w := hwf q hq
    have c2 : ∀ j, j < nN (mn q) → cF40 (shp f k (n - 1) cx) q j = cF40 cx q j ∧ cF40 (shp f k (n - 1) cy) q j = cF40 cy q j := fun j hj => ⟨shp_ot hqf hn j (by have := w.2.1; omega), shp_ot hqf hn j (by have := w.2.1; omega)⟩
    rw [show upd mn f (nI (n - 1)) q = mn q from if_neg hqf]
    have cut := @ap_cut n k (nN (mn q)) (cF40 cx f) (cF40 cy f) (cF40 cx q) (cF40 cy q) (rgK (kd f).toInt) (rgK (kd q).toInt) (min (min (cF40 cx f k).toInt (cF40 cx f (prv n k)).toInt) (cF40 cx f (nxt n k)).toInt) (min (min (cF40 cy f k).toInt (cF40 cy f (prv n k)).toInt) (cF40 cy f (nxt n k)).toInt) (max (max (cF40 cx f k).toInt (cF40 cx f (prv n k)).toInt) (cF40 cx f (nxt n k)).toInt) (max (max (cF40 cy f k).toInt (cF40 cy f (prv n k)).toInt) (cF40 cy f (nxt n k)).toInt) hk hrg w.2.1.1
    rw [lawTo_cg (A := ctF (cF40 cx f) k) (B := ctF (cF40 cy f) k) (S := cF40 cx q) (T := cF40 cy q) (sv := fun j => swB n (cF40 cx f) (cF40 cy f) k (cF40 cx q j).toInt (cF40 cy q j).toInt) (by omega) w.2.1.1 c1 c2 (fun j hj => by show swB n (cF40 cx f) (cF40 cy f) k (cF40 (shp f k (n - 1) cx) q j).toInt (cF40 (shp f k (n - 1) cy) q j).toInt ↔ _; rw [(c2 j hj).1, (c2 j hj).2])]
    rw [← law_cut (by omega) o1 o2 (hkn q hq)]
    exact ⟨fun g => g.elim (fun g => cut g (by omega) (by omega) (by omega)) id, Or.inr⟩
  constructor
  · intro h q hq hqf; exact (one q hq hqf).mp (h q hq.1 hqf hq)
  · intro h q _ hqf hq; exact (one q hq hqf).mpr (h q hq hqf)
/-- which corner may go: the class's word is the reference's -/
theorem go_iff {ft : Nat} {st tn kd mn cx cy : Nat → Int32} {f n L k : Nat} {lim : Int32} (hL : lim.toInt = ((L : Nat) : Int)) (hk : k < n) (hn : n ≤ 40) (hkd : 1 ≤ (kd f).toInt ∧ (kd f).toInt ≤ 5) (hr : ¬ 5 ≤ (kd f).toInt ∨ 4 ≤ n) (h2 : 2 ≤ n) (hs : mSm (kd f).toInt n (cF40 cx f) (cF40 cy f)) (hwf : ∀ q, lvF ft st tn q → wfM mn cx cy q) (hkn : okN ft st tn kd mn) :
    goK ft st tn kd mn cx cy f n (cF40 cx f) (cF40 cy f) (rgK (kd f).toInt) lim k ↔ (cnd ft st tn kd mn cx cy f n L k ∧ lwP ft st tn kd mn cx cy f n k) := by
  have nxp : nxt n (prv n k) = k := by unfold nxt prv; (repeat' split) <;> omega
  have et : arT n (cF40 cx f) (cF40 cy f) k = trF cx cy f n k := by unfold arT eCr; rw [nxp]
  unfold goK cnd mGo arE bareK
  rw [et, hL, rgK_0]
  constructor
  · rintro ⟨a, b, c, d⟩
    have hr2 : (5 ≤ (kd f).toInt ∧ 4 ≤ n) ∨ (¬ 5 ≤ (kd f).toInt ∧ 0 < k ∧ k < n - 1) := by omega
    exact ⟨⟨⟨by omega, fun ⟨q, hq, hqf, g⟩ => c q hq.1 hqf hq g⟩, by omega⟩, (alC_lw hk hn hkd hr2 hs hwf hkn).mp d⟩
  · rintro ⟨⟨⟨a, c⟩, b⟩, d⟩
    have hr2 : (5 ≤ (kd f).toInt ∧ 4 ≤ n) ∨ (¬ 5 ≤ (kd f).toInt ∧ 0 < k ∧ k < n - 1) := by omega
    exact ⟨by omega, by omega, fun q _ hqf hq g => c ⟨q, hq, hqf, g⟩, (alC_lw hk hn hkd hr2 hs hwf hkn).mpr d⟩
end
