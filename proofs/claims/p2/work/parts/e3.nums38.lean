/-! the class's law over the reference's corners -/
/-- a row lies apart from a box -/
def apB (l o r h : Int) (n : Nat) (U V : Nat → Int32) : Prop := r < mnI (U 0).toInt U n ∨ mxI (U 0).toInt U n < l ∨ h < mnI (V 0).toInt V n ∨ mxI (V 0).toInt V n < o
theorem apB_cg {l o r h : Int} {n : Nat} {U V S T : Nat → Int32} (h1 : 1 ≤ n) (hc : ∀ j, j < n → U j = S j ∧ V j = T j) : (r < mnI (U 0).toInt U n ∨ mxI (U 0).toInt U n < l ∨ h < mnI (V 0).toInt V n ∨ mxI (V 0).toInt V n < o) ↔ apB l o r h n S T := by
  have a := mnI_cg (z := (S 0).toInt) (fun j hj => (hc j hj).1) n (Nat.le_refl _)
  have b := mnI_cg (z := (T 0).toInt) (fun j hj => (hc j hj).2) n (Nat.le_refl _)
  have e := hc 0 (by omega)
  unfold apB
  rw [e.1, e.2, a.1, a.2, b.1, b.2]
def rgK (k : Int) : Int32 := if 5 ≤ k then 1 else 0
theorem rgK_e {rg : Int32} {k : Int} (h : rg.toInt = if 5 ≤ k then 1 else 0) : rg = rgK k := by
  unfold rgK
  by_cases e : 5 ≤ k
  · rw [if_pos e] at h ⊢; exact Int32.toInt_inj.mp (by rw [h]; decide)
  · rw [if_neg e] at h ⊢; exact Int32.toInt_inj.mp (by rw [h]; decide)
theorem tch_cg {n m : Nat} {X Y U V S T : Nat → Int32} {rg rh : Int32} (hc : ∀ j, j < m → U j = S j ∧ V j = T j) : tch n X Y rg m U V rh ↔ tch n X Y rg m S T rh := by
  have p1 := prt_le n rg; have p2 := prt_le m rh
  exact exists_congr fun i => and_congr_right fun hi => exists_congr fun j => and_congr_right fun hj => by rw [eMt_cg (fun _ _ => ⟨rfl, rfl⟩) hc (by omega) (by omega)]
theorem asb_cg {n nd m : Nat} {X Y P Q U V S T : Nat → Int32} {rg rd rh : Int32} (h1 : 1 ≤ m) (hc : ∀ j, j < m → U j = S j ∧ V j = T j) : asb n X Y rg nd P Q rd m U V rh ↔ asb n X Y rg nd P Q rd m S T rh := by
  unfold asb
  rw [tch_cg hc, tch_cg hc, inF_cg h1 hc, inF_cg h1 hc]
  exact and_congr_right fun _ => and_congr (imp_congr_right fun _ => forall_congr' fun k => imp_congr_right fun hk => by rw [(hc k hk).1, (hc k hk).2]) Iff.rfl
theorem ex_cg {m : Nat} {U V S T : Nat → Int32} {W : Int → Int → Prop} (hc : ∀ j, j < m → U j = S j ∧ V j = T j) : (∃ j, j < m ∧ W (U j).toInt (V j).toInt) ↔ ∃ j, j < m ∧ W (S j).toInt (T j).toInt :=
  exists_congr fun j => and_congr_right fun hj => by rw [(hc j hj).1, (hc j hj).2]
theorem wy_cg {m : Nat} {U V S T : Nat → Int32} {x0 y0 x1 y1 : Int} {rh : Int32} (hc : ∀ j, j < m → U j = S j ∧ V j = T j) : (∀ k, k < prt m rh → wyF2 x0 y0 x1 y1 m U V k) ↔ ∀ k, k < prt m rh → wyF2 x0 y0 x1 y1 m S T k := by
  have p2 := prt_le m rh
  refine forall_congr' fun k => imp_congr_right fun hk => ?_
  have hk2 := nxt_lt (n := m) (i := k) (by omega)
  unfold wyF2; rw [(hc k (by omega)).1, (hc k (by omega)).2, (hc _ hk2).1, (hc _ hk2).2]
def gpK (nd k : Nat) : Nat := if k < nd then k else 0
theorem vaD_ae {A : Nat → Prop} {ws ws' : va_W} (hD : va_D A ws) (h : ws.map Prod.fst = ws'.map Prod.fst) : va_D A ws' := vaD_ad h hD
