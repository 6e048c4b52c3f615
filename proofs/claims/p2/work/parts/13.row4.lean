set_option maxHeartbeats 4000000 in
set_option maxRecDepth 100000 in
theorem k_Row_copyFrom (l : Launch) (dC : Nat → ClassId) (dI : Nat → Nat → Nat) (cI cZ cF : ClassId) (sz : Nat) (r : Nat) (rx : Nat) (ry : Nat) (n : Nat) (cap : Nat) (X : Nat → Int32) (Y : Nat → Int32) (rg : Int32) (u : Nat) (ux : Nat) (uy : Nat) (m2 : Nat) (cap2 : Nat) (U : Nat → Int32) (V : Nat → Int32) (rh : Int32) (hm : m2 ≤ cap) (hcap : cap ≤ 1000) (hm2 : m2 ≤ cap2) (hcap2 : cap2 ≤ 1000) (hrh : rh = 0 ∨ rh = 1) : Met l yX7_copyFrom (.code yX7_copyFrom cX7_copyFrom 3 none :: ws0) ({ frames := 1, cells := 0, slots := 0, locals := 22 } : Room) (va_Pc [.ref r, .ref u] (zPre (dC, dI) classes (zTy cI cZ cF) [(oc6 r (.ref rx) (.ref ry) (nI n) rg), (oa rx cI cap X), (oa ry cI cap Y), (oc6 u (.ref ux) (.ref uy) (nI m2) rh), (oa ux cI cap2 U), (oa uy cI cap2 V)] sz zXN)) (zQ none (fun t => ∃ (X1 : Nat → Int32), ∃ (Y1 : Nat → Int32), (∀ k, k < m2 → X1 k = U k ∧ Y1 k = V k) ∧ va_P (dC, dI) classes [(oc6 r (.ref rx) (.ref ry) (nI m2) rh), (oa rx cI cap X1), (oa ry cI cap Y1), (oc6 u (.ref ux) (.ref uy) (nI m2) rh), (oa ux cI cap2 U), (oa uy cI cap2 V)] t.heap ∧ va_D (va_A [(oc6 r (.ref rx) (.ref ry) (nI n) rg), (oa rx cI cap X), (oa ry cI cap Y), (oc6 u (.ref ux) (.ref uy) (nI m2) rh), (oa ux cI cap2 U), (oa uy cI cap2 V)] sz) [(oc6 r (.ref rx) (.ref ry) (nI m2) rh), (oa rx cI cap X1), (oa ry cI cap Y1), (oc6 u (.ref ux) (.ref uy) (nI m2) rh), (oa ux cI cap2 U), (oa uy cI cap2 V)]) (va_A [(oc6 r (.ref rx) (.ref ry) (nI n) rg), (oa rx cI cap X), (oa ry cI cap Y), (oc6 u (.ref ux) (.ref uy) (nI m2) rh), (oa ux cI cap2 U), (oa uy cI cap2 V)] sz)) 0 0 (va_A [(oc6 r (.ref rx) (.ref ry) (nI n) rg), (oa rx cI cap X), (oa ry cI cap Y), (oc6 u (.ref ux) (.ref uy) (nI m2) rh), (oa ux cI cap2 U), (oa uy cI cap2 V)] sz) := by
  refine Met.ofW (cc := cX7_copyFrom) (maxL := 3) (ret := none) (by decide) rfl ?_
  intro p e s m args below meth c s₁ B hml hv
  obtain ⟨rfl, hsz, hP, hK, hD0, hXN⟩ := hv
  have hx := B.exec
  have hb := B.bytes
  have hr := B.returns
  have hts0 := atoms_spec (ws := .code yX7_copyFrom cX7_copyFrom 3 none :: ws0) B.pre
  have hts : ∀ w9 ∈ ws0, w9.before ([.ref r, .ref u] : List Value).toArray s = true := fun w9 h => hts0 w9 (List.mem_cons_of_mem _ h)
  have hown : s.vm.findClass "ScaleShop$Row" = some m.cls := findClass_of_methodNamed B.named
  have hlocks := B.notSynchronized
  subst hsz
  have hD := hD0.self (sz := s.heap.size)
  clear hD0
  generalize hAe : va_A [(oc6 r (.ref rx) (.ref ry) (nI n) rg), (oa rx cI cap X), (oa ry cI cap Y), (oc6 u (.ref ux) (.ref uy) (nI m2) rh), (oa ux cI cap2 U), (oa uy cI cap2 V)] s.heap.size = A at hD ⊢
  have hA : ∀ q : Nat, s.heap.size ≤ q → A q := fun q h => by rw [← hAe]; exact Or.inr h
  clear hAe
  have hS : va_S A s.heap s.heap [] := va_S.rf
  have hP : va_P (dC, dI) classes [(oc6 r (.ref rx) (.ref ry) (nI n) rg), (oa rx cI cap X), (oa ry cI cap Y), (oc6 u (.ref ux) (.ref uy) (nI m2) rh), (oa ux cI cap2 U), (oa uy cI cap2 V)] s.heap := hP
  obtain ⟨Q9, hQ9⟩ : ∃ Q9 : State → Prop, Q9 = MQ below (zQ none (fun t => ∃ (X1 : Nat → Int32), ∃ (Y1 : Nat → Int32), (∀ k, k < m2 → X1 k = U k ∧ Y1 k = V k) ∧ va_P (dC, dI) classes [(oc6 r (.ref rx) (.ref ry) (nI m2) rh), (oa rx cI cap X1), (oa ry cI cap Y1), (oc6 u (.ref ux) (.ref uy) (nI m2) rh), (oa ux cI cap2 U), (oa uy cI cap2 V)] t.heap ∧ va_D A [(oc6 r (.ref rx) (.ref ry) (nI m2) rh), (oa rx cI cap X1), (oa ry cI cap Y1), (oc6 u (.ref ux) (.ref uy) (nI m2) rh), (oa ux cI cap2 U), (oa uy cI cap2 V)]) A) ([.ref r, .ref u] : List Value).toArray s 0 0 A := ⟨_, rfl⟩
  rw [← hQ9]
  have hl := lv_entry ([.ref r, .ref u]) (n := 3) (Nat.le_of_ble_eq_true rfl)
  rw [lg_entry_eq]
  generalize (lg_sl ([.ref r, .ref u]) ++ List.replicate (3 - (lg_sl ([.ref r, .ref u])).length) Slot.unset).toArray = ls at hl ⊢
  have hl : lv_has ls 3 [(0, .ref r), (1, .ref u)] := hl
  refine lv_aload_n hx hb dX7_copyFrom_0 rfl (lv_at hl 0 rfl) ?_
  refine lv_aload_n hx hb dX7_copyFrom_1 rfl (lv_at hl 1 rfl) ?_
  refine va_get (D := (dC, dI)) (ci := 6) (v := .int rh) (C := RX7) (T := TX7) (N := 4) hx hb hts inX7 hown hK hP 3 rfl rfl 3 (by decide) (hts _ mw_183) (fun _ h9 => h9) rfl dX7_copyFrom_2 ?_
  have hPc := hP.sub (ws' := [(oc6 r (.ref rx) (.ref ry) (nI n) rg), (oa rx cI cap X), (oa ry cI cap Y)]) [0, 1, 2] rfl
  have hDc := hD.sub (ws' := [(oc6 r (.ref rx) (.ref ry) (nI n) rg), (oa rx cI cap X), (oa ry cI cap Y)]) [0, 1, 2] (by decide) rfl
  have hFc := va_free (wc := [(oc6 r (.ref rx) (.ref ry) (nI n) rg), (oa rx cI cap X), (oa ry cI cap Y)]) hD hS hA [0, 1, 2] rfl
  refine zcall (st1 := []) (va_runV (As := [.int rh]) (rest := []) ⟨hx, hb, hml, hown, hts⟩ (k_Row_clear l dC dI cI cZ cF s.heap.size r rx ry n cap X Y rg rh (by assumption)) (cwV 1 hts (zz_gV mw_599 mw_600 mw_601 mw_102 mc_yX7_clear) rfl rfl rfl (by decide +kernel) ⟨Nat.le_of_ble_eq_true rfl, Nat.le_of_ble_eq_true rfl⟩) (zPV2 (q0 := 0) (ci := 6) hPc hDc hK hXN rfl rfl) rfl rfl hl.1 rfl (lv_room (Nat.le_of_ble_eq_true rfl)) dX7_copyFrom_5 ⟨Nat.le_of_ble_eq_true rfl, Nat.le_of_ble_eq_true rfl⟩) hS hFc hFc rfl (fun t H1 locs ht hB hk1 hS => ?_)
  obtain ⟨hP1, hD1⟩ := hB
  rw [ht] at hP1
  obtain ⟨hP, hD⟩ := va_join (wr := [(oc6 u (.ref ux) (.ref uy) (nI m2) rh), (oa ux cI cap2 U), (oa uy cI cap2 V)]) (w1 := [(oc6 r (.ref rx) (.ref ry) (nI 0) rh), (oa rx cI cap X), (oa ry cI cap Y)]) hP hD [0, 1, 2] [3, 4, 5] rfl rfl (by decide) (by decide) hk1 hFc hP1 hD1
  clear hk1 hPc hDc hFc hP1 hD1 ht
  generalize H1 = H at hP hS ⊢
  have hP := hP.sub (ws' := [(oc6 r (.ref rx) (.ref ry) (nI 0) rh), (oa rx cI cap X), (oa ry cI cap Y), (oc6 u (.ref ux) (.ref uy) (nI m2) rh), (oa ux cI cap2 U), (oa uy cI cap2 V)]) [3, 4, 5, 0, 1, 2] rfl
  have hD := hD.sub (ws' := [(oc6 r (.ref rx) (.ref ry) (nI 0) rh), (oa rx cI cap X), (oa ry cI cap Y), (oc6 u (.ref ux) (.ref uy) (nI m2) rh), (oa ux cI cap2 U), (oa uy cI cap2 V)]) [3, 4, 5, 0, 1, 2] (by decide) rfl
  have hP : va_P (dC, dI) classes [(oc6 r (.ref rx) (.ref ry) (nI 0) rh), (oa rx cI cap X), (oa ry cI cap Y), (oc6 u (.ref ux) (.ref uy) (nI m2) rh), (oa ux cI cap2 U), (oa uy cI cap2 V)] H := hP
  have hD : va_D A [(oc6 r (.ref rx) (.ref ry) (nI 0) rh), (oa rx cI cap X), (oa ry cI cap Y), (oc6 u (.ref ux) (.ref uy) (nI m2) rh), (oa ux cI cap2 U), (oa uy cI cap2 V)] := hD
  refine lv_iconst (v := 0) hx hb dX7_copyFrom_8 (by decide) ?_
  refine lv_istore_n (lv' := [(2, .int 0), (0, .ref r), (1, .ref u)]) hx hb dX7_copyFrom_9 rfl hl (by decide) rfl (fun ls hl => ?_)
  have hl_10 : ∀ (n9 : Nat) (i : Nat) (X1 : Nat → Int32) (Y1 : Nat → Int32) (H : Heap) (locs : List Loc) (ls : Array Slot), m2 - i < n9 → (i ≤ m2) → (∀ k, k < i → X1 k = U k ∧ Y1 k = V k) → va_P (dC, dI) classes [(oc6 r (.ref rx) (.ref ry) (nI i) rh), (oa rx cI cap X1), (oa ry cI cap Y1), (oc6 u (.ref ux) (.ref uy) (nI m2) rh), (oa ux cI cap2 U), (oa uy cI cap2 V)] H → va_D A [(oc6 r (.ref rx) (.ref ry) (nI i) rh), (oa rx cI cap X1), (oa ry cI cap Y1), (oc6 u (.ref ux) (.ref uy) (nI m2) rh), (oa ux cI cap2 U), (oa uy cI cap2 V)] → va_S A s.heap H locs → lv_has ls 3 [(2, .int (nI i)), (0, .ref r), (1, .ref u)] → W p l e ((headSpec (.code yX7_copyFrom cX7_copyFrom 3 none :: ws0) ({ frames := 1, cells := 0, slots := 0, locals := 22 } : Room)).room) s m ([.ref r, .ref u] : List Value).toArray below meth c H locs 0 0 Q9 (F0 m 10 ls []) := by
    intro n9
    induction n9 with
    | zero => intro i X1 Y1 H locs ls hm; exact absurd hm (Nat.not_lt_zero _)
    | succ n9 ih_10 =>
      intro i X1 Y1 H locs ls hm hi hall hP hD hS hl
      refine lv_iload_n hx hb dX7_copyFrom_10 rfl (lv_at hl 0 rfl) ?_
      refine lv_aload_n hx hb dX7_copyFrom_11 rfl (lv_at hl 2 rfl) ?_
      refine va_get (D := (dC, dI)) (ci := 6) (v := .int (nI m2)) (C := RX7) (T := TX7) (N := 4) hx hb hts inX7 hown hK hP 3 rfl rfl 2 (by decide) (hts _ mw_175) (fun _ h9 => h9) rfl dX7_copyFrom_12 ?_
      refine lv_icmp_ge (tgt := 40) hx hb dX7_copyFrom_15 (by decide) (fun c_1 => ?_) (fun c_1 => ?_)
      · have c_1 : ((m2 : Nat) : Int) ≤ ((i : Nat) : Int) := zc_le (nI_toInt (by omega)) (nI_toInt (by omega)) c_1
        have hP9 := hP.sub (ws' := [(oc6 r (.ref rx) (.ref ry) (nI i) rh), (oa rx cI cap X1), (oa ry cI cap Y1), (oc6 u (.ref ux) (.ref uy) (nI m2) rh), (oa ux cI cap2 U), (oa uy cI cap2 V)]) [0, 1, 2, 3, 4, 5] rfl
        have hD9 := hD.sub (ws' := [(oc6 r (.ref rx) (.ref ry) (nI i) rh), (oa rx cI cap X1), (oa ry cI cap Y1), (oc6 u (.ref ux) (.ref uy) (nI m2) rh), (oa ux cI cap2 U), (oa uy cI cap2 V)]) [0, 1, 2, 3, 4, 5] (by decide) rfl
        have hE9 : ([(oc6 r (.ref rx) (.ref ry) (nI i) rh), (oa rx cI cap X1), (oa ry cI cap Y1), (oc6 u (.ref ux) (.ref uy) (nI m2) rh), (oa ux cI cap2 U), (oa uy cI cap2 V)] : va_W) = [(oc6 r (.ref rx) (.ref ry) (nI m2) rh), (oa rx cI cap X1), (oa ry cI cap Y1), (oc6 u (.ref ux) (.ref uy) (nI m2) rh), (oa ux cI cap2 U), (oa uy cI cap2 V)] := by rw [show i = m2 by omega]
        rw [hE9] at hP9 hD9
        rw [hQ9]
        exact W.vret hx hb hr (fun t ht hW => ⟨⟨rfl, X1, Y1, (fun k hk => hall k (by omega)), by rw [ht]; exact hP9, hD9⟩, hS.F ht⟩) hS.2.2 dX7_copyFrom_40
      · have c_1 : ((i : Nat) : Int) < ((m2 : Nat) : Int) := zc_nle (nI_toInt (by omega)) (nI_toInt (by omega)) c_1
        refine lv_aload_n hx hb dX7_copyFrom_18 rfl (lv_at hl 1 rfl) ?_
        refine lv_aload_n hx hb dX7_copyFrom_19 rfl (lv_at hl 2 rfl) ?_
        refine va_get (D := (dC, dI)) (ci := 6) (v := .ref ux) (C := RX7) (T := TX7) (N := 4) hx hb hts inX7 hown hK hP 3 rfl rfl 0 (by decide) (hts _ mw_161) (fun _ h9 => h9) rfl dX7_copyFrom_20 ?_
        refine lv_iload_n hx hb dX7_copyFrom_23 rfl (lv_at hl 0 rfl) ?_
        refine z_iald hx hb hK hP 4 0 rfl rfl (e := i) rfl (by omega) (by omega) dX7_copyFrom_24 ?_
        refine lv_aload_n hx hb dX7_copyFrom_25 rfl (lv_at hl 2 rfl) ?_
        refine va_get (D := (dC, dI)) (ci := 6) (v := .ref uy) (C := RX7) (T := TX7) (N := 4) hx hb hts inX7 hown hK hP 3 rfl rfl 1 (by decide) (hts _ mw_168) (fun _ h9 => h9) rfl dX7_copyFrom_26 ?_
        refine lv_iload_n hx hb dX7_copyFrom_29 rfl (lv_at hl 0 rfl) ?_
        refine z_iald hx hb hK hP 5 0 rfl rfl (e := i) rfl (by omega) (by omega) dX7_copyFrom_30 ?_
        have hPc := hP.sub (ws' := [(oc6 r (.ref rx) (.ref ry) (nI i) rh), (oa rx cI cap X1), (oa ry cI cap Y1)]) [0, 1, 2] rfl
        have hDc := hD.sub (ws' := [(oc6 r (.ref rx) (.ref ry) (nI i) rh), (oa rx cI cap X1), (oa ry cI cap Y1)]) [0, 1, 2] (by decide) rfl
        have hFc := va_free (wc := [(oc6 r (.ref rx) (.ref ry) (nI i) rh), (oa rx cI cap X1), (oa ry cI cap Y1)]) hD hS hA [0, 1, 2] rfl
        refine zcall (st1 := []) (va_runV (As := [.int (U i), .int (V i)]) (rest := []) ⟨hx, hb, hml, hown, hts⟩ (k_Row_put l dC dI cI cZ cF H.size r rx ry i cap X1 Y1 rh (U i) (V i) (by omega) (by omega)) (cwV 2 hts (zz_gV mw_603 mw_506 mw_507 mw_102 mc_yX7_put) rfl rfl rfl (by decide +kernel) ⟨Nat.le_of_ble_eq_true rfl, Nat.le_of_ble_eq_true rfl⟩) (zPV2 (q0 := 0) (ci := 6) hPc hDc hK hXN rfl rfl) rfl rfl hl.1 rfl (lv_room (Nat.le_of_ble_eq_true rfl)) dX7_copyFrom_31 ⟨Nat.le_of_ble_eq_true rfl, Nat.le_of_ble_eq_true rfl⟩) hS hFc hFc rfl (fun t H1 locs ht hB hk1 hS => ?_)
        obtain ⟨hP1, hD1⟩ := hB
        rw [ht] at hP1
        obtain ⟨hP, hD⟩ := va_join (wr := [(oc6 u (.ref ux) (.ref uy) (nI m2) rh), (oa ux cI cap2 U), (oa uy cI cap2 V)]) (w1 := [(oc6 r (.ref rx) (.ref ry) (nI (i + 1)) rh), (oa rx cI cap (upd X1 i (U i))), (oa ry cI cap (upd Y1 i (V i)))]) hP hD [0, 1, 2] [3, 4, 5] rfl rfl (by decide) (by decide) hk1 hFc hP1 hD1
        clear hk1 hPc hDc hFc hP1 hD1 ht
        generalize H1 = H at hP hS ⊢
        have hP := hP.sub (ws' := [(oc6 r (.ref rx) (.ref ry) (nI (i + 1)) rh), (oa rx cI cap (upd X1 i (U i))), (oa ry cI cap (upd Y1 i (V i))), (oc6 u (.ref ux) (.ref uy) (nI m2) rh), (oa ux cI cap2 U), (oa uy cI cap2 V)]) [3, 4, 5, 0, 1, 2] rfl
        have hD := hD.sub (ws' := [(oc6 r (.ref rx) (.ref ry) (nI (i + 1)) rh), (oa rx cI cap (upd X1 i (U i))), (oa ry cI cap (upd Y1 i (V i))), (oc6 u (.ref ux) (.ref uy) (nI m2) rh), (oa ux cI cap2 U), (oa uy cI cap2 V)]) [3, 4, 5, 0, 1, 2] (by decide) rfl
        have hP : va_P (dC, dI) classes [(oc6 r (.ref rx) (.ref ry) (nI (i + 1)) rh), (oa rx cI cap (upd X1 i (U i))), (oa ry cI cap (upd Y1 i (V i))), (oc6 u (.ref ux) (.ref uy) (nI m2) rh), (oa ux cI cap2 U), (oa uy cI cap2 V)] H := hP
        have hD : va_D A [(oc6 r (.ref rx) (.ref ry) (nI (i + 1)) rh), (oa rx cI cap (upd X1 i (U i))), (oa ry cI cap (upd Y1 i (V i))), (oc6 u (.ref ux) (.ref uy) (nI m2) rh), (oa ux cI cap2 U), (oa uy cI cap2 V)] := hD
        refine lv_iinc (v := nI (i + 1)) (lv' := [(2, .int (nI (i + 1))), (0, .ref r), (1, .ref u)]) hx hb dX7_copyFrom_34 hl (k := 0) rfl (nI_add i 1) (by decide) rfl (fun ls hl => ?_)
        refine lv_goto (tgt := 10) hx hb dX7_copyFrom_37 (by decide) ?_
        exact ih_10 (i + 1) (upd X1 i (U i)) (upd Y1 i (V i)) H locs ls (by omega) (by omega) (by intro k hk; rcases Nat.lt_or_ge k i with h | h; simp only [upd, if_neg (show k ≠ i by omega)]; exact hall k h; rw [show k = i by omega]; simp only [upd, if_true]; first | exact ⟨rfl, rfl⟩ | exact ⟨trivial, trivial⟩) hP hD hS (lv_sub hl [0, 1, 2] rfl)
  exact hl_10 _ 0 X Y H locs ls (Nat.lt_succ_self _) (by omega) (by intro k hk; omega) hP hD hS (lv_sub hl [0, 1, 2] rfl)
set_option maxHeartbeats 4000000 in
set_option maxRecDepth 100000 in
theorem k_Row_doubleFrom (l : Launch) (dC : Nat → ClassId) (dI : Nat → Nat → Nat) (cI cZ cF : ClassId) (sz : Nat) (r : Nat) (rx : Nat) (ry : Nat) (n : Nat) (cap : Nat) (X : Nat → Int32) (Y : Nat → Int32) (rg : Int32) (u : Nat) (ux : Nat) (uy : Nat) (m2 : Nat) (cap2 : Nat) (U : Nat → Int32) (V : Nat → Int32) (rh : Int32) (hm : m2 ≤ cap) (hcap : cap ≤ 1000) (hm2 : m2 ≤ cap2) (hcap2 : cap2 ≤ 1000) (hrh : rh = 0 ∨ rh = 1) : Met l yX7_doubleFrom (.code yX7_doubleFrom cX7_doubleFrom 3 none :: ws0) ({ frames := 1, cells := 0, slots := 0, locals := 22 } : Room) (va_Pc [.ref r, .ref u] (zPre (dC, dI) classes (zTy cI cZ cF) [(oc6 r (.ref rx) (.ref ry) (nI n) rg), (oa rx cI cap X), (oa ry cI cap Y), (oc6 u (.ref ux) (.ref uy) (nI m2) rh), (oa ux cI cap2 U), (oa uy cI cap2 V)] sz zXN)) (zQ none (fun t => ∃ (X1 : Nat → Int32), ∃ (Y1 : Nat → Int32), (∀ k, k < m2 → X1 k = 2 * U k - U 0 ∧ Y1 k = 2 * V k - V 0) ∧ va_P (dC, dI) classes [(oc6 r (.ref rx) (.ref ry) (nI m2) rh), (oa rx cI cap X1), (oa ry cI cap Y1), (oc6 u (.ref ux) (.ref uy) (nI m2) rh), (oa ux cI cap2 U), (oa uy cI cap2 V)] t.heap ∧ va_D (va_A [(oc6 r (.ref rx) (.ref ry) (nI n) rg), (oa rx cI cap X), (oa ry cI cap Y), (oc6 u (.ref ux) (.ref uy) (nI m2) rh), (oa ux cI cap2 U), (oa uy cI cap2 V)] sz) [(oc6 r (.ref rx) (.ref ry) (nI m2) rh), (oa rx cI cap X1), (oa ry cI cap Y1), (oc6 u (.ref ux) (.ref uy) (nI m2) rh), (oa ux cI cap2 U), (oa uy cI cap2 V)]) (va_A [(oc6 r (.ref rx) (.ref ry) (nI n) rg), (oa rx cI cap X), (oa ry cI cap Y), (oc6 u (.ref ux) (.ref uy) (nI m2) rh), (oa ux cI cap2 U), (oa uy cI cap2 V)] sz)) 0 0 (va_A [(oc6 r (.ref rx) (.ref ry) (nI n) rg), (oa rx cI cap X), (oa ry cI cap Y), (oc6 u (.ref ux) (.ref uy) (nI m2) rh), (oa ux cI cap2 U), (oa uy cI cap2 V)] sz) := by
  refine Met.ofW (cc := cX7_doubleFrom) (maxL := 3) (ret := none) (by decide) rfl ?_
  intro p e s m args below meth c s₁ B hml hv
  obtain ⟨rfl, hsz, hP, hK, hD0, hXN⟩ := hv
  have hx := B.exec
  have hb := B.bytes
  have hr := B.returns
  have hts0 := atoms_spec (ws := .code yX7_doubleFrom cX7_doubleFrom 3 none :: ws0) B.pre
  have hts : ∀ w9 ∈ ws0, w9.before ([.ref r, .ref u] : List Value).toArray s = true := fun w9 h => hts0 w9 (List.mem_cons_of_mem _ h)
  have hown : s.vm.findClass "ScaleShop$Row" = some m.cls := findClass_of_methodNamed B.named
  have hlocks := B.notSynchronized
  subst hsz
  have hD := hD0.self (sz := s.heap.size)
  clear hD0
  generalize hAe : va_A [(oc6 r (.ref rx) (.ref ry) (nI n) rg), (oa rx cI cap X), (oa ry cI cap Y), (oc6 u (.ref ux) (.ref uy) (nI m2) rh), (oa ux cI cap2 U), (oa uy cI cap2 V)] s.heap.size = A at hD ⊢
  have hA : ∀ q : Nat, s.heap.size ≤ q → A q := fun q h => by rw [← hAe]; exact Or.inr h
  clear hAe
  have hS : va_S A s.heap s.heap [] := va_S.rf
  have hP : va_P (dC, dI) classes [(oc6 r (.ref rx) (.ref ry) (nI n) rg), (oa rx cI cap X), (oa ry cI cap Y), (oc6 u (.ref ux) (.ref uy) (nI m2) rh), (oa ux cI cap2 U), (oa uy cI cap2 V)] s.heap := hP
  obtain ⟨Q9, hQ9⟩ : ∃ Q9 : State → Prop, Q9 = MQ below (zQ none (fun t => ∃ (X1 : Nat → Int32), ∃ (Y1 : Nat → Int32), (∀ k, k < m2 → X1 k = 2 * U k - U 0 ∧ Y1 k = 2 * V k - V 0) ∧ va_P (dC, dI) classes [(oc6 r (.ref rx) (.ref ry) (nI m2) rh), (oa rx cI cap X1), (oa ry cI cap Y1), (oc6 u (.ref ux) (.ref uy) (nI m2) rh), (oa ux cI cap2 U), (oa uy cI cap2 V)] t.heap ∧ va_D A [(oc6 r (.ref rx) (.ref ry) (nI m2) rh), (oa rx cI cap X1), (oa ry cI cap Y1), (oc6 u (.ref ux) (.ref uy) (nI m2) rh), (oa ux cI cap2 U), (oa uy cI cap2 V)]) A) ([.ref r, .ref u] : List Value).toArray s 0 0 A := ⟨_, rfl⟩
  rw [← hQ9]
  have hl := lv_entry ([.ref r, .ref u]) (n := 3) (Nat.le_of_ble_eq_true rfl)
  rw [lg_entry_eq]
  generalize (lg_sl ([.ref r, .ref u]) ++ List.replicate (3 - (lg_sl ([.ref r, .ref u])).length) Slot.unset).toArray = ls at hl ⊢
  have hl : lv_has ls 3 [(0, .ref r), (1, .ref u)] := hl
  refine lv_aload_n hx hb dX7_doubleFrom_0 rfl (lv_at hl 0 rfl) ?_
  refine lv_aload_n hx hb dX7_doubleFrom_1 rfl (lv_at hl 1 rfl) ?_
  refine va_get (D := (dC, dI)) (ci := 6) (v := .int rh) (C := RX7) (T := TX7) (N := 4) hx hb hts inX7 hown hK hP 3 rfl rfl 3 (by decide) (hts _ mw_183) (fun _ h9 => h9) rfl dX7_doubleFrom_2 ?_
  have hPc := hP.sub (ws' := [(oc6 r (.ref rx) (.ref ry) (nI n) rg), (oa rx cI cap X), (oa ry cI cap Y)]) [0, 1, 2] rfl
  have hDc := hD.sub (ws' := [(oc6 r (.ref rx) (.ref ry) (nI n) rg), (oa rx cI cap X), (oa ry cI cap Y)]) [0, 1, 2] (by decide) rfl
  have hFc := va_free (wc := [(oc6 r (.ref rx) (.ref ry) (nI n) rg), (oa rx cI cap X), (oa ry cI cap Y)]) hD hS hA [0, 1, 2] rfl
  refine zcall (st1 := []) (va_runV (As := [.int rh]) (rest := []) ⟨hx, hb, hml, hown, hts⟩ (k_Row_clear l dC dI cI cZ cF s.heap.size r rx ry n cap X Y rg rh (by assumption)) (cwV 1 hts (zz_gV mw_599 mw_600 mw_601 mw_102 mc_yX7_clear) rfl rfl rfl (by decide +kernel) ⟨Nat.le_of_ble_eq_true rfl, Nat.le_of_ble_eq_true rfl⟩) (zPV2 (q0 := 0) (ci := 6) hPc hDc hK hXN rfl rfl) rfl rfl hl.1 rfl (lv_room (Nat.le_of_ble_eq_true rfl)) dX7_doubleFrom_5 ⟨Nat.le_of_ble_eq_true rfl, Nat.le_of_ble_eq_true rfl⟩) hS hFc hFc rfl (fun t H1 locs ht hB hk1 hS => ?_)
  obtain ⟨hP1, hD1⟩ := hB
  rw [ht] at hP1
  obtain ⟨hP, hD⟩ := va_join (wr := [(oc6 u (.ref ux) (.ref uy) (nI m2) rh), (oa ux cI cap2 U), (oa uy cI cap2 V)]) (w1 := [(oc6 r (.ref rx) (.ref ry) (nI 0) rh), (oa rx cI cap X), (oa ry cI cap Y)]) hP hD [0, 1, 2] [3, 4, 5] rfl rfl (by decide) (by decide) hk1 hFc hP1 hD1
  clear hk1 hPc hDc hFc hP1 hD1 ht
  generalize H1 = H at hP hS ⊢
  have hP := hP.sub (ws' := [(oc6 r (.ref rx) (.ref ry) (nI 0) rh), (oa rx cI cap X), (oa ry cI cap Y), (oc6 u (.ref ux) (.ref uy) (nI m2) rh), (oa ux cI cap2 U), (oa uy cI cap2 V)]) [3, 4, 5, 0, 1, 2] rfl
  have hD := hD.sub (ws' := [(oc6 r (.ref rx) (.ref ry) (nI 0) rh), (oa rx cI cap X), (oa ry cI cap Y), (oc6 u (.ref ux) (.ref uy) (nI m2) rh), (oa ux cI cap2 U), (oa uy cI cap2 V)]) [3, 4, 5, 0, 1, 2] (by decide) rfl
  have hP : va_P (dC, dI) classes [(oc6 r (.ref rx) (.ref ry) (nI 0) rh), (oa rx cI cap X), (oa ry cI cap Y), (oc6 u (.ref ux) (.ref uy) (nI m2) rh), (oa ux cI cap2 U), (oa uy cI cap2 V)] H := hP
  have hD : va_D A [(oc6 r (.ref rx) (.ref ry) (nI 0) rh), (oa rx cI cap X), (oa ry cI cap Y), (oc6 u (.ref ux) (.ref uy) (nI m2) rh), (oa ux cI cap2 U), (oa uy cI cap2 V)] := hD
  refine lv_iconst (v := 0) hx hb dX7_doubleFrom_8 (by decide) ?_
  refine lv_istore_n (lv' := [(2, .int 0), (0, .ref r), (1, .ref u)]) hx hb dX7_doubleFrom_9 rfl hl (by decide) rfl (fun ls hl => ?_)
  have hl_10 : ∀ (n9 : Nat) (i : Nat) (X1 : Nat → Int32) (Y1 : Nat → Int32) (H : Heap) (locs : List Loc) (ls : Array Slot), m2 - i < n9 → (i ≤ m2) → (∀ k, k < i → X1 k = 2 * U k - U 0 ∧ Y1 k = 2 * V k - V 0) → va_P (dC, dI) classes [(oc6 r (.ref rx) (.ref ry) (nI i) rh), (oa rx cI cap X1), (oa ry cI cap Y1), (oc6 u (.ref ux) (.ref uy) (nI m2) rh), (oa ux cI cap2 U), (oa uy cI cap2 V)] H → va_D A [(oc6 r (.ref rx) (.ref ry) (nI i) rh), (oa rx cI cap X1), (oa ry cI cap Y1), (oc6 u (.ref ux) (.ref uy) (nI m2) rh), (oa ux cI cap2 U), (oa uy cI cap2 V)] → va_S A s.heap H locs → lv_has ls 3 [(2, .int (nI i)), (0, .ref r), (1, .ref u)] → W p l e ((headSpec (.code yX7_doubleFrom cX7_doubleFrom 3 none :: ws0) ({ frames := 1, cells := 0, slots := 0, locals := 22 } : Room)).room) s m ([.ref r, .ref u] : List Value).toArray below meth c H locs 0 0 Q9 (F0 m 10 ls []) := by
    intro n9
    induction n9 with
    | zero => intro i X1 Y1 H locs ls hm; exact absurd hm (Nat.not_lt_zero _)
    | succ n9 ih_10 =>
      intro i X1 Y1 H locs ls hm hi hall hP hD hS hl
      refine lv_iload_n hx hb dX7_doubleFrom_10 rfl (lv_at hl 0 rfl) ?_
      refine lv_aload_n hx hb dX7_doubleFrom_11 rfl (lv_at hl 2 rfl) ?_
      refine va_get (D := (dC, dI)) (ci := 6) (v := .int (nI m2)) (C := RX7) (T := TX7) (N := 4) hx hb hts inX7 hown hK hP 3 rfl rfl 2 (by decide) (hts _ mw_175) (fun _ h9 => h9) rfl dX7_doubleFrom_12 ?_
      refine lv_icmp_ge (tgt := 58) hx hb dX7_doubleFrom_15 (by decide) (fun c_1 => ?_) (fun c_1 => ?_)
      · have c_1 : ((m2 : Nat) : Int) ≤ ((i : Nat) : Int) := zc_le (nI_toInt (by omega)) (nI_toInt (by omega)) c_1
        have hP9 := hP.sub (ws' := [(oc6 r (.ref rx) (.ref ry) (nI i) rh), (oa rx cI cap X1), (oa ry cI cap Y1), (oc6 u (.ref ux) (.ref uy) (nI m2) rh), (oa ux cI cap2 U), (oa uy cI cap2 V)]) [0, 1, 2, 3, 4, 5] rfl
        have hD9 := hD.sub (ws' := [(oc6 r (.ref rx) (.ref ry) (nI i) rh), (oa rx cI cap X1), (oa ry cI cap Y1), (oc6 u (.ref ux) (.ref uy) (nI m2) rh), (oa ux cI cap2 U), (oa uy cI cap2 V)]) [0, 1, 2, 3, 4, 5] (by decide) rfl
        have hE9 : ([(oc6 r (.ref rx) (.ref ry) (nI i) rh), (oa rx cI cap X1), (oa ry cI cap Y1), (oc6 u (.ref ux) (.ref uy) (nI m2) rh), (oa ux cI cap2 U), (oa uy cI cap2 V)] : va_W) = [(oc6 r (.ref rx) (.ref ry) (nI m2) rh), (oa rx cI cap X1), (oa ry cI cap Y1), (oc6 u (.ref ux) (.ref uy) (nI m2) rh), (oa ux cI cap2 U), (oa uy cI cap2 V)] := by rw [show i = m2 by omega]
        rw [hE9] at hP9 hD9
        rw [hQ9]
        exact W.vret hx hb hr (fun t ht hW => ⟨⟨rfl, X1, Y1, (fun k hk => hall k (by omega)), by rw [ht]; exact hP9, hD9⟩, hS.F ht⟩) hS.2.2 dX7_doubleFrom_58
      · have c_1 : ((i : Nat) : Int) < ((m2 : Nat) : Int) := zc_nle (nI_toInt (by omega)) (nI_toInt (by omega)) c_1
        refine lv_aload_n hx hb dX7_doubleFrom_18 rfl (lv_at hl 1 rfl) ?_
        refine lv_iconst (v := 2) hx hb dX7_doubleFrom_19 (by decide) ?_
        refine lv_aload_n hx hb dX7_doubleFrom_20 rfl (lv_at hl 2 rfl) ?_
        refine va_get (D := (dC, dI)) (ci := 6) (v := .ref ux) (C := RX7) (T := TX7) (N := 4) hx hb hts inX7 hown hK hP 3 rfl rfl 0 (by decide) (hts _ mw_161) (fun _ h9 => h9) rfl dX7_doubleFrom_21 ?_
        refine lv_iload_n hx hb dX7_doubleFrom_24 rfl (lv_at hl 0 rfl) ?_
        refine z_iald hx hb hK hP 4 0 rfl rfl (e := i) rfl (by omega) (by omega) dX7_doubleFrom_25 ?_
        refine lv_imul hx hb dX7_doubleFrom_26 ?_
        refine lv_aload_n hx hb dX7_doubleFrom_27 rfl (lv_at hl 2 rfl) ?_
        refine va_get (D := (dC, dI)) (ci := 6) (v := .ref ux) (C := RX7) (T := TX7) (N := 4) hx hb hts inX7 hown hK hP 3 rfl rfl 0 (by decide) (hts _ mw_161) (fun _ h9 => h9) rfl dX7_doubleFrom_28 ?_
        refine lv_iconst (v := 0) hx hb dX7_doubleFrom_31 (by decide) ?_
        refine z_iald hx hb hK hP 4 0 rfl rfl (e := 0) rfl (by omega) (by omega) dX7_doubleFrom_32 ?_
        refine lv_isub hx hb dX7_doubleFrom_33 ?_
        refine lv_iconst (v := 2) hx hb dX7_doubleFrom_34 (by decide) ?_
        refine lv_aload_n hx hb dX7_doubleFrom_35 rfl (lv_at hl 2 rfl) ?_
        refine va_get (D := (dC, dI)) (ci := 6) (v := .ref uy) (C := RX7) (T := TX7) (N := 4) hx hb hts inX7 hown hK hP 3 rfl rfl 1 (by decide) (hts _ mw_168) (fun _ h9 => h9) rfl dX7_doubleFrom_36 ?_
        refine lv_iload_n hx hb dX7_doubleFrom_39 rfl (lv_at hl 0 rfl) ?_
        refine z_iald hx hb hK hP 5 0 rfl rfl (e := i) rfl (by omega) (by omega) dX7_doubleFrom_40 ?_
        refine lv_imul hx hb dX7_doubleFrom_41 ?_
        refine lv_aload_n hx hb dX7_doubleFrom_42 rfl (lv_at hl 2 rfl) ?_
        refine va_get (D := (dC, dI)) (ci := 6) (v := .ref uy) (C := RX7) (T := TX7) (N := 4) hx hb hts inX7 hown hK hP 3 rfl rfl 1 (by decide) (hts _ mw_168) (fun _ h9 => h9) rfl dX7_doubleFrom_43 ?_
        refine lv_iconst (v := 0) hx hb dX7_doubleFrom_46 (by decide) ?_
        refine z_iald hx hb hK hP 5 0 rfl rfl (e := 0) rfl (by omega) (by omega) dX7_doubleFrom_47 ?_
        refine lv_isub hx hb dX7_doubleFrom_48 ?_
        have hPc := hP.sub (ws' := [(oc6 r (.ref rx) (.ref ry) (nI i) rh), (oa rx cI cap X1), (oa ry cI cap Y1)]) [0, 1, 2] rfl
        have hDc := hD.sub (ws' := [(oc6 r (.ref rx) (.ref ry) (nI i) rh), (oa rx cI cap X1), (oa ry cI cap Y1)]) [0, 1, 2] (by decide) rfl
        have hFc := va_free (wc := [(oc6 r (.ref rx) (.ref ry) (nI i) rh), (oa rx cI cap X1), (oa ry cI cap Y1)]) hD hS hA [0, 1, 2] rfl
        refine zcall (st1 := []) (va_runV (As := [.int ((2 * (U i)) - (U 0)), .int ((2 * (V i)) - (V 0))]) (rest := []) ⟨hx, hb, hml, hown, hts⟩ (k_Row_put l dC dI cI cZ cF H.size r rx ry i cap X1 Y1 rh ((2 * (U i)) - (U 0)) ((2 * (V i)) - (V 0)) (by omega) (by omega)) (cwV 2 hts (zz_gV mw_603 mw_506 mw_507 mw_102 mc_yX7_put) rfl rfl rfl (by decide +kernel) ⟨Nat.le_of_ble_eq_true rfl, Nat.le_of_ble_eq_true rfl⟩) (zPV2 (q0 := 0) (ci := 6) hPc hDc hK hXN rfl rfl) rfl rfl hl.1 rfl (lv_room (Nat.le_of_ble_eq_true rfl)) dX7_doubleFrom_49 ⟨Nat.le_of_ble_eq_true rfl, Nat.le_of_ble_eq_true rfl⟩) hS hFc hFc rfl (fun t H1 locs ht hB hk1 hS => ?_)
        obtain ⟨hP1, hD1⟩ := hB
        rw [ht] at hP1
        obtain ⟨hP, hD⟩ := va_join (wr := [(oc6 u (.ref ux) (.ref uy) (nI m2) rh), (oa ux cI cap2 U), (oa uy cI cap2 V)]) (w1 := [(oc6 r (.ref rx) (.ref ry) (nI (i + 1)) rh), (oa rx cI cap (upd X1 i ((2 * (U i)) - (U 0)))), (oa ry cI cap (upd Y1 i ((2 * (V i)) - (V 0))))]) hP hD [0, 1, 2] [3, 4, 5] rfl rfl (by decide) (by decide) hk1 hFc hP1 hD1
        clear hk1 hPc hDc hFc hP1 hD1 ht
        generalize H1 = H at hP hS ⊢
        have hP := hP.sub (ws' := [(oc6 r (.ref rx) (.ref ry) (nI (i + 1)) rh), (oa rx cI cap (upd X1 i ((2 * (U i)) - (U 0)))), (oa ry cI cap (upd Y1 i ((2 * (V i)) - (V 0)))), (oc6 u (.ref ux) (.ref uy) (nI m2) rh), (oa ux cI cap2 U), (oa uy cI cap2 V)]) [3, 4, 5, 0, 1, 2] rfl
        have hD := hD.sub (ws' := [(oc6 r (.ref rx) (.ref ry) (nI (i + 1)) rh), (oa rx cI cap (upd X1 i ((2 * (U i)) - (U 0)))), (oa ry cI cap (upd Y1 i ((2 * (V i)) - (V 0)))), (oc6 u (.ref ux) (.ref uy) (nI m2) rh), (oa ux cI cap2 U), (oa uy cI cap2 V)]) [3, 4, 5, 0, 1, 2] (by decide) rfl
        have hP : va_P (dC, dI) classes [(oc6 r (.ref rx) (.ref ry) (nI (i + 1)) rh), (oa rx cI cap (upd X1 i ((2 * (U i)) - (U 0)))), (oa ry cI cap (upd Y1 i ((2 * (V i)) - (V 0)))), (oc6 u (.ref ux) (.ref uy) (nI m2) rh), (oa ux cI cap2 U), (oa uy cI cap2 V)] H := hP
        have hD : va_D A [(oc6 r (.ref rx) (.ref ry) (nI (i + 1)) rh), (oa rx cI cap (upd X1 i ((2 * (U i)) - (U 0)))), (oa ry cI cap (upd Y1 i ((2 * (V i)) - (V 0)))), (oc6 u (.ref ux) (.ref uy) (nI m2) rh), (oa ux cI cap2 U), (oa uy cI cap2 V)] := hD
        refine lv_iinc (v := nI (i + 1)) (lv' := [(2, .int (nI (i + 1))), (0, .ref r), (1, .ref u)]) hx hb dX7_doubleFrom_52 hl (k := 0) rfl (nI_add i 1) (by decide) rfl (fun ls hl => ?_)
        refine lv_goto (tgt := 10) hx hb dX7_doubleFrom_55 (by decide) ?_
        exact ih_10 (i + 1) (upd X1 i ((2 * (U i)) - (U 0))) (upd Y1 i ((2 * (V i)) - (V 0))) H locs ls (by omega) (by omega) (by intro k hk; rcases Nat.lt_or_ge k i with h | h; simp only [upd, if_neg (show k ≠ i by omega)]; exact hall k h; rw [show k = i by omega]; simp only [upd, if_true]; first | exact ⟨rfl, rfl⟩ | exact ⟨trivial, trivial⟩) hP hD hS (lv_sub hl [0, 1, 2] rfl)
  exact hl_10 _ 0 X Y H locs ls (Nat.lt_succ_self _) (by omega) (by intro k hk; omega) hP hD hS (lv_sub hl [0, 1, 2] rfl)
set_option maxHeartbeats 4000000 in
set_option maxRecDepth 100000 in
theorem k_Row_carry (l : Launch) (dC : Nat → ClassId) (dI : Nat → Nat → Nat) (cI cZ cF : ClassId) (sz : Nat) (r : Nat) (rx : Nat) (ry : Nat) (n : Nat) (cap : Nat) (X : Nat → Int32) (Y : Nat → Int32) (rg : Int32) (dx : Int32) (dy : Int32) (hn : n ≤ cap) (hcap : cap ≤ 1000) : Met l yX7_carry (.code yX7_carry cX7_carry 4 none :: ws0) ({ frames := 0, cells := 0, slots := 0, locals := 0 } : Room) (va_Pc [.ref r, .int dx, .int dy] (zPre (dC, dI) classes (zTy cI cZ cF) [(oc6 r (.ref rx) (.ref ry) (nI n) rg), (oa rx cI cap X), (oa ry cI cap Y)] sz zXN)) (zQ none (fun t => ∃ (X1 : Nat → Int32), ∃ (Y1 : Nat → Int32), (∀ k, k < n → X1 k = X k + dx ∧ Y1 k = Y k + dy) ∧ va_P (dC, dI) classes [(oc6 r (.ref rx) (.ref ry) (nI n) rg), (oa rx cI cap X1), (oa ry cI cap Y1)] t.heap ∧ va_D (va_A [(oc6 r (.ref rx) (.ref ry) (nI n) rg), (oa rx cI cap X), (oa ry cI cap Y)] sz) [(oc6 r (.ref rx) (.ref ry) (nI n) rg), (oa rx cI cap X1), (oa ry cI cap Y1)]) (va_A [(oc6 r (.ref rx) (.ref ry) (nI n) rg), (oa rx cI cap X), (oa ry cI cap Y)] sz)) 0 0 (va_A [(oc6 r (.ref rx) (.ref ry) (nI n) rg), (oa rx cI cap X), (oa ry cI cap Y)] sz) := by
  refine Met.ofW (cc := cX7_carry) (maxL := 4) (ret := none) (by decide) rfl ?_
  intro p e s m args below meth c s₁ B hml hv
  obtain ⟨rfl, hsz, hP, hK, hD0, hXN⟩ := hv
  have hx := B.exec
  have hb := B.bytes
  have hr := B.returns
  have hts0 := atoms_spec (ws := .code yX7_carry cX7_carry 4 none :: ws0) B.pre
  have hts : ∀ w9 ∈ ws0, w9.before ([.ref r, .int dx, .int dy] : List Value).toArray s = true := fun w9 h => hts0 w9 (List.mem_cons_of_mem _ h)
  have hown : s.vm.findClass "ScaleShop$Row" = some m.cls := findClass_of_methodNamed B.named
  have hlocks := B.notSynchronized
  subst hsz
  have hD := hD0.self (sz := s.heap.size)
  clear hD0
  generalize hAe : va_A [(oc6 r (.ref rx) (.ref ry) (nI n) rg), (oa rx cI cap X), (oa ry cI cap Y)] s.heap.size = A at hD ⊢
  have hA : ∀ q : Nat, s.heap.size ≤ q → A q := fun q h => by rw [← hAe]; exact Or.inr h
  clear hAe
  have hS : va_S A s.heap s.heap [] := va_S.rf
  have hP : va_P (dC, dI) classes [(oc6 r (.ref rx) (.ref ry) (nI n) rg), (oa rx cI cap X), (oa ry cI cap Y)] s.heap := hP
  obtain ⟨Q9, hQ9⟩ : ∃ Q9 : State → Prop, Q9 = MQ below (zQ none (fun t => ∃ (X1 : Nat → Int32), ∃ (Y1 : Nat → Int32), (∀ k, k < n → X1 k = X k + dx ∧ Y1 k = Y k + dy) ∧ va_P (dC, dI) classes [(oc6 r (.ref rx) (.ref ry) (nI n) rg), (oa rx cI cap X1), (oa ry cI cap Y1)] t.heap ∧ va_D A [(oc6 r (.ref rx) (.ref ry) (nI n) rg), (oa rx cI cap X1), (oa ry cI cap Y1)]) A) ([.ref r, .int dx, .int dy] : List Value).toArray s 0 0 A := ⟨_, rfl⟩
  rw [← hQ9]
  have hl := lv_entry ([.ref r, .int dx, .int dy]) (n := 4) (Nat.le_of_ble_eq_true rfl)
  rw [lg_entry_eq]
  generalize (lg_sl ([.ref r, .int dx, .int dy]) ++ List.replicate (4 - (lg_sl ([.ref r, .int dx, .int dy])).length) Slot.unset).toArray = ls at hl ⊢
  have hl : lv_has ls 4 [(0, .ref r), (1, .int dx), (2, .int dy)] := hl
  refine lv_iconst (v := 0) hx hb dX7_carry_0 (by decide) ?_
  refine lv_istore_n (lv' := [(3, .int 0), (0, .ref r), (1, .int dx), (2, .int dy)]) hx hb dX7_carry_1 rfl hl (by decide) rfl (fun ls hl => ?_)
  have hl_2 : ∀ (n9 : Nat) (i : Nat) (X1 : Nat → Int32) (Y1 : Nat → Int32) (H : Heap) (locs : List Loc) (ls : Array Slot), n - i < n9 → (i ≤ n) → (∀ k, k < i → X1 k = X k + dx ∧ Y1 k = Y k + dy) → (∀ k, i ≤ k → X1 k = X k ∧ Y1 k = Y k) → va_P (dC, dI) classes [(oc6 r (.ref rx) (.ref ry) (nI n) rg), (oa rx cI cap X1), (oa ry cI cap Y1)] H → va_D A [(oc6 r (.ref rx) (.ref ry) (nI n) rg), (oa rx cI cap X1), (oa ry cI cap Y1)] → va_S A s.heap H locs → lv_has ls 4 [(3, .int (nI i)), (0, .ref r), (1, .int dx), (2, .int dy)] → W p l e ((headSpec (.code yX7_carry cX7_carry 4 none :: ws0) ({ frames := 0, cells := 0, slots := 0, locals := 0 } : Room)).room) s m ([.ref r, .int dx, .int dy] : List Value).toArray below meth c H locs 0 0 Q9 (F0 m 2 ls []) := by
    intro n9
    induction n9 with
    | zero => intro i X1 Y1 H locs ls hm; exact absurd hm (Nat.not_lt_zero _)
    | succ n9 ih_2 =>
      intro i X1 Y1 H locs ls hm hi hall hrst hP hD hS hl
      refine lv_iload_n hx hb dX7_carry_2 rfl (lv_at hl 0 rfl) ?_
      refine lv_aload_n hx hb dX7_carry_3 rfl (lv_at hl 1 rfl) ?_
      refine va_get (D := (dC, dI)) (ci := 6) (v := .int (nI n)) (C := RX7) (T := TX7) (N := 4) hx hb hts inX7 hown hK hP 0 rfl rfl 2 (by decide) (hts _ mw_175) (fun _ h9 => h9) rfl dX7_carry_4 ?_
      refine lv_icmp_ge (tgt := 36) hx hb dX7_carry_7 (by decide) (fun c_1 => ?_) (fun c_1 => ?_)
      · have c_1 : ((n : Nat) : Int) ≤ ((i : Nat) : Int) := zc_le (nI_toInt (by omega)) (nI_toInt (by omega)) c_1
        have hP9 := hP.sub (ws' := [(oc6 r (.ref rx) (.ref ry) (nI n) rg), (oa rx cI cap X1), (oa ry cI cap Y1)]) [0, 1, 2] rfl
        have hD9 := hD.sub (ws' := [(oc6 r (.ref rx) (.ref ry) (nI n) rg), (oa rx cI cap X1), (oa ry cI cap Y1)]) [0, 1, 2] (by decide) rfl
        rw [hQ9]
        exact W.vret hx hb hr (fun t ht hW => ⟨⟨rfl, X1, Y1, (fun k hk => hall k (by omega)), by rw [ht]; exact hP9, hD9⟩, hS.F ht⟩) hS.2.2 dX7_carry_36
      · have c_1 : ((i : Nat) : Int) < ((n : Nat) : Int) := zc_nle (nI_toInt (by omega)) (nI_toInt (by omega)) c_1
        refine lv_aload_n hx hb dX7_carry_10 rfl (lv_at hl 1 rfl) ?_
        refine va_get (D := (dC, dI)) (ci := 6) (v := .ref rx) (C := RX7) (T := TX7) (N := 4) hx hb hts inX7 hown hK hP 0 rfl rfl 0 (by decide) (hts _ mw_161) (fun _ h9 => h9) rfl dX7_carry_11 ?_
        refine lv_iload_n hx hb dX7_carry_14 rfl (lv_at hl 0 rfl) ?_
        refine lv_dup2_11 hx hb dX7_carry_15 rfl rfl ?_
        refine z_iald hx hb hK hP 1 0 rfl rfl (e := i) rfl (by omega) (by omega) dX7_carry_16 ?_
        refine lv_iload_n hx hb dX7_carry_17 rfl (lv_at hl 2 rfl) ?_
        refine lv_iadd hx hb dX7_carry_18 ?_
        refine z_iast hx hb hK hP hD hS 1 0 rfl rfl (e := i) (x := (X1 i) + dx) rfl (by omega) (by omega) dX7_carry_19 (fun H locs hP hD hS => ?_)
        have hP : va_P (dC, dI) classes [(oc6 r (.ref rx) (.ref ry) (nI n) rg), (oa rx cI cap (upd X1 i ((X1 i) + dx))), (oa ry cI cap Y1)] H := hP
        have hD : va_D A [(oc6 r (.ref rx) (.ref ry) (nI n) rg), (oa rx cI cap (upd X1 i ((X1 i) + dx))), (oa ry cI cap Y1)] := hD
        refine lv_aload_n hx hb dX7_carry_20 rfl (lv_at hl 1 rfl) ?_
        refine va_get (D := (dC, dI)) (ci := 6) (v := .ref ry) (C := RX7) (T := TX7) (N := 4) hx hb hts inX7 hown hK hP 0 rfl rfl 1 (by decide) (hts _ mw_168) (fun _ h9 => h9) rfl dX7_carry_21 ?_
        refine lv_iload_n hx hb dX7_carry_24 rfl (lv_at hl 0 rfl) ?_
        refine lv_dup2_11 hx hb dX7_carry_25 rfl rfl ?_
        refine z_iald hx hb hK hP 2 0 rfl rfl (e := i) rfl (by omega) (by omega) dX7_carry_26 ?_
        refine lv_iload_n hx hb dX7_carry_27 rfl (lv_at hl 3 rfl) ?_
        refine lv_iadd hx hb dX7_carry_28 ?_
        refine z_iast hx hb hK hP hD hS 2 0 rfl rfl (e := i) (x := (Y1 i) + dy) rfl (by omega) (by omega) dX7_carry_29 (fun H locs hP hD hS => ?_)
        have hP : va_P (dC, dI) classes [(oc6 r (.ref rx) (.ref ry) (nI n) rg), (oa rx cI cap (upd X1 i ((X1 i) + dx))), (oa ry cI cap (upd Y1 i ((Y1 i) + dy)))] H := hP
        have hD : va_D A [(oc6 r (.ref rx) (.ref ry) (nI n) rg), (oa rx cI cap (upd X1 i ((X1 i) + dx))), (oa ry cI cap (upd Y1 i ((Y1 i) + dy)))] := hD
        refine lv_iinc (v := nI (i + 1)) (lv' := [(3, .int (nI (i + 1))), (0, .ref r), (1, .int dx), (2, .int dy)]) hx hb dX7_carry_30 hl (k := 0) rfl (nI_add i 1) (by decide) rfl (fun ls hl => ?_)
        refine lv_goto (tgt := 2) hx hb dX7_carry_33 (by decide) ?_
        exact ih_2 (i + 1) (upd X1 i ((X1 i) + dx)) (upd Y1 i ((Y1 i) + dy)) H locs ls (by omega) (by omega) (by intro k hk; rcases Nat.lt_or_ge k i with h | h; simp only [upd, if_neg (show k ≠ i by omega)]; exact hall k h; have e9 : k = i := (by omega); subst e9; simp only [upd, if_true]; rw [(hrst k (by omega)).1, (hrst k (by omega)).2]; exact ⟨rfl, rfl⟩) (by intro k hk; simp only [upd, if_neg (show k ≠ i by omega)]; exact hrst k (by omega)) hP hD hS (lv_sub hl [0, 1, 2, 3] rfl)
  exact hl_2 _ 0 X Y s.heap [] ls (Nat.lt_succ_self _) (by omega) (by intro k hk; omega) (by intro k hk; exact ⟨rfl, rfl⟩) hP hD hS (lv_sub hl [0, 1, 2, 3] rfl)
set_option maxHeartbeats 4000000 in
set_option maxRecDepth 100000 in
theorem k_Row_cut (l : Launch) (dC : Nat → ClassId) (dI : Nat → Nat → Nat) (cI cZ cF : ClassId) (sz : Nat) (r : Nat) (rx : Nat) (ry : Nat) (n : Nat) (cap : Nat) (X : Nat → Int32) (Y : Nat → Int32) (rg : Int32) (k : Nat) (hn : n ≤ cap) (hcap : cap ≤ 1000) (hk : k < n) : Met l yX7_cut (.code yX7_cut cX7_cut 3 none :: ws0) ({ frames := 1, cells := 0, slots := 0, locals := 14 } : Room) (va_Pc [.ref r, .int (nI k)] (zPre (dC, dI) classes (zTy cI cZ cF) [(oc6 r (.ref rx) (.ref ry) (nI n) rg), (oa rx cI cap X), (oa ry cI cap Y)] sz zXN)) (zQ none (fun t => ∃ (X1 : Nat → Int32), ∃ (Y1 : Nat → Int32), (∀ j, j < k → X1 j = X j ∧ Y1 j = Y j) ∧ (∀ j, k ≤ j → j < n - 1 → X1 j = X (j + 1) ∧ Y1 j = Y (j + 1)) ∧ va_P (dC, dI) classes [(oc6 r (.ref rx) (.ref ry) (nI (n - 1)) rg), (oa rx cI cap X1), (oa ry cI cap Y1)] t.heap ∧ va_D (va_A [(oc6 r (.ref rx) (.ref ry) (nI n) rg), (oa rx cI cap X), (oa ry cI cap Y)] sz) [(oc6 r (.ref rx) (.ref ry) (nI (n - 1)) rg), (oa rx cI cap X1), (oa ry cI cap Y1)]) (va_A [(oc6 r (.ref rx) (.ref ry) (nI n) rg), (oa rx cI cap X), (oa ry cI cap Y)] sz)) 0 0 (va_A [(oc6 r (.ref rx) (.ref ry) (nI n) rg), (oa rx cI cap X), (oa ry cI cap Y)] sz) := by
  refine Met.ofW (cc := cX7_cut) (maxL := 3) (ret := none) (by decide) rfl ?_
  intro p e s m args below meth c s₁ B hml hv
  obtain ⟨rfl, hsz, hP, hK, hD0, hXN⟩ := hv
  have hx := B.exec
  have hb := B.bytes
  have hr := B.returns
  have hts0 := atoms_spec (ws := .code yX7_cut cX7_cut 3 none :: ws0) B.pre
  have hts : ∀ w9 ∈ ws0, w9.before ([.ref r, .int (nI k)] : List Value).toArray s = true := fun w9 h => hts0 w9 (List.mem_cons_of_mem _ h)
  have hown : s.vm.findClass "ScaleShop$Row" = some m.cls := findClass_of_methodNamed B.named
  have hlocks := B.notSynchronized
  subst hsz
  have hD := hD0.self (sz := s.heap.size)
  clear hD0
  generalize hAe : va_A [(oc6 r (.ref rx) (.ref ry) (nI n) rg), (oa rx cI cap X), (oa ry cI cap Y)] s.heap.size = A at hD ⊢
  have hA : ∀ q : Nat, s.heap.size ≤ q → A q := fun q h => by rw [← hAe]; exact Or.inr h
  clear hAe
  have hS : va_S A s.heap s.heap [] := va_S.rf
  have hP : va_P (dC, dI) classes [(oc6 r (.ref rx) (.ref ry) (nI n) rg), (oa rx cI cap X), (oa ry cI cap Y)] s.heap := hP
  obtain ⟨Q9, hQ9⟩ : ∃ Q9 : State → Prop, Q9 = MQ below (zQ none (fun t => ∃ (X1 : Nat → Int32), ∃ (Y1 : Nat → Int32), (∀ j, j < k → X1 j = X j ∧ Y1 j = Y j) ∧ (∀ j, k ≤ j → j < n - 1 → X1 j = X (j + 1) ∧ Y1 j = Y (j + 1)) ∧ va_P (dC, dI) classes [(oc6 r (.ref rx) (.ref ry) (nI (n - 1)) rg), (oa rx cI cap X1), (oa ry cI cap Y1)] t.heap ∧ va_D A [(oc6 r (.ref rx) (.ref ry) (nI (n - 1)) rg), (oa rx cI cap X1), (oa ry cI cap Y1)]) A) ([.ref r, .int (nI k)] : List Value).toArray s 0 0 A := ⟨_, rfl⟩
  rw [← hQ9]
  have hl := lv_entry ([.ref r, .int (nI k)]) (n := 3) (Nat.le_of_ble_eq_true rfl)
  rw [lg_entry_eq]
  generalize (lg_sl ([.ref r, .int (nI k)]) ++ List.replicate (3 - (lg_sl ([.ref r, .int (nI k)])).length) Slot.unset).toArray = ls at hl ⊢
  have hl : lv_has ls 3 [(0, .ref r), (1, .int (nI k))] := hl
  refine lv_iload_n hx hb dX7_cut_0 rfl (lv_at hl 1 rfl) ?_
  refine lv_iconst (v := 0) hx hb dX7_cut_1 (by decide) ?_
  refine va_mmax hx hb (by rw [hml]; exact hl.1.symm) hown (hts _ mw_158) (hts _ mw_159) (hts _ mw_103) (hts _ mw_maxcode) (Nat.le_of_ble_eq_true rfl) (Nat.le_of_ble_eq_true rfl) (Nat.le_of_ble_eq_true rfl) (Nat.le_of_ble_eq_true rfl) dX7_cut_2 ?_
  refine lv_topi (fun v_1 ev_1 => ?_)
  have hv_1 : v_1.toInt = max ((k : Nat) : Int) 0 := zmax (nI_toInt (by omega)) (by decide) ev_1
  refine zz_i (v := nI k) (Int32.toInt_inj.mp (by rw [hv_1, nI_toInt (by omega)]; omega)) ?_
  refine lv_istore_n (lv' := [(2, .int (nI k)), (0, .ref r), (1, .int (nI k))]) hx hb dX7_cut_5 rfl hl (by decide) rfl (fun ls hl => ?_)
  have hl_6 : ∀ (n9 : Nat) (i : Nat) (X1 : Nat → Int32) (Y1 : Nat → Int32) (H : Heap) (locs : List Loc) (ls : Array Slot), n - i < n9 → (i ≤ n) → (k ≤ i) → (∀ j, j < k → X1 j = X j ∧ Y1 j = Y j) → (∀ j, k ≤ j → j < i → X1 j = X (j + 1) ∧ Y1 j = Y (j + 1)) → (∀ j, i ≤ j → X1 j = X j ∧ Y1 j = Y j) → va_P (dC, dI) classes [(oc6 r (.ref rx) (.ref ry) (nI n) rg), (oa rx cI cap X1), (oa ry cI cap Y1)] H → va_D A [(oc6 r (.ref rx) (.ref ry) (nI n) rg), (oa rx cI cap X1), (oa ry cI cap Y1)] → va_S A s.heap H locs → lv_has ls 3 [(2, .int (nI i)), (0, .ref r), (1, .int (nI k))] → W p l e ((headSpec (.code yX7_cut cX7_cut 3 none :: ws0) ({ frames := 1, cells := 0, slots := 0, locals := 14 } : Room)).room) s m ([.ref r, .int (nI k)] : List Value).toArray below meth c H locs 0 0 Q9 (F0 m 6 ls []) := by
    intro n9
    induction n9 with
    | zero => intro i X1 Y1 H locs ls hm; exact absurd hm (Nat.not_lt_zero _)
    | succ n9 ih_6 =>
      intro i X1 Y1 H locs ls hm hi hki hlo hhi hrst hP hD hS hl
      refine lv_iload_n hx hb dX7_cut_6 rfl (lv_at hl 0 rfl) ?_
      refine lv_aload_n hx hb dX7_cut_7 rfl (lv_at hl 1 rfl) ?_
      refine va_get (D := (dC, dI)) (ci := 6) (v := .int (nI n)) (C := RX7) (T := TX7) (N := 4) hx hb hts inX7 hown hK hP 0 rfl rfl 2 (by decide) (hts _ mw_175) (fun _ h9 => h9) rfl dX7_cut_8 ?_
      refine lv_iconst (v := 1) hx hb dX7_cut_11 (by decide) ?_
      refine lv_isub hx hb dX7_cut_12 ?_
      refine zz_i (v := nI (n - 1)) (pk_sub (a := n) (b := 1) (by omega)) ?_
      refine lv_icmp_ge (tgt := 50) hx hb dX7_cut_13 (by decide) (fun c_2 => ?_) (fun c_2 => ?_)
      · have c_2 : ((n - 1 : Nat) : Int) ≤ ((i : Nat) : Int) := zc_le (nI_toInt (by omega)) (nI_toInt (by omega)) c_2
        refine lv_aload_n hx hb dX7_cut_50 rfl (lv_at hl 1 rfl) ?_
        refine lv_aload_n hx hb dX7_cut_51 rfl (lv_at hl 1 rfl) ?_
        refine va_get (D := (dC, dI)) (ci := 6) (v := .int (nI n)) (C := RX7) (T := TX7) (N := 4) hx hb hts inX7 hown hK hP 0 rfl rfl 2 (by decide) (hts _ mw_175) (fun _ h9 => h9) rfl dX7_cut_52 ?_
        refine lv_iconst (v := 1) hx hb dX7_cut_55 (by decide) ?_
        refine lv_isub hx hb dX7_cut_56 ?_
        refine zz_i (v := nI (n - 1)) (pk_sub (a := n) (b := 1) (by omega)) ?_
        refine lv_iconst (v := 0) hx hb dX7_cut_57 (by decide) ?_
        refine va_mmax hx hb (by rw [hml]; exact hl.1.symm) hown (hts _ mw_158) (hts _ mw_159) (hts _ mw_103) (hts _ mw_maxcode) (Nat.le_of_ble_eq_true rfl) (Nat.le_of_ble_eq_true rfl) (Nat.le_of_ble_eq_true rfl) (Nat.le_of_ble_eq_true rfl) dX7_cut_58 ?_
        refine lv_topi (fun v_3 ev_3 => ?_)
        have hv_3 : v_3.toInt = max ((n - 1 : Nat) : Int) 0 := zmax (nI_toInt (by omega)) (by decide) ev_3
        refine zz_i (v := nI (n - 1)) (Int32.toInt_inj.mp (by rw [hv_3, nI_toInt (by omega)]; omega)) ?_
        refine va_put (D := (dC, dI)) (ci := 6) (v := .int (nI (n - 1))) (ty := .int) (C := RX7) (T := TX7) (N := 4) hx hb hts inX7 tyX7 tyX7_ok nmX7 hown hK hP hD hS 0 rfl rfl 2 (by decide) (hts _ mw_175) (fun _ h9 => h9) rfl (by decide +kernel) rfl rfl (Nat.le_of_ble_eq_true rfl) dX7_cut_61 (fun H locs hP hD hS => ?_)
        have hP : va_P (dC, dI) classes [(oc6 r (.ref rx) (.ref ry) (nI (n - 1)) rg), (oa rx cI cap X1), (oa ry cI cap Y1)] H := hP
        have hD : va_D A [(oc6 r (.ref rx) (.ref ry) (nI (n - 1)) rg), (oa rx cI cap X1), (oa ry cI cap Y1)] := hD
        have hP9 := hP.sub (ws' := [(oc6 r (.ref rx) (.ref ry) (nI (n - 1)) rg), (oa rx cI cap X1), (oa ry cI cap Y1)]) [0, 1, 2] rfl
        have hD9 := hD.sub (ws' := [(oc6 r (.ref rx) (.ref ry) (nI (n - 1)) rg), (oa rx cI cap X1), (oa ry cI cap Y1)]) [0, 1, 2] (by decide) rfl
        rw [hQ9]
        exact W.vret hx hb hr (fun t ht hW => ⟨⟨rfl, X1, Y1, (hlo), (fun j h1 h2 => hhi j h1 (by omega)), by rw [ht]; exact hP9, hD9⟩, hS.F ht⟩) hS.2.2 dX7_cut_64
      · have c_2 : ((i : Nat) : Int) < ((n - 1 : Nat) : Int) := zc_nle (nI_toInt (by omega)) (nI_toInt (by omega)) c_2
        refine lv_aload_n hx hb dX7_cut_16 rfl (lv_at hl 1 rfl) ?_
        refine va_get (D := (dC, dI)) (ci := 6) (v := .ref rx) (C := RX7) (T := TX7) (N := 4) hx hb hts inX7 hown hK hP 0 rfl rfl 0 (by decide) (hts _ mw_161) (fun _ h9 => h9) rfl dX7_cut_17 ?_
        refine lv_iload_n hx hb dX7_cut_20 rfl (lv_at hl 0 rfl) ?_
        refine lv_aload_n hx hb dX7_cut_21 rfl (lv_at hl 1 rfl) ?_
        refine va_get (D := (dC, dI)) (ci := 6) (v := .ref rx) (C := RX7) (T := TX7) (N := 4) hx hb hts inX7 hown hK hP 0 rfl rfl 0 (by decide) (hts _ mw_161) (fun _ h9 => h9) rfl dX7_cut_22 ?_
        refine lv_iload_n hx hb dX7_cut_25 rfl (lv_at hl 0 rfl) ?_
        refine lv_iconst (v := 1) hx hb dX7_cut_26 (by decide) ?_
        refine lv_iadd hx hb dX7_cut_27 ?_
        refine zz_i (v := nI (i + 1)) (nI_add i 1) ?_
        refine z_iald hx hb hK hP 1 0 rfl rfl (e := i + 1) rfl (by omega) (by omega) dX7_cut_28 ?_
        refine z_iast hx hb hK hP hD hS 1 0 rfl rfl (e := i) (x := X1 (i + 1)) rfl (by omega) (by omega) dX7_cut_29 (fun H locs hP hD hS => ?_)
        have hP : va_P (dC, dI) classes [(oc6 r (.ref rx) (.ref ry) (nI n) rg), (oa rx cI cap (upd X1 i (X1 (i + 1)))), (oa ry cI cap Y1)] H := hP
        have hD : va_D A [(oc6 r (.ref rx) (.ref ry) (nI n) rg), (oa rx cI cap (upd X1 i (X1 (i + 1)))), (oa ry cI cap Y1)] := hD
        refine lv_aload_n hx hb dX7_cut_30 rfl (lv_at hl 1 rfl) ?_
        refine va_get (D := (dC, dI)) (ci := 6) (v := .ref ry) (C := RX7) (T := TX7) (N := 4) hx hb hts inX7 hown hK hP 0 rfl rfl 1 (by decide) (hts _ mw_168) (fun _ h9 => h9) rfl dX7_cut_31 ?_
        refine lv_iload_n hx hb dX7_cut_34 rfl (lv_at hl 0 rfl) ?_
        refine lv_aload_n hx hb dX7_cut_35 rfl (lv_at hl 1 rfl) ?_
        refine va_get (D := (dC, dI)) (ci := 6) (v := .ref ry) (C := RX7) (T := TX7) (N := 4) hx hb hts inX7 hown hK hP 0 rfl rfl 1 (by decide) (hts _ mw_168) (fun _ h9 => h9) rfl dX7_cut_36 ?_
        refine lv_iload_n hx hb dX7_cut_39 rfl (lv_at hl 0 rfl) ?_
        refine lv_iconst (v := 1) hx hb dX7_cut_40 (by decide) ?_
        refine lv_iadd hx hb dX7_cut_41 ?_
        refine zz_i (v := nI (i + 1)) (nI_add i 1) ?_
        refine z_iald hx hb hK hP 2 0 rfl rfl (e := i + 1) rfl (by omega) (by omega) dX7_cut_42 ?_
        refine z_iast hx hb hK hP hD hS 2 0 rfl rfl (e := i) (x := Y1 (i + 1)) rfl (by omega) (by omega) dX7_cut_43 (fun H locs hP hD hS => ?_)
        have hP : va_P (dC, dI) classes [(oc6 r (.ref rx) (.ref ry) (nI n) rg), (oa rx cI cap (upd X1 i (X1 (i + 1)))), (oa ry cI cap (upd Y1 i (Y1 (i + 1))))] H := hP
        have hD : va_D A [(oc6 r (.ref rx) (.ref ry) (nI n) rg), (oa rx cI cap (upd X1 i (X1 (i + 1)))), (oa ry cI cap (upd Y1 i (Y1 (i + 1))))] := hD
        refine lv_iinc (v := nI (i + 1)) (lv' := [(2, .int (nI (i + 1))), (0, .ref r), (1, .int (nI k))]) hx hb dX7_cut_44 hl (k := 0) rfl (nI_add i 1) (by decide) rfl (fun ls hl => ?_)
        refine lv_goto (tgt := 6) hx hb dX7_cut_47 (by decide) ?_
        exact ih_6 (i + 1) (upd X1 i (X1 (i + 1))) (upd Y1 i (Y1 (i + 1))) H locs ls (by omega) (by omega) (by omega) (by intro j hj; simp only [upd, if_neg (show j ≠ i by omega)]; exact hlo j hj) (by intro j h1 h2; rcases Nat.lt_or_ge j i with h | h; simp only [upd, if_neg (show j ≠ i by omega)]; exact hhi j h1 h; have e9 : j = i := (by omega); subst e9; simp only [upd, if_true]; exact hrst (j + 1) (by omega)) (by intro j hj; simp only [upd, if_neg (show j ≠ i by omega)]; exact hrst j (by omega)) hP hD hS (lv_sub hl [0, 1, 2] rfl)
  exact hl_6 _ k X Y s.heap [] ls (Nat.lt_succ_self _) (by omega) (by omega) (by intro j hj; exact ⟨rfl, rfl⟩) (by intro j h1 h2; omega) (by intro j hj; exact ⟨rfl, rfl⟩) hP hD hS (lv_sub hl [0, 1, 2] rfl)
