set_option maxHeartbeats 4000000 in
set_option maxRecDepth 100000 in
theorem k_Row_smoothFrom (l : Launch) (dC : Nat → ClassId) (dI : Nat → Nat → Nat) (cI cZ cF : ClassId) (sz : Nat) (r : Nat) (rx : Nat) (ry : Nat) (n : Nat) (cap : Nat) (X : Nat → Int32) (Y : Nat → Int32) (rg : Int32) (u : Nat) (ux : Nat) (uy : Nat) (m2 : Nat) (cap2 : Nat) (U : Nat → Int32) (V : Nat → Int32) (rh : Int32) (hm : m2 ≤ cap) (hcap : cap ≤ 1000) (hm2 : m2 ≤ cap2) (hcap2 : cap2 ≤ 1000) (hrh : rh = 0 ∨ rh = 1) : Met l yX7_smoothFrom (.code yX7_smoothFrom cX7_smoothFrom 5 none :: ws0) ({ frames := 1, cells := 0, slots := 0, locals := 22 } : Room) (va_Pc [.ref r, .ref u] (zPre (dC, dI) classes (zTy cI cZ cF) [(oc6 r (.ref rx) (.ref ry) (nI n) rg), (oa rx cI cap X), (oa ry cI cap Y), (oc6 u (.ref ux) (.ref uy) (nI m2) rh), (oa ux cI cap2 U), (oa uy cI cap2 V)] sz zXN)) (zQ none (fun t => ∃ (X1 : Nat → Int32), ∃ (Y1 : Nat → Int32), (∀ k, k < m2 → X1 k = smv (pI (rh.toInt = 0 ∧ (k = 0 ∨ k = m2 - 1))) (U (prv m2 k)) (U k) (U (nxt m2 k)) ∧ Y1 k = smv (pI (rh.toInt = 0 ∧ (k = 0 ∨ k = m2 - 1))) (V (prv m2 k)) (V k) (V (nxt m2 k))) ∧ va_P (dC, dI) classes [(oc6 r (.ref rx) (.ref ry) (nI m2) rh), (oa rx cI cap X1), (oa ry cI cap Y1), (oc6 u (.ref ux) (.ref uy) (nI m2) rh), (oa ux cI cap2 U), (oa uy cI cap2 V)] t.heap ∧ va_D (va_A [(oc6 r (.ref rx) (.ref ry) (nI n) rg), (oa rx cI cap X), (oa ry cI cap Y), (oc6 u (.ref ux) (.ref uy) (nI m2) rh), (oa ux cI cap2 U), (oa uy cI cap2 V)] sz) [(oc6 r (.ref rx) (.ref ry) (nI m2) rh), (oa rx cI cap X1), (oa ry cI cap Y1), (oc6 u (.ref ux) (.ref uy) (nI m2) rh), (oa ux cI cap2 U), (oa uy cI cap2 V)]) (va_A [(oc6 r (.ref rx) (.ref ry) (nI n) rg), (oa rx cI cap X), (oa ry cI cap Y), (oc6 u (.ref ux) (.ref uy) (nI m2) rh), (oa ux cI cap2 U), (oa uy cI cap2 V)] sz)) 0 0 (va_A [(oc6 r (.ref rx) (.ref ry) (nI n) rg), (oa rx cI cap X), (oa ry cI cap Y), (oc6 u (.ref ux) (.ref uy) (nI m2) rh), (oa ux cI cap2 U), (oa uy cI cap2 V)] sz) := by
  refine Met.ofW (cc := cX7_smoothFrom) (maxL := 5) (ret := none) (by decide) rfl ?_
  intro p e s m args below meth c s₁ B hml hv
  obtain ⟨rfl, hsz, hP, hK, hD0, hXN⟩ := hv
  have hx := B.exec
  have hb := B.bytes
  have hr := B.returns
  have hts0 := atoms_spec (ws := .code yX7_smoothFrom cX7_smoothFrom 5 none :: ws0) B.pre
  have hts : ∀ w9 ∈ ws0, w9.before ([.ref r, .ref u] : List Value).toArray s = true := fun w9 h => hts0 w9 (List.mem_cons_of_mem _ h)
  have hown : s.vm.findClass "ScaleShop$Row" = some m.cls := findClass_of_methodNamed B.named
  have hlocks := B.notSynchronized
  subst hsz
  have hD := hD0.self (sz := s.heap.size)
  clear hD0
  generalize hAe : va_A [(oc6 r (.ref rx) (.ref ry) (nI n) rg), (oa rx cI cap X), (oa ry cI cap Y), (oc6 u (.ref ux) (.ref uy) (nI m2) rh), (oa ux cI cap2 U), (oa uy cI cap2 V)] s.heap.size = A at hD ⊢
  have hA : ∀ q : Nat, s.heap.size ≤ q → A q := fun q h => by rw [← hAe]; exact Or.inr h
  clear hAe
  have hS : va_S A s.heap s.heap [] := va_S.rf
  have hP : va_P (dC, dI) classes [(oc6 r (.ref rx) (.ref ry) (nI n) rg), (oa rx cI cap X), (oa ry cI cap Y), (oc6 u (.ref ux) (.ref uy) (nI m2) rh), (oa ux cI cap2 U), (oa uy cI cap2 V)] s.heap := hP
  obtain ⟨Q9, hQ9⟩ : ∃ Q9 : State → Prop, Q9 = MQ below (zQ none (fun t => ∃ (X1 : Nat → Int32), ∃ (Y1 : Nat → Int32), (∀ k, k < m2 → X1 k = smv (pI (rh.toInt = 0 ∧ (k = 0 ∨ k = m2 - 1))) (U (prv m2 k)) (U k) (U (nxt m2 k)) ∧ Y1 k = smv (pI (rh.toInt = 0 ∧ (k = 0 ∨ k = m2 - 1))) (V (prv m2 k)) (V k) (V (nxt m2 k))) ∧ va_P (dC, dI) classes [(oc6 r (.ref rx) (.ref ry) (nI m2) rh), (oa rx cI cap X1), (oa ry cI cap Y1), (oc6 u (.ref ux) (.ref uy) (nI m2) rh), (oa ux cI cap2 U), (oa uy cI cap2 V)] t.heap ∧ va_D A [(oc6 r (.ref rx) (.ref ry) (nI m2) rh), (oa rx cI cap X1), (oa ry cI cap Y1), (oc6 u (.ref ux) (.ref uy) (nI m2) rh), (oa ux cI cap2 U), (oa uy cI cap2 V)]) A) ([.ref r, .ref u] : List Value).toArray s 0 0 A := ⟨_, rfl⟩
  rw [← hQ9]
  have hl := lv_entry ([.ref r, .ref u]) (n := 5) (Nat.le_of_ble_eq_true rfl)
  rw [lg_entry_eq]
  generalize (lg_sl ([.ref r, .ref u]) ++ List.replicate (5 - (lg_sl ([.ref r, .ref u])).length) Slot.unset).toArray = ls at hl ⊢
  have hl : lv_has ls 5 [(0, .ref r), (1, .ref u)] := hl
  refine lv_aload_n hx hb dX7_smoothFrom_0 rfl (lv_at hl 0 rfl) ?_
  refine lv_aload_n hx hb dX7_smoothFrom_1 rfl (lv_at hl 1 rfl) ?_
  refine va_get (D := (dC, dI)) (ci := 6) (v := .int rh) (C := RX7) (T := TX7) (N := 4) hx hb hts inX7 hown hK hP 3 rfl rfl 3 (by decide) (hts _ mw_183) (fun _ h9 => h9) rfl dX7_smoothFrom_2 ?_
  have hPc := hP.sub (ws' := [(oc6 r (.ref rx) (.ref ry) (nI n) rg), (oa rx cI cap X), (oa ry cI cap Y)]) [0, 1, 2] rfl
  have hDc := hD.sub (ws' := [(oc6 r (.ref rx) (.ref ry) (nI n) rg), (oa rx cI cap X), (oa ry cI cap Y)]) [0, 1, 2] (by decide) rfl
  have hFc := va_free (wc := [(oc6 r (.ref rx) (.ref ry) (nI n) rg), (oa rx cI cap X), (oa ry cI cap Y)]) hD hS hA [0, 1, 2] rfl
  refine zcall (st1 := []) (va_runV (As := [.int rh]) (rest := []) ⟨hx, hb, hml, hown, hts⟩ (k_Row_clear l dC dI cI cZ cF s.heap.size r rx ry n cap X Y rg rh (by assumption)) (cwV 1 hts (zz_gV mw_599 mw_600 mw_601 mw_102 mc_yX7_clear) rfl rfl rfl (by decide +kernel) ⟨Nat.le_of_ble_eq_true rfl, Nat.le_of_ble_eq_true rfl⟩) (zPV2 (q0 := 0) (ci := 6) hPc hDc hK hXN rfl rfl) rfl rfl hl.1 rfl (lv_room (Nat.le_of_ble_eq_true rfl)) dX7_smoothFrom_5 ⟨Nat.le_of_ble_eq_true rfl, Nat.le_of_ble_eq_true rfl⟩) hS hFc hFc rfl (fun t H1 locs ht hB hk1 hS => ?_)
  obtain ⟨hP1, hD1⟩ := hB
  rw [ht] at hP1
  obtain ⟨hP, hD⟩ := va_join (wr := [(oc6 u (.ref ux) (.ref uy) (nI m2) rh), (oa ux cI cap2 U), (oa uy cI cap2 V)]) (w1 := [(oc6 r (.ref rx) (.ref ry) (nI 0) rh), (oa rx cI cap X), (oa ry cI cap Y)]) hP hD [0, 1, 2] [3, 4, 5] rfl rfl (by decide) (by decide) hk1 hFc hP1 hD1
  clear hk1 hPc hDc hFc hP1 hD1 ht
  generalize H1 = H at hP hS ⊢
  have hP := hP.sub (ws' := [(oc6 r (.ref rx) (.ref ry) (nI 0) rh), (oa rx cI cap X), (oa ry cI cap Y), (oc6 u (.ref ux) (.ref uy) (nI m2) rh), (oa ux cI cap2 U), (oa uy cI cap2 V)]) [3, 4, 5, 0, 1, 2] rfl
  have hD := hD.sub (ws' := [(oc6 r (.ref rx) (.ref ry) (nI 0) rh), (oa rx cI cap X), (oa ry cI cap Y), (oc6 u (.ref ux) (.ref uy) (nI m2) rh), (oa ux cI cap2 U), (oa uy cI cap2 V)]) [3, 4, 5, 0, 1, 2] (by decide) rfl
  have hP : va_P (dC, dI) classes [(oc6 r (.ref rx) (.ref ry) (nI 0) rh), (oa rx cI cap X), (oa ry cI cap Y), (oc6 u (.ref ux) (.ref uy) (nI m2) rh), (oa ux cI cap2 U), (oa uy cI cap2 V)] H := hP
  have hD : va_D A [(oc6 r (.ref rx) (.ref ry) (nI 0) rh), (oa rx cI cap X), (oa ry cI cap Y), (oc6 u (.ref ux) (.ref uy) (nI m2) rh), (oa ux cI cap2 U), (oa uy cI cap2 V)] := hD
  refine lv_iconst (v := 0) hx hb dX7_smoothFrom_8 (by decide) ?_
  refine lv_istore_n (lv' := [(2, .int 0), (0, .ref r), (1, .ref u)]) hx hb dX7_smoothFrom_9 rfl hl (by decide) rfl (fun ls hl => ?_)
  have hl_10 : ∀ (n9 : Nat) (i : Nat) (X1 : Nat → Int32) (Y1 : Nat → Int32) (H : Heap) (locs : List Loc) (ls : Array Slot), m2 - i < n9 → (i ≤ m2) → (∀ k, k < i → X1 k = smv (pI (rh.toInt = 0 ∧ (k = 0 ∨ k = m2 - 1))) (U (prv m2 k)) (U k) (U (nxt m2 k)) ∧ Y1 k = smv (pI (rh.toInt = 0 ∧ (k = 0 ∨ k = m2 - 1))) (V (prv m2 k)) (V k) (V (nxt m2 k))) → va_P (dC, dI) classes [(oc6 r (.ref rx) (.ref ry) (nI i) rh), (oa rx cI cap X1), (oa ry cI cap Y1), (oc6 u (.ref ux) (.ref uy) (nI m2) rh), (oa ux cI cap2 U), (oa uy cI cap2 V)] H → va_D A [(oc6 r (.ref rx) (.ref ry) (nI i) rh), (oa rx cI cap X1), (oa ry cI cap Y1), (oc6 u (.ref ux) (.ref uy) (nI m2) rh), (oa ux cI cap2 U), (oa uy cI cap2 V)] → va_S A s.heap H locs → lv_has ls 5 [(2, .int (nI i)), (0, .ref r), (1, .ref u)] → W p l e ((headSpec (.code yX7_smoothFrom cX7_smoothFrom 5 none :: ws0) ({ frames := 1, cells := 0, slots := 0, locals := 22 } : Room)).room) s m ([.ref r, .ref u] : List Value).toArray below meth c H locs 0 0 Q9 (F0 m 10 ls []) := by
    intro n9
    induction n9 with
    | zero => intro i X1 Y1 H locs ls hm; exact absurd hm (Nat.not_lt_zero _)
    | succ n9 ih_10 =>
      intro i X1 Y1 H locs ls hm hi hall hP hD hS hl
      refine lv_iload_n hx hb dX7_smoothFrom_10 rfl (lv_at hl 0 rfl) ?_
      refine lv_aload_n hx hb dX7_smoothFrom_11 rfl (lv_at hl 2 rfl) ?_
      refine va_get (D := (dC, dI)) (ci := 6) (v := .int (nI m2)) (C := RX7) (T := TX7) (N := 4) hx hb hts inX7 hown hK hP 3 rfl rfl 2 (by decide) (hts _ mw_175) (fun _ h9 => h9) rfl dX7_smoothFrom_12 ?_
      refine lv_icmp_ge (tgt := 118) hx hb dX7_smoothFrom_15 (by decide) (fun c_1 => ?_) (fun c_1 => ?_)
      · have c_1 : ((m2 : Nat) : Int) ≤ ((i : Nat) : Int) := zc_le (nI_toInt (by omega)) (nI_toInt (by omega)) c_1
        have hP9 := hP.sub (ws' := [(oc6 r (.ref rx) (.ref ry) (nI i) rh), (oa rx cI cap X1), (oa ry cI cap Y1), (oc6 u (.ref ux) (.ref uy) (nI m2) rh), (oa ux cI cap2 U), (oa uy cI cap2 V)]) [0, 1, 2, 3, 4, 5] rfl
        have hD9 := hD.sub (ws' := [(oc6 r (.ref rx) (.ref ry) (nI i) rh), (oa rx cI cap X1), (oa ry cI cap Y1), (oc6 u (.ref ux) (.ref uy) (nI m2) rh), (oa ux cI cap2 U), (oa uy cI cap2 V)]) [0, 1, 2, 3, 4, 5] (by decide) rfl
        have hE9 : ([(oc6 r (.ref rx) (.ref ry) (nI i) rh), (oa rx cI cap X1), (oa ry cI cap Y1), (oc6 u (.ref ux) (.ref uy) (nI m2) rh), (oa ux cI cap2 U), (oa uy cI cap2 V)] : va_W) = [(oc6 r (.ref rx) (.ref ry) (nI m2) rh), (oa rx cI cap X1), (oa ry cI cap Y1), (oc6 u (.ref ux) (.ref uy) (nI m2) rh), (oa ux cI cap2 U), (oa uy cI cap2 V)] := by rw [show i = m2 by omega]
        rw [hE9] at hP9 hD9
        rw [hQ9]
        exact W.vret hx hb hr (fun t ht hW => ⟨⟨rfl, X1, Y1, (fun k hk => hall k (by omega)), by rw [ht]; exact hP9, hD9⟩, hS.F ht⟩) hS.2.2 dX7_smoothFrom_118
      · have c_1 : ((i : Nat) : Int) < ((m2 : Nat) : Int) := zc_nle (nI_toInt (by omega)) (nI_toInt (by omega)) c_1
        have hnk := nxt_lt (n := m2) (i := i) (by omega)
        have hpk := prv_lt (n := m2) (i := i) (by omega)
        refine lv_aload_n hx hb dX7_smoothFrom_18 rfl (lv_at hl 2 rfl) ?_
        refine lv_iload_n hx hb dX7_smoothFrom_19 rfl (lv_at hl 0 rfl) ?_
        have hPc := hP.sub (ws' := [(oc6 u (.ref ux) (.ref uy) (nI m2) rh), (oa ux cI cap2 U), (oa uy cI cap2 V)]) [3, 4, 5] rfl
        have hDc := hD.sub (ws' := [(oc6 u (.ref ux) (.ref uy) (nI m2) rh), (oa ux cI cap2 U), (oa uy cI cap2 V)]) [3, 4, 5] (by decide) rfl
        have hFc := va_free (wc := [(oc6 u (.ref ux) (.ref uy) (nI m2) rh), (oa ux cI cap2 U), (oa uy cI cap2 V)]) hD hS hA [3, 4, 5] rfl
        refine zcall (st1 := [.int (nI (prv m2 i))]) (va_runV (As := [.int (nI i)]) (rest := []) ⟨hx, hb, hml, hown, hts⟩ (k_Row_previous l dC dI cI cZ cF H.size u ux uy m2 cap2 U V rh i (by omega) (by omega) (by omega)) (cwV 1 hts (zz_gV mw_556 mw_557 mw_558 mw_102 mc_yX7_previous) rfl rfl rfl (by decide +kernel) ⟨Nat.le_of_ble_eq_true rfl, Nat.le_of_ble_eq_true rfl⟩) (zPV2 (q0 := 0) (ci := 6) hPc hDc hK hXN rfl rfl) rfl rfl hl.1 rfl (lv_room (Nat.le_of_ble_eq_true rfl)) dX7_smoothFrom_20 ⟨Nat.le_of_ble_eq_true rfl, Nat.le_of_ble_eq_true rfl⟩) hS hFc hFc rfl (fun t H1 locs ht hB hk1 hS => ?_)
        obtain ⟨hP1, hD1⟩ := hB
        rw [ht] at hP1
        obtain ⟨hP, hD⟩ := va_join (wr := [(oc6 r (.ref rx) (.ref ry) (nI i) rh), (oa rx cI cap X1), (oa ry cI cap Y1)]) (w1 := [(oc6 u (.ref ux) (.ref uy) (nI m2) rh), (oa ux cI cap2 U), (oa uy cI cap2 V)]) hP hD [3, 4, 5] [0, 1, 2] rfl rfl (by decide) (by decide) hk1 hFc hP1 hD1
        clear hk1 hPc hDc hFc hP1 hD1 ht
        generalize H1 = H at hP hS ⊢
        have hP : va_P (dC, dI) classes [(oc6 r (.ref rx) (.ref ry) (nI i) rh), (oa rx cI cap X1), (oa ry cI cap Y1), (oc6 u (.ref ux) (.ref uy) (nI m2) rh), (oa ux cI cap2 U), (oa uy cI cap2 V)] H := hP
        have hD : va_D A [(oc6 r (.ref rx) (.ref ry) (nI i) rh), (oa rx cI cap X1), (oa ry cI cap Y1), (oc6 u (.ref ux) (.ref uy) (nI m2) rh), (oa ux cI cap2 U), (oa uy cI cap2 V)] := hD
        refine lv_istore_n (lv' := [(3, .int (nI (prv m2 i))), (2, .int (nI i)), (0, .ref r), (1, .ref u)]) hx hb dX7_smoothFrom_23 rfl hl (by decide) rfl (fun ls hl => ?_)
        refine lv_aload_n hx hb dX7_smoothFrom_24 rfl (lv_at hl 3 rfl) ?_
        refine lv_iload_n hx hb dX7_smoothFrom_25 rfl (lv_at hl 1 rfl) ?_
        have hPc := hP.sub (ws' := [(oc6 u (.ref ux) (.ref uy) (nI m2) rh), (oa ux cI cap2 U), (oa uy cI cap2 V)]) [3, 4, 5] rfl
        have hDc := hD.sub (ws' := [(oc6 u (.ref ux) (.ref uy) (nI m2) rh), (oa ux cI cap2 U), (oa uy cI cap2 V)]) [3, 4, 5] (by decide) rfl
        have hFc := va_free (wc := [(oc6 u (.ref ux) (.ref uy) (nI m2) rh), (oa ux cI cap2 U), (oa uy cI cap2 V)]) hD hS hA [3, 4, 5] rfl
        refine zcall (st1 := [.int (nI (nxt m2 i))]) (va_runV (As := [.int (nI i)]) (rest := []) ⟨hx, hb, hml, hown, hts⟩ (k_Row_next l dC dI cI cZ cF H.size u ux uy m2 cap2 U V rh i (by omega) (by omega) (by omega)) (cwV 1 hts (zz_gV mw_536 mw_537 mw_538 mw_102 mc_yX7_next) rfl rfl rfl (by decide +kernel) ⟨Nat.le_of_ble_eq_true rfl, Nat.le_of_ble_eq_true rfl⟩) (zPV2 (q0 := 0) (ci := 6) hPc hDc hK hXN rfl rfl) rfl rfl hl.1 rfl (lv_room (Nat.le_of_ble_eq_true rfl)) dX7_smoothFrom_26 ⟨Nat.le_of_ble_eq_true rfl, Nat.le_of_ble_eq_true rfl⟩) hS hFc hFc rfl (fun t H1 locs ht hB hk1 hS => ?_)
        obtain ⟨hP1, hD1⟩ := hB
        rw [ht] at hP1
        obtain ⟨hP, hD⟩ := va_join (wr := [(oc6 r (.ref rx) (.ref ry) (nI i) rh), (oa rx cI cap X1), (oa ry cI cap Y1)]) (w1 := [(oc6 u (.ref ux) (.ref uy) (nI m2) rh), (oa ux cI cap2 U), (oa uy cI cap2 V)]) hP hD [3, 4, 5] [0, 1, 2] rfl rfl (by decide) (by decide) hk1 hFc hP1 hD1
        clear hk1 hPc hDc hFc hP1 hD1 ht
        generalize H1 = H at hP hS ⊢
        have hP : va_P (dC, dI) classes [(oc6 r (.ref rx) (.ref ry) (nI i) rh), (oa rx cI cap X1), (oa ry cI cap Y1), (oc6 u (.ref ux) (.ref uy) (nI m2) rh), (oa ux cI cap2 U), (oa uy cI cap2 V)] H := hP
        have hD : va_D A [(oc6 r (.ref rx) (.ref ry) (nI i) rh), (oa rx cI cap X1), (oa ry cI cap Y1), (oc6 u (.ref ux) (.ref uy) (nI m2) rh), (oa ux cI cap2 U), (oa uy cI cap2 V)] := hD
        refine lv_istore (lv' := [(4, .int (nI (nxt m2 i))), (3, .int (nI (prv m2 i))), (2, .int (nI i)), (0, .ref r), (1, .ref u)]) hx hb dX7_smoothFrom_29 hl (by decide) rfl (fun ls hl => ?_)
        refine lv_aload_n hx hb dX7_smoothFrom_31 rfl (lv_at hl 4 rfl) ?_
        refine lv_iload_n hx hb dX7_smoothFrom_32 rfl (lv_at hl 2 rfl) ?_
        have hPc := hP.sub (ws' := [(oc6 u (.ref ux) (.ref uy) (nI m2) rh), (oa ux cI cap2 U), (oa uy cI cap2 V)]) [3, 4, 5] rfl
        have hDc := hD.sub (ws' := [(oc6 u (.ref ux) (.ref uy) (nI m2) rh), (oa ux cI cap2 U), (oa uy cI cap2 V)]) [3, 4, 5] (by decide) rfl
        have hFc := va_free (wc := [(oc6 u (.ref ux) (.ref uy) (nI m2) rh), (oa ux cI cap2 U), (oa uy cI cap2 V)]) hD hS hA [3, 4, 5] rfl
        refine zcall (st1 := [.int (pI (rh.toInt = 0 ∧ (i = 0 ∨ i = m2 - 1)))]) (va_runV (As := [.int (nI i)]) (rest := []) ⟨hx, hb, hml, hown, hts⟩ (k_Row_isEnd l dC dI cI cZ cF H.size u ux uy m2 cap2 U V rh i (by omega) (by omega) (by omega)) (cwV 1 hts (zz_gV mw_871 mw_577 mw_578 mw_102 mc_yX7_isEnd) rfl rfl rfl (by decide +kernel) ⟨Nat.le_of_ble_eq_true rfl, Nat.le_of_ble_eq_true rfl⟩) (zPV2 (q0 := 0) (ci := 6) hPc hDc hK hXN rfl rfl) rfl rfl hl.1 rfl (lv_room (Nat.le_of_ble_eq_true rfl)) dX7_smoothFrom_33 ⟨Nat.le_of_ble_eq_true rfl, Nat.le_of_ble_eq_true rfl⟩) hS hFc hFc rfl (fun t H1 locs ht hB hk1 hS => ?_)
        obtain ⟨hP1, hD1⟩ := hB
        rw [ht] at hP1
        obtain ⟨hP, hD⟩ := va_join (wr := [(oc6 r (.ref rx) (.ref ry) (nI i) rh), (oa rx cI cap X1), (oa ry cI cap Y1)]) (w1 := [(oc6 u (.ref ux) (.ref uy) (nI m2) rh), (oa ux cI cap2 U), (oa uy cI cap2 V)]) hP hD [3, 4, 5] [0, 1, 2] rfl rfl (by decide) (by decide) hk1 hFc hP1 hD1
        clear hk1 hPc hDc hFc hP1 hD1 ht
        generalize H1 = H at hP hS ⊢
        have hP : va_P (dC, dI) classes [(oc6 r (.ref rx) (.ref ry) (nI i) rh), (oa rx cI cap X1), (oa ry cI cap Y1), (oc6 u (.ref ux) (.ref uy) (nI m2) rh), (oa ux cI cap2 U), (oa uy cI cap2 V)] H := hP
        have hD : va_D A [(oc6 r (.ref rx) (.ref ry) (nI i) rh), (oa rx cI cap X1), (oa ry cI cap Y1), (oc6 u (.ref ux) (.ref uy) (nI m2) rh), (oa ux cI cap2 U), (oa uy cI cap2 V)] := hD
        refine lv_if_eq (tgt := 58) hx hb dX7_smoothFrom_36 (by decide) (fun c_2 => ?_) (fun c_2 => ?_)
        · have c_2 : ¬ (rh.toInt = 0 ∧ (i = 0 ∨ i = m2 - 1)) := zp_0 c_2
          refine lv_aload_n hx hb dX7_smoothFrom_58 rfl (lv_at hl 3 rfl) ?_
          refine lv_aload_n hx hb dX7_smoothFrom_59 rfl (lv_at hl 4 rfl) ?_
          refine va_get (D := (dC, dI)) (ci := 6) (v := .ref ux) (C := RX7) (T := TX7) (N := 4) hx hb hts inX7 hown hK hP 3 rfl rfl 0 (by decide) (hts _ mw_161) (fun _ h9 => h9) rfl dX7_smoothFrom_60 ?_
          refine lv_iload_n hx hb dX7_smoothFrom_63 rfl (lv_at hl 1 rfl) ?_
          refine z_iald hx hb hK hP 4 0 rfl rfl (e := prv m2 i) rfl (by omega) (by omega) dX7_smoothFrom_64 ?_
          refine lv_iconst (v := 2) hx hb dX7_smoothFrom_65 (by decide) ?_
          refine lv_aload_n hx hb dX7_smoothFrom_66 rfl (lv_at hl 4 rfl) ?_
          refine va_get (D := (dC, dI)) (ci := 6) (v := .ref ux) (C := RX7) (T := TX7) (N := 4) hx hb hts inX7 hown hK hP 3 rfl rfl 0 (by decide) (hts _ mw_161) (fun _ h9 => h9) rfl dX7_smoothFrom_67 ?_
          refine lv_iload_n hx hb dX7_smoothFrom_70 rfl (lv_at hl 2 rfl) ?_
          refine z_iald hx hb hK hP 4 0 rfl rfl (e := i) rfl (by omega) (by omega) dX7_smoothFrom_71 ?_
          refine lv_imul hx hb dX7_smoothFrom_72 ?_
          refine lv_iadd hx hb dX7_smoothFrom_73 ?_
          refine lv_aload_n hx hb dX7_smoothFrom_74 rfl (lv_at hl 4 rfl) ?_
          refine va_get (D := (dC, dI)) (ci := 6) (v := .ref ux) (C := RX7) (T := TX7) (N := 4) hx hb hts inX7 hown hK hP 3 rfl rfl 0 (by decide) (hts _ mw_161) (fun _ h9 => h9) rfl dX7_smoothFrom_75 ?_
          refine lv_iload hx hb dX7_smoothFrom_78 (lv_at hl 0 rfl) ?_
          refine z_iald hx hb hK hP 4 0 rfl rfl (e := nxt m2 i) rfl (by omega) (by omega) dX7_smoothFrom_80 ?_
          refine lv_iadd hx hb dX7_smoothFrom_81 ?_
          refine lv_iconst (v := 4) hx hb dX7_smoothFrom_82 (by decide) ?_
          refine lv_idiv hx hb dX7_smoothFrom_83 (by decide) ?_
          refine lv_aload_n hx hb dX7_smoothFrom_84 rfl (lv_at hl 4 rfl) ?_
          refine va_get (D := (dC, dI)) (ci := 6) (v := .ref uy) (C := RX7) (T := TX7) (N := 4) hx hb hts inX7 hown hK hP 3 rfl rfl 1 (by decide) (hts _ mw_168) (fun _ h9 => h9) rfl dX7_smoothFrom_85 ?_
          refine lv_iload_n hx hb dX7_smoothFrom_88 rfl (lv_at hl 1 rfl) ?_
          refine z_iald hx hb hK hP 5 0 rfl rfl (e := prv m2 i) rfl (by omega) (by omega) dX7_smoothFrom_89 ?_
          refine lv_iconst (v := 2) hx hb dX7_smoothFrom_90 (by decide) ?_
          refine lv_aload_n hx hb dX7_smoothFrom_91 rfl (lv_at hl 4 rfl) ?_
          refine va_get (D := (dC, dI)) (ci := 6) (v := .ref uy) (C := RX7) (T := TX7) (N := 4) hx hb hts inX7 hown hK hP 3 rfl rfl 1 (by decide) (hts _ mw_168) (fun _ h9 => h9) rfl dX7_smoothFrom_92 ?_
          refine lv_iload_n hx hb dX7_smoothFrom_95 rfl (lv_at hl 2 rfl) ?_
          refine z_iald hx hb hK hP 5 0 rfl rfl (e := i) rfl (by omega) (by omega) dX7_smoothFrom_96 ?_
          refine lv_imul hx hb dX7_smoothFrom_97 ?_
          refine lv_iadd hx hb dX7_smoothFrom_98 ?_
          refine lv_aload_n hx hb dX7_smoothFrom_99 rfl (lv_at hl 4 rfl) ?_
          refine va_get (D := (dC, dI)) (ci := 6) (v := .ref uy) (C := RX7) (T := TX7) (N := 4) hx hb hts inX7 hown hK hP 3 rfl rfl 1 (by decide) (hts _ mw_168) (fun _ h9 => h9) rfl dX7_smoothFrom_100 ?_
          refine lv_iload hx hb dX7_smoothFrom_103 (lv_at hl 0 rfl) ?_
          refine z_iald hx hb hK hP 5 0 rfl rfl (e := nxt m2 i) rfl (by omega) (by omega) dX7_smoothFrom_105 ?_
          refine lv_iadd hx hb dX7_smoothFrom_106 ?_
          refine lv_iconst (v := 4) hx hb dX7_smoothFrom_107 (by decide) ?_
          refine lv_idiv hx hb dX7_smoothFrom_108 (by decide) ?_
          have hPc := hP.sub (ws' := [(oc6 r (.ref rx) (.ref ry) (nI i) rh), (oa rx cI cap X1), (oa ry cI cap Y1)]) [0, 1, 2] rfl
          have hDc := hD.sub (ws' := [(oc6 r (.ref rx) (.ref ry) (nI i) rh), (oa rx cI cap X1), (oa ry cI cap Y1)]) [0, 1, 2] (by decide) rfl
          have hFc := va_free (wc := [(oc6 r (.ref rx) (.ref ry) (nI i) rh), (oa rx cI cap X1), (oa ry cI cap Y1)]) hD hS hA [0, 1, 2] rfl
          refine zcall (st1 := []) (va_runV (As := [.int ((((U (prv m2 i)) + (2 * (U i))) + (U (nxt m2 i))) / 4), .int ((((V (prv m2 i)) + (2 * (V i))) + (V (nxt m2 i))) / 4)]) (rest := []) ⟨hx, hb, hml, hown, hts⟩ (k_Row_put l dC dI cI cZ cF H.size r rx ry i cap X1 Y1 rh ((((U (prv m2 i)) + (2 * (U i))) + (U (nxt m2 i))) / 4) ((((V (prv m2 i)) + (2 * (V i))) + (V (nxt m2 i))) / 4) (by omega) (by omega)) (cwV 2 hts (zz_gV mw_603 mw_506 mw_507 mw_102 mc_yX7_put) rfl rfl rfl (by decide +kernel) ⟨Nat.le_of_ble_eq_true rfl, Nat.le_of_ble_eq_true rfl⟩) (zPV2 (q0 := 0) (ci := 6) hPc hDc hK hXN rfl rfl) rfl rfl hl.1 rfl (lv_room (Nat.le_of_ble_eq_true rfl)) dX7_smoothFrom_109 ⟨Nat.le_of_ble_eq_true rfl, Nat.le_of_ble_eq_true rfl⟩) hS hFc hFc rfl (fun t H1 locs ht hB hk1 hS => ?_)
          obtain ⟨hP1, hD1⟩ := hB
          rw [ht] at hP1
          obtain ⟨hP, hD⟩ := va_join (wr := [(oc6 u (.ref ux) (.ref uy) (nI m2) rh), (oa ux cI cap2 U), (oa uy cI cap2 V)]) (w1 := [(oc6 r (.ref rx) (.ref ry) (nI (i + 1)) rh), (oa rx cI cap (upd X1 i ((((U (prv m2 i)) + (2 * (U i))) + (U (nxt m2 i))) / 4))), (oa ry cI cap (upd Y1 i ((((V (prv m2 i)) + (2 * (V i))) + (V (nxt m2 i))) / 4)))]) hP hD [0, 1, 2] [3, 4, 5] rfl rfl (by decide) (by decide) hk1 hFc hP1 hD1
          clear hk1 hPc hDc hFc hP1 hD1 ht
          generalize H1 = H at hP hS ⊢
          have hP := hP.sub (ws' := [(oc6 r (.ref rx) (.ref ry) (nI (i + 1)) rh), (oa rx cI cap (upd X1 i ((((U (prv m2 i)) + (2 * (U i))) + (U (nxt m2 i))) / 4))), (oa ry cI cap (upd Y1 i ((((V (prv m2 i)) + (2 * (V i))) + (V (nxt m2 i))) / 4))), (oc6 u (.ref ux) (.ref uy) (nI m2) rh), (oa ux cI cap2 U), (oa uy cI cap2 V)]) [3, 4, 5, 0, 1, 2] rfl
          have hD := hD.sub (ws' := [(oc6 r (.ref rx) (.ref ry) (nI (i + 1)) rh), (oa rx cI cap (upd X1 i ((((U (prv m2 i)) + (2 * (U i))) + (U (nxt m2 i))) / 4))), (oa ry cI cap (upd Y1 i ((((V (prv m2 i)) + (2 * (V i))) + (V (nxt m2 i))) / 4))), (oc6 u (.ref ux) (.ref uy) (nI m2) rh), (oa ux cI cap2 U), (oa uy cI cap2 V)]) [3, 4, 5, 0, 1, 2] (by decide) rfl
          have hP : va_P (dC, dI) classes [(oc6 r (.ref rx) (.ref ry) (nI (i + 1)) rh), (oa rx cI cap (upd X1 i ((((U (prv m2 i)) + (2 * (U i))) + (U (nxt m2 i))) / 4))), (oa ry cI cap (upd Y1 i ((((V (prv m2 i)) + (2 * (V i))) + (V (nxt m2 i))) / 4))), (oc6 u (.ref ux) (.ref uy) (nI m2) rh), (oa ux cI cap2 U), (oa uy cI cap2 V)] H := hP
          have hD : va_D A [(oc6 r (.ref rx) (.ref ry) (nI (i + 1)) rh), (oa rx cI cap (upd X1 i ((((U (prv m2 i)) + (2 * (U i))) + (U (nxt m2 i))) / 4))), (oa ry cI cap (upd Y1 i ((((V (prv m2 i)) + (2 * (V i))) + (V (nxt m2 i))) / 4))), (oc6 u (.ref ux) (.ref uy) (nI m2) rh), (oa ux cI cap2 U), (oa uy cI cap2 V)] := hD
          refine lv_iinc (v := nI (i + 1)) (lv' := [(2, .int (nI (i + 1))), (4, .int (nI (nxt m2 i))), (3, .int (nI (prv m2 i))), (0, .ref r), (1, .ref u)]) hx hb dX7_smoothFrom_112 hl (k := 2) rfl (nI_add i 1) (by decide) rfl (fun ls hl => ?_)
          refine lv_goto (tgt := 10) hx hb dX7_smoothFrom_115 (by decide) ?_
          exact ih_10 (i + 1) (upd X1 i ((((U (prv m2 i)) + (2 * (U i))) + (U (nxt m2 i))) / 4)) (upd Y1 i ((((V (prv m2 i)) + (2 * (V i))) + (V (nxt m2 i))) / 4)) H locs ls (by omega) (by omega) (by intro k hk; rcases Nat.lt_or_ge k i with h | h; simp only [upd, if_neg (show k ≠ i by omega)]; exact hall k h; rw [show k = i by omega]; simp only [upd, if_true]; first | (have h9 : (rh.toInt = 0 ∧ (i = 0 ∨ i = m2 - 1)) := (by assumption); exact ⟨smv_t h9, smv_t h9⟩) | (have h9 : ¬ (rh.toInt = 0 ∧ (i = 0 ∨ i = m2 - 1)) := (by assumption); exact ⟨smv_f h9, smv_f h9⟩)) hP hD hS (lv_sub hl [0, 3, 4] rfl)
        · have c_2 : rh.toInt = 0 ∧ (i = 0 ∨ i = m2 - 1) := zp_1 c_2
          refine lv_aload_n hx hb dX7_smoothFrom_39 rfl (lv_at hl 3 rfl) ?_
          refine lv_aload_n hx hb dX7_smoothFrom_40 rfl (lv_at hl 4 rfl) ?_
          refine va_get (D := (dC, dI)) (ci := 6) (v := .ref ux) (C := RX7) (T := TX7) (N := 4) hx hb hts inX7 hown hK hP 3 rfl rfl 0 (by decide) (hts _ mw_161) (fun _ h9 => h9) rfl dX7_smoothFrom_41 ?_
          refine lv_iload_n hx hb dX7_smoothFrom_44 rfl (lv_at hl 2 rfl) ?_
          refine z_iald hx hb hK hP 4 0 rfl rfl (e := i) rfl (by omega) (by omega) dX7_smoothFrom_45 ?_
          refine lv_aload_n hx hb dX7_smoothFrom_46 rfl (lv_at hl 4 rfl) ?_
          refine va_get (D := (dC, dI)) (ci := 6) (v := .ref uy) (C := RX7) (T := TX7) (N := 4) hx hb hts inX7 hown hK hP 3 rfl rfl 1 (by decide) (hts _ mw_168) (fun _ h9 => h9) rfl dX7_smoothFrom_47 ?_
          refine lv_iload_n hx hb dX7_smoothFrom_50 rfl (lv_at hl 2 rfl) ?_
          refine z_iald hx hb hK hP 5 0 rfl rfl (e := i) rfl (by omega) (by omega) dX7_smoothFrom_51 ?_
          have hPc := hP.sub (ws' := [(oc6 r (.ref rx) (.ref ry) (nI i) rh), (oa rx cI cap X1), (oa ry cI cap Y1)]) [0, 1, 2] rfl
          have hDc := hD.sub (ws' := [(oc6 r (.ref rx) (.ref ry) (nI i) rh), (oa rx cI cap X1), (oa ry cI cap Y1)]) [0, 1, 2] (by decide) rfl
          have hFc := va_free (wc := [(oc6 r (.ref rx) (.ref ry) (nI i) rh), (oa rx cI cap X1), (oa ry cI cap Y1)]) hD hS hA [0, 1, 2] rfl
          refine zcall (st1 := []) (va_runV (As := [.int (U i), .int (V i)]) (rest := []) ⟨hx, hb, hml, hown, hts⟩ (k_Row_put l dC dI cI cZ cF H.size r rx ry i cap X1 Y1 rh (U i) (V i) (by omega) (by omega)) (cwV 2 hts (zz_gV mw_603 mw_506 mw_507 mw_102 mc_yX7_put) rfl rfl rfl (by decide +kernel) ⟨Nat.le_of_ble_eq_true rfl, Nat.le_of_ble_eq_true rfl⟩) (zPV2 (q0 := 0) (ci := 6) hPc hDc hK hXN rfl rfl) rfl rfl hl.1 rfl (lv_room (Nat.le_of_ble_eq_true rfl)) dX7_smoothFrom_52 ⟨Nat.le_of_ble_eq_true rfl, Nat.le_of_ble_eq_true rfl⟩) hS hFc hFc rfl (fun t H1 locs ht hB hk1 hS => ?_)
          obtain ⟨hP1, hD1⟩ := hB
          rw [ht] at hP1
          obtain ⟨hP, hD⟩ := va_join (wr := [(oc6 u (.ref ux) (.ref uy) (nI m2) rh), (oa ux cI cap2 U), (oa uy cI cap2 V)]) (w1 := [(oc6 r (.ref rx) (.ref ry) (nI (i + 1)) rh), (oa rx cI cap (upd X1 i (U i))), (oa ry cI cap (upd Y1 i (V i)))]) hP hD [0, 1, 2] [3, 4, 5] rfl rfl (by decide) (by decide) hk1 hFc hP1 hD1
          clear hk1 hPc hDc hFc hP1 hD1 ht
          generalize H1 = H at hP hS ⊢
          have hP := hP.sub (ws' := [(oc6 r (.ref rx) (.ref ry) (nI (i + 1)) rh), (oa rx cI cap (upd X1 i (U i))), (oa ry cI cap (upd Y1 i (V i))), (oc6 u (.ref ux) (.ref uy) (nI m2) rh), (oa ux cI cap2 U), (oa uy cI cap2 V)]) [3, 4, 5, 0, 1, 2] rfl
          have hD := hD.sub (ws' := [(oc6 r (.ref rx) (.ref ry) (nI (i + 1)) rh), (oa rx cI cap (upd X1 i (U i))), (oa ry cI cap (upd Y1 i (V i))), (oc6 u (.ref ux) (.ref uy) (nI m2) rh), (oa ux cI cap2 U), (oa uy cI cap2 V)]) [3, 4, 5, 0, 1, 2] (by decide) rfl
          have hP : va_P (dC, dI) classes [(oc6 r (.ref rx) (.ref ry) (nI (i + 1)) rh), (oa rx cI cap (upd X1 i (U i))), (oa ry cI cap (upd Y1 i (V i))), (oc6 u (.ref ux) (.ref uy) (nI m2) rh), (oa ux cI cap2 U), (oa uy cI cap2 V)] H := hP
          have hD : va_D A [(oc6 r (.ref rx) (.ref ry) (nI (i + 1)) rh), (oa rx cI cap (upd X1 i (U i))), (oa ry cI cap (upd Y1 i (V i))), (oc6 u (.ref ux) (.ref uy) (nI m2) rh), (oa ux cI cap2 U), (oa uy cI cap2 V)] := hD
          refine lv_goto (tgt := 112) hx hb dX7_smoothFrom_55 (by decide) ?_
          refine lv_iinc (v := nI (i + 1)) (lv' := [(2, .int (nI (i + 1))), (4, .int (nI (nxt m2 i))), (3, .int (nI (prv m2 i))), (0, .ref r), (1, .ref u)]) hx hb dX7_smoothFrom_112 hl (k := 2) rfl (nI_add i 1) (by decide) rfl (fun ls hl => ?_)
          refine lv_goto (tgt := 10) hx hb dX7_smoothFrom_115 (by decide) ?_
          exact ih_10 (i + 1) (upd X1 i (U i)) (upd Y1 i (V i)) H locs ls (by omega) (by omega) (by intro k hk; rcases Nat.lt_or_ge k i with h | h; simp only [upd, if_neg (show k ≠ i by omega)]; exact hall k h; rw [show k = i by omega]; simp only [upd, if_true]; first | (have h9 : (rh.toInt = 0 ∧ (i = 0 ∨ i = m2 - 1)) := (by assumption); exact ⟨smv_t h9, smv_t h9⟩) | (have h9 : ¬ (rh.toInt = 0 ∧ (i = 0 ∨ i = m2 - 1)) := (by assumption); exact ⟨smv_f h9, smv_f h9⟩)) hP hD hS (lv_sub hl [0, 3, 4] rfl)
  exact hl_10 _ 0 X Y H locs ls (Nat.lt_succ_self _) (by omega) (by intro k hk; omega) hP hD hS (lv_sub hl [0, 1, 2] rfl)
set_option maxHeartbeats 4000000 in
set_option maxRecDepth 100000 in
theorem k_Row_boxFrom (l : Launch) (dC : Nat → ClassId) (dI : Nat → Nat → Nat) (cI cZ cF : ClassId) (sz : Nat) (r : Nat) (rx : Nat) (ry : Nat) (n : Nat) (cap : Nat) (X : Nat → Int32) (Y : Nat → Int32) (rg : Int32) (b0 : Nat) (x0 : Int32) (y0 : Int32) (x1 : Int32) (y1 : Int32) (hcap4 : 4 ≤ cap) (hcap : cap ≤ 1000) : Met l yX7_boxFrom (.code yX7_boxFrom cX7_boxFrom 2 none :: ws0) ({ frames := 1, cells := 0, slots := 0, locals := 22 } : Room) (va_Pc [.ref r, .ref b0] (zPre (dC, dI) classes (zTy cI cZ cF) [(oc6 r (.ref rx) (.ref ry) (nI n) rg), (oa rx cI cap X), (oa ry cI cap Y), (oc0 b0 x0 y0 x1 y1)] sz zXN)) (zQ none (fun t => va_P (dC, dI) classes [(oc6 r (.ref rx) (.ref ry) (nI 4) 1), (oa rx cI cap (upd (upd (upd (upd X 0 x0) 1 x1) 2 x1) 3 x0)), (oa ry cI cap (upd (upd (upd (upd Y 0 y0) 1 y0) 2 y1) 3 y1)), (oc0 b0 x0 y0 x1 y1)] t.heap ∧ va_D (va_A [(oc6 r (.ref rx) (.ref ry) (nI n) rg), (oa rx cI cap X), (oa ry cI cap Y), (oc0 b0 x0 y0 x1 y1)] sz) [(oc6 r (.ref rx) (.ref ry) (nI 4) 1), (oa rx cI cap (upd (upd (upd (upd X 0 x0) 1 x1) 2 x1) 3 x0)), (oa ry cI cap (upd (upd (upd (upd Y 0 y0) 1 y0) 2 y1) 3 y1)), (oc0 b0 x0 y0 x1 y1)]) (va_A [(oc6 r (.ref rx) (.ref ry) (nI n) rg), (oa rx cI cap X), (oa ry cI cap Y), (oc0 b0 x0 y0 x1 y1)] sz)) 0 0 (va_A [(oc6 r (.ref rx) (.ref ry) (nI n) rg), (oa rx cI cap X), (oa ry cI cap Y), (oc0 b0 x0 y0 x1 y1)] sz) := by
  refine Met.ofW (cc := cX7_boxFrom) (maxL := 2) (ret := none) (by decide) rfl ?_
  intro p e s m args below meth c s₁ B hml hv
  obtain ⟨rfl, hsz, hP, hK, hD0, hXN⟩ := hv
  have hx := B.exec
  have hb := B.bytes
  have hr := B.returns
  have hts0 := atoms_spec (ws := .code yX7_boxFrom cX7_boxFrom 2 none :: ws0) B.pre
  have hts : ∀ w9 ∈ ws0, w9.before ([.ref r, .ref b0] : List Value).toArray s = true := fun w9 h => hts0 w9 (List.mem_cons_of_mem _ h)
  have hown : s.vm.findClass "ScaleShop$Row" = some m.cls := findClass_of_methodNamed B.named
  have hlocks := B.notSynchronized
  subst hsz
  have hD := hD0.self (sz := s.heap.size)
  clear hD0
  generalize hAe : va_A [(oc6 r (.ref rx) (.ref ry) (nI n) rg), (oa rx cI cap X), (oa ry cI cap Y), (oc0 b0 x0 y0 x1 y1)] s.heap.size = A at hD ⊢
  have hA : ∀ q : Nat, s.heap.size ≤ q → A q := fun q h => by rw [← hAe]; exact Or.inr h
  clear hAe
  have hS : va_S A s.heap s.heap [] := va_S.rf
  have hP : va_P (dC, dI) classes [(oc6 r (.ref rx) (.ref ry) (nI n) rg), (oa rx cI cap X), (oa ry cI cap Y), (oc0 b0 x0 y0 x1 y1)] s.heap := hP
  obtain ⟨Q9, hQ9⟩ : ∃ Q9 : State → Prop, Q9 = MQ below (zQ none (fun t => va_P (dC, dI) classes [(oc6 r (.ref rx) (.ref ry) (nI 4) 1), (oa rx cI cap (upd (upd (upd (upd X 0 x0) 1 x1) 2 x1) 3 x0)), (oa ry cI cap (upd (upd (upd (upd Y 0 y0) 1 y0) 2 y1) 3 y1)), (oc0 b0 x0 y0 x1 y1)] t.heap ∧ va_D A [(oc6 r (.ref rx) (.ref ry) (nI 4) 1), (oa rx cI cap (upd (upd (upd (upd X 0 x0) 1 x1) 2 x1) 3 x0)), (oa ry cI cap (upd (upd (upd (upd Y 0 y0) 1 y0) 2 y1) 3 y1)), (oc0 b0 x0 y0 x1 y1)]) A) ([.ref r, .ref b0] : List Value).toArray s 0 0 A := ⟨_, rfl⟩
  rw [← hQ9]
  have hl := lv_entry ([.ref r, .ref b0]) (n := 2) (Nat.le_of_ble_eq_true rfl)
  rw [lg_entry_eq]
  generalize (lg_sl ([.ref r, .ref b0]) ++ List.replicate (2 - (lg_sl ([.ref r, .ref b0])).length) Slot.unset).toArray = ls at hl ⊢
  have hl : lv_has ls 2 [(0, .ref r), (1, .ref b0)] := hl
  refine lv_aload_n hx hb dX7_boxFrom_0 rfl (lv_at hl 0 rfl) ?_
  refine lv_iconst (v := 1) hx hb dX7_boxFrom_1 (by decide) ?_
  have hPc := hP.sub (ws' := [(oc6 r (.ref rx) (.ref ry) (nI n) rg), (oa rx cI cap X), (oa ry cI cap Y)]) [0, 1, 2] rfl
  have hDc := hD.sub (ws' := [(oc6 r (.ref rx) (.ref ry) (nI n) rg), (oa rx cI cap X), (oa ry cI cap Y)]) [0, 1, 2] (by decide) rfl
  have hFc := va_free (wc := [(oc6 r (.ref rx) (.ref ry) (nI n) rg), (oa rx cI cap X), (oa ry cI cap Y)]) hD hS hA [0, 1, 2] rfl
  refine zcall (st1 := []) (va_runV (As := [.int 1]) (rest := []) ⟨hx, hb, hml, hown, hts⟩ (k_Row_clear l dC dI cI cZ cF s.heap.size r rx ry n cap X Y rg 1 (Or.inr rfl)) (cwV 1 hts (zz_gV mw_599 mw_600 mw_601 mw_102 mc_yX7_clear) rfl rfl rfl (by decide +kernel) ⟨Nat.le_of_ble_eq_true rfl, Nat.le_of_ble_eq_true rfl⟩) (zPV2 (q0 := 0) (ci := 6) hPc hDc hK hXN rfl rfl) rfl rfl hl.1 rfl (lv_room (Nat.le_of_ble_eq_true rfl)) dX7_boxFrom_2 ⟨Nat.le_of_ble_eq_true rfl, Nat.le_of_ble_eq_true rfl⟩) hS hFc hFc rfl (fun t H1 locs ht hB hk1 hS => ?_)
  obtain ⟨hP1, hD1⟩ := hB
  rw [ht] at hP1
  obtain ⟨hP, hD⟩ := va_join (wr := [(oc0 b0 x0 y0 x1 y1)]) (w1 := [(oc6 r (.ref rx) (.ref ry) (nI 0) 1), (oa rx cI cap X), (oa ry cI cap Y)]) hP hD [0, 1, 2] [3] rfl rfl (by decide) (by decide) hk1 hFc hP1 hD1
  clear hk1 hPc hDc hFc hP1 hD1 ht
  generalize H1 = H at hP hS ⊢
  have hP := hP.sub (ws' := [(oc6 r (.ref rx) (.ref ry) (nI 0) 1), (oa rx cI cap X), (oa ry cI cap Y), (oc0 b0 x0 y0 x1 y1)]) [1, 2, 3, 0] rfl
  have hD := hD.sub (ws' := [(oc6 r (.ref rx) (.ref ry) (nI 0) 1), (oa rx cI cap X), (oa ry cI cap Y), (oc0 b0 x0 y0 x1 y1)]) [1, 2, 3, 0] (by decide) rfl
  have hP : va_P (dC, dI) classes [(oc6 r (.ref rx) (.ref ry) (nI 0) 1), (oa rx cI cap X), (oa ry cI cap Y), (oc0 b0 x0 y0 x1 y1)] H := hP
  have hD : va_D A [(oc6 r (.ref rx) (.ref ry) (nI 0) 1), (oa rx cI cap X), (oa ry cI cap Y), (oc0 b0 x0 y0 x1 y1)] := hD
  refine lv_aload_n hx hb dX7_boxFrom_5 rfl (lv_at hl 0 rfl) ?_
  refine lv_aload_n hx hb dX7_boxFrom_6 rfl (lv_at hl 1 rfl) ?_
  refine va_get (D := (dC, dI)) (ci := 0) (v := .int x0) (C := RX0) (T := TX0) (N := 4) hx hb hts inX0 hown hK hP 3 rfl rfl 0 (by decide) (hts _ mw_203) (fun _ h9 => h9) rfl dX7_boxFrom_7 ?_
  refine lv_aload_n hx hb dX7_boxFrom_10 rfl (lv_at hl 1 rfl) ?_
  refine va_get (D := (dC, dI)) (ci := 0) (v := .int y0) (C := RX0) (T := TX0) (N := 4) hx hb hts inX0 hown hK hP 3 rfl rfl 1 (by decide) (hts _ mw_205) (fun _ h9 => h9) rfl dX7_boxFrom_11 ?_
  have hPc := hP.sub (ws' := [(oc6 r (.ref rx) (.ref ry) (nI 0) 1), (oa rx cI cap X), (oa ry cI cap Y)]) [0, 1, 2] rfl
  have hDc := hD.sub (ws' := [(oc6 r (.ref rx) (.ref ry) (nI 0) 1), (oa rx cI cap X), (oa ry cI cap Y)]) [0, 1, 2] (by decide) rfl
  have hFc := va_free (wc := [(oc6 r (.ref rx) (.ref ry) (nI 0) 1), (oa rx cI cap X), (oa ry cI cap Y)]) hD hS hA [0, 1, 2] rfl
  refine zcall (st1 := []) (va_runV (As := [.int x0, .int y0]) (rest := []) ⟨hx, hb, hml, hown, hts⟩ (k_Row_put l dC dI cI cZ cF H.size r rx ry 0 cap X Y 1 x0 y0 (by omega) (by omega)) (cwV 2 hts (zz_gV mw_603 mw_506 mw_507 mw_102 mc_yX7_put) rfl rfl rfl (by decide +kernel) ⟨Nat.le_of_ble_eq_true rfl, Nat.le_of_ble_eq_true rfl⟩) (zPV2 (q0 := 0) (ci := 6) hPc hDc hK hXN rfl rfl) rfl rfl hl.1 rfl (lv_room (Nat.le_of_ble_eq_true rfl)) dX7_boxFrom_14 ⟨Nat.le_of_ble_eq_true rfl, Nat.le_of_ble_eq_true rfl⟩) hS hFc hFc rfl (fun t H1 locs ht hB hk1 hS => ?_)
  obtain ⟨hP1, hD1⟩ := hB
  rw [ht] at hP1
  obtain ⟨hP, hD⟩ := va_join (wr := [(oc0 b0 x0 y0 x1 y1)]) (w1 := [(oc6 r (.ref rx) (.ref ry) (nI (0 + 1)) 1), (oa rx cI cap (upd X 0 x0)), (oa ry cI cap (upd Y 0 y0))]) hP hD [0, 1, 2] [3] rfl rfl (by decide) (by decide) hk1 hFc hP1 hD1
  clear hk1 hPc hDc hFc hP1 hD1 ht
  generalize H1 = H at hP hS ⊢
  have hP := hP.sub (ws' := [(oc6 r (.ref rx) (.ref ry) (nI (0 + 1)) 1), (oa rx cI cap (upd X 0 x0)), (oa ry cI cap (upd Y 0 y0)), (oc0 b0 x0 y0 x1 y1)]) [1, 2, 3, 0] rfl
  have hD := hD.sub (ws' := [(oc6 r (.ref rx) (.ref ry) (nI (0 + 1)) 1), (oa rx cI cap (upd X 0 x0)), (oa ry cI cap (upd Y 0 y0)), (oc0 b0 x0 y0 x1 y1)]) [1, 2, 3, 0] (by decide) rfl
  have hP : va_P (dC, dI) classes [(oc6 r (.ref rx) (.ref ry) (nI (0 + 1)) 1), (oa rx cI cap (upd X 0 x0)), (oa ry cI cap (upd Y 0 y0)), (oc0 b0 x0 y0 x1 y1)] H := hP
  have hD : va_D A [(oc6 r (.ref rx) (.ref ry) (nI (0 + 1)) 1), (oa rx cI cap (upd X 0 x0)), (oa ry cI cap (upd Y 0 y0)), (oc0 b0 x0 y0 x1 y1)] := hD
  refine lv_aload_n hx hb dX7_boxFrom_17 rfl (lv_at hl 0 rfl) ?_
  refine lv_aload_n hx hb dX7_boxFrom_18 rfl (lv_at hl 1 rfl) ?_
  refine va_get (D := (dC, dI)) (ci := 0) (v := .int x1) (C := RX0) (T := TX0) (N := 4) hx hb hts inX0 hown hK hP 3 rfl rfl 2 (by decide) (hts _ mw_207) (fun _ h9 => h9) rfl dX7_boxFrom_19 ?_
  refine lv_aload_n hx hb dX7_boxFrom_22 rfl (lv_at hl 1 rfl) ?_
  refine va_get (D := (dC, dI)) (ci := 0) (v := .int y0) (C := RX0) (T := TX0) (N := 4) hx hb hts inX0 hown hK hP 3 rfl rfl 1 (by decide) (hts _ mw_205) (fun _ h9 => h9) rfl dX7_boxFrom_23 ?_
  have hPc := hP.sub (ws' := [(oc6 r (.ref rx) (.ref ry) (nI (0 + 1)) 1), (oa rx cI cap (upd X 0 x0)), (oa ry cI cap (upd Y 0 y0))]) [0, 1, 2] rfl
  have hDc := hD.sub (ws' := [(oc6 r (.ref rx) (.ref ry) (nI (0 + 1)) 1), (oa rx cI cap (upd X 0 x0)), (oa ry cI cap (upd Y 0 y0))]) [0, 1, 2] (by decide) rfl
  have hFc := va_free (wc := [(oc6 r (.ref rx) (.ref ry) (nI (0 + 1)) 1), (oa rx cI cap (upd X 0 x0)), (oa ry cI cap (upd Y 0 y0))]) hD hS hA [0, 1, 2] rfl
  refine zcall (st1 := []) (va_runV (As := [.int x1, .int y0]) (rest := []) ⟨hx, hb, hml, hown, hts⟩ (k_Row_put l dC dI cI cZ cF H.size r rx ry (0 + 1) cap (upd X 0 x0) (upd Y 0 y0) 1 x1 y0 (by omega) (by omega)) (cwV 2 hts (zz_gV mw_603 mw_506 mw_507 mw_102 mc_yX7_put) rfl rfl rfl (by decide +kernel) ⟨Nat.le_of_ble_eq_true rfl, Nat.le_of_ble_eq_true rfl⟩) (zPV2 (q0 := 0) (ci := 6) hPc hDc hK hXN rfl rfl) rfl rfl hl.1 rfl (lv_room (Nat.le_of_ble_eq_true rfl)) dX7_boxFrom_26 ⟨Nat.le_of_ble_eq_true rfl, Nat.le_of_ble_eq_true rfl⟩) hS hFc hFc rfl (fun t H1 locs ht hB hk1 hS => ?_)
  obtain ⟨hP1, hD1⟩ := hB
  rw [ht] at hP1
  obtain ⟨hP, hD⟩ := va_join (wr := [(oc0 b0 x0 y0 x1 y1)]) (w1 := [(oc6 r (.ref rx) (.ref ry) (nI ((0 + 1) + 1)) 1), (oa rx cI cap (upd (upd X 0 x0) (0 + 1) x1)), (oa ry cI cap (upd (upd Y 0 y0) (0 + 1) y0))]) hP hD [0, 1, 2] [3] rfl rfl (by decide) (by decide) hk1 hFc hP1 hD1
  clear hk1 hPc hDc hFc hP1 hD1 ht
  generalize H1 = H at hP hS ⊢
  have hP := hP.sub (ws' := [(oc6 r (.ref rx) (.ref ry) (nI ((0 + 1) + 1)) 1), (oa rx cI cap (upd (upd X 0 x0) (0 + 1) x1)), (oa ry cI cap (upd (upd Y 0 y0) (0 + 1) y0)), (oc0 b0 x0 y0 x1 y1)]) [1, 2, 3, 0] rfl
  have hD := hD.sub (ws' := [(oc6 r (.ref rx) (.ref ry) (nI ((0 + 1) + 1)) 1), (oa rx cI cap (upd (upd X 0 x0) (0 + 1) x1)), (oa ry cI cap (upd (upd Y 0 y0) (0 + 1) y0)), (oc0 b0 x0 y0 x1 y1)]) [1, 2, 3, 0] (by decide) rfl
  have hP : va_P (dC, dI) classes [(oc6 r (.ref rx) (.ref ry) (nI ((0 + 1) + 1)) 1), (oa rx cI cap (upd (upd X 0 x0) (0 + 1) x1)), (oa ry cI cap (upd (upd Y 0 y0) (0 + 1) y0)), (oc0 b0 x0 y0 x1 y1)] H := hP
  have hD : va_D A [(oc6 r (.ref rx) (.ref ry) (nI ((0 + 1) + 1)) 1), (oa rx cI cap (upd (upd X 0 x0) (0 + 1) x1)), (oa ry cI cap (upd (upd Y 0 y0) (0 + 1) y0)), (oc0 b0 x0 y0 x1 y1)] := hD
  refine lv_aload_n hx hb dX7_boxFrom_29 rfl (lv_at hl 0 rfl) ?_
  refine lv_aload_n hx hb dX7_boxFrom_30 rfl (lv_at hl 1 rfl) ?_
  refine va_get (D := (dC, dI)) (ci := 0) (v := .int x1) (C := RX0) (T := TX0) (N := 4) hx hb hts inX0 hown hK hP 3 rfl rfl 2 (by decide) (hts _ mw_207) (fun _ h9 => h9) rfl dX7_boxFrom_31 ?_
  refine lv_aload_n hx hb dX7_boxFrom_34 rfl (lv_at hl 1 rfl) ?_
  refine va_get (D := (dC, dI)) (ci := 0) (v := .int y1) (C := RX0) (T := TX0) (N := 4) hx hb hts inX0 hown hK hP 3 rfl rfl 3 (by decide) (hts _ mw_209) (fun _ h9 => h9) rfl dX7_boxFrom_35 ?_
  have hPc := hP.sub (ws' := [(oc6 r (.ref rx) (.ref ry) (nI ((0 + 1) + 1)) 1), (oa rx cI cap (upd (upd X 0 x0) (0 + 1) x1)), (oa ry cI cap (upd (upd Y 0 y0) (0 + 1) y0))]) [0, 1, 2] rfl
  have hDc := hD.sub (ws' := [(oc6 r (.ref rx) (.ref ry) (nI ((0 + 1) + 1)) 1), (oa rx cI cap (upd (upd X 0 x0) (0 + 1) x1)), (oa ry cI cap (upd (upd Y 0 y0) (0 + 1) y0))]) [0, 1, 2] (by decide) rfl
  have hFc := va_free (wc := [(oc6 r (.ref rx) (.ref ry) (nI ((0 + 1) + 1)) 1), (oa rx cI cap (upd (upd X 0 x0) (0 + 1) x1)), (oa ry cI cap (upd (upd Y 0 y0) (0 + 1) y0))]) hD hS hA [0, 1, 2] rfl
  refine zcall (st1 := []) (va_runV (As := [.int x1, .int y1]) (rest := []) ⟨hx, hb, hml, hown, hts⟩ (k_Row_put l dC dI cI cZ cF H.size r rx ry ((0 + 1) + 1) cap (upd (upd X 0 x0) (0 + 1) x1) (upd (upd Y 0 y0) (0 + 1) y0) 1 x1 y1 (by omega) (by omega)) (cwV 2 hts (zz_gV mw_603 mw_506 mw_507 mw_102 mc_yX7_put) rfl rfl rfl (by decide +kernel) ⟨Nat.le_of_ble_eq_true rfl, Nat.le_of_ble_eq_true rfl⟩) (zPV2 (q0 := 0) (ci := 6) hPc hDc hK hXN rfl rfl) rfl rfl hl.1 rfl (lv_room (Nat.le_of_ble_eq_true rfl)) dX7_boxFrom_38 ⟨Nat.le_of_ble_eq_true rfl, Nat.le_of_ble_eq_true rfl⟩) hS hFc hFc rfl (fun t H1 locs ht hB hk1 hS => ?_)
  obtain ⟨hP1, hD1⟩ := hB
  rw [ht] at hP1
  obtain ⟨hP, hD⟩ := va_join (wr := [(oc0 b0 x0 y0 x1 y1)]) (w1 := [(oc6 r (.ref rx) (.ref ry) (nI (((0 + 1) + 1) + 1)) 1), (oa rx cI cap (upd (upd (upd X 0 x0) (0 + 1) x1) ((0 + 1) + 1) x1)), (oa ry cI cap (upd (upd (upd Y 0 y0) (0 + 1) y0) ((0 + 1) + 1) y1))]) hP hD [0, 1, 2] [3] rfl rfl (by decide) (by decide) hk1 hFc hP1 hD1
  clear hk1 hPc hDc hFc hP1 hD1 ht
  generalize H1 = H at hP hS ⊢
  have hP := hP.sub (ws' := [(oc6 r (.ref rx) (.ref ry) (nI (((0 + 1) + 1) + 1)) 1), (oa rx cI cap (upd (upd (upd X 0 x0) (0 + 1) x1) ((0 + 1) + 1) x1)), (oa ry cI cap (upd (upd (upd Y 0 y0) (0 + 1) y0) ((0 + 1) + 1) y1)), (oc0 b0 x0 y0 x1 y1)]) [1, 2, 3, 0] rfl
  have hD := hD.sub (ws' := [(oc6 r (.ref rx) (.ref ry) (nI (((0 + 1) + 1) + 1)) 1), (oa rx cI cap (upd (upd (upd X 0 x0) (0 + 1) x1) ((0 + 1) + 1) x1)), (oa ry cI cap (upd (upd (upd Y 0 y0) (0 + 1) y0) ((0 + 1) + 1) y1)), (oc0 b0 x0 y0 x1 y1)]) [1, 2, 3, 0] (by decide) rfl
  have hP : va_P (dC, dI) classes [(oc6 r (.ref rx) (.ref ry) (nI (((0 + 1) + 1) + 1)) 1), (oa rx cI cap (upd (upd (upd X 0 x0) (0 + 1) x1) ((0 + 1) + 1) x1)), (oa ry cI cap (upd (upd (upd Y 0 y0) (0 + 1) y0) ((0 + 1) + 1) y1)), (oc0 b0 x0 y0 x1 y1)] H := hP
  have hD : va_D A [(oc6 r (.ref rx) (.ref ry) (nI (((0 + 1) + 1) + 1)) 1), (oa rx cI cap (upd (upd (upd X 0 x0) (0 + 1) x1) ((0 + 1) + 1) x1)), (oa ry cI cap (upd (upd (upd Y 0 y0) (0 + 1) y0) ((0 + 1) + 1) y1)), (oc0 b0 x0 y0 x1 y1)] := hD
  refine lv_aload_n hx hb dX7_boxFrom_41 rfl (lv_at hl 0 rfl) ?_
  refine lv_aload_n hx hb dX7_boxFrom_42 rfl (lv_at hl 1 rfl) ?_
  refine va_get (D := (dC, dI)) (ci := 0) (v := .int x0) (C := RX0) (T := TX0) (N := 4) hx hb hts inX0 hown hK hP 3 rfl rfl 0 (by decide) (hts _ mw_203) (fun _ h9 => h9) rfl dX7_boxFrom_43 ?_
  refine lv_aload_n hx hb dX7_boxFrom_46 rfl (lv_at hl 1 rfl) ?_
  refine va_get (D := (dC, dI)) (ci := 0) (v := .int y1) (C := RX0) (T := TX0) (N := 4) hx hb hts inX0 hown hK hP 3 rfl rfl 3 (by decide) (hts _ mw_209) (fun _ h9 => h9) rfl dX7_boxFrom_47 ?_
  have hPc := hP.sub (ws' := [(oc6 r (.ref rx) (.ref ry) (nI (((0 + 1) + 1) + 1)) 1), (oa rx cI cap (upd (upd (upd X 0 x0) (0 + 1) x1) ((0 + 1) + 1) x1)), (oa ry cI cap (upd (upd (upd Y 0 y0) (0 + 1) y0) ((0 + 1) + 1) y1))]) [0, 1, 2] rfl
  have hDc := hD.sub (ws' := [(oc6 r (.ref rx) (.ref ry) (nI (((0 + 1) + 1) + 1)) 1), (oa rx cI cap (upd (upd (upd X 0 x0) (0 + 1) x1) ((0 + 1) + 1) x1)), (oa ry cI cap (upd (upd (upd Y 0 y0) (0 + 1) y0) ((0 + 1) + 1) y1))]) [0, 1, 2] (by decide) rfl
  have hFc := va_free (wc := [(oc6 r (.ref rx) (.ref ry) (nI (((0 + 1) + 1) + 1)) 1), (oa rx cI cap (upd (upd (upd X 0 x0) (0 + 1) x1) ((0 + 1) + 1) x1)), (oa ry cI cap (upd (upd (upd Y 0 y0) (0 + 1) y0) ((0 + 1) + 1) y1))]) hD hS hA [0, 1, 2] rfl
  refine zcall (st1 := []) (va_runV (As := [.int x0, .int y1]) (rest := []) ⟨hx, hb, hml, hown, hts⟩ (k_Row_put l dC dI cI cZ cF H.size r rx ry (((0 + 1) + 1) + 1) cap (upd (upd (upd X 0 x0) (0 + 1) x1) ((0 + 1) + 1) x1) (upd (upd (upd Y 0 y0) (0 + 1) y0) ((0 + 1) + 1) y1) 1 x0 y1 (by omega) (by omega)) (cwV 2 hts (zz_gV mw_603 mw_506 mw_507 mw_102 mc_yX7_put) rfl rfl rfl (by decide +kernel) ⟨Nat.le_of_ble_eq_true rfl, Nat.le_of_ble_eq_true rfl⟩) (zPV2 (q0 := 0) (ci := 6) hPc hDc hK hXN rfl rfl) rfl rfl hl.1 rfl (lv_room (Nat.le_of_ble_eq_true rfl)) dX7_boxFrom_50 ⟨Nat.le_of_ble_eq_true rfl, Nat.le_of_ble_eq_true rfl⟩) hS hFc hFc rfl (fun t H1 locs ht hB hk1 hS => ?_)
  obtain ⟨hP1, hD1⟩ := hB
  rw [ht] at hP1
  obtain ⟨hP, hD⟩ := va_join (wr := [(oc0 b0 x0 y0 x1 y1)]) (w1 := [(oc6 r (.ref rx) (.ref ry) (nI ((((0 + 1) + 1) + 1) + 1)) 1), (oa rx cI cap (upd (upd (upd (upd X 0 x0) (0 + 1) x1) ((0 + 1) + 1) x1) (((0 + 1) + 1) + 1) x0)), (oa ry cI cap (upd (upd (upd (upd Y 0 y0) (0 + 1) y0) ((0 + 1) + 1) y1) (((0 + 1) + 1) + 1) y1))]) hP hD [0, 1, 2] [3] rfl rfl (by decide) (by decide) hk1 hFc hP1 hD1
  clear hk1 hPc hDc hFc hP1 hD1 ht
  generalize H1 = H at hP hS ⊢
  have hP := hP.sub (ws' := [(oc6 r (.ref rx) (.ref ry) (nI ((((0 + 1) + 1) + 1) + 1)) 1), (oa rx cI cap (upd (upd (upd (upd X 0 x0) (0 + 1) x1) ((0 + 1) + 1) x1) (((0 + 1) + 1) + 1) x0)), (oa ry cI cap (upd (upd (upd (upd Y 0 y0) (0 + 1) y0) ((0 + 1) + 1) y1) (((0 + 1) + 1) + 1) y1)), (oc0 b0 x0 y0 x1 y1)]) [1, 2, 3, 0] rfl
  have hD := hD.sub (ws' := [(oc6 r (.ref rx) (.ref ry) (nI ((((0 + 1) + 1) + 1) + 1)) 1), (oa rx cI cap (upd (upd (upd (upd X 0 x0) (0 + 1) x1) ((0 + 1) + 1) x1) (((0 + 1) + 1) + 1) x0)), (oa ry cI cap (upd (upd (upd (upd Y 0 y0) (0 + 1) y0) ((0 + 1) + 1) y1) (((0 + 1) + 1) + 1) y1)), (oc0 b0 x0 y0 x1 y1)]) [1, 2, 3, 0] (by decide) rfl
  have hP : va_P (dC, dI) classes [(oc6 r (.ref rx) (.ref ry) (nI ((((0 + 1) + 1) + 1) + 1)) 1), (oa rx cI cap (upd (upd (upd (upd X 0 x0) (0 + 1) x1) ((0 + 1) + 1) x1) (((0 + 1) + 1) + 1) x0)), (oa ry cI cap (upd (upd (upd (upd Y 0 y0) (0 + 1) y0) ((0 + 1) + 1) y1) (((0 + 1) + 1) + 1) y1)), (oc0 b0 x0 y0 x1 y1)] H := hP
  have hD : va_D A [(oc6 r (.ref rx) (.ref ry) (nI ((((0 + 1) + 1) + 1) + 1)) 1), (oa rx cI cap (upd (upd (upd (upd X 0 x0) (0 + 1) x1) ((0 + 1) + 1) x1) (((0 + 1) + 1) + 1) x0)), (oa ry cI cap (upd (upd (upd (upd Y 0 y0) (0 + 1) y0) ((0 + 1) + 1) y1) (((0 + 1) + 1) + 1) y1)), (oc0 b0 x0 y0 x1 y1)] := hD
  have hP9 := hP.sub (ws' := [(oc6 r (.ref rx) (.ref ry) (nI ((((0 + 1) + 1) + 1) + 1)) 1), (oa rx cI cap (upd (upd (upd (upd X 0 x0) (0 + 1) x1) ((0 + 1) + 1) x1) (((0 + 1) + 1) + 1) x0)), (oa ry cI cap (upd (upd (upd (upd Y 0 y0) (0 + 1) y0) ((0 + 1) + 1) y1) (((0 + 1) + 1) + 1) y1)), (oc0 b0 x0 y0 x1 y1)]) [0, 1, 2, 3] rfl
  have hD9 := hD.sub (ws' := [(oc6 r (.ref rx) (.ref ry) (nI ((((0 + 1) + 1) + 1) + 1)) 1), (oa rx cI cap (upd (upd (upd (upd X 0 x0) (0 + 1) x1) ((0 + 1) + 1) x1) (((0 + 1) + 1) + 1) x0)), (oa ry cI cap (upd (upd (upd (upd Y 0 y0) (0 + 1) y0) ((0 + 1) + 1) y1) (((0 + 1) + 1) + 1) y1)), (oc0 b0 x0 y0 x1 y1)]) [0, 1, 2, 3] (by decide) rfl
  have hE9 : ([(oc6 r (.ref rx) (.ref ry) (nI ((((0 + 1) + 1) + 1) + 1)) 1), (oa rx cI cap (upd (upd (upd (upd X 0 x0) (0 + 1) x1) ((0 + 1) + 1) x1) (((0 + 1) + 1) + 1) x0)), (oa ry cI cap (upd (upd (upd (upd Y 0 y0) (0 + 1) y0) ((0 + 1) + 1) y1) (((0 + 1) + 1) + 1) y1)), (oc0 b0 x0 y0 x1 y1)] : va_W) = [(oc6 r (.ref rx) (.ref ry) (nI 4) 1), (oa rx cI cap (upd (upd (upd (upd X 0 x0) 1 x1) 2 x1) 3 x0)), (oa ry cI cap (upd (upd (upd (upd Y 0 y0) 1 y0) 2 y1) 3 y1)), (oc0 b0 x0 y0 x1 y1)] := by rfl
  rw [hE9] at hP9 hD9
  rw [hQ9]
  exact W.vret hx hb hr (fun t ht hW => ⟨⟨rfl, by rw [ht]; exact hP9, hD9⟩, hS.F ht⟩) hS.2.2 dX7_boxFrom_53
set_option maxHeartbeats 4000000 in
set_option maxRecDepth 100000 in
theorem k_Row_isAlike (l : Launch) (dC : Nat → ClassId) (dI : Nat → Nat → Nat) (cI cZ cF : ClassId) (sz : Nat) (r : Nat) (rx : Nat) (ry : Nat) (n : Nat) (cap : Nat) (X : Nat → Int32) (Y : Nat → Int32) (rg : Int32) (u : Nat) (ux : Nat) (uy : Nat) (m2 : Nat) (cap2 : Nat) (U : Nat → Int32) (V : Nat → Int32) (rh : Int32) (hn : n ≤ cap) (hcap : cap ≤ 1000) (hm : m2 ≤ cap2) (hcap2 : cap2 ≤ 1000) : Met l yX7_isAlike (.code yX7_isAlike cX7_isAlike 3 (some .boolean) :: ws0) ({ frames := 1, cells := 0, slots := 0, locals := 23 } : Room) (va_Pc [.ref r, .ref u] (zPre (dC, dI) classes (zTy cI cZ cF) [(oc6 r (.ref rx) (.ref ry) (nI n) rg), (oa rx cI cap X), (oa ry cI cap Y), (oc6 u (.ref ux) (.ref uy) (nI m2) rh), (oa ux cI cap2 U), (oa uy cI cap2 V)] sz zXN)) (zQ (some (.int (pI (m2 = n ∧ ∀ k, k < n → (X k).toInt = (U k).toInt ∧ (Y k).toInt = (V k).toInt)))) (fun t => va_P (dC, dI) classes [(oc6 r (.ref rx) (.ref ry) (nI n) rg), (oa rx cI cap X), (oa ry cI cap Y), (oc6 u (.ref ux) (.ref uy) (nI m2) rh), (oa ux cI cap2 U), (oa uy cI cap2 V)] t.heap ∧ va_D (va_A [(oc6 r (.ref rx) (.ref ry) (nI n) rg), (oa rx cI cap X), (oa ry cI cap Y), (oc6 u (.ref ux) (.ref uy) (nI m2) rh), (oa ux cI cap2 U), (oa uy cI cap2 V)] sz) [(oc6 r (.ref rx) (.ref ry) (nI n) rg), (oa rx cI cap X), (oa ry cI cap Y), (oc6 u (.ref ux) (.ref uy) (nI m2) rh), (oa ux cI cap2 U), (oa uy cI cap2 V)]) (va_A [(oc6 r (.ref rx) (.ref ry) (nI n) rg), (oa rx cI cap X), (oa ry cI cap Y), (oc6 u (.ref ux) (.ref uy) (nI m2) rh), (oa ux cI cap2 U), (oa uy cI cap2 V)] sz)) 0 0 (va_A [(oc6 r (.ref rx) (.ref ry) (nI n) rg), (oa rx cI cap X), (oa ry cI cap Y), (oc6 u (.ref ux) (.ref uy) (nI m2) rh), (oa ux cI cap2 U), (oa uy cI cap2 V)] sz) := by
  refine Met.ofW (cc := cX7_isAlike) (maxL := 3) (ret := (some .boolean)) (by decide) rfl ?_
  intro p e s m args below meth c s₁ B hml hv
  obtain ⟨rfl, hsz, hP, hK, hD0, hXN⟩ := hv
  have hx := B.exec
  have hb := B.bytes
  have hr := B.returns
  have hts0 := atoms_spec (ws := .code yX7_isAlike cX7_isAlike 3 (some .boolean) :: ws0) B.pre
  have hts : ∀ w9 ∈ ws0, w9.before ([.ref r, .ref u] : List Value).toArray s = true := fun w9 h => hts0 w9 (List.mem_cons_of_mem _ h)
  have hown : s.vm.findClass "ScaleShop$Row" = some m.cls := findClass_of_methodNamed B.named
  have hlocks := B.notSynchronized
  subst hsz
  have hD := hD0.self (sz := s.heap.size)
  clear hD0
  generalize hAe : va_A [(oc6 r (.ref rx) (.ref ry) (nI n) rg), (oa rx cI cap X), (oa ry cI cap Y), (oc6 u (.ref ux) (.ref uy) (nI m2) rh), (oa ux cI cap2 U), (oa uy cI cap2 V)] s.heap.size = A at hD ⊢
  have hA : ∀ q : Nat, s.heap.size ≤ q → A q := fun q h => by rw [← hAe]; exact Or.inr h
  clear hAe
  have hS : va_S A s.heap s.heap [] := va_S.rf
  have hP : va_P (dC, dI) classes [(oc6 r (.ref rx) (.ref ry) (nI n) rg), (oa rx cI cap X), (oa ry cI cap Y), (oc6 u (.ref ux) (.ref uy) (nI m2) rh), (oa ux cI cap2 U), (oa uy cI cap2 V)] s.heap := hP
  obtain ⟨Q9, hQ9⟩ : ∃ Q9 : State → Prop, Q9 = MQ below (zQ (some (.int (pI (m2 = n ∧ ∀ k, k < n → (X k).toInt = (U k).toInt ∧ (Y k).toInt = (V k).toInt)))) (fun t => va_P (dC, dI) classes [(oc6 r (.ref rx) (.ref ry) (nI n) rg), (oa rx cI cap X), (oa ry cI cap Y), (oc6 u (.ref ux) (.ref uy) (nI m2) rh), (oa ux cI cap2 U), (oa uy cI cap2 V)] t.heap ∧ va_D A [(oc6 r (.ref rx) (.ref ry) (nI n) rg), (oa rx cI cap X), (oa ry cI cap Y), (oc6 u (.ref ux) (.ref uy) (nI m2) rh), (oa ux cI cap2 U), (oa uy cI cap2 V)]) A) ([.ref r, .ref u] : List Value).toArray s 0 0 A := ⟨_, rfl⟩
  rw [← hQ9]
  have hl := lv_entry ([.ref r, .ref u]) (n := 3) (Nat.le_of_ble_eq_true rfl)
  rw [lg_entry_eq]
  generalize (lg_sl ([.ref r, .ref u]) ++ List.replicate (3 - (lg_sl ([.ref r, .ref u])).length) Slot.unset).toArray = ls at hl ⊢
  have hl : lv_has ls 3 [(0, .ref r), (1, .ref u)] := hl
  refine lv_aload_n hx hb dX7_isAlike_0 rfl (lv_at hl 1 rfl) ?_
  refine lv_ifnull hx hb dX7_isAlike_1 ?_
  refine lv_aload_n hx hb dX7_isAlike_4 rfl (lv_at hl 1 rfl) ?_
  refine va_get (D := (dC, dI)) (ci := 6) (v := .int (nI m2)) (C := RX7) (T := TX7) (N := 4) hx hb hts inX7 hown hK hP 3 rfl rfl 2 (by decide) (hts _ mw_175) (fun _ h9 => h9) rfl dX7_isAlike_5 ?_
  refine lv_aload_n hx hb dX7_isAlike_8 rfl (lv_at hl 0 rfl) ?_
  refine va_get (D := (dC, dI)) (ci := 6) (v := .int (nI n)) (C := RX7) (T := TX7) (N := 4) hx hb hts inX7 hown hK hP 0 rfl rfl 2 (by decide) (hts _ mw_175) (fun _ h9 => h9) rfl dX7_isAlike_9 ?_
  refine lv_icmp_eq (tgt := 17) hx hb dX7_isAlike_12 (by decide) (fun c_1 => ?_) (fun c_1 => ?_)
  · have c_1 : ((m2 : Nat) : Int) = ((n : Nat) : Int) := zc_eq (nI_toInt (by omega)) (nI_toInt (by omega)) c_1
    refine lv_iconst (v := 0) hx hb dX7_isAlike_17 (by decide) ?_
    refine lv_istore_n (lv' := [(2, .int 0), (0, .ref r), (1, .ref u)]) hx hb dX7_isAlike_18 rfl hl (by decide) rfl (fun ls hl => ?_)
    have hl_19 : ∀ (n9 : Nat) (i : Nat) (H : Heap) (locs : List Loc) (ls : Array Slot), n - i < n9 → (i ≤ n) → (m2 = n) → (∀ k, k < i → (X k).toInt = (U k).toInt ∧ (Y k).toInt = (V k).toInt) → va_P (dC, dI) classes [(oc6 r (.ref rx) (.ref ry) (nI n) rg), (oa rx cI cap X), (oa ry cI cap Y), (oc6 u (.ref ux) (.ref uy) (nI m2) rh), (oa ux cI cap2 U), (oa uy cI cap2 V)] H → va_D A [(oc6 r (.ref rx) (.ref ry) (nI n) rg), (oa rx cI cap X), (oa ry cI cap Y), (oc6 u (.ref ux) (.ref uy) (nI m2) rh), (oa ux cI cap2 U), (oa uy cI cap2 V)] → va_S A s.heap H locs → lv_has ls 3 [(2, .int (nI i)), (0, .ref r), (1, .ref u)] → W p l e ((headSpec (.code yX7_isAlike cX7_isAlike 3 (some .boolean) :: ws0) ({ frames := 1, cells := 0, slots := 0, locals := 23 } : Room)).room) s m ([.ref r, .ref u] : List Value).toArray below meth c H locs 0 0 Q9 (F0 m 19 ls []) := by
      intro n9
      induction n9 with
      | zero => intro i H locs ls hm; exact absurd hm (Nat.not_lt_zero _)
      | succ n9 ih_19 =>
        intro i H locs ls hm hi hmn hall hP hD hS hl
        refine lv_iload_n hx hb dX7_isAlike_19 rfl (lv_at hl 0 rfl) ?_
        refine lv_aload_n hx hb dX7_isAlike_20 rfl (lv_at hl 1 rfl) ?_
        refine va_get (D := (dC, dI)) (ci := 6) (v := .int (nI n)) (C := RX7) (T := TX7) (N := 4) hx hb hts inX7 hown hK hP 0 rfl rfl 2 (by decide) (hts _ mw_175) (fun _ h9 => h9) rfl dX7_isAlike_21 ?_
        refine lv_icmp_ge (tgt := 55) hx hb dX7_isAlike_24 (by decide) (fun c_2 => ?_) (fun c_2 => ?_)
        · have c_2 : ((n : Nat) : Int) ≤ ((i : Nat) : Int) := zc_le (nI_toInt (by omega)) (nI_toInt (by omega)) c_2
          refine lv_iconst (v := 1) hx hb dX7_isAlike_55 (by decide) ?_
          have hP9 := hP.sub (ws' := [(oc6 r (.ref rx) (.ref ry) (nI n) rg), (oa rx cI cap X), (oa ry cI cap Y), (oc6 u (.ref ux) (.ref uy) (nI m2) rh), (oa ux cI cap2 U), (oa uy cI cap2 V)]) [0, 1, 2, 3, 4, 5] rfl
          have hD9 := hD.sub (ws' := [(oc6 r (.ref rx) (.ref ry) (nI n) rg), (oa rx cI cap X), (oa ry cI cap Y), (oc6 u (.ref ux) (.ref uy) (nI m2) rh), (oa ux cI cap2 U), (oa uy cI cap2 V)]) [0, 1, 2, 3, 4, 5] (by decide) rfl
          rw [hQ9]
          exact W.zret (ty := .boolean) (v := 1) hx hb hr (rfl) (fun t ht hW => ⟨⟨congrArg (fun z => Outcome.returned (some (Value.int z))) (show (1 : Int32) = pI (m2 = n ∧ ∀ k, k < n → (X k).toInt = (U k).toInt ∧ (Y k).toInt = (V k).toInt) from (zp_t (⟨hmn, fun k hk => hall k (by omega)⟩)).symm), by rw [ht]; exact hP9, hD9⟩, hS.F ht⟩) hS.2.2 dX7_isAlike_56
        · have c_2 : ((i : Nat) : Int) < ((n : Nat) : Int) := zc_nle (nI_toInt (by omega)) (nI_toInt (by omega)) c_2
          refine lv_aload_n hx hb dX7_isAlike_27 rfl (lv_at hl 1 rfl) ?_
          refine lv_iload_n hx hb dX7_isAlike_28 rfl (lv_at hl 0 rfl) ?_
          refine lv_aload_n hx hb dX7_isAlike_29 rfl (lv_at hl 2 rfl) ?_
          refine va_get (D := (dC, dI)) (ci := 6) (v := .ref ux) (C := RX7) (T := TX7) (N := 4) hx hb hts inX7 hown hK hP 3 rfl rfl 0 (by decide) (hts _ mw_161) (fun _ h9 => h9) rfl dX7_isAlike_30 ?_
          refine lv_iload_n hx hb dX7_isAlike_33 rfl (lv_at hl 0 rfl) ?_
          refine z_iald hx hb hK hP 4 0 rfl rfl (e := i) rfl (by omega) (by omega) dX7_isAlike_34 ?_
          refine lv_aload_n hx hb dX7_isAlike_35 rfl (lv_at hl 2 rfl) ?_
          refine va_get (D := (dC, dI)) (ci := 6) (v := .ref uy) (C := RX7) (T := TX7) (N := 4) hx hb hts inX7 hown hK hP 3 rfl rfl 1 (by decide) (hts _ mw_168) (fun _ h9 => h9) rfl dX7_isAlike_36 ?_
          refine lv_iload_n hx hb dX7_isAlike_39 rfl (lv_at hl 0 rfl) ?_
          refine z_iald hx hb hK hP 5 0 rfl rfl (e := i) rfl (by omega) (by omega) dX7_isAlike_40 ?_
          have hPc := hP.sub (ws' := [(oc6 r (.ref rx) (.ref ry) (nI n) rg), (oa rx cI cap X), (oa ry cI cap Y)]) [0, 1, 2] rfl
          have hDc := hD.sub (ws' := [(oc6 r (.ref rx) (.ref ry) (nI n) rg), (oa rx cI cap X), (oa ry cI cap Y)]) [0, 1, 2] (by decide) rfl
          have hFc := va_free (wc := [(oc6 r (.ref rx) (.ref ry) (nI n) rg), (oa rx cI cap X), (oa ry cI cap Y)]) hD hS hA [0, 1, 2] rfl
          refine zcall (st1 := [.int (pI ((X i).toInt = (U i).toInt ∧ (Y i).toInt = (V i).toInt))]) (va_runV (As := [.int (nI i), .int (U i), .int (V i)]) (rest := []) ⟨hx, hb, hml, hown, hts⟩ (k_Row_isCorner l dC dI cI cZ cF H.size r rx ry n cap X Y rg i (U i) (V i) (by omega) (by omega) (by omega)) (cwV 3 hts (zz_gV mw_540 mw_541 mw_542 mw_102 mc_yX7_isCorner) rfl rfl rfl (by decide +kernel) ⟨Nat.le_of_ble_eq_true rfl, Nat.le_of_ble_eq_true rfl⟩) (zPV2 (q0 := 0) (ci := 6) hPc hDc hK hXN rfl rfl) rfl rfl hl.1 rfl (lv_room (Nat.le_of_ble_eq_true rfl)) dX7_isAlike_41 ⟨Nat.le_of_ble_eq_true rfl, Nat.le_of_ble_eq_true rfl⟩) hS hFc hFc rfl (fun t H1 locs ht hB hk1 hS => ?_)
          obtain ⟨hP1, hD1⟩ := hB
          rw [ht] at hP1
          obtain ⟨hP, hD⟩ := va_join (wr := [(oc6 u (.ref ux) (.ref uy) (nI m2) rh), (oa ux cI cap2 U), (oa uy cI cap2 V)]) (w1 := [(oc6 r (.ref rx) (.ref ry) (nI n) rg), (oa rx cI cap X), (oa ry cI cap Y)]) hP hD [0, 1, 2] [3, 4, 5] rfl rfl (by decide) (by decide) hk1 hFc hP1 hD1
          clear hk1 hPc hDc hFc hP1 hD1 ht
          generalize H1 = H at hP hS ⊢
          have hP := hP.sub (ws' := [(oc6 r (.ref rx) (.ref ry) (nI n) rg), (oa rx cI cap X), (oa ry cI cap Y), (oc6 u (.ref ux) (.ref uy) (nI m2) rh), (oa ux cI cap2 U), (oa uy cI cap2 V)]) [3, 4, 5, 0, 1, 2] rfl
          have hD := hD.sub (ws' := [(oc6 r (.ref rx) (.ref ry) (nI n) rg), (oa rx cI cap X), (oa ry cI cap Y), (oc6 u (.ref ux) (.ref uy) (nI m2) rh), (oa ux cI cap2 U), (oa uy cI cap2 V)]) [3, 4, 5, 0, 1, 2] (by decide) rfl
          have hP : va_P (dC, dI) classes [(oc6 r (.ref rx) (.ref ry) (nI n) rg), (oa rx cI cap X), (oa ry cI cap Y), (oc6 u (.ref ux) (.ref uy) (nI m2) rh), (oa ux cI cap2 U), (oa uy cI cap2 V)] H := hP
          have hD : va_D A [(oc6 r (.ref rx) (.ref ry) (nI n) rg), (oa rx cI cap X), (oa ry cI cap Y), (oc6 u (.ref ux) (.ref uy) (nI m2) rh), (oa ux cI cap2 U), (oa uy cI cap2 V)] := hD
          refine lv_if_ne (tgt := 49) hx hb dX7_isAlike_44 (by decide) (fun c_3 => ?_) (fun c_3 => ?_)
          · have c_3 : (X i).toInt = (U i).toInt ∧ (Y i).toInt = (V i).toInt := zp_1 c_3
            refine lv_iinc (v := nI (i + 1)) (lv' := [(2, .int (nI (i + 1))), (0, .ref r), (1, .ref u)]) hx hb dX7_isAlike_49 hl (k := 0) rfl (nI_add i 1) (by decide) rfl (fun ls hl => ?_)
            refine lv_goto (tgt := 19) hx hb dX7_isAlike_52 (by decide) ?_
            exact ih_19 (i + 1) H locs ls (by omega) (by omega) (hmn) (by intro k hk; rcases Nat.lt_or_ge k i with h | h; exact hall k h; have e9 : k = i := (by omega); subst e9; assumption) hP hD hS (lv_sub hl [0, 1, 2] rfl)
          · have c_3 : ¬ ((X i).toInt = (U i).toInt ∧ (Y i).toInt = (V i).toInt) := zp_0 c_3
            refine lv_iconst (v := 0) hx hb dX7_isAlike_47 (by decide) ?_
            have hP9 := hP.sub (ws' := [(oc6 r (.ref rx) (.ref ry) (nI n) rg), (oa rx cI cap X), (oa ry cI cap Y), (oc6 u (.ref ux) (.ref uy) (nI m2) rh), (oa ux cI cap2 U), (oa uy cI cap2 V)]) [0, 1, 2, 3, 4, 5] rfl
            have hD9 := hD.sub (ws' := [(oc6 r (.ref rx) (.ref ry) (nI n) rg), (oa rx cI cap X), (oa ry cI cap Y), (oc6 u (.ref ux) (.ref uy) (nI m2) rh), (oa ux cI cap2 U), (oa uy cI cap2 V)]) [0, 1, 2, 3, 4, 5] (by decide) rfl
            rw [hQ9]
            exact W.zret (ty := .boolean) (v := 0) hx hb hr (rfl) (fun t ht hW => ⟨⟨congrArg (fun z => Outcome.returned (some (Value.int z))) (show (0 : Int32) = pI (m2 = n ∧ ∀ k, k < n → (X k).toInt = (U k).toInt ∧ (Y k).toInt = (V k).toInt) from (zp_f (fun h => absurd (h.2 i (by omega)) (by assumption))).symm), by rw [ht]; exact hP9, hD9⟩, hS.F ht⟩) hS.2.2 dX7_isAlike_48
    exact hl_19 _ 0 s.heap [] ls (Nat.lt_succ_self _) (by omega) (by omega) (by intro k hk; omega) hP hD hS (lv_sub hl [0, 1, 2] rfl)
  · have c_1 : ¬ ((m2 : Nat) : Int) = ((n : Nat) : Int) := zc_ne (nI_toInt (by omega)) (nI_toInt (by omega)) c_1
    refine lv_iconst (v := 0) hx hb dX7_isAlike_15 (by decide) ?_
    have hP9 := hP.sub (ws' := [(oc6 r (.ref rx) (.ref ry) (nI n) rg), (oa rx cI cap X), (oa ry cI cap Y), (oc6 u (.ref ux) (.ref uy) (nI m2) rh), (oa ux cI cap2 U), (oa uy cI cap2 V)]) [0, 1, 2, 3, 4, 5] rfl
    have hD9 := hD.sub (ws' := [(oc6 r (.ref rx) (.ref ry) (nI n) rg), (oa rx cI cap X), (oa ry cI cap Y), (oc6 u (.ref ux) (.ref uy) (nI m2) rh), (oa ux cI cap2 U), (oa uy cI cap2 V)]) [0, 1, 2, 3, 4, 5] (by decide) rfl
    rw [hQ9]
    exact W.zret (ty := .boolean) (v := 0) hx hb hr (rfl) (fun t ht hW => ⟨⟨congrArg (fun z => Outcome.returned (some (Value.int z))) (show (0 : Int32) = pI (m2 = n ∧ ∀ k, k < n → (X k).toInt = (U k).toInt ∧ (Y k).toInt = (V k).toInt) from (zp_f (by omega)).symm), by rw [ht]; exact hP9, hD9⟩, hS.F ht⟩) hS.2.2 dX7_isAlike_16
set_option maxHeartbeats 4000000 in
set_option maxRecDepth 100000 in
theorem k_Row_doubleTriangle (l : Launch) (dC : Nat → ClassId) (dI : Nat → Nat → Nat) (cI cZ cF : ClassId) (sz : Nat) (r : Nat) (rx : Nat) (ry : Nat) (n : Nat) (cap : Nat) (X : Nat → Int32) (Y : Nat → Int32) (rg : Int32) (k : Nat) (hn : n ≤ cap) (hcap : cap ≤ 1000) (hp : pls n X Y) (hi : k < n) : Met l yX7_doubleTriangle (.code yX7_doubleTriangle cX7_doubleTriangle 3 (some .int) :: ws0) ({ frames := 1, cells := 0, slots := 0, locals := 24 } : Room) (va_Pc [.ref r, .int (nI k)] (zPre (dC, dI) classes (zTy cI cZ cF) [(oc6 r (.ref rx) (.ref ry) (nI n) rg), (oa rx cI cap X), (oa ry cI cap Y)] sz zXN)) (zQ (some (.int (nI (Int.natAbs (eCr n X Y (prv n k) (X (nxt n k)).toInt (Y (nxt n k)).toInt))))) (fun t => va_P (dC, dI) classes [(oc6 r (.ref rx) (.ref ry) (nI n) rg), (oa rx cI cap X), (oa ry cI cap Y)] t.heap ∧ va_D (va_A [(oc6 r (.ref rx) (.ref ry) (nI n) rg), (oa rx cI cap X), (oa ry cI cap Y)] sz) [(oc6 r (.ref rx) (.ref ry) (nI n) rg), (oa rx cI cap X), (oa ry cI cap Y)]) (va_A [(oc6 r (.ref rx) (.ref ry) (nI n) rg), (oa rx cI cap X), (oa ry cI cap Y)] sz)) 0 0 (va_A [(oc6 r (.ref rx) (.ref ry) (nI n) rg), (oa rx cI cap X), (oa ry cI cap Y)] sz) := by
  refine Met.ofW (cc := cX7_doubleTriangle) (maxL := 3) (ret := (some .int)) (by decide) rfl ?_
  intro p e s m args below meth c s₁ B hml hv
  obtain ⟨rfl, hsz, hP, hK, hD0, hXN⟩ := hv
  have hx := B.exec
  have hb := B.bytes
  have hr := B.returns
  have hts0 := atoms_spec (ws := .code yX7_doubleTriangle cX7_doubleTriangle 3 (some .int) :: ws0) B.pre
  have hts : ∀ w9 ∈ ws0, w9.before ([.ref r, .int (nI k)] : List Value).toArray s = true := fun w9 h => hts0 w9 (List.mem_cons_of_mem _ h)
  have hown : s.vm.findClass "ScaleShop$Row" = some m.cls := findClass_of_methodNamed B.named
  have hlocks := B.notSynchronized
  subst hsz
  have hD := hD0.self (sz := s.heap.size)
  clear hD0
  generalize hAe : va_A [(oc6 r (.ref rx) (.ref ry) (nI n) rg), (oa rx cI cap X), (oa ry cI cap Y)] s.heap.size = A at hD ⊢
  have hA : ∀ q : Nat, s.heap.size ≤ q → A q := fun q h => by rw [← hAe]; exact Or.inr h
  clear hAe
  have hS : va_S A s.heap s.heap [] := va_S.rf
  have hP : va_P (dC, dI) classes [(oc6 r (.ref rx) (.ref ry) (nI n) rg), (oa rx cI cap X), (oa ry cI cap Y)] s.heap := hP
  obtain ⟨Q9, hQ9⟩ : ∃ Q9 : State → Prop, Q9 = MQ below (zQ (some (.int (nI (Int.natAbs (eCr n X Y (prv n k) (X (nxt n k)).toInt (Y (nxt n k)).toInt))))) (fun t => va_P (dC, dI) classes [(oc6 r (.ref rx) (.ref ry) (nI n) rg), (oa rx cI cap X), (oa ry cI cap Y)] t.heap ∧ va_D A [(oc6 r (.ref rx) (.ref ry) (nI n) rg), (oa rx cI cap X), (oa ry cI cap Y)]) A) ([.ref r, .int (nI k)] : List Value).toArray s 0 0 A := ⟨_, rfl⟩
  rw [← hQ9]
  have hl := lv_entry ([.ref r, .int (nI k)]) (n := 3) (Nat.le_of_ble_eq_true rfl)
  rw [lg_entry_eq]
  generalize (lg_sl ([.ref r, .int (nI k)]) ++ List.replicate (3 - (lg_sl ([.ref r, .int (nI k)])).length) Slot.unset).toArray = ls at hl ⊢
  have hl : lv_has ls 3 [(0, .ref r), (1, .int (nI k))] := hl
  have hpv := prv_lt (n := n) (i := k) (by omega)
  have hnk := nxt_lt (n := n) (i := k) (by omega)
  have hB := crBp (hp _ hpv).1 (hp _ hpv).2 (hp _ (nxt_lt (n := n) (i := prv n k) (by omega))).1 (hp _ (nxt_lt (n := n) (i := prv n k) (by omega))).2 (hp _ hnk).1 (hp _ hnk).2
  have hB : -2000000 ≤ eCr n X Y (prv n k) (X (nxt n k)).toInt (Y (nxt n k)).toInt ∧ eCr n X Y (prv n k) (X (nxt n k)).toInt (Y (nxt n k)).toInt ≤ 2000000 := hB
  refine lv_aload_n hx hb dX7_doubleTriangle_0 rfl (lv_at hl 0 rfl) ?_
  refine lv_iload_n hx hb dX7_doubleTriangle_1 rfl (lv_at hl 1 rfl) ?_
  have hPc := hP.sub (ws' := [(oc6 r (.ref rx) (.ref ry) (nI n) rg), (oa rx cI cap X), (oa ry cI cap Y)]) [0, 1, 2] rfl
  have hDc := hD.sub (ws' := [(oc6 r (.ref rx) (.ref ry) (nI n) rg), (oa rx cI cap X), (oa ry cI cap Y)]) [0, 1, 2] (by decide) rfl
  have hFc := va_free (wc := [(oc6 r (.ref rx) (.ref ry) (nI n) rg), (oa rx cI cap X), (oa ry cI cap Y)]) hD hS hA [0, 1, 2] rfl
  refine zcall (st1 := [.int (nI (nxt n k))]) (va_runV (As := [.int (nI k)]) (rest := []) ⟨hx, hb, hml, hown, hts⟩ (k_Row_next l dC dI cI cZ cF s.heap.size r rx ry n cap X Y rg k (by omega) (by omega) (by omega)) (cwV 1 hts (zz_gV mw_536 mw_537 mw_538 mw_102 mc_yX7_next) rfl rfl rfl (by decide +kernel) ⟨Nat.le_of_ble_eq_true rfl, Nat.le_of_ble_eq_true rfl⟩) (zPV2 (q0 := 0) (ci := 6) hPc hDc hK hXN rfl rfl) rfl rfl hl.1 rfl (lv_room (Nat.le_of_ble_eq_true rfl)) dX7_doubleTriangle_2 ⟨Nat.le_of_ble_eq_true rfl, Nat.le_of_ble_eq_true rfl⟩) hS hFc hFc rfl (fun t H1 locs ht hB hk1 hS => ?_)
  obtain ⟨hP1, hD1⟩ := hB
  rw [ht] at hP1
  obtain ⟨hP, hD⟩ := va_join (wr := []) (w1 := [(oc6 r (.ref rx) (.ref ry) (nI n) rg), (oa rx cI cap X), (oa ry cI cap Y)]) hP hD [0, 1, 2] [] rfl rfl (by decide) (by decide) hk1 hFc hP1 hD1
  clear hk1 hPc hDc hFc hP1 hD1 ht
  generalize H1 = H at hP hS ⊢
  have hP : va_P (dC, dI) classes [(oc6 r (.ref rx) (.ref ry) (nI n) rg), (oa rx cI cap X), (oa ry cI cap Y)] H := hP
  have hD : va_D A [(oc6 r (.ref rx) (.ref ry) (nI n) rg), (oa rx cI cap X), (oa ry cI cap Y)] := hD
  refine lv_istore_n (lv' := [(2, .int (nI (nxt n k))), (0, .ref r), (1, .int (nI k))]) hx hb dX7_doubleTriangle_5 rfl hl (by decide) rfl (fun ls hl => ?_)
  refine lv_aload_n hx hb dX7_doubleTriangle_6 rfl (lv_at hl 1 rfl) ?_
  refine lv_aload_n hx hb dX7_doubleTriangle_7 rfl (lv_at hl 1 rfl) ?_
  refine lv_iload_n hx hb dX7_doubleTriangle_8 rfl (lv_at hl 2 rfl) ?_
  have hPc := hP.sub (ws' := [(oc6 r (.ref rx) (.ref ry) (nI n) rg), (oa rx cI cap X), (oa ry cI cap Y)]) [0, 1, 2] rfl
  have hDc := hD.sub (ws' := [(oc6 r (.ref rx) (.ref ry) (nI n) rg), (oa rx cI cap X), (oa ry cI cap Y)]) [0, 1, 2] (by decide) rfl
  have hFc := va_free (wc := [(oc6 r (.ref rx) (.ref ry) (nI n) rg), (oa rx cI cap X), (oa ry cI cap Y)]) hD hS hA [0, 1, 2] rfl
  refine zcall (st1 := [.int (nI (prv n k)), .ref r]) (va_runV (As := [.int (nI k)]) (rest := [.ref r]) ⟨hx, hb, hml, hown, hts⟩ (k_Row_previous l dC dI cI cZ cF H.size r rx ry n cap X Y rg k (by omega) (by omega) (by omega)) (cwV 1 hts (zz_gV mw_556 mw_557 mw_558 mw_102 mc_yX7_previous) rfl rfl rfl (by decide +kernel) ⟨Nat.le_of_ble_eq_true rfl, Nat.le_of_ble_eq_true rfl⟩) (zPV2 (q0 := 0) (ci := 6) hPc hDc hK hXN rfl rfl) rfl rfl hl.1 rfl (lv_room (Nat.le_of_ble_eq_true rfl)) dX7_doubleTriangle_9 ⟨Nat.le_of_ble_eq_true rfl, Nat.le_of_ble_eq_true rfl⟩) hS hFc hFc rfl (fun t H1 locs ht hB hk1 hS => ?_)
  obtain ⟨hP1, hD1⟩ := hB
  rw [ht] at hP1
  obtain ⟨hP, hD⟩ := va_join (wr := []) (w1 := [(oc6 r (.ref rx) (.ref ry) (nI n) rg), (oa rx cI cap X), (oa ry cI cap Y)]) hP hD [0, 1, 2] [] rfl rfl (by decide) (by decide) hk1 hFc hP1 hD1
  clear hk1 hPc hDc hFc hP1 hD1 ht
  generalize H1 = H at hP hS ⊢
  have hP : va_P (dC, dI) classes [(oc6 r (.ref rx) (.ref ry) (nI n) rg), (oa rx cI cap X), (oa ry cI cap Y)] H := hP
  have hD : va_D A [(oc6 r (.ref rx) (.ref ry) (nI n) rg), (oa rx cI cap X), (oa ry cI cap Y)] := hD
  refine lv_aload_n hx hb dX7_doubleTriangle_12 rfl (lv_at hl 1 rfl) ?_
  refine va_get (D := (dC, dI)) (ci := 6) (v := .ref rx) (C := RX7) (T := TX7) (N := 4) hx hb hts inX7 hown hK hP 0 rfl rfl 0 (by decide) (hts _ mw_161) (fun _ h9 => h9) rfl dX7_doubleTriangle_13 ?_
  refine lv_iload_n hx hb dX7_doubleTriangle_16 rfl (lv_at hl 0 rfl) ?_
  refine z_iald hx hb hK hP 1 0 rfl rfl (e := nxt n k) rfl (by omega) (by omega) dX7_doubleTriangle_17 ?_
  refine lv_aload_n hx hb dX7_doubleTriangle_18 rfl (lv_at hl 1 rfl) ?_
  refine va_get (D := (dC, dI)) (ci := 6) (v := .ref ry) (C := RX7) (T := TX7) (N := 4) hx hb hts inX7 hown hK hP 0 rfl rfl 1 (by decide) (hts _ mw_168) (fun _ h9 => h9) rfl dX7_doubleTriangle_19 ?_
  refine lv_iload_n hx hb dX7_doubleTriangle_22 rfl (lv_at hl 0 rfl) ?_
  refine z_iald hx hb hK hP 2 0 rfl rfl (e := nxt n k) rfl (by omega) (by omega) dX7_doubleTriangle_23 ?_
  have hPc := hP.sub (ws' := [(oc6 r (.ref rx) (.ref ry) (nI n) rg), (oa rx cI cap X), (oa ry cI cap Y)]) [0, 1, 2] rfl
  have hDc := hD.sub (ws' := [(oc6 r (.ref rx) (.ref ry) (nI n) rg), (oa rx cI cap X), (oa ry cI cap Y)]) [0, 1, 2] (by decide) rfl
  have hFc := va_free (wc := [(oc6 r (.ref rx) (.ref ry) (nI n) rg), (oa rx cI cap X), (oa ry cI cap Y)]) hD hS hA [0, 1, 2] rfl
  refine zcall (st1 := [.int (iI (eCr n X Y (prv n k) (X (nxt n k)).toInt (Y (nxt n k)).toInt))]) (va_runV (As := [.int (nI (prv n k)), .int (X (nxt n k)), .int (Y (nxt n k))]) (rest := []) ⟨hx, hb, hml, hown, hts⟩ (k_Row_turn l dC dI cI cZ cF H.size r rx ry n cap X Y rg (prv n k) (X (nxt n k)) (Y (nxt n k)) (by omega) (by omega) (by assumption) (by omega) ((hp _ hnk).1) ((hp _ hnk).2)) (cwV 3 hts (zz_gV mw_584 mw_585 mw_586 mw_102 mc_yX7_turn) rfl rfl rfl (by decide +kernel) ⟨Nat.le_of_ble_eq_true rfl, Nat.le_of_ble_eq_true rfl⟩) (zPV2 (q0 := 0) (ci := 6) hPc hDc hK hXN rfl rfl) rfl rfl hl.1 rfl (lv_room (Nat.le_of_ble_eq_true rfl)) dX7_doubleTriangle_24 ⟨Nat.le_of_ble_eq_true rfl, Nat.le_of_ble_eq_true rfl⟩) hS hFc hFc rfl (fun t H1 locs ht hB hk1 hS => ?_)
  obtain ⟨hP1, hD1⟩ := hB
  rw [ht] at hP1
  obtain ⟨hP, hD⟩ := va_join (wr := []) (w1 := [(oc6 r (.ref rx) (.ref ry) (nI n) rg), (oa rx cI cap X), (oa ry cI cap Y)]) hP hD [0, 1, 2] [] rfl rfl (by decide) (by decide) hk1 hFc hP1 hD1
  clear hk1 hPc hDc hFc hP1 hD1 ht
  generalize H1 = H at hP hS ⊢
  have hP : va_P (dC, dI) classes [(oc6 r (.ref rx) (.ref ry) (nI n) rg), (oa rx cI cap X), (oa ry cI cap Y)] H := hP
  have hD : va_D A [(oc6 r (.ref rx) (.ref ry) (nI n) rg), (oa rx cI cap X), (oa ry cI cap Y)] := hD
  refine va_mabs hx hb (by rw [hml]; exact hl.1.symm) hown (hts _ mw_588) (hts _ mw_589) (hts _ mw_103) (hts _ mw_abscode) (Nat.le_of_ble_eq_true rfl) (Nat.le_of_ble_eq_true rfl) (Nat.le_of_ble_eq_true rfl) (Nat.le_of_ble_eq_true rfl) dX7_doubleTriangle_27 ?_
  refine zz_i (v := nI (Int.natAbs (eCr n X Y (prv n k) (X (nxt n k)).toInt (Y (nxt n k)).toInt))) (zabs (iI_toInt (by omega)) (by omega)) ?_
  have hP9 := hP.sub (ws' := [(oc6 r (.ref rx) (.ref ry) (nI n) rg), (oa rx cI cap X), (oa ry cI cap Y)]) [0, 1, 2] rfl
  have hD9 := hD.sub (ws' := [(oc6 r (.ref rx) (.ref ry) (nI n) rg), (oa rx cI cap X), (oa ry cI cap Y)]) [0, 1, 2] (by decide) rfl
  rw [hQ9]
  exact W.iret (v := nI (Int.natAbs (eCr n X Y (prv n k) (X (nxt n k)).toInt (Y (nxt n k)).toInt))) hx hb hr (fun t ht hW => ⟨⟨rfl, by rw [ht]; exact hP9, hD9⟩, hS.F ht⟩) hS.2.2 dX7_doubleTriangle_30
set_option maxHeartbeats 4000000 in
set_option maxRecDepth 100000 in
theorem k_Row_doubleArea (l : Launch) (dC : Nat → ClassId) (dI : Nat → Nat → Nat) (cI cZ cF : ClassId) (sz : Nat) (r : Nat) (rx : Nat) (ry : Nat) (n : Nat) (cap : Nat) (X : Nat → Int32) (Y : Nat → Int32) (rg : Int32) (hn : n ≤ cap) (hcap : cap ≤ 1000) (hp : pls n X Y) : Met l yX7_doubleArea (.code yX7_doubleArea cX7_doubleArea 4 (some .int) :: ws0) ({ frames := 1, cells := 0, slots := 0, locals := 21 } : Room) (va_Pc [.ref r] (zPre (dC, dI) classes (zTy cI cZ cF) [(oc6 r (.ref rx) (.ref ry) (nI n) rg), (oa rx cI cap X), (oa ry cI cap Y)] sz zXN)) (zQ (some (.int (nI (Int.natAbs (ar2 n X Y n))))) (fun t => va_P (dC, dI) classes [(oc6 r (.ref rx) (.ref ry) (nI n) rg), (oa rx cI cap X), (oa ry cI cap Y)] t.heap ∧ va_D (va_A [(oc6 r (.ref rx) (.ref ry) (nI n) rg), (oa rx cI cap X), (oa ry cI cap Y)] sz) [(oc6 r (.ref rx) (.ref ry) (nI n) rg), (oa rx cI cap X), (oa ry cI cap Y)]) (va_A [(oc6 r (.ref rx) (.ref ry) (nI n) rg), (oa rx cI cap X), (oa ry cI cap Y)] sz)) 0 0 (va_A [(oc6 r (.ref rx) (.ref ry) (nI n) rg), (oa rx cI cap X), (oa ry cI cap Y)] sz) := by
  refine Met.ofW (cc := cX7_doubleArea) (maxL := 4) (ret := (some .int)) (by decide) rfl ?_
  intro p e s m args below meth c s₁ B hml hv
  obtain ⟨rfl, hsz, hP, hK, hD0, hXN⟩ := hv
  have hx := B.exec
  have hb := B.bytes
  have hr := B.returns
  have hts0 := atoms_spec (ws := .code yX7_doubleArea cX7_doubleArea 4 (some .int) :: ws0) B.pre
  have hts : ∀ w9 ∈ ws0, w9.before ([.ref r] : List Value).toArray s = true := fun w9 h => hts0 w9 (List.mem_cons_of_mem _ h)
  have hown : s.vm.findClass "ScaleShop$Row" = some m.cls := findClass_of_methodNamed B.named
  have hlocks := B.notSynchronized
  subst hsz
  have hD := hD0.self (sz := s.heap.size)
  clear hD0
  generalize hAe : va_A [(oc6 r (.ref rx) (.ref ry) (nI n) rg), (oa rx cI cap X), (oa ry cI cap Y)] s.heap.size = A at hD ⊢
  have hA : ∀ q : Nat, s.heap.size ≤ q → A q := fun q h => by rw [← hAe]; exact Or.inr h
  clear hAe
  have hS : va_S A s.heap s.heap [] := va_S.rf
  have hP : va_P (dC, dI) classes [(oc6 r (.ref rx) (.ref ry) (nI n) rg), (oa rx cI cap X), (oa ry cI cap Y)] s.heap := hP
  obtain ⟨Q9, hQ9⟩ : ∃ Q9 : State → Prop, Q9 = MQ below (zQ (some (.int (nI (Int.natAbs (ar2 n X Y n))))) (fun t => va_P (dC, dI) classes [(oc6 r (.ref rx) (.ref ry) (nI n) rg), (oa rx cI cap X), (oa ry cI cap Y)] t.heap ∧ va_D A [(oc6 r (.ref rx) (.ref ry) (nI n) rg), (oa rx cI cap X), (oa ry cI cap Y)]) A) ([.ref r] : List Value).toArray s 0 0 A := ⟨_, rfl⟩
  rw [← hQ9]
  have hl := lv_entry ([.ref r]) (n := 4) (Nat.le_of_ble_eq_true rfl)
  rw [lg_entry_eq]
  generalize (lg_sl ([.ref r]) ++ List.replicate (4 - (lg_sl ([.ref r])).length) Slot.unset).toArray = ls at hl ⊢
  have hl : lv_has ls 4 [(0, .ref r)] := hl
  refine lv_iconst (v := 0) hx hb dX7_doubleArea_0 (by decide) ?_
  refine lv_istore_n (lv' := [(1, .int 0), (0, .ref r)]) hx hb dX7_doubleArea_1 rfl hl (by decide) rfl (fun ls hl => ?_)
  refine lv_iconst (v := 0) hx hb dX7_doubleArea_2 (by decide) ?_
  refine lv_istore_n (lv' := [(2, .int 0), (1, .int 0), (0, .ref r)]) hx hb dX7_doubleArea_3 rfl hl (by decide) rfl (fun ls hl => ?_)
  have hl_4 : ∀ (n9 : Nat) (i : Nat) (H : Heap) (locs : List Loc) (ls : Array Slot), n - i < n9 → (i ≤ n) → va_P (dC, dI) classes [(oc6 r (.ref rx) (.ref ry) (nI n) rg), (oa rx cI cap X), (oa ry cI cap Y)] H → va_D A [(oc6 r (.ref rx) (.ref ry) (nI n) rg), (oa rx cI cap X), (oa ry cI cap Y)] → va_S A s.heap H locs → lv_has ls 4 [(2, .int (nI i)), (1, .int (iI (ar2 n X Y i))), (0, .ref r)] → W p l e ((headSpec (.code yX7_doubleArea cX7_doubleArea 4 (some .int) :: ws0) ({ frames := 1, cells := 0, slots := 0, locals := 21 } : Room)).room) s m ([.ref r] : List Value).toArray below meth c H locs 0 0 Q9 (F0 m 4 ls []) := by
    intro n9
    induction n9 with
    | zero => intro i H locs ls hm; exact absurd hm (Nat.not_lt_zero _)
    | succ n9 ih_4 =>
      intro i H locs ls hm hi hP hD hS hl
      have hB := ar2B hp i hi
      refine lv_iload_n hx hb dX7_doubleArea_4 rfl (lv_at hl 0 rfl) ?_
      refine lv_aload_n hx hb dX7_doubleArea_5 rfl (lv_at hl 2 rfl) ?_
      refine va_get (D := (dC, dI)) (ci := 6) (v := .int (nI n)) (C := RX7) (T := TX7) (N := 4) hx hb hts inX7 hown hK hP 0 rfl rfl 2 (by decide) (hts _ mw_175) (fun _ h9 => h9) rfl dX7_doubleArea_6 ?_
      refine lv_icmp_ge (tgt := 54) hx hb dX7_doubleArea_9 (by decide) (fun c_1 => ?_) (fun c_1 => ?_)
      · have c_1 : ((n : Nat) : Int) ≤ ((i : Nat) : Int) := zc_le (nI_toInt (by omega)) (nI_toInt (by omega)) c_1
        refine lv_iload_n hx hb dX7_doubleArea_54 rfl (lv_at hl 1 rfl) ?_
        refine va_mabs hx hb (by rw [hml]; exact hl.1.symm) hown (hts _ mw_588) (hts _ mw_589) (hts _ mw_103) (hts _ mw_abscode) (Nat.le_of_ble_eq_true rfl) (Nat.le_of_ble_eq_true rfl) (Nat.le_of_ble_eq_true rfl) (Nat.le_of_ble_eq_true rfl) dX7_doubleArea_55 ?_
        refine zz_i (v := nI (Int.natAbs (ar2 n X Y i))) (zabs (iI_toInt (by omega)) (by omega)) ?_
        have hP9 := hP.sub (ws' := [(oc6 r (.ref rx) (.ref ry) (nI n) rg), (oa rx cI cap X), (oa ry cI cap Y)]) [0, 1, 2] rfl
        have hD9 := hD.sub (ws' := [(oc6 r (.ref rx) (.ref ry) (nI n) rg), (oa rx cI cap X), (oa ry cI cap Y)]) [0, 1, 2] (by decide) rfl
        rw [hQ9]
        exact W.iret (v := nI (Int.natAbs (ar2 n X Y i))) hx hb hr (fun t ht hW => ⟨⟨congrArg (fun z => Outcome.returned (some (Value.int z))) (show (nI (Int.natAbs (ar2 n X Y i)) : Int32) = nI (Int.natAbs (ar2 n X Y n)) from by rw [show i = n by omega]), by rw [ht]; exact hP9, hD9⟩, hS.F ht⟩) hS.2.2 dX7_doubleArea_58
      · have c_1 : ((i : Nat) : Int) < ((n : Nat) : Int) := zc_nle (nI_toInt (by omega)) (nI_toInt (by omega)) c_1
        have hnx := nxt_lt (n := n) (i := i) (by omega)
        have hq1 := xyB (hp i (by omega)).1 (hp _ hnx).2
        have hq2 := xyB (hp _ hnx).1 (hp i (by omega)).2
        refine lv_aload_n hx hb dX7_doubleArea_12 rfl (lv_at hl 2 rfl) ?_
        refine lv_iload_n hx hb dX7_doubleArea_13 rfl (lv_at hl 0 rfl) ?_
        have hPc := hP.sub (ws' := [(oc6 r (.ref rx) (.ref ry) (nI n) rg), (oa rx cI cap X), (oa ry cI cap Y)]) [0, 1, 2] rfl
        have hDc := hD.sub (ws' := [(oc6 r (.ref rx) (.ref ry) (nI n) rg), (oa rx cI cap X), (oa ry cI cap Y)]) [0, 1, 2] (by decide) rfl
        have hFc := va_free (wc := [(oc6 r (.ref rx) (.ref ry) (nI n) rg), (oa rx cI cap X), (oa ry cI cap Y)]) hD hS hA [0, 1, 2] rfl
        refine zcall (st1 := [.int (nI (nxt n i))]) (va_runV (As := [.int (nI i)]) (rest := []) ⟨hx, hb, hml, hown, hts⟩ (k_Row_next l dC dI cI cZ cF H.size r rx ry n cap X Y rg i (by omega) (by omega) (by omega)) (cwV 1 hts (zz_gV mw_536 mw_537 mw_538 mw_102 mc_yX7_next) rfl rfl rfl (by decide +kernel) ⟨Nat.le_of_ble_eq_true rfl, Nat.le_of_ble_eq_true rfl⟩) (zPV2 (q0 := 0) (ci := 6) hPc hDc hK hXN rfl rfl) rfl rfl hl.1 rfl (lv_room (Nat.le_of_ble_eq_true rfl)) dX7_doubleArea_14 ⟨Nat.le_of_ble_eq_true rfl, Nat.le_of_ble_eq_true rfl⟩) hS hFc hFc rfl (fun t H1 locs ht hB hk1 hS => ?_)
        obtain ⟨hP1, hD1⟩ := hB
        rw [ht] at hP1
        obtain ⟨hP, hD⟩ := va_join (wr := []) (w1 := [(oc6 r (.ref rx) (.ref ry) (nI n) rg), (oa rx cI cap X), (oa ry cI cap Y)]) hP hD [0, 1, 2] [] rfl rfl (by decide) (by decide) hk1 hFc hP1 hD1
        clear hk1 hPc hDc hFc hP1 hD1 ht
        generalize H1 = H at hP hS ⊢
        have hP : va_P (dC, dI) classes [(oc6 r (.ref rx) (.ref ry) (nI n) rg), (oa rx cI cap X), (oa ry cI cap Y)] H := hP
        have hD : va_D A [(oc6 r (.ref rx) (.ref ry) (nI n) rg), (oa rx cI cap X), (oa ry cI cap Y)] := hD
        refine lv_istore_n (lv' := [(3, .int (nI (nxt n i))), (2, .int (nI i)), (1, .int (iI (ar2 n X Y i))), (0, .ref r)]) hx hb dX7_doubleArea_17 rfl hl (by decide) rfl (fun ls hl => ?_)
        refine lv_iload_n hx hb dX7_doubleArea_18 rfl (lv_at hl 2 rfl) ?_
        refine lv_aload_n hx hb dX7_doubleArea_19 rfl (lv_at hl 3 rfl) ?_
        refine va_get (D := (dC, dI)) (ci := 6) (v := .ref rx) (C := RX7) (T := TX7) (N := 4) hx hb hts inX7 hown hK hP 0 rfl rfl 0 (by decide) (hts _ mw_161) (fun _ h9 => h9) rfl dX7_doubleArea_20 ?_
        refine lv_iload_n hx hb dX7_doubleArea_23 rfl (lv_at hl 1 rfl) ?_
        refine z_iald hx hb hK hP 1 0 rfl rfl (e := i) rfl (by omega) (by omega) dX7_doubleArea_24 ?_
        refine lv_aload_n hx hb dX7_doubleArea_25 rfl (lv_at hl 3 rfl) ?_
        refine va_get (D := (dC, dI)) (ci := 6) (v := .ref ry) (C := RX7) (T := TX7) (N := 4) hx hb hts inX7 hown hK hP 0 rfl rfl 1 (by decide) (hts _ mw_168) (fun _ h9 => h9) rfl dX7_doubleArea_26 ?_
        refine lv_iload_n hx hb dX7_doubleArea_29 rfl (lv_at hl 0 rfl) ?_
        refine z_iald hx hb hK hP 2 0 rfl rfl (e := nxt n i) rfl (by omega) (by omega) dX7_doubleArea_30 ?_
        refine lv_imul hx hb dX7_doubleArea_31 ?_
        refine lv_aload_n hx hb dX7_doubleArea_32 rfl (lv_at hl 3 rfl) ?_
        refine va_get (D := (dC, dI)) (ci := 6) (v := .ref rx) (C := RX7) (T := TX7) (N := 4) hx hb hts inX7 hown hK hP 0 rfl rfl 0 (by decide) (hts _ mw_161) (fun _ h9 => h9) rfl dX7_doubleArea_33 ?_
        refine lv_iload_n hx hb dX7_doubleArea_36 rfl (lv_at hl 0 rfl) ?_
        refine z_iald hx hb hK hP 1 0 rfl rfl (e := nxt n i) rfl (by omega) (by omega) dX7_doubleArea_37 ?_
        refine lv_aload_n hx hb dX7_doubleArea_38 rfl (lv_at hl 3 rfl) ?_
        refine va_get (D := (dC, dI)) (ci := 6) (v := .ref ry) (C := RX7) (T := TX7) (N := 4) hx hb hts inX7 hown hK hP 0 rfl rfl 1 (by decide) (hts _ mw_168) (fun _ h9 => h9) rfl dX7_doubleArea_39 ?_
        refine lv_iload_n hx hb dX7_doubleArea_42 rfl (lv_at hl 1 rfl) ?_
        refine z_iald hx hb hK hP 2 0 rfl rfl (e := i) rfl (by omega) (by omega) dX7_doubleArea_43 ?_
        refine lv_imul hx hb dX7_doubleArea_44 ?_
        refine lv_isub hx hb dX7_doubleArea_45 ?_
        refine zz_i (v := iI ((X i).toInt * (Y (nxt n i)).toInt - (X (nxt n i)).toInt * (Y i).toInt)) (xyI (hp i (by omega)).1 (hp _ hnx).2 (hp _ hnx).1 (hp i (by omega)).2) ?_
        refine lv_iadd hx hb dX7_doubleArea_46 ?_
        refine zz_i (v := iI (ar2 n X Y i + ((X i).toInt * (Y (nxt n i)).toInt - (X (nxt n i)).toInt * (Y i).toInt))) (iI_add (by omega) (by omega)) ?_
        refine lv_istore_n (lv' := [(1, .int (iI (ar2 n X Y i + ((X i).toInt * (Y (nxt n i)).toInt - (X (nxt n i)).toInt * (Y i).toInt)))), (3, .int (nI (nxt n i))), (2, .int (nI i)), (0, .ref r)]) hx hb dX7_doubleArea_47 rfl hl (by decide) rfl (fun ls hl => ?_)
        refine lv_iinc (v := nI (i + 1)) (lv' := [(2, .int (nI (i + 1))), (1, .int (iI (ar2 n X Y i + ((X i).toInt * (Y (nxt n i)).toInt - (X (nxt n i)).toInt * (Y i).toInt)))), (3, .int (nI (nxt n i))), (0, .ref r)]) hx hb dX7_doubleArea_48 hl (k := 2) rfl (nI_add i 1) (by decide) rfl (fun ls hl => ?_)
        refine lv_goto (tgt := 4) hx hb dX7_doubleArea_51 (by decide) ?_
        have hl9 := lv_sub hl [0, 1, 3] rfl
        have e9_1 : iI (ar2 n X Y (i + 1)) = (iI (ar2 n X Y i + ((X i).toInt * (Y (nxt n i)).toInt - (X (nxt n i)).toInt * (Y i).toInt)) : Int32) := by rfl
        have hl9 : lv_has ls 4 [(2, .int (nI (i + 1))), (1, .int (iI (ar2 n X Y (i + 1)))), (0, .ref r)] := by rw [e9_1]; exact hl9
        exact ih_4 (i + 1) H locs ls (by omega) (by omega) hP hD hS hl9
  have e9_1 : iI (ar2 n X Y 0) = (0 : Int32) := by rfl
  have hl9 : lv_has ls 4 [(2, .int (nI 0)), (1, .int (iI (ar2 n X Y 0))), (0, .ref r)] := by rw [e9_1]; exact lv_sub hl [0, 1, 2] rfl
  exact hl_4 _ 0 s.heap [] ls (Nat.lt_succ_self _) (by omega) hP hD hS hl9
set_option maxHeartbeats 4000000 in
set_option maxRecDepth 100000 in
theorem k_Row_length (l : Launch) (dC : Nat → ClassId) (dI : Nat → Nat → Nat) (cI cZ cF : ClassId) (sz : Nat) (r : Nat) (rx : Nat) (ry : Nat) (n : Nat) (cap : Nat) (X : Nat → Int32) (Y : Nat → Int32) (rg : Int32) (hn : n ≤ cap) (hcap : cap ≤ 1000) (hp : pls n X Y) (h1n : 1 ≤ n) : Met l yX7_length (.code yX7_length cX7_length 3 (some .int) :: ws0) ({ frames := 1, cells := 0, slots := 0, locals := 15 } : Room) (va_Pc [.ref r] (zPre (dC, dI) classes (zTy cI cZ cF) [(oc6 r (.ref rx) (.ref ry) (nI n) rg), (oa rx cI cap X), (oa ry cI cap Y)] sz zXN)) (zQ (some (.int (nI (ln2 X Y (n - 1))))) (fun t => va_P (dC, dI) classes [(oc6 r (.ref rx) (.ref ry) (nI n) rg), (oa rx cI cap X), (oa ry cI cap Y)] t.heap ∧ va_D (va_A [(oc6 r (.ref rx) (.ref ry) (nI n) rg), (oa rx cI cap X), (oa ry cI cap Y)] sz) [(oc6 r (.ref rx) (.ref ry) (nI n) rg), (oa rx cI cap X), (oa ry cI cap Y)]) (va_A [(oc6 r (.ref rx) (.ref ry) (nI n) rg), (oa rx cI cap X), (oa ry cI cap Y)] sz)) 0 0 (va_A [(oc6 r (.ref rx) (.ref ry) (nI n) rg), (oa rx cI cap X), (oa ry cI cap Y)] sz) := by
  refine Met.ofW (cc := cX7_length) (maxL := 3) (ret := (some .int)) (by decide) rfl ?_
  intro p e s m args below meth c s₁ B hml hv
  obtain ⟨rfl, hsz, hP, hK, hD0, hXN⟩ := hv
  have hx := B.exec
  have hb := B.bytes
  have hr := B.returns
  have hts0 := atoms_spec (ws := .code yX7_length cX7_length 3 (some .int) :: ws0) B.pre
  have hts : ∀ w9 ∈ ws0, w9.before ([.ref r] : List Value).toArray s = true := fun w9 h => hts0 w9 (List.mem_cons_of_mem _ h)
  have hown : s.vm.findClass "ScaleShop$Row" = some m.cls := findClass_of_methodNamed B.named
  have hlocks := B.notSynchronized
  subst hsz
  have hD := hD0.self (sz := s.heap.size)
  clear hD0
  generalize hAe : va_A [(oc6 r (.ref rx) (.ref ry) (nI n) rg), (oa rx cI cap X), (oa ry cI cap Y)] s.heap.size = A at hD ⊢
  have hA : ∀ q : Nat, s.heap.size ≤ q → A q := fun q h => by rw [← hAe]; exact Or.inr h
  clear hAe
  have hS : va_S A s.heap s.heap [] := va_S.rf
  have hP : va_P (dC, dI) classes [(oc6 r (.ref rx) (.ref ry) (nI n) rg), (oa rx cI cap X), (oa ry cI cap Y)] s.heap := hP
  obtain ⟨Q9, hQ9⟩ : ∃ Q9 : State → Prop, Q9 = MQ below (zQ (some (.int (nI (ln2 X Y (n - 1))))) (fun t => va_P (dC, dI) classes [(oc6 r (.ref rx) (.ref ry) (nI n) rg), (oa rx cI cap X), (oa ry cI cap Y)] t.heap ∧ va_D A [(oc6 r (.ref rx) (.ref ry) (nI n) rg), (oa rx cI cap X), (oa ry cI cap Y)]) A) ([.ref r] : List Value).toArray s 0 0 A := ⟨_, rfl⟩
  rw [← hQ9]
  have hl := lv_entry ([.ref r]) (n := 3) (Nat.le_of_ble_eq_true rfl)
  rw [lg_entry_eq]
  generalize (lg_sl ([.ref r]) ++ List.replicate (3 - (lg_sl ([.ref r])).length) Slot.unset).toArray = ls at hl ⊢
  have hl : lv_has ls 3 [(0, .ref r)] := hl
  refine lv_iconst (v := 0) hx hb dX7_length_0 (by decide) ?_
  refine lv_istore_n (lv' := [(1, .int 0), (0, .ref r)]) hx hb dX7_length_1 rfl hl (by decide) rfl (fun ls hl => ?_)
  refine lv_iconst (v := 0) hx hb dX7_length_2 (by decide) ?_
  refine lv_istore_n (lv' := [(2, .int 0), (1, .int 0), (0, .ref r)]) hx hb dX7_length_3 rfl hl (by decide) rfl (fun ls hl => ?_)
  have hl_4 : ∀ (n9 : Nat) (i : Nat) (H : Heap) (locs : List Loc) (ls : Array Slot), n - i < n9 → (i ≤ n - 1) → va_P (dC, dI) classes [(oc6 r (.ref rx) (.ref ry) (nI n) rg), (oa rx cI cap X), (oa ry cI cap Y)] H → va_D A [(oc6 r (.ref rx) (.ref ry) (nI n) rg), (oa rx cI cap X), (oa ry cI cap Y)] → va_S A s.heap H locs → lv_has ls 3 [(2, .int (nI i)), (1, .int (nI (ln2 X Y i))), (0, .ref r)] → W p l e ((headSpec (.code yX7_length cX7_length 3 (some .int) :: ws0) ({ frames := 1, cells := 0, slots := 0, locals := 15 } : Room)).room) s m ([.ref r] : List Value).toArray below meth c H locs 0 0 Q9 (F0 m 4 ls []) := by
    intro n9
    induction n9 with
    | zero => intro i H locs ls hm; exact absurd hm (Nat.not_lt_zero _)
    | succ n9 ih_4 =>
      intro i H locs ls hm hi hP hD hS hl
      have hB := ln2B hp i (by omega)
      refine lv_iload_n hx hb dX7_length_4 rfl (lv_at hl 0 rfl) ?_
      refine lv_aload_n hx hb dX7_length_5 rfl (lv_at hl 2 rfl) ?_
      refine va_get (D := (dC, dI)) (ci := 6) (v := .int (nI n)) (C := RX7) (T := TX7) (N := 4) hx hb hts inX7 hown hK hP 0 rfl rfl 2 (by decide) (hts _ mw_175) (fun _ h9 => h9) rfl dX7_length_6 ?_
      refine lv_iconst (v := 1) hx hb dX7_length_9 (by decide) ?_
      refine lv_isub hx hb dX7_length_10 ?_
      refine zz_i (v := nI (n - 1)) (pk_sub (a := n) (b := 1) (by omega)) ?_
      refine lv_icmp_ge (tgt := 60) hx hb dX7_length_11 (by decide) (fun c_1 => ?_) (fun c_1 => ?_)
      · have c_1 : ((n - 1 : Nat) : Int) ≤ ((i : Nat) : Int) := zc_le (nI_toInt (by omega)) (nI_toInt (by omega)) c_1
        refine lv_iload_n hx hb dX7_length_60 rfl (lv_at hl 1 rfl) ?_
        have hP9 := hP.sub (ws' := [(oc6 r (.ref rx) (.ref ry) (nI n) rg), (oa rx cI cap X), (oa ry cI cap Y)]) [0, 1, 2] rfl
        have hD9 := hD.sub (ws' := [(oc6 r (.ref rx) (.ref ry) (nI n) rg), (oa rx cI cap X), (oa ry cI cap Y)]) [0, 1, 2] (by decide) rfl
        rw [hQ9]
        exact W.iret (v := nI (ln2 X Y i)) hx hb hr (fun t ht hW => ⟨⟨congrArg (fun z => Outcome.returned (some (Value.int z))) (show (nI (ln2 X Y i) : Int32) = nI (ln2 X Y (n - 1)) from by rw [show i = n - 1 by omega]), by rw [ht]; exact hP9, hD9⟩, hS.F ht⟩) hS.2.2 dX7_length_61
      · have c_1 : ((i : Nat) : Int) < ((n - 1 : Nat) : Int) := zc_nle (nI_toInt (by omega)) (nI_toInt (by omega)) c_1
        have ha := hp i (by omega)
        have hb9 := hp (i + 1) (by omega)
        unfold pl at ha hb9
        have ex : (X (i + 1) - X i).toInt = (X (i + 1)).toInt - (X i).toInt := fb_subI (by omega) (by omega)
        have ey : (Y (i + 1) - Y i).toInt = (Y (i + 1)).toInt - (Y i).toInt := fb_subI (by omega) (by omega)
        refine lv_iload_n hx hb dX7_length_14 rfl (lv_at hl 1 rfl) ?_
        refine lv_aload_n hx hb dX7_length_15 rfl (lv_at hl 2 rfl) ?_
        refine va_get (D := (dC, dI)) (ci := 6) (v := .ref rx) (C := RX7) (T := TX7) (N := 4) hx hb hts inX7 hown hK hP 0 rfl rfl 0 (by decide) (hts _ mw_161) (fun _ h9 => h9) rfl dX7_length_16 ?_
        refine lv_iload_n hx hb dX7_length_19 rfl (lv_at hl 0 rfl) ?_
        refine lv_iconst (v := 1) hx hb dX7_length_20 (by decide) ?_
        refine lv_iadd hx hb dX7_length_21 ?_
        refine zz_i (v := nI (i + 1)) (nI_add i 1) ?_
        refine z_iald hx hb hK hP 1 0 rfl rfl (e := i + 1) rfl (by omega) (by omega) dX7_length_22 ?_
        refine lv_aload_n hx hb dX7_length_23 rfl (lv_at hl 2 rfl) ?_
        refine va_get (D := (dC, dI)) (ci := 6) (v := .ref rx) (C := RX7) (T := TX7) (N := 4) hx hb hts inX7 hown hK hP 0 rfl rfl 0 (by decide) (hts _ mw_161) (fun _ h9 => h9) rfl dX7_length_24 ?_
        refine lv_iload_n hx hb dX7_length_27 rfl (lv_at hl 0 rfl) ?_
        refine z_iald hx hb hK hP 1 0 rfl rfl (e := i) rfl (by omega) (by omega) dX7_length_28 ?_
        refine lv_isub hx hb dX7_length_29 ?_
        refine zz_i (v := iI ((X (i + 1)).toInt - (X i).toInt)) (iI_of ex) ?_
        refine va_mabs hx hb (by rw [hml]; exact hl.1.symm) hown (hts _ mw_588) (hts _ mw_589) (hts _ mw_103) (hts _ mw_abscode) (Nat.le_of_ble_eq_true rfl) (Nat.le_of_ble_eq_true rfl) (Nat.le_of_ble_eq_true rfl) (Nat.le_of_ble_eq_true rfl) dX7_length_30 ?_
        refine zz_i (v := nI (Int.natAbs ((X (i + 1)).toInt - (X i).toInt))) (zabs (iI_toInt (by omega)) (by omega)) ?_
        refine lv_aload_n hx hb dX7_length_33 rfl (lv_at hl 2 rfl) ?_
        refine va_get (D := (dC, dI)) (ci := 6) (v := .ref ry) (C := RX7) (T := TX7) (N := 4) hx hb hts inX7 hown hK hP 0 rfl rfl 1 (by decide) (hts _ mw_168) (fun _ h9 => h9) rfl dX7_length_34 ?_
        refine lv_iload_n hx hb dX7_length_37 rfl (lv_at hl 0 rfl) ?_
        refine lv_iconst (v := 1) hx hb dX7_length_38 (by decide) ?_
        refine lv_iadd hx hb dX7_length_39 ?_
        refine zz_i (v := nI (i + 1)) (nI_add i 1) ?_
        refine z_iald hx hb hK hP 2 0 rfl rfl (e := i + 1) rfl (by omega) (by omega) dX7_length_40 ?_
        refine lv_aload_n hx hb dX7_length_41 rfl (lv_at hl 2 rfl) ?_
        refine va_get (D := (dC, dI)) (ci := 6) (v := .ref ry) (C := RX7) (T := TX7) (N := 4) hx hb hts inX7 hown hK hP 0 rfl rfl 1 (by decide) (hts _ mw_168) (fun _ h9 => h9) rfl dX7_length_42 ?_
        refine lv_iload_n hx hb dX7_length_45 rfl (lv_at hl 0 rfl) ?_
        refine z_iald hx hb hK hP 2 0 rfl rfl (e := i) rfl (by omega) (by omega) dX7_length_46 ?_
        refine lv_isub hx hb dX7_length_47 ?_
        refine zz_i (v := iI ((Y (i + 1)).toInt - (Y i).toInt)) (iI_of ey) ?_
        refine va_mabs hx hb (by rw [hml]; exact hl.1.symm) hown (hts _ mw_588) (hts _ mw_589) (hts _ mw_103) (hts _ mw_abscode) (Nat.le_of_ble_eq_true rfl) (Nat.le_of_ble_eq_true rfl) (Nat.le_of_ble_eq_true rfl) (Nat.le_of_ble_eq_true rfl) dX7_length_48 ?_
        refine zz_i (v := nI (Int.natAbs ((Y (i + 1)).toInt - (Y i).toInt))) (zabs (iI_toInt (by omega)) (by omega)) ?_
        refine lv_iadd hx hb dX7_length_51 ?_
        refine zz_i (v := nI ((Int.natAbs ((X (i + 1)).toInt - (X i).toInt)) + (Int.natAbs ((Y (i + 1)).toInt - (Y i).toInt)))) (nI_add (Int.natAbs ((X (i + 1)).toInt - (X i).toInt)) (Int.natAbs ((Y (i + 1)).toInt - (Y i).toInt))) ?_
        refine lv_iadd hx hb dX7_length_52 ?_
        refine zz_i (v := nI ((ln2 X Y i) + ((Int.natAbs ((X (i + 1)).toInt - (X i).toInt)) + (Int.natAbs ((Y (i + 1)).toInt - (Y i).toInt))))) (nI_add (ln2 X Y i) ((Int.natAbs ((X (i + 1)).toInt - (X i).toInt)) + (Int.natAbs ((Y (i + 1)).toInt - (Y i).toInt)))) ?_
        refine lv_istore_n (lv' := [(1, .int (nI ((ln2 X Y i) + ((Int.natAbs ((X (i + 1)).toInt - (X i).toInt)) + (Int.natAbs ((Y (i + 1)).toInt - (Y i).toInt)))))), (2, .int (nI i)), (0, .ref r)]) hx hb dX7_length_53 rfl hl (by decide) rfl (fun ls hl => ?_)
        refine lv_iinc (v := nI (i + 1)) (lv' := [(2, .int (nI (i + 1))), (1, .int (nI ((ln2 X Y i) + ((Int.natAbs ((X (i + 1)).toInt - (X i).toInt)) + (Int.natAbs ((Y (i + 1)).toInt - (Y i).toInt)))))), (0, .ref r)]) hx hb dX7_length_54 hl (k := 1) rfl (nI_add i 1) (by decide) rfl (fun ls hl => ?_)
        refine lv_goto (tgt := 4) hx hb dX7_length_57 (by decide) ?_
        have hl9 := lv_sub hl [0, 1, 2] rfl
        have e9_1 : nI (ln2 X Y (i + 1)) = (nI ((ln2 X Y i) + ((Int.natAbs ((X (i + 1)).toInt - (X i).toInt)) + (Int.natAbs ((Y (i + 1)).toInt - (Y i).toInt)))) : Int32) := by rfl
        have hl9 : lv_has ls 3 [(2, .int (nI (i + 1))), (1, .int (nI (ln2 X Y (i + 1)))), (0, .ref r)] := by rw [e9_1]; exact hl9
        exact ih_4 (i + 1) H locs ls (by omega) (by omega) hP hD hS hl9
  have e9_1 : nI (ln2 X Y 0) = (0 : Int32) := by rfl
  have hl9 : lv_has ls 3 [(2, .int (nI 0)), (1, .int (nI (ln2 X Y 0))), (0, .ref r)] := by rw [e9_1]; exact lv_sub hl [0, 1, 2] rfl
  exact hl_4 _ 0 s.heap [] ls (Nat.lt_succ_self _) (by omega) hP hD hS hl9
