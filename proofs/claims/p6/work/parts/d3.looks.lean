section
set_option maxHeartbeats 4000000 in
set_option maxRecDepth 100000 in
theorem k_Row_init (l : Launch) (dC : Nat → ClassId) (dI : Nat → Nat → Nat) (cI cZ cF : ClassId) (sz : Nat) (r : Nat) (rm : Nat) (rg : Int32) (hrm : 1 ≤ rm ∧ rm ≤ 1000) (hrg : rg = 0 ∨ rg = 1) : zM l yX7_init cX7_init 4 none ({ frames := 1, cells := 2, slots := 2 * rm, locals := 13 } : Room) [.ref r, .int (nI rm), .int rg] (dC, dI) (zTy cI cZ cF) [(oc6 r .null .null 0 0)] sz none (fun A t => ∃ (rx : Nat), ∃ (ry : Nat), zPD (dC, dI) classes A [(oc6 r (.ref rx) (.ref ry) (nI 0) rg), (oa rx cI rm (fun _ => 0)), (oa ry cI rm (fun _ => 0))] t.heap) 2 (2 * rm) := by
  refine zIn (own := "ScaleShop$Row") (loc := [(0, .ref r), (1, .int (nI rm)), (2, .int rg)]) rfl rfl rfl rfl (fun p e s m below meth c hx hb hr hts hown hlocks hml hnm9 A hA hS hP hD hK hXN Q9 hQ9 ls hl => ?_)
  have hin : meth.name = "<init>" := hnm9
  refine lv_aload_n hx hb dX7_init_0 rfl (lv_at hl 0 rfl) ?_
  refine W.objInit hx hb hown (hts _ mw_157) (hts _ mw_126) (hts _ mw_objcode) rfl (by rw [hml]; exact hl.1) rfl dX7_init_1 (Nat.le_of_ble_eq_true rfl) (Nat.le_of_ble_eq_true rfl) ?_
  refine W.eq (g2 := F0 m 4 ls []) rfl ?_
  refine lv_aload_n hx hb dX7_init_4 rfl (lv_at hl 0 rfl) ?_
  refine lv_iconst (v := 0) hx hb dX7_init_5 rfl ?_
  refine va_put (D := (dC, dI)) (ci := 6) (v := .int 0) (ty := .int) (C := RX7) (T := TX7) (N := 4) hx hb hts inX7 tyX7 tyX7_ok nmX7 hown hK hP hD hS 0 rfl rfl 2 (by decide) (hts _ mw_175) (fun _ h9 => h9) rfl (by decide +kernel) rfl rfl (Nat.le_of_ble_eq_true rfl) dX7_init_6 (fun H locs hP hD hS => ?_)
  obtain ⟨hP, hD⟩ := zre (W2 := [(oc6 r .null .null 0 0)]) hP hD rfl
  refine lv_iload_n hx hb dX7_init_9 rfl (lv_at hl 1 rfl) ?_
  refine lv_iconst (v := 1) hx hb dX7_init_10 rfl ?_
  refine va_mmax hx hb (by rw [hml]; exact hl.1.symm) hown (hts _ mw_158) (hts _ mw_159) (hts _ mw_103) (hts _ mw_maxcode) (Nat.le_of_ble_eq_true rfl) (Nat.le_of_ble_eq_true rfl) (Nat.le_of_ble_eq_true rfl) (Nat.le_of_ble_eq_true rfl) dX7_init_11 ?_
  have b9_1 : rm < 2147483648 := by omega
  refine lv_topi (fun v_2 ev_2 => ?_)
  have hv_2 : v_2.toInt = max ((rm : Nat) : Int) 1 := zmax (nI_toInt b9_1) (by decide) ev_2
  refine zz_i (v := nI rm) (Int32.toInt_inj.mp (by rw [hv_2, nI_toInt (by omega)]; omega)) ?_
  refine lv_istore_n (lv' := [(3, .int (nI rm)), (0, .ref r), (1, .int (nI rm)), (2, .int rg)]) hx hb dX7_init_14 rfl hl (Nat.le_of_ble_eq_true rfl) rfl (fun ls hl => ?_)
  refine lv_aload_n hx hb dX7_init_15 rfl (lv_at hl 1 rfl) ?_
  refine lv_iload_n hx hb dX7_init_16 rfl (lv_at hl 0 rfl) ?_
  refine zz_newa (atype := .int) (a0 := (rm, .inl (fun _ => 0))) hx hb (hts _ mw_195) (ty := .int) rfl hK hP hD hS hA (n := nI rm) (N' := rm) (cA := cI) 0 rfl (fun _ => rfl) (nI_pos (by omega)) (nI_clamp (by omega)) (show rm * 4 ≤ 536870912 by omega) (show 1 ≤ 2 by omega) (show (0 + rm) ≤ 2 * rm by omega) dX7_init_17 (fun rx H hP hD hS => ?_)
  obtain ⟨hP, hD⟩ := zre (W2 := [_, (oa rx cI rm (fun _ => 0))]) hP hD rfl
  refine va_putF (D := (dC, dI)) (ci := 6) (v := .ref rx) (ty := .array .int) (C := RX7) (T := TX7) (N := 4) hx hb hts inX7 tyX7 tyX7_ok nmX7 hown hK hP hD hS 0 rfl rfl 0 (by decide) (hts _ mw_161) (fun _ h9 => h9) rfl hin rfl (by decide +kernel) rfl rfl (Nat.le_of_ble_eq_true rfl) dX7_init_19 (fun H locs hP hD hS => ?_)
  obtain ⟨hP, hD⟩ := zre (W2 := [(oc6 r (.ref rx) .null 0 0), _]) hP hD rfl
  refine lv_aload_n hx hb dX7_init_22 rfl (lv_at hl 1 rfl) ?_
  refine lv_iload_n hx hb dX7_init_23 rfl (lv_at hl 0 rfl) ?_
  refine zz_newa (atype := .int) (a0 := (rm, .inl (fun _ => 0))) hx hb (hts _ mw_195) (ty := .int) rfl hK hP hD hS hA (n := nI rm) (N' := rm) (cA := cI) 0 rfl (fun _ => rfl) (nI_pos (by omega)) (nI_clamp (by omega)) (show rm * 4 ≤ 536870912 by omega) (show 2 ≤ 2 by omega) (show ((0 + rm) + rm) ≤ 2 * rm by omega) dX7_init_24 (fun ry H hP hD hS => ?_)
  obtain ⟨hP, hD⟩ := zre (W2 := [_, _, (oa ry cI rm (fun _ => 0))]) hP hD rfl
  refine va_putF (D := (dC, dI)) (ci := 6) (v := .ref ry) (ty := .array .int) (C := RX7) (T := TX7) (N := 4) hx hb hts inX7 tyX7 tyX7_ok nmX7 hown hK hP hD hS 0 rfl rfl 1 (by decide) (hts _ mw_168) (fun _ h9 => h9) rfl hin rfl (by decide +kernel) rfl rfl (Nat.le_of_ble_eq_true rfl) dX7_init_26 (fun H locs hP hD hS => ?_)
  obtain ⟨hP, hD⟩ := zre (W2 := [(oc6 r (.ref rx) (.ref ry) 0 0), _, _]) hP hD rfl
  refine lv_aload_n hx hb dX7_init_29 rfl (lv_at hl 1 rfl) ?_
  refine lv_iload_n hx hb dX7_init_30 rfl (lv_at hl 3 rfl) ?_
  refine va_put (D := (dC, dI)) (ci := 6) (v := .int rg) (ty := .boolean) (C := RX7) (T := TX7) (N := 4) hx hb hts inX7 tyX7 tyX7_ok nmX7 hown hK hP hD hS 0 rfl rfl 3 (by decide) (hts _ mw_183) (fun _ h9 => h9) rfl (by decide +kernel) (zb_nar hrg) (zb_fit hrg) (Nat.le_of_ble_eq_true rfl) dX7_init_31 (fun H locs hP hD hS => ?_)
  obtain ⟨hP, hD⟩ := zre (W2 := [(oc6 r (.ref rx) (.ref ry) 0 rg), _, _]) hP hD rfl
  obtain ⟨hP9, hD9⟩ := zu_sub (wc := [(oc6 r (.ref rx) (.ref ry) 0 rg), (oa rx cI rm (fun _ => 0)), (oa ry cI rm (fun _ => 0))]) hP hD [true, true, true] rfl rfl
  have hE9 : ([(oc6 r (.ref rx) (.ref ry) 0 rg), (oa rx cI rm (fun _ => 0)), (oa ry cI rm (fun _ => 0))] : va_W) = [(oc6 r (.ref rx) (.ref ry) (nI 0) rg), (oa rx cI rm (fun _ => 0)), (oa ry cI rm (fun _ => 0))] := by rfl
  rw [hE9] at hP9 hD9
  refine W.widen (k := 2) (n := 2 * rm) (by omega) (by omega) ?_
  rw [hQ9]
  exact W.vret hx hb hr (fun t ht hW => ⟨⟨rfl, rx, ry, by rw [ht]; exact hP9, hD9⟩, hS.F ht⟩) hS.2.2 dX7_init_34
set_option maxHeartbeats 4000000 in
set_option maxRecDepth 100000 in
theorem k_Row_copy (l : Launch) (dC : Nat → ClassId) (dI : Nat → Nat → Nat) (cI cZ cF : ClassId) (sz : Nat) (r : Nat) (rx : Nat) (ry : Nat) (n : Nat) (cap : Nat) (X : Nat → Int32) (Y : Nat → Int32) (rg : Int32) (hn : 1 ≤ n ∧ n ≤ cap) (hcap : cap ≤ 1000) (hrg : rg = 0 ∨ rg = 1) : Met l yX7_copy (.code yX7_copy cX7_copy 2 (some (.object "ScaleShop$Row")) :: ws0) ({ frames := 2, cells := 3, slots := 2 * n + 4, locals := 44 } : Room) (va_Pc [.ref r] (zPre (dC, dI) classes (zTy cI cZ cF) [(oc6 r (.ref rx) (.ref ry) (nI n) rg), (oa rx cI cap X), (oa ry cI cap Y)] sz zXN)) (zQe (fun v9 t => ∃ (q : Nat), ∃ (qx : Nat), ∃ (qy : Nat), ∃ (X1 : Nat → Int32), ∃ (Y1 : Nat → Int32), v9 = (some (.ref q)) ∧ (∀ k, k < n → X1 k = X k ∧ Y1 k = Y k) ∧ va_P (dC, dI) classes [(oc6 r (.ref rx) (.ref ry) (nI n) rg), (oa rx cI cap X), (oa ry cI cap Y), (oc6 q (.ref qx) (.ref qy) (nI n) rg), (oa qx cI n X1), (oa qy cI n Y1)] t.heap ∧ va_D (va_A [(oc6 r (.ref rx) (.ref ry) (nI n) rg), (oa rx cI cap X), (oa ry cI cap Y)] sz) [(oc6 r (.ref rx) (.ref ry) (nI n) rg), (oa rx cI cap X), (oa ry cI cap Y), (oc6 q (.ref qx) (.ref qy) (nI n) rg), (oa qx cI n X1), (oa qy cI n Y1)]) (va_A [(oc6 r (.ref rx) (.ref ry) (nI n) rg), (oa rx cI cap X), (oa ry cI cap Y)] sz)) 3 (2 * n + 4) (va_A [(oc6 r (.ref rx) (.ref ry) (nI n) rg), (oa rx cI cap X), (oa ry cI cap Y)] sz) := by
  refine Met.ofW (cc := cX7_copy) (maxL := 2) (ret := (some (.object "ScaleShop$Row"))) rfl rfl ?_
  intro p e s m args below meth c s₁ B hml hv
  obtain ⟨rfl, hsz, hP, hK, hD0, hXN⟩ := hv
  have hx := B.exec
  have hb := B.bytes
  have hr := B.returns
  have hts0 := atoms_spec (ws := .code yX7_copy cX7_copy 2 (some (.object "ScaleShop$Row")) :: ws0) B.pre
  have hts : ∀ w9 ∈ ws0, w9.before ([.ref r] : List Value).toArray s = true := fun w9 h => hts0 w9 (List.mem_cons_of_mem _ h)
  have hown : s.vm.findClass "ScaleShop$Row" = some m.cls := findClass_of_methodNamed B.named
  have hlocks := B.notSynchronized
  subst hsz
  have hD := hD0.self (sz := s.heap.size)
  clear hD0
  generalize hAe : va_A [(oc6 r (.ref rx) (.ref ry) (nI n) rg), (oa rx cI cap X), (oa ry cI cap Y)] s.heap.size = A at hD ⊢
  have hA : ∀ q : Nat, s.heap.size ≤ q → A q := fun q h => by rw [← hAe]; exact Or.inr h
  clear hAe
  have hS : va_S A s.heap s.heap [] := va_S.rf
  have hP : va_P (dC, dI) classes [(oc6 r (.ref rx) (.ref ry) (nI n) rg), (oa rx cI cap X), (oa ry cI cap Y)] s.heap := hP
  obtain ⟨Q9, hQ9⟩ : ∃ Q9 : State → Prop, Q9 = MQ below (zQe (fun v9 t => ∃ (q : Nat), ∃ (qx : Nat), ∃ (qy : Nat), ∃ (X1 : Nat → Int32), ∃ (Y1 : Nat → Int32), v9 = (some (.ref q)) ∧ (∀ k, k < n → X1 k = X k ∧ Y1 k = Y k) ∧ va_P (dC, dI) classes [(oc6 r (.ref rx) (.ref ry) (nI n) rg), (oa rx cI cap X), (oa ry cI cap Y), (oc6 q (.ref qx) (.ref qy) (nI n) rg), (oa qx cI n X1), (oa qy cI n Y1)] t.heap ∧ va_D A [(oc6 r (.ref rx) (.ref ry) (nI n) rg), (oa rx cI cap X), (oa ry cI cap Y), (oc6 q (.ref qx) (.ref qy) (nI n) rg), (oa qx cI n X1), (oa qy cI n Y1)]) A) ([.ref r] : List Value).toArray s 3 (2 * n + 4) A := ⟨_, rfl⟩
  rw [← hQ9]
  have hl := lv_entry ([.ref r]) (n := 2) (Nat.le_of_ble_eq_true rfl)
  rw [lg_entry_eq]
  generalize (lg_sl ([.ref r]) ++ List.replicate (2 - (lg_sl ([.ref r])).length) Slot.unset).toArray = ls at hl ⊢
  have hl : lv_has ls 2 [(0, .ref r)] := hl
  refine va_new (ci := 6) (fs := [.null, .null, .int 0, .int 0]) (C := RX7) (T := TX7) (N := 4) hx hb hts inX7 tyX7 tyX7_ok hown (hts _ mw_748) (hts _ mw_153) (hts _ mw_102) hK hP hD hS hA rfl dfX7 (show 1 ≤ 3 by omega) (show 4 ≤ 2 * n + 4 by omega) dX7_copy_0 (fun q H hP hD hS => ?_)
  obtain ⟨hP, hD⟩ := zre (W2 := [_, _, _, (oc6 q .null .null 0 0)]) hP hD rfl
  refine lv_dup hx hb dX7_copy_3 rfl ?_
  refine lv_aload_n hx hb dX7_copy_4 rfl (lv_at hl 0 rfl) ?_
  refine va_get (D := (dC, dI)) (ci := 6) (v := .int (nI n)) (C := RX7) (T := TX7) (N := 4) hx hb hts inX7 hown hK hP 0 rfl rfl 2 (Nat.le_of_ble_eq_true rfl) (hts _ mw_175) (fun _ h9 => h9) rfl dX7_copy_5 ?_
  refine lv_aload_n hx hb dX7_copy_8 rfl (lv_at hl 0 rfl) ?_
  refine va_get (D := (dC, dI)) (ci := 6) (v := .int rg) (C := RX7) (T := TX7) (N := 4) hx hb hts inX7 hown hK hP 0 rfl rfl 3 (Nat.le_of_ble_eq_true rfl) (hts _ mw_183) (fun _ h9 => h9) rfl dX7_copy_9 ?_
  obtain ⟨hPc, hDc, hFc⟩ := zo_sub (wc := [_]) hP hD hS hA [3] rfl rfl
  refine zcall (st1 := [.ref q]) (va_runI (As := [.int (nI n), .int rg]) (rest := [.ref q]) ⟨hx, hb, hml, hown, hts⟩ (k_Row_init l dC dI cI cZ cF H.size q n rg (by first | with_reducible assumption | omega) (by first | with_reducible assumption | assumption)) (cwI 2 hts (zz_gC mc_yX7_init) rfl rfl rfl (hts _ mw_102) (hts _ mw_749) (hts _ mw_155) rfl (by decide +kernel) ⟨Nat.le_of_ble_eq_true rfl, Nat.le_of_ble_eq_true rfl⟩) (zPS2 hPc hDc hK hXN) rfl rfl hl.1 rfl (lv_room (Nat.le_of_ble_eq_true rfl)) dX7_copy_12 ⟨show (1 + 2) ≤ 3 by omega, show (4 + (2 * n)) ≤ 2 * n + 4 by omega⟩) hS hFc hFc rfl (fun t H locs ht hB hk1 hS => ?_)
  obtain ⟨qx, qy, hP1, hD1⟩ := hB
  rw [ht] at hP1
  obtain ⟨hP, hD⟩ := zn (W2 := [_, _, _, (oc6 q (.ref qx) (.ref qy) (nI 0) rg), (oa qx cI n (fun _ => 0)), (oa qy cI n (fun _ => 0))]) hP hD hk1 hFc hP1 hD1 [3] [true, true, true] [true, true, true, false, false, false] [3, 4, 5] (by decide +kernel) rfl rfl rfl rfl rfl
  clear hk1 hPc hDc hFc hP1 hD1 ht
  refine lv_astore_n (lv' := [(1, .ref q), (0, .ref r)]) hx hb dX7_copy_15 rfl hl (Nat.le_of_ble_eq_true rfl) rfl (fun ls hl => ?_)
  refine lv_aload_n hx hb dX7_copy_16 rfl (lv_at hl 0 rfl) ?_
  refine lv_aload_n hx hb dX7_copy_17 rfl (lv_at hl 1 rfl) ?_
  obtain ⟨hPc, hDc, hFc⟩ := zo_sub (wc := [_, _, _, _, _, _]) hP hD hS hA [3, 4, 5, 0, 1, 2] (by decide +kernel) rfl
  refine zcall (st1 := []) (va_runV (As := [.ref r]) (rest := []) ⟨hx, hb, hml, hown, hts⟩ (k_Row_copyFrom l dC dI cI cZ cF H.size q qx qy 0 n (fun _ => 0) (fun _ => 0) rg r rx ry n cap X Y rg (by first | with_reducible assumption | omega) (by first | with_reducible assumption | omega) (by first | with_reducible assumption | omega) (by first | with_reducible assumption | omega) (hrg)) (csV_28 hts rfl rfl ⟨Nat.le_of_ble_eq_true rfl, Nat.le_of_ble_eq_true rfl⟩) (zPV2 (q0 := 0) (ci := 6) hPc hDc hK hXN rfl rfl) rfl rfl hl.1 rfl (lv_room (Nat.le_of_ble_eq_true rfl)) dX7_copy_18 ⟨show (1 + 2) ≤ 3 by omega, show (4 + (2 * n)) ≤ 2 * n + 4 by omega⟩) hS hFc hFc rfl (fun t H locs ht hB hk1 hS => ?_)
  obtain ⟨X1, Y1, hall, hP1, hD1⟩ := hB
  rw [ht] at hP1
  obtain ⟨hP, hD⟩ := zn (W2 := [_, _, _, (oc6 q (.ref qx) (.ref qy) (nI n) rg), (oa qx cI n X1), (oa qy cI n Y1)]) hP hD hk1 hFc hP1 hD1 [3, 4, 5, 0, 1, 2] [] [false, false, false, false, false, false] [3, 4, 5, 0, 1, 2] (by decide +kernel) rfl rfl rfl rfl rfl
  clear hk1 hPc hDc hFc hP1 hD1 ht
  refine lv_aload_n hx hb dX7_copy_21 rfl (lv_at hl 0 rfl) ?_
  obtain ⟨hP9, hD9⟩ := zu_sub (wc := [_, _, _, _, _, _]) hP hD [true, true, true, true, true, true] rfl rfl
  refine W.widen (k := 3) (n := 2 * n + 4) (by omega) (by omega) ?_
  rw [hQ9]
  exact W.aret hx hb hr (Or.inl ⟨_, rfl⟩) (Or.inr ⟨_, rfl⟩) (fun t ht hW => ⟨⟨_, rfl, q, qx, qy, X1, Y1, rfl, (hall), by rw [ht]; exact hP9, hD9⟩, hS.F ht⟩) hS.2.2 dX7_copy_22
set_option maxHeartbeats 4000000 in
set_option maxRecDepth 100000 in
theorem k_Look_init (l : Launch) (dC : Nat → ClassId) (dI : Nat → Nat → Nat) (cI cZ cF : ClassId) (sz : Nat) (lk : Nat) (kd9 : Int32) : zM l yX5_init cX5_init 2 none ({ frames := 1, cells := 0, slots := 0, locals := 12 } : Room) [.ref lk, .int kd9] (dC, dI) (zTy cI cZ cF) [(oc4 lk 0 0 .null 0 0 0)] sz none (fun A t => zPD (dC, dI) classes A [(oc4 lk kd9 0 .null 0 (-1) 0)] t.heap) 0 0 := by
  refine zIn (own := "ScaleShop$Look") (loc := [(0, .ref lk), (1, .int kd9)]) rfl rfl rfl rfl (fun p e s m below meth c hx hb hr hts hown hlocks hml hnm9 A hA hS hP hD hK hXN Q9 hQ9 ls hl => ?_)
  have hin : meth.name = "<init>" := hnm9
  refine lv_aload_n hx hb dX5_init_0 rfl (lv_at hl 0 rfl) ?_
  refine W.objInit hx hb hown (hts _ mw_377) (hts _ mw_126) (hts _ mw_objcode) rfl (by rw [hml]; exact hl.1) rfl dX5_init_1 (Nat.le_of_ble_eq_true rfl) (Nat.le_of_ble_eq_true rfl) ?_
  refine W.eq (g2 := F0 m 4 ls []) rfl ?_
  refine lv_aload_n hx hb dX5_init_4 rfl (lv_at hl 0 rfl) ?_
  refine lv_iconst (v := 0) hx hb dX5_init_5 rfl ?_
  refine va_put (D := (dC, dI)) (ci := 4) (v := .int 0) (ty := .int) (C := RX5) (T := TX5) (N := 6) hx hb hts inX5 tyX5 tyX5_ok nmX5 hown hK hP hD hS 0 rfl rfl 1 (by decide) (hts _ mw_384) (fun _ h9 => h9) rfl (by decide +kernel) rfl rfl (Nat.le_of_ble_eq_true rfl) dX5_init_6 (fun H locs hP hD hS => ?_)
  obtain ⟨hP, hD⟩ := zre (W2 := [(oc4 lk 0 0 .null 0 0 0)]) hP hD rfl
  refine lv_aload_n hx hb dX5_init_9 rfl (lv_at hl 0 rfl) ?_
  refine lv_null hx hb dX5_init_10 ?_
  refine va_put (D := (dC, dI)) (ci := 4) (v := .null) (ty := .object "ScaleShop$Row") (C := RX5) (T := TX5) (N := 6) hx hb hts inX5 tyX5 tyX5_ok nmX5 hown hK hP hD hS 0 rfl rfl 2 (by decide) (hts _ mw_388) (fun _ h9 => h9) rfl (by decide +kernel) rfl rfl (Nat.le_of_ble_eq_true rfl) dX5_init_11 (fun H locs hP hD hS => ?_)
  obtain ⟨hP, hD⟩ := zre (W2 := [(oc4 lk 0 0 .null 0 0 0)]) hP hD rfl
  refine lv_aload_n hx hb dX5_init_14 rfl (lv_at hl 0 rfl) ?_
  refine lv_iconst (v := 0) hx hb dX5_init_15 rfl ?_
  refine va_put (D := (dC, dI)) (ci := 4) (v := .int 0) (ty := .int) (C := RX5) (T := TX5) (N := 6) hx hb hts inX5 tyX5 tyX5_ok nmX5 hown hK hP hD hS 0 rfl rfl 3 (by decide) (hts _ mw_394) (fun _ h9 => h9) rfl (by decide +kernel) rfl rfl (Nat.le_of_ble_eq_true rfl) dX5_init_16 (fun H locs hP hD hS => ?_)
  obtain ⟨hP, hD⟩ := zre (W2 := [(oc4 lk 0 0 .null 0 0 0)]) hP hD rfl
  refine lv_aload_n hx hb dX5_init_19 rfl (lv_at hl 0 rfl) ?_
  refine lv_iconst (v := (-1)) hx hb dX5_init_20 rfl ?_
  refine va_put (D := (dC, dI)) (ci := 4) (v := .int (-1)) (ty := .int) (C := RX5) (T := TX5) (N := 6) hx hb hts inX5 tyX5 tyX5_ok nmX5 hown hK hP hD hS 0 rfl rfl 4 (by decide) (hts _ mw_397) (fun _ h9 => h9) rfl (by decide +kernel) rfl rfl (Nat.le_of_ble_eq_true rfl) dX5_init_21 (fun H locs hP hD hS => ?_)
  obtain ⟨hP, hD⟩ := zre (W2 := [(oc4 lk 0 0 .null 0 (-1) 0)]) hP hD rfl
  refine lv_aload_n hx hb dX5_init_24 rfl (lv_at hl 0 rfl) ?_
  refine lv_iconst (v := 0) hx hb dX5_init_25 rfl ?_
  refine va_put (D := (dC, dI)) (ci := 4) (v := .int 0) (ty := .int) (C := RX5) (T := TX5) (N := 6) hx hb hts inX5 tyX5 tyX5_ok nmX5 hown hK hP hD hS 0 rfl rfl 5 (by decide) (hts _ mw_399) (fun _ h9 => h9) rfl (by decide +kernel) rfl rfl (Nat.le_of_ble_eq_true rfl) dX5_init_26 (fun H locs hP hD hS => ?_)
  obtain ⟨hP, hD⟩ := zre (W2 := [(oc4 lk 0 0 .null 0 (-1) 0)]) hP hD rfl
  refine lv_aload_n hx hb dX5_init_29 rfl (lv_at hl 0 rfl) ?_
  refine lv_iload_n hx hb dX5_init_30 rfl (lv_at hl 1 rfl) ?_
  refine va_put (D := (dC, dI)) (ci := 4) (v := .int kd9) (ty := .int) (C := RX5) (T := TX5) (N := 6) hx hb hts inX5 tyX5 tyX5_ok nmX5 hown hK hP hD hS 0 rfl rfl 0 (by decide) (hts _ mw_378) (fun _ h9 => h9) rfl (by decide +kernel) rfl rfl (Nat.le_of_ble_eq_true rfl) dX5_init_31 (fun H locs hP hD hS => ?_)
  obtain ⟨hP, hD⟩ := zre (W2 := [(oc4 lk kd9 0 .null 0 (-1) 0)]) hP hD rfl
  obtain ⟨hP9, hD9⟩ := zu_sub (wc := [_]) hP hD [true] rfl rfl
  rw [hQ9]
  exact W.vret hx hb hr (fun t ht hW => ⟨⟨rfl, by rw [ht]; exact hP9, hD9⟩, hS.F ht⟩) hS.2.2 dX5_init_34
set_option maxHeartbeats 4000000 in
set_option maxRecDepth 100000 in
theorem k_Look_copy_r (l : Launch) (dC : Nat → ClassId) (dI : Nat → Nat → Nat) (cI cZ cF : ClassId) (sz : Nat) (lk : Nat) (kd9 : Int32) (st9 : Int32) (gb9 : Int32) (jt9 : Int32) (we9 : Int32) (r : Nat) : Met l yX5_copy (.code yX5_copy cX5_copy 2 (some (.object "ScaleShop$Look")) :: ws0) ({ frames := 2, cells := 1, slots := 6, locals := 33 } : Room) (va_Pc [.ref lk] (zPre (dC, dI) classes (zTy cI cZ cF) [(oc4 lk kd9 st9 (.ref r) gb9 jt9 we9)] sz zXN)) (zQe (fun v9 t => ∃ (q : Nat), v9 = (some (.ref q)) ∧ va_P (dC, dI) classes [(oc4 lk kd9 st9 (.ref r) gb9 jt9 we9), (oc4 q kd9 st9 (.ref r) gb9 jt9 we9)] t.heap ∧ va_D (va_A [(oc4 lk kd9 st9 (.ref r) gb9 jt9 we9)] sz) [(oc4 lk kd9 st9 (.ref r) gb9 jt9 we9), (oc4 q kd9 st9 (.ref r) gb9 jt9 we9)]) (va_A [(oc4 lk kd9 st9 (.ref r) gb9 jt9 we9)] sz)) 1 6 (va_A [(oc4 lk kd9 st9 (.ref r) gb9 jt9 we9)] sz) := by
  refine Met.ofW (cc := cX5_copy) (maxL := 2) (ret := (some (.object "ScaleShop$Look"))) rfl rfl ?_
  intro p e s m args below meth c s₁ B hml hv
  obtain ⟨rfl, hsz, hP, hK, hD0, hXN⟩ := hv
  have hx := B.exec
  have hb := B.bytes
  have hr := B.returns
  have hts0 := atoms_spec (ws := .code yX5_copy cX5_copy 2 (some (.object "ScaleShop$Look")) :: ws0) B.pre
  have hts : ∀ w9 ∈ ws0, w9.before ([.ref lk] : List Value).toArray s = true := fun w9 h => hts0 w9 (List.mem_cons_of_mem _ h)
  have hown : s.vm.findClass "ScaleShop$Look" = some m.cls := findClass_of_methodNamed B.named
  have hlocks := B.notSynchronized
  subst hsz
  have hD := hD0.self (sz := s.heap.size)
  clear hD0
  generalize hAe : va_A [(oc4 lk kd9 st9 (.ref r) gb9 jt9 we9)] s.heap.size = A at hD ⊢
  have hA : ∀ q : Nat, s.heap.size ≤ q → A q := fun q h => by rw [← hAe]; exact Or.inr h
  clear hAe
  have hS : va_S A s.heap s.heap [] := va_S.rf
  have hP : va_P (dC, dI) classes [(oc4 lk kd9 st9 (.ref r) gb9 jt9 we9)] s.heap := hP
  obtain ⟨Q9, hQ9⟩ : ∃ Q9 : State → Prop, Q9 = MQ below (zQe (fun v9 t => ∃ (q : Nat), v9 = (some (.ref q)) ∧ va_P (dC, dI) classes [(oc4 lk kd9 st9 (.ref r) gb9 jt9 we9), (oc4 q kd9 st9 (.ref r) gb9 jt9 we9)] t.heap ∧ va_D A [(oc4 lk kd9 st9 (.ref r) gb9 jt9 we9), (oc4 q kd9 st9 (.ref r) gb9 jt9 we9)]) A) ([.ref lk] : List Value).toArray s 1 6 A := ⟨_, rfl⟩
  rw [← hQ9]
  have hl := lv_entry ([.ref lk]) (n := 2) (Nat.le_of_ble_eq_true rfl)
  rw [lg_entry_eq]
  generalize (lg_sl ([.ref lk]) ++ List.replicate (2 - (lg_sl ([.ref lk])).length) Slot.unset).toArray = ls at hl ⊢
  have hl : lv_has ls 2 [(0, .ref lk)] := hl
  refine va_new (ci := 4) (fs := [.int 0, .int 0, .null, .int 0, .int 0, .int 0]) (C := RX5) (T := TX5) (N := 6) hx hb hts inX5 tyX5 tyX5_ok hown (hts _ mw_742) (hts _ mw_373) (hts _ mw_112) hK hP hD hS hA rfl dfX5 (Nat.le_of_ble_eq_true rfl) (Nat.le_of_ble_eq_true rfl) dX5_copy_0 (fun q H hP hD hS => ?_)
  obtain ⟨hP, hD⟩ := zre (W2 := [_, (oc4 q 0 0 .null 0 0 0)]) hP hD rfl
  refine lv_dup hx hb dX5_copy_3 rfl ?_
  refine lv_aload_n hx hb dX5_copy_4 rfl (lv_at hl 0 rfl) ?_
  refine va_get (D := (dC, dI)) (ci := 4) (v := .int kd9) (C := RX5) (T := TX5) (N := 6) hx hb hts inX5 hown hK hP 0 rfl rfl 0 (Nat.le_of_ble_eq_true rfl) (hts _ mw_378) (fun _ h9 => h9) rfl dX5_copy_5 ?_
  obtain ⟨hPc, hDc, hFc⟩ := zo_sub (wc := [_]) hP hD hS hA [1] rfl rfl
  refine zcall (st1 := [.ref q]) (va_runI (As := [.int kd9]) (rest := [.ref q]) ⟨hx, hb, hml, hown, hts⟩ (k_Look_init l dC dI cI cZ cF H.size q kd9 ) (cwI 1 hts (zz_gC mc_yX5_init) rfl rfl rfl (hts _ mw_112) (hts _ mw_743) (hts _ mw_375) rfl (by decide +kernel) ⟨Nat.le_of_ble_eq_true rfl, Nat.le_of_ble_eq_true rfl⟩) (zPS2 hPc hDc hK hXN) rfl rfl hl.1 rfl (lv_room (Nat.le_of_ble_eq_true rfl)) dX5_copy_8 ⟨Nat.le_of_ble_eq_true rfl, Nat.le_of_ble_eq_true rfl⟩) hS hFc hFc rfl (fun t H locs ht hB hk1 hS => ?_)
  obtain ⟨hP1, hD1⟩ := hB
  rw [ht] at hP1
  obtain ⟨hP, hD⟩ := zn (W2 := [_, (oc4 q kd9 0 .null 0 (-1) 0)]) hP hD hk1 hFc hP1 hD1 [1] [true] [true, false] [1] (by decide +kernel) rfl rfl rfl rfl rfl
  clear hk1 hPc hDc hFc hP1 hD1 ht
  refine lv_astore_n (lv' := [(1, .ref q), (0, .ref lk)]) hx hb dX5_copy_11 rfl hl (Nat.le_of_ble_eq_true rfl) rfl (fun ls hl => ?_)
  refine lv_aload_n hx hb dX5_copy_12 rfl (lv_at hl 0 rfl) ?_
  refine lv_aload_n hx hb dX5_copy_13 rfl (lv_at hl 1 rfl) ?_
  refine va_get (D := (dC, dI)) (ci := 4) (v := .int st9) (C := RX5) (T := TX5) (N := 6) hx hb hts inX5 hown hK hP 0 rfl rfl 1 (Nat.le_of_ble_eq_true rfl) (hts _ mw_384) (fun _ h9 => h9) rfl dX5_copy_14 ?_
  refine va_put (D := (dC, dI)) (ci := 4) (v := .int st9) (ty := .int) (C := RX5) (T := TX5) (N := 6) hx hb hts inX5 tyX5 tyX5_ok nmX5 hown hK hP hD hS 1 rfl rfl 1 (by decide) (hts _ mw_384) (fun _ h9 => h9) rfl (by decide +kernel) rfl rfl (Nat.le_of_ble_eq_true rfl) dX5_copy_17 (fun H locs hP hD hS => ?_)
  obtain ⟨hP, hD⟩ := zre (W2 := [_, (oc4 q kd9 st9 .null 0 (-1) 0)]) hP hD rfl
  refine lv_aload_n hx hb dX5_copy_20 rfl (lv_at hl 0 rfl) ?_
  refine lv_aload_n hx hb dX5_copy_21 rfl (lv_at hl 1 rfl) ?_
  refine va_get (D := (dC, dI)) (ci := 4) (v := .ref r) (C := RX5) (T := TX5) (N := 6) hx hb hts inX5 hown hK hP 0 rfl rfl 2 (Nat.le_of_ble_eq_true rfl) (hts _ mw_388) (fun _ h9 => h9) rfl dX5_copy_22 ?_
  refine va_put (D := (dC, dI)) (ci := 4) (v := .ref r) (ty := .object "ScaleShop$Row") (C := RX5) (T := TX5) (N := 6) hx hb hts inX5 tyX5 tyX5_ok nmX5 hown hK hP hD hS 1 rfl rfl 2 (by decide) (hts _ mw_388) (fun _ h9 => h9) rfl (by decide +kernel) rfl rfl (Nat.le_of_ble_eq_true rfl) dX5_copy_25 (fun H locs hP hD hS => ?_)
  obtain ⟨hP, hD⟩ := zre (W2 := [_, (oc4 q kd9 st9 (.ref r) 0 (-1) 0)]) hP hD rfl
  refine lv_aload_n hx hb dX5_copy_28 rfl (lv_at hl 0 rfl) ?_
  refine lv_aload_n hx hb dX5_copy_29 rfl (lv_at hl 1 rfl) ?_
  refine va_get (D := (dC, dI)) (ci := 4) (v := .int gb9) (C := RX5) (T := TX5) (N := 6) hx hb hts inX5 hown hK hP 0 rfl rfl 3 (Nat.le_of_ble_eq_true rfl) (hts _ mw_394) (fun _ h9 => h9) rfl dX5_copy_30 ?_
  refine va_put (D := (dC, dI)) (ci := 4) (v := .int gb9) (ty := .int) (C := RX5) (T := TX5) (N := 6) hx hb hts inX5 tyX5 tyX5_ok nmX5 hown hK hP hD hS 1 rfl rfl 3 (by decide) (hts _ mw_394) (fun _ h9 => h9) rfl (by decide +kernel) rfl rfl (Nat.le_of_ble_eq_true rfl) dX5_copy_33 (fun H locs hP hD hS => ?_)
  obtain ⟨hP, hD⟩ := zre (W2 := [_, (oc4 q kd9 st9 (.ref r) gb9 (-1) 0)]) hP hD rfl
  refine lv_aload_n hx hb dX5_copy_36 rfl (lv_at hl 0 rfl) ?_
  refine lv_aload_n hx hb dX5_copy_37 rfl (lv_at hl 1 rfl) ?_
  refine va_get (D := (dC, dI)) (ci := 4) (v := .int jt9) (C := RX5) (T := TX5) (N := 6) hx hb hts inX5 hown hK hP 0 rfl rfl 4 (Nat.le_of_ble_eq_true rfl) (hts _ mw_397) (fun _ h9 => h9) rfl dX5_copy_38 ?_
  refine va_put (D := (dC, dI)) (ci := 4) (v := .int jt9) (ty := .int) (C := RX5) (T := TX5) (N := 6) hx hb hts inX5 tyX5 tyX5_ok nmX5 hown hK hP hD hS 1 rfl rfl 4 (by decide) (hts _ mw_397) (fun _ h9 => h9) rfl (by decide +kernel) rfl rfl (Nat.le_of_ble_eq_true rfl) dX5_copy_41 (fun H locs hP hD hS => ?_)
  obtain ⟨hP, hD⟩ := zre (W2 := [_, (oc4 q kd9 st9 (.ref r) gb9 jt9 0)]) hP hD rfl
  refine lv_aload_n hx hb dX5_copy_44 rfl (lv_at hl 0 rfl) ?_
  refine lv_aload_n hx hb dX5_copy_45 rfl (lv_at hl 1 rfl) ?_
  refine va_get (D := (dC, dI)) (ci := 4) (v := .int we9) (C := RX5) (T := TX5) (N := 6) hx hb hts inX5 hown hK hP 0 rfl rfl 5 (Nat.le_of_ble_eq_true rfl) (hts _ mw_399) (fun _ h9 => h9) rfl dX5_copy_46 ?_
  refine va_put (D := (dC, dI)) (ci := 4) (v := .int we9) (ty := .int) (C := RX5) (T := TX5) (N := 6) hx hb hts inX5 tyX5 tyX5_ok nmX5 hown hK hP hD hS 1 rfl rfl 5 (by decide) (hts _ mw_399) (fun _ h9 => h9) rfl (by decide +kernel) rfl rfl (Nat.le_of_ble_eq_true rfl) dX5_copy_49 (fun H locs hP hD hS => ?_)
  obtain ⟨hP, hD⟩ := zre (W2 := [_, (oc4 q kd9 st9 (.ref r) gb9 jt9 we9)]) hP hD rfl
  refine lv_aload_n hx hb dX5_copy_52 rfl (lv_at hl 0 rfl) ?_
  obtain ⟨hP9, hD9⟩ := zu_sub (wc := [_, _]) hP hD [true, true] rfl rfl
  refine W.widen (k := 1) (n := 6) (by decide) (by decide) ?_
  rw [hQ9]
  exact W.aret hx hb hr (Or.inl ⟨_, rfl⟩) (Or.inr ⟨_, rfl⟩) (fun t ht hW => ⟨⟨_, rfl, q, rfl, by rw [ht]; exact hP9, hD9⟩, hS.F ht⟩) hS.2.2 dX5_copy_53
set_option maxHeartbeats 4000000 in
set_option maxRecDepth 100000 in
theorem k_Feature_init (l : Launch) (dC : Nat → ClassId) (dI : Nat → Nat → Nat) (cI cZ cF : ClassId) (sz : Nat) (fe : Nat) (cl9 : Nat) (kd9 : Int32) (rk9 : Int32) (wd9 : Int32) (tw9 : Int32) (hcl : (1 ≤ kd9.toInt ∧ kd9.toInt ≤ 5 ∧ cl9 = 40) ∨ (¬ (1 ≤ kd9.toInt ∧ kd9.toInt ≤ 5) ∧ cl9 = 1)) : zM l yX2_init cX2_init 5 none ({ frames := 2, cells := 4, slots := 2 * cl9 + 10, locals := 36 } : Room) [.ref fe, .int kd9, .int rk9, .int wd9, .int tw9] (dC, dI) (zTy cI cZ cF) [(oc1 fe 0 0 0 0 0 .null .null .null)] sz none (fun A t => ∃ (lo : Nat), ∃ (lx : Nat), ∃ (ly : Nat), ∃ (lk : Nat), zPD (dC, dI) classes A [(oc1 fe rk9 wd9 tw9 (-1) (-1) (.ref lo) (.ref lk) .null), (oc6 lo (.ref lx) (.ref ly) (nI 0) 0), (oa lx cI cl9 (fun _ => 0)), (oa ly cI cl9 (fun _ => 0)), (oc4 lk kd9 0 .null 0 (-1) 0)] t.heap) 4 (2 * cl9 + 10) := by
  refine zIn (own := "ScaleShop$Feature") (loc := [(0, .ref fe), (1, .int kd9), (2, .int rk9), (3, .int wd9), (4, .int tw9)]) rfl rfl rfl rfl (fun p e s m below meth c hx hb hr hts hown hlocks hml hnm9 A hA hS hP hD hK hXN Q9 hQ9 ls hl => ?_)
  have hin : meth.name = "<init>" := hnm9
  refine lv_aload_n hx hb dX2_init_0 rfl (lv_at hl 0 rfl) ?_
  refine W.objInit hx hb hown (hts _ mw_369) (hts _ mw_126) (hts _ mw_objcode) rfl (by rw [hml]; exact hl.1) rfl dX2_init_1 (Nat.le_of_ble_eq_true rfl) (Nat.le_of_ble_eq_true rfl) ?_
  refine W.eq (g2 := F0 m 4 ls []) rfl ?_
  refine lv_aload_n hx hb dX2_init_4 rfl (lv_at hl 0 rfl) ?_
  refine lv_iconst (v := (-1)) hx hb dX2_init_5 rfl ?_
  refine va_put (D := (dC, dI)) (ci := 1) (v := .int (-1)) (ty := .int) (C := RX2) (T := TX2) (N := 8) hx hb hts inX2 tyX2 tyX2_ok nmX2 hown hK hP hD hS 0 rfl rfl 3 (by decide) (hts _ mw_422) (fun _ h9 => h9) rfl (by decide +kernel) rfl rfl (Nat.le_of_ble_eq_true rfl) dX2_init_6 (fun H locs hP hD hS => ?_)
  obtain ⟨hP, hD⟩ := zre (W2 := [(oc1 fe 0 0 0 (-1) 0 .null .null .null)]) hP hD rfl
  refine lv_aload_n hx hb dX2_init_9 rfl (lv_at hl 0 rfl) ?_
  refine lv_iconst (v := (-1)) hx hb dX2_init_10 rfl ?_
  refine va_put (D := (dC, dI)) (ci := 1) (v := .int (-1)) (ty := .int) (C := RX2) (T := TX2) (N := 8) hx hb hts inX2 tyX2 tyX2_ok nmX2 hown hK hP hD hS 0 rfl rfl 4 (by decide) (hts _ mw_424) (fun _ h9 => h9) rfl (by decide +kernel) rfl rfl (Nat.le_of_ble_eq_true rfl) dX2_init_11 (fun H locs hP hD hS => ?_)
  obtain ⟨hP, hD⟩ := zre (W2 := [(oc1 fe 0 0 0 (-1) (-1) .null .null .null)]) hP hD rfl
  refine lv_aload_n hx hb dX2_init_14 rfl (lv_at hl 0 rfl) ?_
  refine lv_null hx hb dX2_init_15 ?_
  refine va_put (D := (dC, dI)) (ci := 1) (v := .null) (ty := .object "ScaleShop$Look") (C := RX2) (T := TX2) (N := 8) hx hb hts inX2 tyX2 tyX2_ok nmX2 hown hK hP hD hS 0 rfl rfl 7 (by decide) (hts _ mw_436) (fun _ h9 => h9) rfl (by decide +kernel) rfl rfl (Nat.le_of_ble_eq_true rfl) dX2_init_16 (fun H locs hP hD hS => ?_)
  obtain ⟨hP, hD⟩ := zre (W2 := [(oc1 fe 0 0 0 (-1) (-1) .null .null .null)]) hP hD rfl
  refine lv_aload_n hx hb dX2_init_19 rfl (lv_at hl 0 rfl) ?_
  refine lv_iload_n hx hb dX2_init_20 rfl (lv_at hl 2 rfl) ?_
  refine va_putF (D := (dC, dI)) (ci := 1) (v := .int rk9) (ty := .int) (C := RX2) (T := TX2) (N := 8) hx hb hts inX2 tyX2 tyX2_ok nmX2 hown hK hP hD hS 0 rfl rfl 0 (by decide) (hts _ mw_415) (fun _ h9 => h9) rfl hin rfl (by decide +kernel) rfl rfl (Nat.le_of_ble_eq_true rfl) dX2_init_21 (fun H locs hP hD hS => ?_)
  obtain ⟨hP, hD⟩ := zre (W2 := [(oc1 fe rk9 0 0 (-1) (-1) .null .null .null)]) hP hD rfl
  refine lv_aload_n hx hb dX2_init_24 rfl (lv_at hl 0 rfl) ?_
  refine lv_iload_n hx hb dX2_init_25 rfl (lv_at hl 3 rfl) ?_
  refine va_putF (D := (dC, dI)) (ci := 1) (v := .int wd9) (ty := .int) (C := RX2) (T := TX2) (N := 8) hx hb hts inX2 tyX2 tyX2_ok nmX2 hown hK hP hD hS 0 rfl rfl 1 (by decide) (hts _ mw_418) (fun _ h9 => h9) rfl hin rfl (by decide +kernel) rfl rfl (Nat.le_of_ble_eq_true rfl) dX2_init_26 (fun H locs hP hD hS => ?_)
  obtain ⟨hP, hD⟩ := zre (W2 := [(oc1 fe rk9 wd9 0 (-1) (-1) .null .null .null)]) hP hD rfl
  refine lv_aload_n hx hb dX2_init_29 rfl (lv_at hl 0 rfl) ?_
  refine lv_iload hx hb dX2_init_30 (lv_at hl 4 rfl) ?_
  refine va_putF (D := (dC, dI)) (ci := 1) (v := .int tw9) (ty := .int) (C := RX2) (T := TX2) (N := 8) hx hb hts inX2 tyX2 tyX2_ok nmX2 hown hK hP hD hS 0 rfl rfl 2 (by decide) (hts _ mw_420) (fun _ h9 => h9) rfl hin rfl (by decide +kernel) rfl rfl (Nat.le_of_ble_eq_true rfl) dX2_init_32 (fun H locs hP hD hS => ?_)
  obtain ⟨hP, hD⟩ := zre (W2 := [(oc1 fe rk9 wd9 tw9 (-1) (-1) .null .null .null)]) hP hD rfl
  refine lv_aload_n hx hb dX2_init_35 rfl (lv_at hl 0 rfl) ?_
  refine va_new (ci := 6) (fs := [.null, .null, .int 0, .int 0]) (C := RX7) (T := TX7) (N := 4) hx hb hts inX7 tyX7 tyX7_ok hown (hts _ mw_370) (hts _ mw_153) (hts _ mw_102) hK hP hD hS hA rfl dfX7 (show 1 ≤ 4 by omega) (show 4 ≤ 2 * cl9 + 10 by omega) dX2_init_36 (fun lo H hP hD hS => ?_)
  obtain ⟨hP, hD⟩ := zre (W2 := [_, (oc6 lo .null .null 0 0)]) hP hD rfl
  refine lv_dup hx hb dX2_init_39 rfl ?_
  have hj_1 : W p l e ({ frames := 2, cells := 4, slots := 2 * cl9 + 10, locals := 36 } : Room) s m ([.ref fe, .int kd9, .int rk9, .int wd9, .int tw9] : List Value).toArray below meth c H locs 1 4 Q9 (F0 m 55 ls [.int (nI cl9), .ref lo, .ref lo, .ref fe]) := by
    refine lv_iconst (v := 0) hx hb dX2_init_55 rfl ?_
    obtain ⟨hPc, hDc, hFc⟩ := zo_sub (wc := [_]) hP hD hS hA [1] rfl rfl
    refine zcall (st1 := [.ref lo, .ref fe]) (va_runI (As := [.int (nI cl9), .int 0]) (rest := [.ref lo, .ref fe]) ⟨hx, hb, hml, hown, hts⟩ (k_Row_init l dC dI cI cZ cF H.size lo cl9 0 (by first | with_reducible assumption | omega) (Or.inl rfl)) (cwI 2 hts (zz_gC mc_yX7_init) rfl rfl rfl (hts _ mw_102) (hts _ mw_371) (hts _ mw_155) rfl (by decide +kernel) ⟨Nat.le_of_ble_eq_true rfl, Nat.le_of_ble_eq_true rfl⟩) (zPS2 hPc hDc hK hXN) rfl rfl hl.1 rfl (lv_room (Nat.le_of_ble_eq_true rfl)) dX2_init_56 ⟨show (1 + 2) ≤ 4 by omega, show (4 + (2 * cl9)) ≤ 2 * cl9 + 10 by omega⟩) hS hFc hFc rfl (fun t H locs ht hB hk1 hS => ?_)
    obtain ⟨lx, ly, hP1, hD1⟩ := hB
    rw [ht] at hP1
    obtain ⟨hP, hD⟩ := zn (W2 := [_, (oc6 lo (.ref lx) (.ref ly) (nI 0) 0), (oa lx cI cl9 (fun _ => 0)), (oa ly cI cl9 (fun _ => 0))]) hP hD hk1 hFc hP1 hD1 [1] [true] [true, false, false, false] [1, 2, 3] (by decide +kernel) rfl rfl rfl rfl rfl
    clear hk1 hPc hDc hFc hP1 hD1 ht
    refine va_putF (D := (dC, dI)) (ci := 1) (v := .ref lo) (ty := .object "ScaleShop$Row") (C := RX2) (T := TX2) (N := 8) hx hb hts inX2 tyX2 tyX2_ok nmX2 hown hK hP hD hS 0 rfl rfl 5 (by decide) (hts _ mw_426) (fun _ h9 => h9) rfl hin rfl (by decide +kernel) rfl rfl (Nat.le_of_ble_eq_true rfl) dX2_init_59 (fun H locs hP hD hS => ?_)
    obtain ⟨hP, hD⟩ := zre (W2 := [(oc1 fe rk9 wd9 tw9 (-1) (-1) (.ref lo) .null .null), _, _, _]) hP hD rfl
    refine lv_aload_n hx hb dX2_init_62 rfl (lv_at hl 0 rfl) ?_
    refine va_new (ci := 4) (fs := [.int 0, .int 0, .null, .int 0, .int 0, .int 0]) (C := RX5) (T := TX5) (N := 6) hx hb hts inX5 tyX5 tyX5_ok hown (hts _ mw_372) (hts _ mw_373) (hts _ mw_112) hK hP hD hS hA rfl dfX5 (show ((1 + 2) + 1) ≤ 4 by omega) (show ((4 + (2 * cl9)) + 6) ≤ 2 * cl9 + 10 by omega) dX2_init_63 (fun lk H hP hD hS => ?_)
    obtain ⟨hP, hD⟩ := zre (W2 := [_, _, _, _, (oc4 lk 0 0 .null 0 0 0)]) hP hD rfl
    refine lv_dup hx hb dX2_init_66 rfl ?_
    refine lv_iload_n hx hb dX2_init_67 rfl (lv_at hl 1 rfl) ?_
    obtain ⟨hPc, hDc, hFc⟩ := zo_sub (wc := [_]) hP hD hS hA [4] rfl rfl
    refine zcall (st1 := [.ref lk, .ref fe]) (va_runI (As := [.int kd9]) (rest := [.ref lk, .ref fe]) ⟨hx, hb, hml, hown, hts⟩ (k_Look_init l dC dI cI cZ cF H.size lk kd9 ) (cwI 1 hts (zz_gC mc_yX5_init) rfl rfl rfl (hts _ mw_112) (hts _ mw_374) (hts _ mw_375) rfl (by decide +kernel) ⟨Nat.le_of_ble_eq_true rfl, Nat.le_of_ble_eq_true rfl⟩) (zPS2 hPc hDc hK hXN) rfl rfl hl.1 rfl (lv_room (Nat.le_of_ble_eq_true rfl)) dX2_init_68 ⟨show ((1 + 2) + 1) ≤ 4 by omega, show ((4 + (2 * cl9)) + 6) ≤ 2 * cl9 + 10 by omega⟩) hS hFc hFc rfl (fun t H locs ht hB hk1 hS => ?_)
    obtain ⟨hP1, hD1⟩ := hB
    rw [ht] at hP1
    obtain ⟨hP, hD⟩ := zn (W2 := [_, _, _, _, (oc4 lk kd9 0 .null 0 (-1) 0)]) hP hD hk1 hFc hP1 hD1 [4] [true, true, true, true] [true, true, true, true, false] [4] (by decide +kernel) rfl rfl rfl rfl rfl
    clear hk1 hPc hDc hFc hP1 hD1 ht
    refine va_put (D := (dC, dI)) (ci := 1) (v := .ref lk) (ty := .object "ScaleShop$Look") (C := RX2) (T := TX2) (N := 8) hx hb hts inX2 tyX2 tyX2_ok nmX2 hown hK hP hD hS 0 rfl rfl 6 (by decide) (hts _ mw_429) (fun _ h9 => h9) rfl (by decide +kernel) rfl rfl (Nat.le_of_ble_eq_true rfl) dX2_init_71 (fun H locs hP hD hS => ?_)
    obtain ⟨hP, hD⟩ := zre (W2 := [(oc1 fe rk9 wd9 tw9 (-1) (-1) (.ref lo) (.ref lk) .null), _, _, _, _]) hP hD rfl
    obtain ⟨hP9, hD9⟩ := zu_sub (wc := [_, _, _, _, _]) hP hD [true, true, true, true, true] rfl rfl
    refine W.widen (k := 4) (n := 2 * cl9 + 10) (by omega) (by omega) ?_
    rw [hQ9]
    exact W.vret hx hb hr (fun t ht hW => ⟨⟨rfl, lo, lx, ly, lk, by rw [ht]; exact hP9, hD9⟩, hS.F ht⟩) hS.2.2 dX2_init_74
  refine lv_iload_n hx hb dX2_init_40 rfl (lv_at hl 1 rfl) ?_
  refine lv_if_le (tgt := 54) hx hb dX2_init_41 rfl (fun c_2 => ?_) (fun c_2 => ?_)
  · have c_2 : kd9.toInt ≤ 0 := zc_le rfl rfl c_2
    refine lv_iconst (v := 1) hx hb dX2_init_54 rfl ?_
    refine zz_i (v := nI cl9) (by first | (rw [show cl9 = 40 by omega]; rfl) | (rw [show cl9 = 1 by omega]; rfl)) ?_
    exact hj_1 
  · have c_2 : 0 < kd9.toInt := zc_nle rfl rfl c_2
    refine lv_iload_n hx hb dX2_init_44 rfl (lv_at hl 1 rfl) ?_
    refine lv_iconst (v := 5) hx hb dX2_init_45 rfl ?_
    refine lv_icmp_gt (tgt := 54) hx hb dX2_init_46 rfl (fun c_3 => ?_) (fun c_3 => ?_)
    · have c_3 : 5 < kd9.toInt := zc_lt rfl rfl c_3
      refine lv_iconst (v := 1) hx hb dX2_init_54 rfl ?_
      refine zz_i (v := nI cl9) (by first | (rw [show cl9 = 40 by omega]; rfl) | (rw [show cl9 = 1 by omega]; rfl)) ?_
      exact hj_1 
    · have c_3 : kd9.toInt ≤ 5 := zc_nlt rfl rfl c_3
      refine lv_bipush (v := 40) hx hb dX2_init_49 rfl ?_
      refine lv_goto (tgt := 55) hx hb dX2_init_51 rfl ?_
      refine zz_i (v := nI cl9) (by first | (rw [show cl9 = 40 by omega]; rfl) | (rw [show cl9 = 1 by omega]; rfl)) ?_
      exact hj_1 
set_option maxHeartbeats 4000000 in
set_option maxRecDepth 100000 in
theorem k_Feature_bends_r (l : Launch) (dC : Nat → ClassId) (dI : Nat → Nat → Nat) (cI cZ cF : ClassId) (sz : Nat) (fe : Nat) (lo : Nat) (rk9 : Int32) (wd9 : Int32) (tw9 : Int32) (pa9 : Int32) (pb9 : Int32) (lk : Nat) (kd9 : Int32) (st9 : Int32) (gb9 : Int32) (jt9 : Int32) (we9 : Int32) (r : Nat) : zM l yX2_bends cX2_bends 1 (some .boolean) ({ frames := 0, cells := 0, slots := 0, locals := 0 } : Room) [.ref fe] (dC, dI) (zTy cI cZ cF) [(oc1 fe rk9 wd9 tw9 pa9 pb9 (.ref lo) (.ref lk) .null), (oc4 lk kd9 st9 (.ref r) gb9 jt9 we9)] sz (some (.int (pI (1 ≤ kd9.toInt ∧ kd9.toInt ≤ 5)))) (fun A t => zPD (dC, dI) classes A [(oc1 fe rk9 wd9 tw9 pa9 pb9 (.ref lo) (.ref lk) .null), (oc4 lk kd9 st9 (.ref r) gb9 jt9 we9)] t.heap) 0 0 := by
  refine zIn (own := "ScaleShop$Feature") (loc := [(0, .ref fe)]) rfl rfl rfl rfl (fun p e s m below meth c hx hb hr hts hown hlocks hml hnm9 A hA hS hP hD hK hXN Q9 hQ9 ls hl => ?_)
  refine lv_aload_n hx hb dX2_bends_0 rfl (lv_at hl 0 rfl) ?_
  refine va_get (D := (dC, dI)) (ci := 1) (v := .ref lk) (C := RX2) (T := TX2) (N := 8) hx hb hts inX2 hown hK hP 0 rfl rfl 6 (Nat.le_of_ble_eq_true rfl) (hts _ mw_429) (fun _ h9 => h9) rfl dX2_bends_1 ?_
  refine va_get (D := (dC, dI)) (ci := 4) (v := .int kd9) (C := RX5) (T := TX5) (N := 6) hx hb hts inX5 hown hK hP 1 rfl rfl 0 (Nat.le_of_ble_eq_true rfl) (hts _ mw_379) (fun _ h9 => h9) rfl dX2_bends_4 ?_
  refine lv_if_le (tgt := 25) hx hb dX2_bends_7 rfl (fun c_1 => ?_) (fun c_1 => ?_)
  · have c_1 : kd9.toInt ≤ 0 := zc_le rfl rfl c_1
    refine lv_iconst (v := 0) hx hb dX2_bends_25 rfl ?_
    obtain ⟨hP9, hD9⟩ := zu_sub (wc := [_, _]) hP hD [true, true] rfl rfl
    rw [hQ9]
    exact W.zret (ty := .boolean) (v := 0) hx hb hr (rfl) (fun t ht hW => ⟨⟨congrArg (fun z => Outcome.returned (some (Value.int z))) (show (0 : Int32) = pI (1 ≤ kd9.toInt ∧ kd9.toInt ≤ 5) from (zp_f (by omega)).symm), by rw [ht]; exact hP9, hD9⟩, hS.F ht⟩) hS.2.2 dX2_bends_26
  · have c_1 : 0 < kd9.toInt := zc_nle rfl rfl c_1
    refine lv_aload_n hx hb dX2_bends_10 rfl (lv_at hl 0 rfl) ?_
    refine va_get (D := (dC, dI)) (ci := 1) (v := .ref lk) (C := RX2) (T := TX2) (N := 8) hx hb hts inX2 hown hK hP 0 rfl rfl 6 (Nat.le_of_ble_eq_true rfl) (hts _ mw_429) (fun _ h9 => h9) rfl dX2_bends_11 ?_
    refine va_get (D := (dC, dI)) (ci := 4) (v := .int kd9) (C := RX5) (T := TX5) (N := 6) hx hb hts inX5 hown hK hP 1 rfl rfl 0 (Nat.le_of_ble_eq_true rfl) (hts _ mw_379) (fun _ h9 => h9) rfl dX2_bends_14 ?_
    refine lv_iconst (v := 5) hx hb dX2_bends_17 rfl ?_
    refine lv_icmp_gt (tgt := 25) hx hb dX2_bends_18 rfl (fun c_2 => ?_) (fun c_2 => ?_)
    · have c_2 : 5 < kd9.toInt := zc_lt rfl rfl c_2
      refine lv_iconst (v := 0) hx hb dX2_bends_25 rfl ?_
      obtain ⟨hP9, hD9⟩ := zu_sub (wc := [_, _]) hP hD [true, true] rfl rfl
      rw [hQ9]
      exact W.zret (ty := .boolean) (v := 0) hx hb hr (rfl) (fun t ht hW => ⟨⟨congrArg (fun z => Outcome.returned (some (Value.int z))) (show (0 : Int32) = pI (1 ≤ kd9.toInt ∧ kd9.toInt ≤ 5) from (zp_f (by omega)).symm), by rw [ht]; exact hP9, hD9⟩, hS.F ht⟩) hS.2.2 dX2_bends_26
    · have c_2 : kd9.toInt ≤ 5 := zc_nlt rfl rfl c_2
      refine lv_iconst (v := 1) hx hb dX2_bends_21 rfl ?_
      refine lv_goto (tgt := 26) hx hb dX2_bends_22 rfl ?_
      obtain ⟨hP9, hD9⟩ := zu_sub (wc := [_, _]) hP hD [true, true] rfl rfl
      rw [hQ9]
      exact W.zret (ty := .boolean) (v := 1) hx hb hr (rfl) (fun t ht hW => ⟨⟨congrArg (fun z => Outcome.returned (some (Value.int z))) (show (1 : Int32) = pI (1 ≤ kd9.toInt ∧ kd9.toInt ≤ 5) from (zp_t (by omega)).symm), by rw [ht]; exact hP9, hD9⟩, hS.F ht⟩) hS.2.2 dX2_bends_26
set_option maxHeartbeats 4000000 in
set_option maxRecDepth 100000 in
theorem k_Feature_mayHaveCorner_r (l : Launch) (dC : Nat → ClassId) (dI : Nat → Nat → Nat) (cI cZ cF : ClassId) (sz : Nat) (fe : Nat) (lo : Nat) (rk9 : Int32) (wd9 : Int32) (tw9 : Int32) (pa9 : Int32) (pb9 : Int32) (lk : Nat) (kd9 : Int32) (st9 : Int32) (gb9 : Int32) (jt9 : Int32) (we9 : Int32) (r : Nat) (rx : Nat) (ry : Nat) (n : Nat) (kv : Int32) (rg : Int32) (hn : n ≤ 1000) : zM l yX2_mayHaveCorner cX2_mayHaveCorner 2 (some .boolean) ({ frames := 0, cells := 0, slots := 0, locals := 0 } : Room) [.ref fe, .int kv] (dC, dI) (zTy cI cZ cF) [(oc1 fe rk9 wd9 tw9 pa9 pb9 (.ref lo) (.ref lk) .null), (oc4 lk kd9 st9 (.ref r) gb9 jt9 we9), (oc6 r (.ref rx) (.ref ry) (nI n) rg)] sz (some (.int (pI (0 ≤ kv.toInt ∧ kv.toInt < ((n : Nat) : Int))))) (fun A t => zPD (dC, dI) classes A [(oc1 fe rk9 wd9 tw9 pa9 pb9 (.ref lo) (.ref lk) .null), (oc4 lk kd9 st9 (.ref r) gb9 jt9 we9), (oc6 r (.ref rx) (.ref ry) (nI n) rg)] t.heap) 0 0 := by
  refine zIn (own := "ScaleShop$Feature") (loc := [(0, .ref fe), (1, .int kv)]) rfl rfl rfl rfl (fun p e s m below meth c hx hb hr hts hown hlocks hml hnm9 A hA hS hP hD hK hXN Q9 hQ9 ls hl => ?_)
  refine lv_iload_n hx hb dX2_mayHaveCorner_0 rfl (lv_at hl 1 rfl) ?_
  refine lv_if_lt (tgt := 32) hx hb dX2_mayHaveCorner_1 rfl (fun c_1 => ?_) (fun c_1 => ?_)
  · have c_1 : kv.toInt < 0 := zc_lt rfl rfl c_1
    refine lv_iconst (v := 0) hx hb dX2_mayHaveCorner_32 rfl ?_
    obtain ⟨hP9, hD9⟩ := zu_sub (wc := [_, _, _]) hP hD [true, true, true] rfl rfl
    rw [hQ9]
    exact W.zret (ty := .boolean) (v := 0) hx hb hr (rfl) (fun t ht hW => ⟨⟨congrArg (fun z => Outcome.returned (some (Value.int z))) (show (0 : Int32) = pI (0 ≤ kv.toInt ∧ kv.toInt < ((n : Nat) : Int)) from (zp_f (by omega)).symm), by rw [ht]; exact hP9, hD9⟩, hS.F ht⟩) hS.2.2 dX2_mayHaveCorner_33
  · have c_1 : 0 ≤ kv.toInt := zc_nlt rfl rfl c_1
    refine lv_aload_n hx hb dX2_mayHaveCorner_4 rfl (lv_at hl 0 rfl) ?_
    refine va_get (D := (dC, dI)) (ci := 1) (v := .ref lk) (C := RX2) (T := TX2) (N := 8) hx hb hts inX2 hown hK hP 0 rfl rfl 6 (Nat.le_of_ble_eq_true rfl) (hts _ mw_429) (fun _ h9 => h9) rfl dX2_mayHaveCorner_5 ?_
    refine va_get (D := (dC, dI)) (ci := 4) (v := .ref r) (C := RX5) (T := TX5) (N := 6) hx hb hts inX5 hown hK hP 1 rfl rfl 2 (Nat.le_of_ble_eq_true rfl) (hts _ mw_392) (fun _ h9 => h9) rfl dX2_mayHaveCorner_8 ?_
    refine lv_ifnull hx hb dX2_mayHaveCorner_11 ?_
    refine lv_iload_n hx hb dX2_mayHaveCorner_14 rfl (lv_at hl 1 rfl) ?_
    refine lv_aload_n hx hb dX2_mayHaveCorner_15 rfl (lv_at hl 0 rfl) ?_
    refine va_get (D := (dC, dI)) (ci := 1) (v := .ref lk) (C := RX2) (T := TX2) (N := 8) hx hb hts inX2 hown hK hP 0 rfl rfl 6 (Nat.le_of_ble_eq_true rfl) (hts _ mw_429) (fun _ h9 => h9) rfl dX2_mayHaveCorner_16 ?_
    refine va_get (D := (dC, dI)) (ci := 4) (v := .ref r) (C := RX5) (T := TX5) (N := 6) hx hb hts inX5 hown hK hP 1 rfl rfl 2 (Nat.le_of_ble_eq_true rfl) (hts _ mw_392) (fun _ h9 => h9) rfl dX2_mayHaveCorner_19 ?_
    refine va_get (D := (dC, dI)) (ci := 6) (v := .int (nI n)) (C := RX7) (T := TX7) (N := 4) hx hb hts inX7 hown hK hP 2 rfl rfl 2 (Nat.le_of_ble_eq_true rfl) (hts _ mw_178) (fun _ h9 => h9) rfl dX2_mayHaveCorner_22 ?_
    have b9_3 : n < 2147483648 := by omega
    refine lv_icmp_ge (tgt := 32) hx hb dX2_mayHaveCorner_25 rfl (fun c_2 => ?_) (fun c_2 => ?_)
    · have c_2 : ((n : Nat) : Int) ≤ kv.toInt := zc_le (nI_toInt b9_3) rfl c_2
      refine lv_iconst (v := 0) hx hb dX2_mayHaveCorner_32 rfl ?_
      obtain ⟨hP9, hD9⟩ := zu_sub (wc := [_, _, _]) hP hD [true, true, true] rfl rfl
      rw [hQ9]
      exact W.zret (ty := .boolean) (v := 0) hx hb hr (rfl) (fun t ht hW => ⟨⟨congrArg (fun z => Outcome.returned (some (Value.int z))) (show (0 : Int32) = pI (0 ≤ kv.toInt ∧ kv.toInt < ((n : Nat) : Int)) from (zp_f (by omega)).symm), by rw [ht]; exact hP9, hD9⟩, hS.F ht⟩) hS.2.2 dX2_mayHaveCorner_33
    · have c_2 : kv.toInt < ((n : Nat) : Int) := zc_nle (nI_toInt b9_3) rfl c_2
      refine lv_iconst (v := 1) hx hb dX2_mayHaveCorner_28 rfl ?_
      refine lv_goto (tgt := 33) hx hb dX2_mayHaveCorner_29 rfl ?_
      obtain ⟨hP9, hD9⟩ := zu_sub (wc := [_, _, _]) hP hD [true, true, true] rfl rfl
      rw [hQ9]
      exact W.zret (ty := .boolean) (v := 1) hx hb hr (rfl) (fun t ht hW => ⟨⟨congrArg (fun z => Outcome.returned (some (Value.int z))) (show (1 : Int32) = pI (0 ≤ kv.toInt ∧ kv.toInt < ((n : Nat) : Int)) from (zp_t (by omega)).symm), by rw [ht]; exact hP9, hD9⟩, hS.F ht⟩) hS.2.2 dX2_mayHaveCorner_33
set_option maxHeartbeats 4000000 in
set_option maxRecDepth 100000 in
theorem k_Feature_bends_f_r (l : Launch) (dC : Nat → ClassId) (dI : Nat → Nat → Nat) (cI cZ cF : ClassId) (sz : Nat) (fe : Nat) (lo : Nat) (rk9 : Int32) (wd9 : Int32) (tw9 : Int32) (pa9 : Int32) (pb9 : Int32) (lk : Nat) (kd9 : Int32) (st9 : Int32) (gb9 : Int32) (jt9 : Int32) (we9 : Int32) (r : Nat) (fm : Nat) : zM l yX2_bends cX2_bends 1 (some .boolean) ({ frames := 0, cells := 0, slots := 0, locals := 0 } : Room) [.ref fe] (dC, dI) (zTy cI cZ cF) [(oc1 fe rk9 wd9 tw9 pa9 pb9 (.ref lo) (.ref lk) (.ref fm)), (oc4 lk kd9 st9 (.ref r) gb9 jt9 we9)] sz (some (.int (pI (1 ≤ kd9.toInt ∧ kd9.toInt ≤ 5)))) (fun A t => zPD (dC, dI) classes A [(oc1 fe rk9 wd9 tw9 pa9 pb9 (.ref lo) (.ref lk) (.ref fm)), (oc4 lk kd9 st9 (.ref r) gb9 jt9 we9)] t.heap) 0 0 := by
  refine zIn (own := "ScaleShop$Feature") (loc := [(0, .ref fe)]) rfl rfl rfl rfl (fun p e s m below meth c hx hb hr hts hown hlocks hml hnm9 A hA hS hP hD hK hXN Q9 hQ9 ls hl => ?_)
  refine lv_aload_n hx hb dX2_bends_0 rfl (lv_at hl 0 rfl) ?_
  refine va_get (D := (dC, dI)) (ci := 1) (v := .ref lk) (C := RX2) (T := TX2) (N := 8) hx hb hts inX2 hown hK hP 0 rfl rfl 6 (Nat.le_of_ble_eq_true rfl) (hts _ mw_429) (fun _ h9 => h9) rfl dX2_bends_1 ?_
  refine va_get (D := (dC, dI)) (ci := 4) (v := .int kd9) (C := RX5) (T := TX5) (N := 6) hx hb hts inX5 hown hK hP 1 rfl rfl 0 (Nat.le_of_ble_eq_true rfl) (hts _ mw_379) (fun _ h9 => h9) rfl dX2_bends_4 ?_
  refine lv_if_le (tgt := 25) hx hb dX2_bends_7 rfl (fun c_1 => ?_) (fun c_1 => ?_)
  · have c_1 : kd9.toInt ≤ 0 := zc_le rfl rfl c_1
    refine lv_iconst (v := 0) hx hb dX2_bends_25 rfl ?_
    obtain ⟨hP9, hD9⟩ := zu_sub (wc := [_, _]) hP hD [true, true] rfl rfl
    rw [hQ9]
    exact W.zret (ty := .boolean) (v := 0) hx hb hr (rfl) (fun t ht hW => ⟨⟨congrArg (fun z => Outcome.returned (some (Value.int z))) (show (0 : Int32) = pI (1 ≤ kd9.toInt ∧ kd9.toInt ≤ 5) from (zp_f (by omega)).symm), by rw [ht]; exact hP9, hD9⟩, hS.F ht⟩) hS.2.2 dX2_bends_26
  · have c_1 : 0 < kd9.toInt := zc_nle rfl rfl c_1
    refine lv_aload_n hx hb dX2_bends_10 rfl (lv_at hl 0 rfl) ?_
    refine va_get (D := (dC, dI)) (ci := 1) (v := .ref lk) (C := RX2) (T := TX2) (N := 8) hx hb hts inX2 hown hK hP 0 rfl rfl 6 (Nat.le_of_ble_eq_true rfl) (hts _ mw_429) (fun _ h9 => h9) rfl dX2_bends_11 ?_
    refine va_get (D := (dC, dI)) (ci := 4) (v := .int kd9) (C := RX5) (T := TX5) (N := 6) hx hb hts inX5 hown hK hP 1 rfl rfl 0 (Nat.le_of_ble_eq_true rfl) (hts _ mw_379) (fun _ h9 => h9) rfl dX2_bends_14 ?_
    refine lv_iconst (v := 5) hx hb dX2_bends_17 rfl ?_
    refine lv_icmp_gt (tgt := 25) hx hb dX2_bends_18 rfl (fun c_2 => ?_) (fun c_2 => ?_)
    · have c_2 : 5 < kd9.toInt := zc_lt rfl rfl c_2
      refine lv_iconst (v := 0) hx hb dX2_bends_25 rfl ?_
      obtain ⟨hP9, hD9⟩ := zu_sub (wc := [_, _]) hP hD [true, true] rfl rfl
      rw [hQ9]
      exact W.zret (ty := .boolean) (v := 0) hx hb hr (rfl) (fun t ht hW => ⟨⟨congrArg (fun z => Outcome.returned (some (Value.int z))) (show (0 : Int32) = pI (1 ≤ kd9.toInt ∧ kd9.toInt ≤ 5) from (zp_f (by omega)).symm), by rw [ht]; exact hP9, hD9⟩, hS.F ht⟩) hS.2.2 dX2_bends_26
    · have c_2 : kd9.toInt ≤ 5 := zc_nlt rfl rfl c_2
      refine lv_iconst (v := 1) hx hb dX2_bends_21 rfl ?_
      refine lv_goto (tgt := 26) hx hb dX2_bends_22 rfl ?_
      obtain ⟨hP9, hD9⟩ := zu_sub (wc := [_, _]) hP hD [true, true] rfl rfl
      rw [hQ9]
      exact W.zret (ty := .boolean) (v := 1) hx hb hr (rfl) (fun t ht hW => ⟨⟨congrArg (fun z => Outcome.returned (some (Value.int z))) (show (1 : Int32) = pI (1 ≤ kd9.toInt ∧ kd9.toInt ≤ 5) from (zp_t (by omega)).symm), by rw [ht]; exact hP9, hD9⟩, hS.F ht⟩) hS.2.2 dX2_bends_26
set_option maxHeartbeats 4000000 in
set_option maxRecDepth 100000 in
theorem k_Feature_keep_r (l : Launch) (dC : Nat → ClassId) (dI : Nat → Nat → Nat) (cI cZ cF : ClassId) (sz : Nat) (fe : Nat) (lo : Nat) (rk9 : Int32) (wd9 : Int32) (tw9 : Int32) (pa9 : Int32) (pb9 : Int32) (lk : Nat) (kd9 : Int32) (st9 : Int32) (gb9 : Int32) (jt9 : Int32) (we9 : Int32) (r : Nat) : zM l yX2_keepFormer cX2_keepFormer 1 none ({ frames := 3, cells := 1, slots := 6, locals := 54 } : Room) [.ref fe] (dC, dI) (zTy cI cZ cF) [(oc1 fe rk9 wd9 tw9 pa9 pb9 (.ref lo) (.ref lk) .null), (oc4 lk kd9 st9 (.ref r) gb9 jt9 we9)] sz none (fun A t => ∃ (q : Nat), zPD (dC, dI) classes A [(oc1 fe rk9 wd9 tw9 pa9 pb9 (.ref lo) (.ref q) (.ref lk)), (oc4 lk kd9 st9 (.ref r) gb9 jt9 we9), (oc4 q kd9 st9 (.ref r) gb9 jt9 we9)] t.heap) 1 6 := by
  refine zIn (own := "ScaleShop$Feature") (loc := [(0, .ref fe)]) rfl rfl rfl rfl (fun p e s m below meth c hx hb hr hts hown hlocks hml hnm9 A hA hS hP hD hK hXN Q9 hQ9 ls hl => ?_)
  refine lv_aload_n hx hb dX2_keepFormer_0 rfl (lv_at hl 0 rfl) ?_
  refine va_get (D := (dC, dI)) (ci := 1) (v := .null) (C := RX2) (T := TX2) (N := 8) hx hb hts inX2 hown hK hP 0 rfl rfl 7 (Nat.le_of_ble_eq_true rfl) (hts _ mw_436) (fun _ h9 => h9) rfl dX2_keepFormer_1 ?_
  refine lv_ifnonnullN hx hb dX2_keepFormer_4 ?_
  refine lv_aload_n hx hb dX2_keepFormer_7 rfl (lv_at hl 0 rfl) ?_
  refine lv_aload_n hx hb dX2_keepFormer_8 rfl (lv_at hl 0 rfl) ?_
  refine va_get (D := (dC, dI)) (ci := 1) (v := .ref lk) (C := RX2) (T := TX2) (N := 8) hx hb hts inX2 hown hK hP 0 rfl rfl 6 (Nat.le_of_ble_eq_true rfl) (hts _ mw_429) (fun _ h9 => h9) rfl dX2_keepFormer_9 ?_
  refine va_put (D := (dC, dI)) (ci := 1) (v := .ref lk) (ty := .object "ScaleShop$Look") (C := RX2) (T := TX2) (N := 8) hx hb hts inX2 tyX2 tyX2_ok nmX2 hown hK hP hD hS 0 rfl rfl 7 (by decide) (hts _ mw_436) (fun _ h9 => h9) rfl (by decide +kernel) rfl rfl (Nat.le_of_ble_eq_true rfl) dX2_keepFormer_12 (fun H locs hP hD hS => ?_)
  obtain ⟨hP, hD⟩ := zre (W2 := [(oc1 fe rk9 wd9 tw9 pa9 pb9 (.ref lo) (.ref lk) (.ref lk)), _]) hP hD rfl
  refine lv_aload_n hx hb dX2_keepFormer_15 rfl (lv_at hl 0 rfl) ?_
  refine lv_aload_n hx hb dX2_keepFormer_16 rfl (lv_at hl 0 rfl) ?_
  refine va_get (D := (dC, dI)) (ci := 1) (v := .ref lk) (C := RX2) (T := TX2) (N := 8) hx hb hts inX2 hown hK hP 0 rfl rfl 7 (Nat.le_of_ble_eq_true rfl) (hts _ mw_436) (fun _ h9 => h9) rfl dX2_keepFormer_17 ?_
  obtain ⟨hPc, hDc, hFc⟩ := zo_sub (wc := [_]) hP hD hS hA [1] rfl rfl
  refine zcalle (va_runV (As := []) (rest := [.ref fe]) ⟨hx, hb, hml, hown, hts⟩ (k_Look_copy_r l dC dI cI cZ cF H.size lk kd9 st9 gb9 jt9 we9 r ) (csV_29 hts rfl rfl ⟨Nat.le_of_ble_eq_true rfl, Nat.le_of_ble_eq_true rfl⟩) (zPV2 (q0 := 0) (ci := 4) hPc hDc hK hXN rfl rfl) rfl rfl hl.1 rfl (lv_room (Nat.le_of_ble_eq_true rfl)) dX2_keepFormer_20 ⟨Nat.le_of_ble_eq_true rfl, Nat.le_of_ble_eq_true rfl⟩) hS hFc hFc (fun v9 t H locs ht hB hk1 hS => ?_)
  obtain ⟨q, rfl, hP1, hD1⟩ := hB
  refine W.eq (g2 := F0 m 23 ls [.ref q, .ref fe]) rfl ?_
  rw [ht] at hP1
  obtain ⟨hP, hD⟩ := zn (W2 := [_, (oc4 lk kd9 st9 (.ref r) gb9 jt9 we9), (oc4 q kd9 st9 (.ref r) gb9 jt9 we9)]) hP hD hk1 hFc hP1 hD1 [1] [true] [true, false, false] [1, 2] (by decide +kernel) rfl rfl rfl rfl rfl
  clear hk1 hPc hDc hFc hP1 hD1 ht
  refine va_put (D := (dC, dI)) (ci := 1) (v := .ref q) (ty := .object "ScaleShop$Look") (C := RX2) (T := TX2) (N := 8) hx hb hts inX2 tyX2 tyX2_ok nmX2 hown hK hP hD hS 0 rfl rfl 6 (by decide) (hts _ mw_429) (fun _ h9 => h9) rfl (by decide +kernel) rfl rfl (Nat.le_of_ble_eq_true rfl) dX2_keepFormer_23 (fun H locs hP hD hS => ?_)
  obtain ⟨hP, hD⟩ := zre (W2 := [(oc1 fe rk9 wd9 tw9 pa9 pb9 (.ref lo) (.ref q) (.ref lk)), _, _]) hP hD rfl
  obtain ⟨hP9, hD9⟩ := zu_sub (wc := [_, _, _]) hP hD [true, true, true] rfl rfl
  refine W.widen (k := 1) (n := 6) (by decide) (by decide) ?_
  rw [hQ9]
  exact W.vret hx hb hr (fun t ht hW => ⟨⟨rfl, q, by rw [ht]; exact hP9, hD9⟩, hS.F ht⟩) hS.2.2 dX2_keepFormer_26
set_option maxHeartbeats 4000000 in
set_option maxRecDepth 100000 in
theorem k_Feature_leave_r (l : Launch) (dC : Nat → ClassId) (dI : Nat → Nat → Nat) (cI cZ cF : ClassId) (sz : Nat) (fe : Nat) (lo : Nat) (rk9 : Int32) (wd9 : Int32) (tw9 : Int32) (pa9 : Int32) (pb9 : Int32) (lk : Nat) (kd9 : Int32) (st9 : Int32) (gb9 : Int32) (jt9 : Int32) (we9 : Int32) (r : Nat) (sn9 : Int32) : zM l yX2_leave cX2_leave 2 none ({ frames := 4, cells := 1, slots := 6, locals := 74 } : Room) [.ref fe, .int sn9] (dC, dI) (zTy cI cZ cF) [(oc1 fe rk9 wd9 tw9 pa9 pb9 (.ref lo) (.ref lk) .null), (oc4 lk kd9 st9 (.ref r) gb9 jt9 we9)] sz none (fun A t => ∃ (q : Nat), zPD (dC, dI) classes A [(oc1 fe rk9 wd9 tw9 pa9 pb9 (.ref lo) (.ref q) (.ref lk)), (oc4 lk kd9 st9 (.ref r) gb9 jt9 we9), (oc4 q kd9 2 (.ref r) sn9 jt9 we9)] t.heap) 1 6 := by
  refine zIn (own := "ScaleShop$Feature") (loc := [(0, .ref fe), (1, .int sn9)]) rfl rfl rfl rfl (fun p e s m below meth c hx hb hr hts hown hlocks hml hnm9 A hA hS hP hD hK hXN Q9 hQ9 ls hl => ?_)
  refine lv_aload_n hx hb dX2_leave_0 rfl (lv_at hl 0 rfl) ?_
  obtain ⟨hPc, hDc, hFc⟩ := zo_sub (wc := [_, _]) hP hD hS hA [0, 1] rfl rfl
  refine zcall (st1 := []) (va_runV (As := []) (rest := []) ⟨hx, hb, hml, hown, hts⟩ (k_Feature_keep_r l dC dI cI cZ cF s.heap.size fe lo rk9 wd9 tw9 pa9 pb9 lk kd9 st9 gb9 jt9 we9 r ) (csV_30 hts rfl rfl ⟨Nat.le_of_ble_eq_true rfl, Nat.le_of_ble_eq_true rfl⟩) (zPV2 (q0 := 0) (ci := 1) hPc hDc hK hXN rfl rfl) rfl rfl hl.1 rfl (lv_room (Nat.le_of_ble_eq_true rfl)) dX2_leave_1 ⟨Nat.le_of_ble_eq_true rfl, Nat.le_of_ble_eq_true rfl⟩) hS hFc hFc rfl (fun t H locs ht hB hk1 hS => ?_)
  obtain ⟨q, hP1, hD1⟩ := hB
  rw [ht] at hP1
  obtain ⟨hP, hD⟩ := zn (W2 := [(oc1 fe rk9 wd9 tw9 pa9 pb9 (.ref lo) (.ref q) (.ref lk)), (oc4 lk kd9 st9 (.ref r) gb9 jt9 we9), (oc4 q kd9 st9 (.ref r) gb9 jt9 we9)]) hP hD hk1 hFc hP1 hD1 [0, 1] [] [false, false, false] [0, 1, 2] (by decide +kernel) rfl rfl rfl rfl rfl
  clear hk1 hPc hDc hFc hP1 hD1 ht
  refine lv_aload_n hx hb dX2_leave_4 rfl (lv_at hl 0 rfl) ?_
  refine va_get (D := (dC, dI)) (ci := 1) (v := .ref q) (C := RX2) (T := TX2) (N := 8) hx hb hts inX2 hown hK hP 0 rfl rfl 6 (Nat.le_of_ble_eq_true rfl) (hts _ mw_429) (fun _ h9 => h9) rfl dX2_leave_5 ?_
  refine lv_iconst (v := 2) hx hb dX2_leave_8 rfl ?_
  refine va_put (D := (dC, dI)) (ci := 4) (v := .int 2) (ty := .int) (C := RX5) (T := TX5) (N := 6) hx hb hts inX5 tyX5 tyX5_ok nmX5 hown hK hP hD hS 2 rfl rfl 1 (by decide) (hts _ mw_386) (fun _ h9 => h9) rfl (by decide +kernel) rfl rfl (Nat.le_of_ble_eq_true rfl) dX2_leave_9 (fun H locs hP hD hS => ?_)
  obtain ⟨hP, hD⟩ := zre (W2 := [_, _, (oc4 q kd9 2 (.ref r) gb9 jt9 we9)]) hP hD rfl
  refine lv_aload_n hx hb dX2_leave_12 rfl (lv_at hl 0 rfl) ?_
  refine va_get (D := (dC, dI)) (ci := 1) (v := .ref q) (C := RX2) (T := TX2) (N := 8) hx hb hts inX2 hown hK hP 0 rfl rfl 6 (Nat.le_of_ble_eq_true rfl) (hts _ mw_429) (fun _ h9 => h9) rfl dX2_leave_13 ?_
  refine lv_iload_n hx hb dX2_leave_16 rfl (lv_at hl 1 rfl) ?_
  refine va_put (D := (dC, dI)) (ci := 4) (v := .int sn9) (ty := .int) (C := RX5) (T := TX5) (N := 6) hx hb hts inX5 tyX5 tyX5_ok nmX5 hown hK hP hD hS 2 rfl rfl 3 (by decide) (hts _ mw_395) (fun _ h9 => h9) rfl (by decide +kernel) rfl rfl (Nat.le_of_ble_eq_true rfl) dX2_leave_17 (fun H locs hP hD hS => ?_)
  obtain ⟨hP, hD⟩ := zre (W2 := [_, _, (oc4 q kd9 2 (.ref r) sn9 jt9 we9)]) hP hD rfl
  obtain ⟨hP9, hD9⟩ := zu_sub (wc := [_, _, _]) hP hD [true, true, true] rfl rfl
  refine W.widen (k := 1) (n := 6) (by decide) (by decide) ?_
  rw [hQ9]
  exact W.vret hx hb hr (fun t ht hW => ⟨⟨rfl, q, by rw [ht]; exact hP9, hD9⟩, hS.F ht⟩) hS.2.2 dX2_leave_20
set_option maxHeartbeats 4000000 in
set_option maxRecDepth 100000 in
theorem k_Feature_reshape (l : Launch) (dC : Nat → ClassId) (dI : Nat → Nat → Nat) (cI cZ cF : ClassId) (sz : Nat) (fe : Nat) (lo : Nat) (rk9 : Int32) (wd9 : Int32) (tw9 : Int32) (pa9 : Int32) (pb9 : Int32) (lk : Nat) (kd9 : Int32) (st9 : Int32) (gb9 : Int32) (jt9 : Int32) (we9 : Int32) (r0 : Nat) (r : Nat) (rx : Nat) (ry : Nat) (n : Nat) (cap : Nat) (X : Nat → Int32) (Y : Nat → Int32) (rg : Int32) (hn : 1 ≤ n ∧ n ≤ cap) (hcap : cap ≤ 1000) (hrg : rg = 0 ∨ rg = 1) : zM l yX2_reshape cX2_reshape 2 none ({ frames := 4, cells := 4, slots := 2 * n + 10, locals := 74 } : Room) [.ref fe, .ref r] (dC, dI) (zTy cI cZ cF) [(oc1 fe rk9 wd9 tw9 pa9 pb9 (.ref lo) (.ref lk) .null), (oc4 lk kd9 st9 (.ref r0) gb9 jt9 we9), (oc6 r (.ref rx) (.ref ry) (nI n) rg), (oa rx cI cap X), (oa ry cI cap Y)] sz none (fun A t => ∃ (q : Nat), ∃ (w : Nat), ∃ (wx : Nat), ∃ (wy : Nat), ∃ (X1 : Nat → Int32), ∃ (Y1 : Nat → Int32), (∀ k, k < n → X1 k = X k ∧ Y1 k = Y k) ∧ zPD (dC, dI) classes A [(oc1 fe rk9 wd9 tw9 pa9 pb9 (.ref lo) (.ref q) (.ref lk)), (oc4 lk kd9 st9 (.ref r0) gb9 jt9 we9), (oc4 q kd9 st9 (.ref w) gb9 jt9 we9), (oc6 r (.ref rx) (.ref ry) (nI n) rg), (oa rx cI cap X), (oa ry cI cap Y), (oc6 w (.ref wx) (.ref wy) (nI n) rg), (oa wx cI n X1), (oa wy cI n Y1)] t.heap) 4 (2 * n + 10) := by
  refine zIn (own := "ScaleShop$Feature") (loc := [(0, .ref fe), (1, .ref r)]) rfl rfl rfl rfl (fun p e s m below meth c hx hb hr hts hown hlocks hml hnm9 A hA hS hP hD hK hXN Q9 hQ9 ls hl => ?_)
  refine lv_aload_n hx hb dX2_reshape_0 rfl (lv_at hl 0 rfl) ?_
  obtain ⟨hPc, hDc, hFc⟩ := zo_sub (wc := [_, _]) hP hD hS hA [0, 1] rfl rfl
  refine zcall (st1 := []) (va_runV (As := []) (rest := []) ⟨hx, hb, hml, hown, hts⟩ (k_Feature_keep_r l dC dI cI cZ cF s.heap.size fe lo rk9 wd9 tw9 pa9 pb9 lk kd9 st9 gb9 jt9 we9 r0 ) (csV_30 hts rfl rfl ⟨Nat.le_of_ble_eq_true rfl, Nat.le_of_ble_eq_true rfl⟩) (zPV2 (q0 := 0) (ci := 1) hPc hDc hK hXN rfl rfl) rfl rfl hl.1 rfl (lv_room (Nat.le_of_ble_eq_true rfl)) dX2_reshape_1 ⟨show 1 ≤ 4 by omega, show 6 ≤ 2 * n + 10 by omega⟩) hS hFc hFc rfl (fun t H locs ht hB hk1 hS => ?_)
  obtain ⟨q, hP1, hD1⟩ := hB
  rw [ht] at hP1
  obtain ⟨hP, hD⟩ := zn (W2 := [_, _, _, (oc1 fe rk9 wd9 tw9 pa9 pb9 (.ref lo) (.ref q) (.ref lk)), (oc4 lk kd9 st9 (.ref r0) gb9 jt9 we9), (oc4 q kd9 st9 (.ref r0) gb9 jt9 we9)]) hP hD hk1 hFc hP1 hD1 [0, 1] [false, false, true, true, true] [true, true, true, false, false, false] [3, 4, 5] (by decide +kernel) rfl rfl rfl rfl rfl
  clear hk1 hPc hDc hFc hP1 hD1 ht
  refine lv_aload_n hx hb dX2_reshape_4 rfl (lv_at hl 0 rfl) ?_
  refine va_get (D := (dC, dI)) (ci := 1) (v := .ref q) (C := RX2) (T := TX2) (N := 8) hx hb hts inX2 hown hK hP 3 rfl rfl 6 (Nat.le_of_ble_eq_true rfl) (hts _ mw_429) (fun _ h9 => h9) rfl dX2_reshape_5 ?_
  refine lv_aload_n hx hb dX2_reshape_8 rfl (lv_at hl 1 rfl) ?_
  obtain ⟨hPc, hDc, hFc⟩ := zo_sub (wc := [_, _, _]) hP hD hS hA [0, 1, 2] rfl rfl
  refine zcalle (va_runV (As := []) (rest := [.ref q]) ⟨hx, hb, hml, hown, hts⟩ (k_Row_copy l dC dI cI cZ cF H.size r rx ry n cap X Y rg (by first | with_reducible assumption | omega) (by first | with_reducible assumption | omega) (by first | with_reducible assumption | assumption)) (csV_31 hts rfl rfl ⟨Nat.le_of_ble_eq_true rfl, Nat.le_of_ble_eq_true rfl⟩) (zPV2 (q0 := 0) (ci := 6) hPc hDc hK hXN rfl rfl) rfl rfl hl.1 rfl (lv_room (Nat.le_of_ble_eq_true rfl)) dX2_reshape_9 ⟨show (1 + 3) ≤ 4 by omega, show (6 + (2 * n + 4)) ≤ 2 * n + 10 by omega⟩) hS hFc hFc (fun v9 t H locs ht hB hk1 hS => ?_)
  obtain ⟨w, wx, wy, X1, Y1, rfl, hall, hP1, hD1⟩ := hB
  refine W.eq (g2 := F0 m 12 ls [.ref w, .ref q]) rfl ?_
  rw [ht] at hP1
  obtain ⟨hP, hD⟩ := zn (W2 := [_, _, _, (oc6 r (.ref rx) (.ref ry) (nI n) rg), (oa rx cI cap X), (oa ry cI cap Y), (oc6 w (.ref wx) (.ref wy) (nI n) rg), (oa wx cI n X1), (oa wy cI n Y1)]) hP hD hk1 hFc hP1 hD1 [0, 1, 2] [false, false, false, true, true, true] [true, true, true, false, false, false, false, false, false] [3, 4, 5, 6, 7, 8] (by decide +kernel) rfl rfl rfl rfl rfl
  clear hk1 hPc hDc hFc hP1 hD1 ht
  refine va_put (D := (dC, dI)) (ci := 4) (v := .ref w) (ty := .object "ScaleShop$Row") (C := RX5) (T := TX5) (N := 6) hx hb hts inX5 tyX5 tyX5_ok nmX5 hown hK hP hD hS 2 rfl rfl 2 (by decide) (hts _ mw_392) (fun _ h9 => h9) rfl (by decide +kernel) rfl rfl (Nat.le_of_ble_eq_true rfl) dX2_reshape_12 (fun H locs hP hD hS => ?_)
  obtain ⟨hP, hD⟩ := zre (W2 := [_, _, (oc4 q kd9 st9 (.ref w) gb9 jt9 we9), _, _, _, _, _, _]) hP hD rfl
  obtain ⟨hP9, hD9⟩ := zu_sub (wc := [_, _, _, _, _, _, _, _, _]) hP hD [true, true, true, true, true, true, true, true, true] rfl rfl
  refine W.widen (k := 4) (n := 2 * n + 10) (by omega) (by omega) ?_
  rw [hQ9]
  exact W.vret hx hb hr (fun t ht hW => ⟨⟨rfl, q, w, wx, wy, X1, Y1, (hall), by rw [ht]; exact hP9, hD9⟩, hS.F ht⟩) hS.2.2 dX2_reshape_15
set_option maxHeartbeats 4000000 in
set_option maxRecDepth 100000 in
theorem k_Feature_reshape_o (l : Launch) (dC : Nat → ClassId) (dI : Nat → Nat → Nat) (cI cZ cF : ClassId) (sz : Nat) (fe : Nat) (lo : Nat) (rk9 : Int32) (wd9 : Int32) (tw9 : Int32) (pa9 : Int32) (pb9 : Int32) (lk : Nat) (kd9 : Int32) (st9 : Int32) (gb9 : Int32) (jt9 : Int32) (we9 : Int32) (r : Nat) (rx : Nat) (ry : Nat) (n : Nat) (cap : Nat) (X : Nat → Int32) (Y : Nat → Int32) (rg : Int32) (hn : 1 ≤ n ∧ n ≤ cap) (hcap : cap ≤ 1000) (hrg : rg = 0 ∨ rg = 1) : zM l yX2_reshape cX2_reshape 2 none ({ frames := 4, cells := 4, slots := 2 * n + 10, locals := 74 } : Room) [.ref fe, .ref r] (dC, dI) (zTy cI cZ cF) [(oc1 fe rk9 wd9 tw9 pa9 pb9 (.ref lo) (.ref lk) .null), (oc4 lk kd9 st9 (.ref r) gb9 jt9 we9), (oc6 r (.ref rx) (.ref ry) (nI n) rg), (oa rx cI cap X), (oa ry cI cap Y)] sz none (fun A t => ∃ (q : Nat), ∃ (w : Nat), ∃ (wx : Nat), ∃ (wy : Nat), ∃ (X1 : Nat → Int32), ∃ (Y1 : Nat → Int32), (∀ k, k < n → X1 k = X k ∧ Y1 k = Y k) ∧ zPD (dC, dI) classes A [(oc1 fe rk9 wd9 tw9 pa9 pb9 (.ref lo) (.ref q) (.ref lk)), (oc4 lk kd9 st9 (.ref r) gb9 jt9 we9), (oc4 q kd9 st9 (.ref w) gb9 jt9 we9), (oc6 r (.ref rx) (.ref ry) (nI n) rg), (oa rx cI cap X), (oa ry cI cap Y), (oc6 w (.ref wx) (.ref wy) (nI n) rg), (oa wx cI n X1), (oa wy cI n Y1)] t.heap) 4 (2 * n + 10) := by
  refine zIn (own := "ScaleShop$Feature") (loc := [(0, .ref fe), (1, .ref r)]) rfl rfl rfl rfl (fun p e s m below meth c hx hb hr hts hown hlocks hml hnm9 A hA hS hP hD hK hXN Q9 hQ9 ls hl => ?_)
  refine lv_aload_n hx hb dX2_reshape_0 rfl (lv_at hl 0 rfl) ?_
  obtain ⟨hPc, hDc, hFc⟩ := zo_sub (wc := [_, _]) hP hD hS hA [0, 1] rfl rfl
  refine zcall (st1 := []) (va_runV (As := []) (rest := []) ⟨hx, hb, hml, hown, hts⟩ (k_Feature_keep_r l dC dI cI cZ cF s.heap.size fe lo rk9 wd9 tw9 pa9 pb9 lk kd9 st9 gb9 jt9 we9 r ) (csV_30 hts rfl rfl ⟨Nat.le_of_ble_eq_true rfl, Nat.le_of_ble_eq_true rfl⟩) (zPV2 (q0 := 0) (ci := 1) hPc hDc hK hXN rfl rfl) rfl rfl hl.1 rfl (lv_room (Nat.le_of_ble_eq_true rfl)) dX2_reshape_1 ⟨show 1 ≤ 4 by omega, show 6 ≤ 2 * n + 10 by omega⟩) hS hFc hFc rfl (fun t H locs ht hB hk1 hS => ?_)
  obtain ⟨q, hP1, hD1⟩ := hB
  rw [ht] at hP1
  obtain ⟨hP, hD⟩ := zn (W2 := [_, _, _, (oc1 fe rk9 wd9 tw9 pa9 pb9 (.ref lo) (.ref q) (.ref lk)), (oc4 lk kd9 st9 (.ref r) gb9 jt9 we9), (oc4 q kd9 st9 (.ref r) gb9 jt9 we9)]) hP hD hk1 hFc hP1 hD1 [0, 1] [false, false, true, true, true] [true, true, true, false, false, false] [3, 4, 5] (by decide +kernel) rfl rfl rfl rfl rfl
  clear hk1 hPc hDc hFc hP1 hD1 ht
  refine lv_aload_n hx hb dX2_reshape_4 rfl (lv_at hl 0 rfl) ?_
  refine va_get (D := (dC, dI)) (ci := 1) (v := .ref q) (C := RX2) (T := TX2) (N := 8) hx hb hts inX2 hown hK hP 3 rfl rfl 6 (Nat.le_of_ble_eq_true rfl) (hts _ mw_429) (fun _ h9 => h9) rfl dX2_reshape_5 ?_
  refine lv_aload_n hx hb dX2_reshape_8 rfl (lv_at hl 1 rfl) ?_
  obtain ⟨hPc, hDc, hFc⟩ := zo_sub (wc := [_, _, _]) hP hD hS hA [0, 1, 2] rfl rfl
  refine zcalle (va_runV (As := []) (rest := [.ref q]) ⟨hx, hb, hml, hown, hts⟩ (k_Row_copy l dC dI cI cZ cF H.size r rx ry n cap X Y rg (by first | with_reducible assumption | omega) (by first | with_reducible assumption | omega) (by first | with_reducible assumption | assumption)) (csV_31 hts rfl rfl ⟨Nat.le_of_ble_eq_true rfl, Nat.le_of_ble_eq_true rfl⟩) (zPV2 (q0 := 0) (ci := 6) hPc hDc hK hXN rfl rfl) rfl rfl hl.1 rfl (lv_room (Nat.le_of_ble_eq_true rfl)) dX2_reshape_9 ⟨show (1 + 3) ≤ 4 by omega, show (6 + (2 * n + 4)) ≤ 2 * n + 10 by omega⟩) hS hFc hFc (fun v9 t H locs ht hB hk1 hS => ?_)
  obtain ⟨w, wx, wy, X1, Y1, rfl, hall, hP1, hD1⟩ := hB
  refine W.eq (g2 := F0 m 12 ls [.ref w, .ref q]) rfl ?_
  rw [ht] at hP1
  obtain ⟨hP, hD⟩ := zn (W2 := [_, _, _, (oc6 r (.ref rx) (.ref ry) (nI n) rg), (oa rx cI cap X), (oa ry cI cap Y), (oc6 w (.ref wx) (.ref wy) (nI n) rg), (oa wx cI n X1), (oa wy cI n Y1)]) hP hD hk1 hFc hP1 hD1 [0, 1, 2] [false, false, false, true, true, true] [true, true, true, false, false, false, false, false, false] [3, 4, 5, 6, 7, 8] (by decide +kernel) rfl rfl rfl rfl rfl
  clear hk1 hPc hDc hFc hP1 hD1 ht
  refine va_put (D := (dC, dI)) (ci := 4) (v := .ref w) (ty := .object "ScaleShop$Row") (C := RX5) (T := TX5) (N := 6) hx hb hts inX5 tyX5 tyX5_ok nmX5 hown hK hP hD hS 2 rfl rfl 2 (by decide) (hts _ mw_392) (fun _ h9 => h9) rfl (by decide +kernel) rfl rfl (Nat.le_of_ble_eq_true rfl) dX2_reshape_12 (fun H locs hP hD hS => ?_)
  obtain ⟨hP, hD⟩ := zre (W2 := [_, _, (oc4 q kd9 st9 (.ref w) gb9 jt9 we9), _, _, _, _, _, _]) hP hD rfl
  obtain ⟨hP9, hD9⟩ := zu_sub (wc := [_, _, _, _, _, _, _, _, _]) hP hD [true, true, true, true, true, true, true, true, true] rfl rfl
  refine W.widen (k := 4) (n := 2 * n + 10) (by omega) (by omega) ?_
  rw [hQ9]
  exact W.vret hx hb hr (fun t ht hW => ⟨⟨rfl, q, w, wx, wy, X1, Y1, (hall), by rw [ht]; exact hP9, hD9⟩, hS.F ht⟩) hS.2.2 dX2_reshape_15
set_option maxHeartbeats 4000000 in
set_option maxRecDepth 100000 in
theorem k_Feature_losef (l : Launch) (dC : Nat → ClassId) (dI : Nat → Nat → Nat) (cI cZ cF : ClassId) (sz : Nat) (fe : Nat) (lo : Nat) (rk9 : Int32) (wd9 : Int32) (tw9 : Int32) (pa9 : Int32) (pb9 : Int32) (lk : Nat) (kd9 : Int32) (st9 : Int32) (gb9 : Int32) (jt9 : Int32) (fm : Nat) (k : Nat) (wn : Nat) (r : Nat) (rx : Nat) (ry : Nat) (n : Nat) (cap : Nat) (X : Nat → Int32) (Y : Nat → Int32) (rg : Int32) (lx : Nat) (ly : Nat) (ln9 : Nat) (cl9 : Nat) (LX : Nat → Int32) (LY : Nat → Int32) (hkn : k < n) (hn : n ≤ cap) (hcap : cap ≤ 1000) (hwn : wn < cl9) (hcl : cl9 ≤ 1000) (hrg : rg = 0 ∨ rg = 1) : zM l yX2_lose cX2_lose 2 none ({ frames := 2, cells := 0, slots := 0, locals := 36 } : Room) [.ref fe, .int (nI k)] (dC, dI) (zTy cI cZ cF) [(oc1 fe rk9 wd9 tw9 pa9 pb9 (.ref lo) (.ref lk) (.ref fm)), (oc4 lk kd9 st9 (.ref r) gb9 jt9 (nI wn)), (oc6 r (.ref rx) (.ref ry) (nI n) rg), (oa rx cI cap X), (oa ry cI cap Y), (oc6 lo (.ref lx) (.ref ly) (nI ln9) 0), (oa lx cI cl9 LX), (oa ly cI cl9 LY)] sz none (fun A t => ∃ (X1 : Nat → Int32), ∃ (Y1 : Nat → Int32), (∀ j, j < k → X1 j = X j ∧ Y1 j = Y j) ∧ (∀ j, k ≤ j → j < n - 1 → X1 j = X (j + 1) ∧ Y1 j = Y (j + 1)) ∧ zPD (dC, dI) classes A [(oc1 fe rk9 wd9 tw9 pa9 pb9 (.ref lo) (.ref lk) (.ref fm)), (oc4 lk kd9 st9 (.ref r) gb9 jt9 (nI (wn + 1))), (oc6 r (.ref rx) (.ref ry) (nI (n - 1)) rg), (oa rx cI cap X1), (oa ry cI cap Y1), (oc6 lo (.ref lx) (.ref ly) (nI (wn + 1)) 0), (oa lx cI cl9 (upd LX wn (X k))), (oa ly cI cl9 (upd LY wn (Y k)))] t.heap) 0 0 := by
  refine zIn (own := "ScaleShop$Feature") (loc := [(0, .ref fe), (1, .int (nI k))]) rfl rfl rfl rfl (fun p e s m below meth c hx hb hr hts hown hlocks hml hnm9 A hA hS hP hD hK hXN Q9 hQ9 ls hl => ?_)
  refine lv_aload_n hx hb dX2_lose_0 rfl (lv_at hl 0 rfl) ?_
  refine va_get (D := (dC, dI)) (ci := 1) (v := .ref lk) (C := RX2) (T := TX2) (N := 8) hx hb hts inX2 hown hK hP 0 rfl rfl 6 (Nat.le_of_ble_eq_true rfl) (hts _ mw_429) (fun _ h9 => h9) rfl dX2_lose_1 ?_
  refine va_get (D := (dC, dI)) (ci := 4) (v := .ref r) (C := RX5) (T := TX5) (N := 6) hx hb hts inX5 hown hK hP 1 rfl rfl 2 (Nat.le_of_ble_eq_true rfl) (hts _ mw_392) (fun _ h9 => h9) rfl dX2_lose_4 ?_
  refine lv_ifnull hx hb dX2_lose_7 ?_
  refine lv_iload_n hx hb dX2_lose_10 rfl (lv_at hl 1 rfl) ?_
  have b9_2 : k < 2147483648 := by omega
  refine lv_if_lt (tgt := 28) hx hb dX2_lose_11 rfl (fun c_1 => ?_) (fun c_1 => ?_)
  · have c_1 : ((k : Nat) : Int) < 0 := zc_lt (nI_toInt b9_2) rfl c_1
    exfalso; omega
  · have c_1 : 0 ≤ ((k : Nat) : Int) := zc_nlt (nI_toInt b9_2) rfl c_1
    refine lv_iload_n hx hb dX2_lose_14 rfl (lv_at hl 1 rfl) ?_
    refine lv_aload_n hx hb dX2_lose_15 rfl (lv_at hl 0 rfl) ?_
    refine va_get (D := (dC, dI)) (ci := 1) (v := .ref lk) (C := RX2) (T := TX2) (N := 8) hx hb hts inX2 hown hK hP 0 rfl rfl 6 (Nat.le_of_ble_eq_true rfl) (hts _ mw_429) (fun _ h9 => h9) rfl dX2_lose_16 ?_
    refine va_get (D := (dC, dI)) (ci := 4) (v := .ref r) (C := RX5) (T := TX5) (N := 6) hx hb hts inX5 hown hK hP 1 rfl rfl 2 (Nat.le_of_ble_eq_true rfl) (hts _ mw_392) (fun _ h9 => h9) rfl dX2_lose_19 ?_
    refine va_get (D := (dC, dI)) (ci := 6) (v := .int (nI n)) (C := RX7) (T := TX7) (N := 4) hx hb hts inX7 hown hK hP 2 rfl rfl 2 (Nat.le_of_ble_eq_true rfl) (hts _ mw_178) (fun _ h9 => h9) rfl dX2_lose_22 ?_
    have b9_4 : n < 2147483648 := by omega
    refine lv_icmp_lt (tgt := 29) hx hb dX2_lose_25 rfl (fun c_3 => ?_) (fun c_3 => ?_)
    · have c_3 : ((k : Nat) : Int) < ((n : Nat) : Int) := zc_lt (nI_toInt b9_2) (nI_toInt b9_4) c_3
      refine lv_aload_n hx hb dX2_lose_29 rfl (lv_at hl 0 rfl) ?_
      refine va_get (D := (dC, dI)) (ci := 1) (v := .ref fm) (C := RX2) (T := TX2) (N := 8) hx hb hts inX2 hown hK hP 0 rfl rfl 7 (Nat.le_of_ble_eq_true rfl) (hts _ mw_436) (fun _ h9 => h9) rfl dX2_lose_30 ?_
      refine lv_ifnonnull (tgt := 47) hx hb dX2_lose_33 rfl ?_
      refine lv_aload_n hx hb dX2_lose_47 rfl (lv_at hl 0 rfl) ?_
      refine va_get (D := (dC, dI)) (ci := 1) (v := .ref lo) (C := RX2) (T := TX2) (N := 8) hx hb hts inX2 hown hK hP 0 rfl rfl 5 (Nat.le_of_ble_eq_true rfl) (hts _ mw_426) (fun _ h9 => h9) rfl dX2_lose_48 ?_
      refine lv_aload_n hx hb dX2_lose_51 rfl (lv_at hl 0 rfl) ?_
      refine va_get (D := (dC, dI)) (ci := 1) (v := .ref lk) (C := RX2) (T := TX2) (N := 8) hx hb hts inX2 hown hK hP 0 rfl rfl 6 (Nat.le_of_ble_eq_true rfl) (hts _ mw_429) (fun _ h9 => h9) rfl dX2_lose_52 ?_
      refine va_get (D := (dC, dI)) (ci := 4) (v := .int (nI wn)) (C := RX5) (T := TX5) (N := 6) hx hb hts inX5 hown hK hP 1 rfl rfl 5 (Nat.le_of_ble_eq_true rfl) (hts _ mw_400) (fun _ h9 => h9) rfl dX2_lose_55 ?_
      refine va_put (D := (dC, dI)) (ci := 6) (v := .int (nI wn)) (ty := .int) (C := RX7) (T := TX7) (N := 4) hx hb hts inX7 tyX7 tyX7_ok nmX7 hown hK hP hD hS 5 rfl rfl 2 (by decide) (hts _ mw_178) (fun _ h9 => h9) rfl (by decide +kernel) rfl rfl (Nat.le_of_ble_eq_true rfl) dX2_lose_58 (fun H locs hP hD hS => ?_)
      obtain ⟨hP, hD⟩ := zre (W2 := [_, _, _, _, _, (oc6 lo (.ref lx) (.ref ly) (nI wn) 0), _, _]) hP hD rfl
      refine lv_aload_n hx hb dX2_lose_61 rfl (lv_at hl 0 rfl) ?_
      refine va_get (D := (dC, dI)) (ci := 1) (v := .ref lo) (C := RX2) (T := TX2) (N := 8) hx hb hts inX2 hown hK hP 0 rfl rfl 5 (Nat.le_of_ble_eq_true rfl) (hts _ mw_426) (fun _ h9 => h9) rfl dX2_lose_62 ?_
      refine lv_aload_n hx hb dX2_lose_65 rfl (lv_at hl 0 rfl) ?_
      refine va_get (D := (dC, dI)) (ci := 1) (v := .ref lk) (C := RX2) (T := TX2) (N := 8) hx hb hts inX2 hown hK hP 0 rfl rfl 6 (Nat.le_of_ble_eq_true rfl) (hts _ mw_429) (fun _ h9 => h9) rfl dX2_lose_66 ?_
      refine va_get (D := (dC, dI)) (ci := 4) (v := .ref r) (C := RX5) (T := TX5) (N := 6) hx hb hts inX5 hown hK hP 1 rfl rfl 2 (Nat.le_of_ble_eq_true rfl) (hts _ mw_392) (fun _ h9 => h9) rfl dX2_lose_69 ?_
      refine va_get (D := (dC, dI)) (ci := 6) (v := .ref rx) (C := RX7) (T := TX7) (N := 4) hx hb hts inX7 hown hK hP 2 rfl rfl 0 (Nat.le_of_ble_eq_true rfl) (hts _ mw_165) (fun _ h9 => h9) rfl dX2_lose_72 ?_
      refine lv_iload_n hx hb dX2_lose_75 rfl (lv_at hl 1 rfl) ?_
      have b9_5 : k < cap := by omega
      have b9_6 : cap < 2147483648 := by omega
      refine z_iald hx hb hK hP 3 0 rfl rfl (e := k) rfl b9_5 b9_6 dX2_lose_76 ?_
      refine lv_aload_n hx hb dX2_lose_77 rfl (lv_at hl 0 rfl) ?_
      refine va_get (D := (dC, dI)) (ci := 1) (v := .ref lk) (C := RX2) (T := TX2) (N := 8) hx hb hts inX2 hown hK hP 0 rfl rfl 6 (Nat.le_of_ble_eq_true rfl) (hts _ mw_429) (fun _ h9 => h9) rfl dX2_lose_78 ?_
      refine va_get (D := (dC, dI)) (ci := 4) (v := .ref r) (C := RX5) (T := TX5) (N := 6) hx hb hts inX5 hown hK hP 1 rfl rfl 2 (Nat.le_of_ble_eq_true rfl) (hts _ mw_392) (fun _ h9 => h9) rfl dX2_lose_81 ?_
      refine va_get (D := (dC, dI)) (ci := 6) (v := .ref ry) (C := RX7) (T := TX7) (N := 4) hx hb hts inX7 hown hK hP 2 rfl rfl 1 (Nat.le_of_ble_eq_true rfl) (hts _ mw_172) (fun _ h9 => h9) rfl dX2_lose_84 ?_
      refine lv_iload_n hx hb dX2_lose_87 rfl (lv_at hl 1 rfl) ?_
      refine z_iald hx hb hK hP 4 0 rfl rfl (e := k) rfl b9_5 b9_6 dX2_lose_88 ?_
      obtain ⟨hPc, hDc, hFc⟩ := zo_sub (wc := [_, _, _]) hP hD hS hA [5, 6, 7] rfl rfl
      refine zcall (st1 := []) (va_runV (As := [.int (X k), .int (Y k)]) (rest := []) ⟨hx, hb, hml, hown, hts⟩ (k_Row_put l dC dI cI cZ cF H.size lo lx ly wn cl9 LX LY 0 (X k) (Y k) (by first | with_reducible assumption | omega) (by first | with_reducible assumption | omega)) (csV_32 hts rfl rfl ⟨Nat.le_of_ble_eq_true rfl, Nat.le_of_ble_eq_true rfl⟩) (zPV2 (q0 := 0) (ci := 6) hPc hDc hK hXN rfl rfl) rfl rfl hl.1 rfl (lv_room (Nat.le_of_ble_eq_true rfl)) dX2_lose_89 ⟨Nat.le_of_ble_eq_true rfl, Nat.le_of_ble_eq_true rfl⟩) hS hFc hFc rfl (fun t H locs ht hB hk1 hS => ?_)
      obtain ⟨hP1, hD1⟩ := hB
      rw [ht] at hP1
      obtain ⟨hP, hD⟩ := zn (W2 := [_, _, _, _, _, (oc6 lo (.ref lx) (.ref ly) (nI (wn + 1)) 0), (oa lx cI cl9 (upd LX wn (X k))), (oa ly cI cl9 (upd LY wn (Y k)))]) hP hD hk1 hFc hP1 hD1 [5, 6, 7] [true, true, true, true, true] [true, true, true, true, true, false, false, false] [5, 6, 7] (by decide +kernel) rfl rfl rfl rfl rfl
      clear hk1 hPc hDc hFc hP1 hD1 ht
      refine lv_aload_n hx hb dX2_lose_92 rfl (lv_at hl 0 rfl) ?_
      refine va_get (D := (dC, dI)) (ci := 1) (v := .ref lk) (C := RX2) (T := TX2) (N := 8) hx hb hts inX2 hown hK hP 0 rfl rfl 6 (Nat.le_of_ble_eq_true rfl) (hts _ mw_429) (fun _ h9 => h9) rfl dX2_lose_93 ?_
      refine lv_aload_n hx hb dX2_lose_96 rfl (lv_at hl 0 rfl) ?_
      refine va_get (D := (dC, dI)) (ci := 1) (v := .ref lo) (C := RX2) (T := TX2) (N := 8) hx hb hts inX2 hown hK hP 0 rfl rfl 5 (Nat.le_of_ble_eq_true rfl) (hts _ mw_426) (fun _ h9 => h9) rfl dX2_lose_97 ?_
      refine va_get (D := (dC, dI)) (ci := 6) (v := .int (nI (wn + 1))) (C := RX7) (T := TX7) (N := 4) hx hb hts inX7 hown hK hP 5 rfl rfl 2 (Nat.le_of_ble_eq_true rfl) (hts _ mw_178) (fun _ h9 => h9) rfl dX2_lose_100 ?_
      refine va_put (D := (dC, dI)) (ci := 4) (v := .int (nI (wn + 1))) (ty := .int) (C := RX5) (T := TX5) (N := 6) hx hb hts inX5 tyX5 tyX5_ok nmX5 hown hK hP hD hS 1 rfl rfl 5 (by decide) (hts _ mw_400) (fun _ h9 => h9) rfl (by decide +kernel) rfl rfl (Nat.le_of_ble_eq_true rfl) dX2_lose_103 (fun H locs hP hD hS => ?_)
      obtain ⟨hP, hD⟩ := zre (W2 := [_, (oc4 lk kd9 st9 (.ref r) gb9 jt9 (nI (wn + 1))), _, _, _, _, _, _]) hP hD rfl
      refine lv_aload_n hx hb dX2_lose_106 rfl (lv_at hl 0 rfl) ?_
      refine va_get (D := (dC, dI)) (ci := 1) (v := .ref lk) (C := RX2) (T := TX2) (N := 8) hx hb hts inX2 hown hK hP 0 rfl rfl 6 (Nat.le_of_ble_eq_true rfl) (hts _ mw_429) (fun _ h9 => h9) rfl dX2_lose_107 ?_
      refine va_get (D := (dC, dI)) (ci := 4) (v := .ref r) (C := RX5) (T := TX5) (N := 6) hx hb hts inX5 hown hK hP 1 rfl rfl 2 (Nat.le_of_ble_eq_true rfl) (hts _ mw_392) (fun _ h9 => h9) rfl dX2_lose_110 ?_
      refine lv_iload_n hx hb dX2_lose_113 rfl (lv_at hl 1 rfl) ?_
      obtain ⟨hPc, hDc, hFc⟩ := zo_sub (wc := [_, _, _]) hP hD hS hA [2, 3, 4] rfl rfl
      refine zcall (st1 := []) (va_runV (As := [.int (nI k)]) (rest := []) ⟨hx, hb, hml, hown, hts⟩ (k_Row_cut l dC dI cI cZ cF H.size r rx ry n cap X Y rg k (by first | with_reducible assumption | omega) (by first | with_reducible assumption | omega) (by first | with_reducible assumption | omega)) (csV_33 hts rfl rfl ⟨Nat.le_of_ble_eq_true rfl, Nat.le_of_ble_eq_true rfl⟩) (zPV2 (q0 := 0) (ci := 6) hPc hDc hK hXN rfl rfl) rfl rfl hl.1 rfl (lv_room (Nat.le_of_ble_eq_true rfl)) dX2_lose_114 ⟨Nat.le_of_ble_eq_true rfl, Nat.le_of_ble_eq_true rfl⟩) hS hFc hFc rfl (fun t H locs ht hB hk1 hS => ?_)
      obtain ⟨X1, Y1, hlo9, hhi9, hP1, hD1⟩ := hB
      rw [ht] at hP1
      obtain ⟨hP, hD⟩ := zn (W2 := [_, _, (oc6 r (.ref rx) (.ref ry) (nI (n - 1)) rg), (oa rx cI cap X1), (oa ry cI cap Y1), _, _, _]) hP hD hk1 hFc hP1 hD1 [2, 3, 4] [true, true, false, false, false, true, true, true] [true, true, false, false, false, true, true, true] [2, 3, 4] (by decide +kernel) rfl rfl rfl rfl rfl
      clear hk1 hPc hDc hFc hP1 hD1 ht
      obtain ⟨hP9, hD9⟩ := zu_sub (wc := [_, _, _, _, _, _, _, _]) hP hD [true, true, true, true, true, true, true, true] rfl rfl
      rw [hQ9]
      exact W.vret hx hb hr (fun t ht hW => ⟨⟨rfl, X1, Y1, (hlo9), (hhi9), by rw [ht]; exact hP9, hD9⟩, hS.F ht⟩) hS.2.2 dX2_lose_117
    · have c_3 : ((n : Nat) : Int) ≤ ((k : Nat) : Int) := zc_nlt (nI_toInt b9_2) (nI_toInt b9_4) c_3
      exfalso; omega
set_option maxHeartbeats 4000000 in
set_option maxRecDepth 100000 in
theorem k_Feature_lose (l : Launch) (dC : Nat → ClassId) (dI : Nat → Nat → Nat) (cI cZ cF : ClassId) (sz : Nat) (fe : Nat) (lo : Nat) (rk9 : Int32) (wd9 : Int32) (tw9 : Int32) (pa9 : Int32) (pb9 : Int32) (lk : Nat) (kd9 : Int32) (st9 : Int32) (gb9 : Int32) (jt9 : Int32) (k : Nat) (wn : Nat) (r : Nat) (rx : Nat) (ry : Nat) (n : Nat) (cap : Nat) (X : Nat → Int32) (Y : Nat → Int32) (rg : Int32) (lx : Nat) (ly : Nat) (ln9 : Nat) (cl9 : Nat) (LX : Nat → Int32) (LY : Nat → Int32) (hkn : k < n) (hn : n ≤ cap) (hcap : cap ≤ 1000) (hwn : wn < cl9) (hcl : cl9 ≤ 1000) (hrg : rg = 0 ∨ rg = 1) : zM l yX2_lose cX2_lose 2 none ({ frames := 5, cells := 4, slots := 2 * n + 10, locals := 95 } : Room) [.ref fe, .int (nI k)] (dC, dI) (zTy cI cZ cF) [(oc1 fe rk9 wd9 tw9 pa9 pb9 (.ref lo) (.ref lk) .null), (oc4 lk kd9 st9 (.ref r) gb9 jt9 (nI wn)), (oc6 r (.ref rx) (.ref ry) (nI n) rg), (oa rx cI cap X), (oa ry cI cap Y), (oc6 lo (.ref lx) (.ref ly) (nI ln9) 0), (oa lx cI cl9 LX), (oa ly cI cl9 LY)] sz none (fun A t => ∃ (q : Nat), ∃ (w : Nat), ∃ (wx : Nat), ∃ (wy : Nat), ∃ (X2 : Nat → Int32), ∃ (Y2 : Nat → Int32), (∀ j, j < k → X2 j = X j ∧ Y2 j = Y j) ∧ (∀ j, k ≤ j → j < n - 1 → X2 j = X (j + 1) ∧ Y2 j = Y (j + 1)) ∧ zPD (dC, dI) classes A [(oc1 fe rk9 wd9 tw9 pa9 pb9 (.ref lo) (.ref q) (.ref lk)), (oc4 lk kd9 st9 (.ref r) gb9 jt9 (nI wn)), (oc4 q kd9 st9 (.ref w) gb9 jt9 (nI (wn + 1))), (oc6 r (.ref rx) (.ref ry) (nI n) rg), (oa rx cI cap X), (oa ry cI cap Y), (oc6 w (.ref wx) (.ref wy) (nI (n - 1)) rg), (oa wx cI n X2), (oa wy cI n Y2), (oc6 lo (.ref lx) (.ref ly) (nI (wn + 1)) 0), (oa lx cI cl9 (upd LX wn (X k))), (oa ly cI cl9 (upd LY wn (Y k)))] t.heap) 4 (2 * n + 10) := by
  refine zIn (own := "ScaleShop$Feature") (loc := [(0, .ref fe), (1, .int (nI k))]) rfl rfl rfl rfl (fun p e s m below meth c hx hb hr hts hown hlocks hml hnm9 A hA hS hP hD hK hXN Q9 hQ9 ls hl => ?_)
  refine lv_aload_n hx hb dX2_lose_0 rfl (lv_at hl 0 rfl) ?_
  refine va_get (D := (dC, dI)) (ci := 1) (v := .ref lk) (C := RX2) (T := TX2) (N := 8) hx hb hts inX2 hown hK hP 0 rfl rfl 6 (Nat.le_of_ble_eq_true rfl) (hts _ mw_429) (fun _ h9 => h9) rfl dX2_lose_1 ?_
  refine va_get (D := (dC, dI)) (ci := 4) (v := .ref r) (C := RX5) (T := TX5) (N := 6) hx hb hts inX5 hown hK hP 1 rfl rfl 2 (Nat.le_of_ble_eq_true rfl) (hts _ mw_392) (fun _ h9 => h9) rfl dX2_lose_4 ?_
  refine lv_ifnull hx hb dX2_lose_7 ?_
  refine lv_iload_n hx hb dX2_lose_10 rfl (lv_at hl 1 rfl) ?_
  have b9_2 : k < 2147483648 := by omega
  refine lv_if_lt (tgt := 28) hx hb dX2_lose_11 rfl (fun c_1 => ?_) (fun c_1 => ?_)
  · have c_1 : ((k : Nat) : Int) < 0 := zc_lt (nI_toInt b9_2) rfl c_1
    exfalso; omega
  · have c_1 : 0 ≤ ((k : Nat) : Int) := zc_nlt (nI_toInt b9_2) rfl c_1
    refine lv_iload_n hx hb dX2_lose_14 rfl (lv_at hl 1 rfl) ?_
    refine lv_aload_n hx hb dX2_lose_15 rfl (lv_at hl 0 rfl) ?_
    refine va_get (D := (dC, dI)) (ci := 1) (v := .ref lk) (C := RX2) (T := TX2) (N := 8) hx hb hts inX2 hown hK hP 0 rfl rfl 6 (Nat.le_of_ble_eq_true rfl) (hts _ mw_429) (fun _ h9 => h9) rfl dX2_lose_16 ?_
    refine va_get (D := (dC, dI)) (ci := 4) (v := .ref r) (C := RX5) (T := TX5) (N := 6) hx hb hts inX5 hown hK hP 1 rfl rfl 2 (Nat.le_of_ble_eq_true rfl) (hts _ mw_392) (fun _ h9 => h9) rfl dX2_lose_19 ?_
    refine va_get (D := (dC, dI)) (ci := 6) (v := .int (nI n)) (C := RX7) (T := TX7) (N := 4) hx hb hts inX7 hown hK hP 2 rfl rfl 2 (Nat.le_of_ble_eq_true rfl) (hts _ mw_178) (fun _ h9 => h9) rfl dX2_lose_22 ?_
    have b9_4 : n < 2147483648 := by omega
    refine lv_icmp_lt (tgt := 29) hx hb dX2_lose_25 rfl (fun c_3 => ?_) (fun c_3 => ?_)
    · have c_3 : ((k : Nat) : Int) < ((n : Nat) : Int) := zc_lt (nI_toInt b9_2) (nI_toInt b9_4) c_3
      refine lv_aload_n hx hb dX2_lose_29 rfl (lv_at hl 0 rfl) ?_
      refine va_get (D := (dC, dI)) (ci := 1) (v := .null) (C := RX2) (T := TX2) (N := 8) hx hb hts inX2 hown hK hP 0 rfl rfl 7 (Nat.le_of_ble_eq_true rfl) (hts _ mw_436) (fun _ h9 => h9) rfl dX2_lose_30 ?_
      refine lv_ifnonnullN hx hb dX2_lose_33 ?_
      refine lv_aload_n hx hb dX2_lose_36 rfl (lv_at hl 0 rfl) ?_
      refine lv_aload_n hx hb dX2_lose_37 rfl (lv_at hl 0 rfl) ?_
      refine va_get (D := (dC, dI)) (ci := 1) (v := .ref lk) (C := RX2) (T := TX2) (N := 8) hx hb hts inX2 hown hK hP 0 rfl rfl 6 (Nat.le_of_ble_eq_true rfl) (hts _ mw_429) (fun _ h9 => h9) rfl dX2_lose_38 ?_
      refine va_get (D := (dC, dI)) (ci := 4) (v := .ref r) (C := RX5) (T := TX5) (N := 6) hx hb hts inX5 hown hK hP 1 rfl rfl 2 (Nat.le_of_ble_eq_true rfl) (hts _ mw_392) (fun _ h9 => h9) rfl dX2_lose_41 ?_
      obtain ⟨hPc, hDc, hFc⟩ := zo_sub (wc := [_, _, _, _, _]) hP hD hS hA [0, 1, 2, 3, 4] (by decide +kernel) rfl
      refine zcall (st1 := []) (va_runV (As := [.ref r]) (rest := []) ⟨hx, hb, hml, hown, hts⟩ (k_Feature_reshape_o l dC dI cI cZ cF s.heap.size fe lo rk9 wd9 tw9 pa9 pb9 lk kd9 st9 gb9 jt9 (nI wn) r rx ry n cap X Y rg (by first | with_reducible assumption | omega) (by first | with_reducible assumption | omega) (by first | with_reducible assumption | assumption)) (csV_34 hts rfl rfl ⟨Nat.le_of_ble_eq_true rfl, Nat.le_of_ble_eq_true rfl⟩) (zPV2 (q0 := 0) (ci := 1) hPc hDc hK hXN rfl rfl) rfl rfl hl.1 rfl (lv_room (Nat.le_of_ble_eq_true rfl)) dX2_lose_44 ⟨show (0 + 4) ≤ 4 by omega, show (0 + (2 * n + 10)) ≤ 2 * n + 10 by omega⟩) hS hFc hFc rfl (fun t H locs ht hB hk1 hS => ?_)
      obtain ⟨q, w, wx, wy, X1, Y1, hall, hP1, hD1⟩ := hB
      rw [ht] at hP1
      obtain ⟨hP, hD⟩ := zn (W2 := [_, _, _, (oc1 fe rk9 wd9 tw9 pa9 pb9 (.ref lo) (.ref q) (.ref lk)), (oc4 lk kd9 st9 (.ref r) gb9 jt9 (nI wn)), (oc4 q kd9 st9 (.ref w) gb9 jt9 (nI wn)), (oc6 r (.ref rx) (.ref ry) (nI n) rg), (oa rx cI cap X), (oa ry cI cap Y), (oc6 w (.ref wx) (.ref wy) (nI n) rg), (oa wx cI n X1), (oa wy cI n Y1)]) hP hD hk1 hFc hP1 hD1 [0, 1, 2, 3, 4] [false, false, false, false, false, true, true, true] [true, true, true, false, false, false, false, false, false, false, false, false] [3, 4, 5, 6, 7, 8, 9, 10, 11] (by decide +kernel) rfl rfl rfl rfl rfl
      clear hk1 hPc hDc hFc hP1 hD1 ht
      refine lv_aload_n hx hb dX2_lose_47 rfl (lv_at hl 0 rfl) ?_
      refine va_get (D := (dC, dI)) (ci := 1) (v := .ref lo) (C := RX2) (T := TX2) (N := 8) hx hb hts inX2 hown hK hP 3 rfl rfl 5 (Nat.le_of_ble_eq_true rfl) (hts _ mw_426) (fun _ h9 => h9) rfl dX2_lose_48 ?_
      refine lv_aload_n hx hb dX2_lose_51 rfl (lv_at hl 0 rfl) ?_
      refine va_get (D := (dC, dI)) (ci := 1) (v := .ref q) (C := RX2) (T := TX2) (N := 8) hx hb hts inX2 hown hK hP 3 rfl rfl 6 (Nat.le_of_ble_eq_true rfl) (hts _ mw_429) (fun _ h9 => h9) rfl dX2_lose_52 ?_
      refine va_get (D := (dC, dI)) (ci := 4) (v := .int (nI wn)) (C := RX5) (T := TX5) (N := 6) hx hb hts inX5 hown hK hP 5 rfl rfl 5 (Nat.le_of_ble_eq_true rfl) (hts _ mw_400) (fun _ h9 => h9) rfl dX2_lose_55 ?_
      refine va_put (D := (dC, dI)) (ci := 6) (v := .int (nI wn)) (ty := .int) (C := RX7) (T := TX7) (N := 4) hx hb hts inX7 tyX7 tyX7_ok nmX7 hown hK hP hD hS 0 rfl rfl 2 (by decide) (hts _ mw_178) (fun _ h9 => h9) rfl (by decide +kernel) rfl rfl (Nat.le_of_ble_eq_true rfl) dX2_lose_58 (fun H locs hP hD hS => ?_)
      obtain ⟨hP, hD⟩ := zre (W2 := [(oc6 lo (.ref lx) (.ref ly) (nI wn) 0), _, _, _, _, _, _, _, _, _, _, _]) hP hD rfl
      refine lv_aload_n hx hb dX2_lose_61 rfl (lv_at hl 0 rfl) ?_
      refine va_get (D := (dC, dI)) (ci := 1) (v := .ref lo) (C := RX2) (T := TX2) (N := 8) hx hb hts inX2 hown hK hP 3 rfl rfl 5 (Nat.le_of_ble_eq_true rfl) (hts _ mw_426) (fun _ h9 => h9) rfl dX2_lose_62 ?_
      refine lv_aload_n hx hb dX2_lose_65 rfl (lv_at hl 0 rfl) ?_
      refine va_get (D := (dC, dI)) (ci := 1) (v := .ref q) (C := RX2) (T := TX2) (N := 8) hx hb hts inX2 hown hK hP 3 rfl rfl 6 (Nat.le_of_ble_eq_true rfl) (hts _ mw_429) (fun _ h9 => h9) rfl dX2_lose_66 ?_
      refine va_get (D := (dC, dI)) (ci := 4) (v := .ref w) (C := RX5) (T := TX5) (N := 6) hx hb hts inX5 hown hK hP 5 rfl rfl 2 (Nat.le_of_ble_eq_true rfl) (hts _ mw_392) (fun _ h9 => h9) rfl dX2_lose_69 ?_
      refine va_get (D := (dC, dI)) (ci := 6) (v := .ref wx) (C := RX7) (T := TX7) (N := 4) hx hb hts inX7 hown hK hP 9 rfl rfl 0 (Nat.le_of_ble_eq_true rfl) (hts _ mw_165) (fun _ h9 => h9) rfl dX2_lose_72 ?_
      refine lv_iload_n hx hb dX2_lose_75 rfl (lv_at hl 1 rfl) ?_
      have b9_5 : k < n := by omega
      refine z_iald hx hb hK hP 10 0 rfl rfl (e := k) rfl b9_5 b9_4 dX2_lose_76 ?_
      refine zz_i (v := X k) ((hall k (by omega)).1) ?_
      refine lv_aload_n hx hb dX2_lose_77 rfl (lv_at hl 0 rfl) ?_
      refine va_get (D := (dC, dI)) (ci := 1) (v := .ref q) (C := RX2) (T := TX2) (N := 8) hx hb hts inX2 hown hK hP 3 rfl rfl 6 (Nat.le_of_ble_eq_true rfl) (hts _ mw_429) (fun _ h9 => h9) rfl dX2_lose_78 ?_
      refine va_get (D := (dC, dI)) (ci := 4) (v := .ref w) (C := RX5) (T := TX5) (N := 6) hx hb hts inX5 hown hK hP 5 rfl rfl 2 (Nat.le_of_ble_eq_true rfl) (hts _ mw_392) (fun _ h9 => h9) rfl dX2_lose_81 ?_
      refine va_get (D := (dC, dI)) (ci := 6) (v := .ref wy) (C := RX7) (T := TX7) (N := 4) hx hb hts inX7 hown hK hP 9 rfl rfl 1 (Nat.le_of_ble_eq_true rfl) (hts _ mw_172) (fun _ h9 => h9) rfl dX2_lose_84 ?_
      refine lv_iload_n hx hb dX2_lose_87 rfl (lv_at hl 1 rfl) ?_
      refine z_iald hx hb hK hP 11 0 rfl rfl (e := k) rfl b9_5 b9_4 dX2_lose_88 ?_
      refine zz_i (v := Y k) ((hall k (by omega)).2) ?_
      obtain ⟨hPc, hDc, hFc⟩ := zo_sub (wc := [_, _, _]) hP hD hS hA [0, 1, 2] rfl rfl
      refine zcall (st1 := []) (va_runV (As := [.int (X k), .int (Y k)]) (rest := []) ⟨hx, hb, hml, hown, hts⟩ (k_Row_put l dC dI cI cZ cF H.size lo lx ly wn cl9 LX LY 0 (X k) (Y k) (by first | with_reducible assumption | omega) (by first | with_reducible assumption | omega)) (csV_32 hts rfl rfl ⟨Nat.le_of_ble_eq_true rfl, Nat.le_of_ble_eq_true rfl⟩) (zPV2 (q0 := 0) (ci := 6) hPc hDc hK hXN rfl rfl) rfl rfl hl.1 rfl (lv_room (Nat.le_of_ble_eq_true rfl)) dX2_lose_89 ⟨show (0 + 4) ≤ 4 by omega, show (0 + (2 * n + 10)) ≤ 2 * n + 10 by omega⟩) hS hFc hFc rfl (fun t H locs ht hB hk1 hS => ?_)
      obtain ⟨hP1, hD1⟩ := hB
      rw [ht] at hP1
      obtain ⟨hP, hD⟩ := zn (W2 := [(oc6 lo (.ref lx) (.ref ly) (nI (wn + 1)) 0), (oa lx cI cl9 (upd LX wn (X k))), (oa ly cI cl9 (upd LY wn (Y k))), _, _, _, _, _, _, _, _, _]) hP hD hk1 hFc hP1 hD1 [0, 1, 2] [false, false, false, true, true, true, true, true, true, true, true, true] [false, false, false, true, true, true, true, true, true, true, true, true] [0, 1, 2] (by decide +kernel) rfl rfl rfl rfl rfl
      clear hk1 hPc hDc hFc hP1 hD1 ht
      refine lv_aload_n hx hb dX2_lose_92 rfl (lv_at hl 0 rfl) ?_
      refine va_get (D := (dC, dI)) (ci := 1) (v := .ref q) (C := RX2) (T := TX2) (N := 8) hx hb hts inX2 hown hK hP 3 rfl rfl 6 (Nat.le_of_ble_eq_true rfl) (hts _ mw_429) (fun _ h9 => h9) rfl dX2_lose_93 ?_
      refine lv_aload_n hx hb dX2_lose_96 rfl (lv_at hl 0 rfl) ?_
      refine va_get (D := (dC, dI)) (ci := 1) (v := .ref lo) (C := RX2) (T := TX2) (N := 8) hx hb hts inX2 hown hK hP 3 rfl rfl 5 (Nat.le_of_ble_eq_true rfl) (hts _ mw_426) (fun _ h9 => h9) rfl dX2_lose_97 ?_
      refine va_get (D := (dC, dI)) (ci := 6) (v := .int (nI (wn + 1))) (C := RX7) (T := TX7) (N := 4) hx hb hts inX7 hown hK hP 0 rfl rfl 2 (Nat.le_of_ble_eq_true rfl) (hts _ mw_178) (fun _ h9 => h9) rfl dX2_lose_100 ?_
      refine va_put (D := (dC, dI)) (ci := 4) (v := .int (nI (wn + 1))) (ty := .int) (C := RX5) (T := TX5) (N := 6) hx hb hts inX5 tyX5 tyX5_ok nmX5 hown hK hP hD hS 5 rfl rfl 5 (by decide) (hts _ mw_400) (fun _ h9 => h9) rfl (by decide +kernel) rfl rfl (Nat.le_of_ble_eq_true rfl) dX2_lose_103 (fun H locs hP hD hS => ?_)
      obtain ⟨hP, hD⟩ := zre (W2 := [_, _, _, _, _, (oc4 q kd9 st9 (.ref w) gb9 jt9 (nI (wn + 1))), _, _, _, _, _, _]) hP hD rfl
      refine lv_aload_n hx hb dX2_lose_106 rfl (lv_at hl 0 rfl) ?_
      refine va_get (D := (dC, dI)) (ci := 1) (v := .ref q) (C := RX2) (T := TX2) (N := 8) hx hb hts inX2 hown hK hP 3 rfl rfl 6 (Nat.le_of_ble_eq_true rfl) (hts _ mw_429) (fun _ h9 => h9) rfl dX2_lose_107 ?_
      refine va_get (D := (dC, dI)) (ci := 4) (v := .ref w) (C := RX5) (T := TX5) (N := 6) hx hb hts inX5 hown hK hP 5 rfl rfl 2 (Nat.le_of_ble_eq_true rfl) (hts _ mw_392) (fun _ h9 => h9) rfl dX2_lose_110 ?_
      refine lv_iload_n hx hb dX2_lose_113 rfl (lv_at hl 1 rfl) ?_
      obtain ⟨hPc, hDc, hFc⟩ := zo_sub (wc := [_, _, _]) hP hD hS hA [9, 10, 11] rfl rfl
      refine zcall (st1 := []) (va_runV (As := [.int (nI k)]) (rest := []) ⟨hx, hb, hml, hown, hts⟩ (k_Row_cut l dC dI cI cZ cF H.size w wx wy n n X1 Y1 rg k (by first | with_reducible assumption | omega) (by first | with_reducible assumption | omega) (by first | with_reducible assumption | omega)) (csV_33 hts rfl rfl ⟨Nat.le_of_ble_eq_true rfl, Nat.le_of_ble_eq_true rfl⟩) (zPV2 (q0 := 0) (ci := 6) hPc hDc hK hXN rfl rfl) rfl rfl hl.1 rfl (lv_room (Nat.le_of_ble_eq_true rfl)) dX2_lose_114 ⟨show (0 + 4) ≤ 4 by omega, show (0 + (2 * n + 10)) ≤ 2 * n + 10 by omega⟩) hS hFc hFc rfl (fun t H locs ht hB hk1 hS => ?_)
      obtain ⟨X2, Y2, h1, h2, hP1, hD1⟩ := hB
      rw [ht] at hP1
      obtain ⟨hP, hD⟩ := zn (W2 := [_, _, _, _, _, _, _, _, _, (oc6 w (.ref wx) (.ref wy) (nI (n - 1)) rg), (oa wx cI n X2), (oa wy cI n Y2)]) hP hD hk1 hFc hP1 hD1 [9, 10, 11] [true, true, true, true, true, true, true, true, true] [true, true, true, true, true, true, true, true, true, false, false, false] [9, 10, 11] (by decide +kernel) rfl rfl rfl rfl rfl
      clear hk1 hPc hDc hFc hP1 hD1 ht
      obtain ⟨hP9, hD9⟩ := zq_sub (wc := [_, _, _, _, _, _, _, _, _, _, _, _]) hP hD [3, 4, 5, 6, 7, 8, 9, 10, 11, 0, 1, 2] rfl rfl
      refine W.widen (k := 4) (n := 2 * n + 10) (by omega) (by omega) ?_
      rw [hQ9]
      exact W.vret hx hb hr (fun t ht hW => ⟨⟨rfl, q, w, wx, wy, X2, Y2, (fun j hj => by rw [(h1 j hj).1, (h1 j hj).2]; exact hall j (by omega)), (fun j h3 h4 => by rw [(h2 j h3 h4).1, (h2 j h3 h4).2]; exact hall (j + 1) (by omega)), by rw [ht]; exact hP9, hD9⟩, hS.F ht⟩) hS.2.2 dX2_lose_117
    · have c_3 : ((n : Nat) : Int) ≤ ((k : Nat) : Int) := zc_nlt (nI_toInt b9_2) (nI_toInt b9_4) c_3
      exfalso; omega
set_option maxHeartbeats 4000000 in
set_option maxRecDepth 100000 in
theorem k_Change_init_n (l : Launch) (dC : Nat → ClassId) (dI : Nat → Nat → Nat) (cI cZ cF : ClassId) (sz : Nat) (ch : Nat) (lk : Nat) (fm : Nat) (fe : Nat) (lo : Nat) (rk9 : Int32) (wd9 : Int32) (tw9 : Int32) (pa9 : Int32) (pb9 : Int32) : zM l yX1_init cX1_init 3 none ({ frames := 1, cells := 0, slots := 0, locals := 12 } : Room) [.ref ch, .ref fe, .null] (dC, dI) (zTy cI cZ cF) [(oc12 ch .null .null .null .null), (oc1 fe rk9 wd9 tw9 pa9 pb9 (.ref lo) (.ref lk) (.ref fm))] sz none (fun A t => zPD (dC, dI) classes A [(oc12 ch (.ref fe) (.ref fm) (.ref lk) .null), (oc1 fe rk9 wd9 tw9 pa9 pb9 (.ref lo) (.ref lk) (.ref fm))] t.heap) 0 0 := by
  refine zIn (own := "ScaleShop$Change") (loc := [(0, .ref ch), (1, .ref fe), (2, .null)]) rfl rfl rfl rfl (fun p e s m below meth c hx hb hr hts hown hlocks hml hnm9 A hA hS hP hD hK hXN Q9 hQ9 ls hl => ?_)
  have hin : meth.name = "<init>" := hnm9
  refine lv_aload_n hx hb dX1_init_0 rfl (lv_at hl 0 rfl) ?_
  refine W.objInit hx hb hown (hts _ mw_789) (hts _ mw_126) (hts _ mw_objcode) rfl (by rw [hml]; exact hl.1) rfl dX1_init_1 (Nat.le_of_ble_eq_true rfl) (Nat.le_of_ble_eq_true rfl) ?_
  refine W.eq (g2 := F0 m 4 ls []) rfl ?_
  refine lv_aload_n hx hb dX1_init_4 rfl (lv_at hl 0 rfl) ?_
  refine lv_aload_n hx hb dX1_init_5 rfl (lv_at hl 1 rfl) ?_
  refine va_putF (D := (dC, dI)) (ci := 12) (v := .ref fe) (ty := .object "ScaleShop$Feature") (C := RX1) (T := TX1) (N := 4) hx hb hts inX1 tyX1 tyX1_ok nmX1 hown hK hP hD hS 0 rfl rfl 0 (by decide) (hts _ mw_790) (fun _ h9 => h9) rfl hin rfl (by decide +kernel) rfl rfl (Nat.le_of_ble_eq_true rfl) dX1_init_6 (fun H locs hP hD hS => ?_)
  obtain ⟨hP, hD⟩ := zre (W2 := [(oc12 ch (.ref fe) .null .null .null), _]) hP hD rfl
  refine lv_aload_n hx hb dX1_init_9 rfl (lv_at hl 0 rfl) ?_
  refine lv_aload_n hx hb dX1_init_10 rfl (lv_at hl 1 rfl) ?_
  refine va_get (D := (dC, dI)) (ci := 1) (v := .ref fm) (C := RX2) (T := TX2) (N := 8) hx hb hts inX2 hown hK hP 1 rfl rfl 7 (Nat.le_of_ble_eq_true rfl) (hts _ mw_435) (fun _ h9 => h9) rfl dX1_init_11 ?_
  refine va_putF (D := (dC, dI)) (ci := 12) (v := .ref fm) (ty := .object "ScaleShop$Look") (C := RX1) (T := TX1) (N := 4) hx hb hts inX1 tyX1 tyX1_ok nmX1 hown hK hP hD hS 0 rfl rfl 1 (by decide) (hts _ mw_792) (fun _ h9 => h9) rfl hin rfl (by decide +kernel) rfl rfl (Nat.le_of_ble_eq_true rfl) dX1_init_14 (fun H locs hP hD hS => ?_)
  obtain ⟨hP, hD⟩ := zre (W2 := [(oc12 ch (.ref fe) (.ref fm) .null .null), _]) hP hD rfl
  refine lv_aload_n hx hb dX1_init_17 rfl (lv_at hl 0 rfl) ?_
  refine lv_aload_n hx hb dX1_init_18 rfl (lv_at hl 1 rfl) ?_
  refine va_get (D := (dC, dI)) (ci := 1) (v := .ref lk) (C := RX2) (T := TX2) (N := 8) hx hb hts inX2 hown hK hP 1 rfl rfl 6 (Nat.le_of_ble_eq_true rfl) (hts _ mw_428) (fun _ h9 => h9) rfl dX1_init_19 ?_
  refine va_putF (D := (dC, dI)) (ci := 12) (v := .ref lk) (ty := .object "ScaleShop$Look") (C := RX1) (T := TX1) (N := 4) hx hb hts inX1 tyX1 tyX1_ok nmX1 hown hK hP hD hS 0 rfl rfl 2 (by decide) (hts _ mw_794) (fun _ h9 => h9) rfl hin rfl (by decide +kernel) rfl rfl (Nat.le_of_ble_eq_true rfl) dX1_init_22 (fun H locs hP hD hS => ?_)
  obtain ⟨hP, hD⟩ := zre (W2 := [(oc12 ch (.ref fe) (.ref fm) (.ref lk) .null), _]) hP hD rfl
  refine lv_aload_n hx hb dX1_init_25 rfl (lv_at hl 0 rfl) ?_
  refine lv_aload_nN hx hb dX1_init_26 rfl (lv_at hl 2 rfl) ?_
  refine va_putF (D := (dC, dI)) (ci := 12) (v := .null) (ty := .object "ScaleShop$Change") (C := RX1) (T := TX1) (N := 4) hx hb hts inX1 tyX1 tyX1_ok nmX1 hown hK hP hD hS 0 rfl rfl 3 (by decide) (hts _ mw_796) (fun _ h9 => h9) rfl hin rfl (by decide +kernel) rfl rfl (Nat.le_of_ble_eq_true rfl) dX1_init_27 (fun H locs hP hD hS => ?_)
  obtain ⟨hP, hD⟩ := zre (W2 := [(oc12 ch (.ref fe) (.ref fm) (.ref lk) .null), _]) hP hD rfl
  obtain ⟨hP9, hD9⟩ := zu_sub (wc := [_, _]) hP hD [true, true] rfl rfl
  rw [hQ9]
  exact W.vret hx hb hr (fun t ht hW => ⟨⟨rfl, by rw [ht]; exact hP9, hD9⟩, hS.F ht⟩) hS.2.2 dX1_init_30
set_option maxHeartbeats 4000000 in
set_option maxRecDepth 100000 in
theorem k_Change_init (l : Launch) (dC : Nat → ClassId) (dI : Nat → Nat → Nat) (cI cZ cF : ClassId) (sz : Nat) (ch : Nat) (nx : Nat) (lk : Nat) (fm : Nat) (fe : Nat) (lo : Nat) (rk9 : Int32) (wd9 : Int32) (tw9 : Int32) (pa9 : Int32) (pb9 : Int32) : zM l yX1_init cX1_init 3 none ({ frames := 1, cells := 0, slots := 0, locals := 12 } : Room) [.ref ch, .ref fe, .ref nx] (dC, dI) (zTy cI cZ cF) [(oc12 ch .null .null .null .null), (oc1 fe rk9 wd9 tw9 pa9 pb9 (.ref lo) (.ref lk) (.ref fm))] sz none (fun A t => zPD (dC, dI) classes A [(oc12 ch (.ref fe) (.ref fm) (.ref lk) (.ref nx)), (oc1 fe rk9 wd9 tw9 pa9 pb9 (.ref lo) (.ref lk) (.ref fm))] t.heap) 0 0 := by
  refine zIn (own := "ScaleShop$Change") (loc := [(0, .ref ch), (1, .ref fe), (2, .ref nx)]) rfl rfl rfl rfl (fun p e s m below meth c hx hb hr hts hown hlocks hml hnm9 A hA hS hP hD hK hXN Q9 hQ9 ls hl => ?_)
  have hin : meth.name = "<init>" := hnm9
  refine lv_aload_n hx hb dX1_init_0 rfl (lv_at hl 0 rfl) ?_
  refine W.objInit hx hb hown (hts _ mw_789) (hts _ mw_126) (hts _ mw_objcode) rfl (by rw [hml]; exact hl.1) rfl dX1_init_1 (Nat.le_of_ble_eq_true rfl) (Nat.le_of_ble_eq_true rfl) ?_
  refine W.eq (g2 := F0 m 4 ls []) rfl ?_
  refine lv_aload_n hx hb dX1_init_4 rfl (lv_at hl 0 rfl) ?_
  refine lv_aload_n hx hb dX1_init_5 rfl (lv_at hl 1 rfl) ?_
  refine va_putF (D := (dC, dI)) (ci := 12) (v := .ref fe) (ty := .object "ScaleShop$Feature") (C := RX1) (T := TX1) (N := 4) hx hb hts inX1 tyX1 tyX1_ok nmX1 hown hK hP hD hS 0 rfl rfl 0 (by decide) (hts _ mw_790) (fun _ h9 => h9) rfl hin rfl (by decide +kernel) rfl rfl (Nat.le_of_ble_eq_true rfl) dX1_init_6 (fun H locs hP hD hS => ?_)
  obtain ⟨hP, hD⟩ := zre (W2 := [(oc12 ch (.ref fe) .null .null .null), _]) hP hD rfl
  refine lv_aload_n hx hb dX1_init_9 rfl (lv_at hl 0 rfl) ?_
  refine lv_aload_n hx hb dX1_init_10 rfl (lv_at hl 1 rfl) ?_
  refine va_get (D := (dC, dI)) (ci := 1) (v := .ref fm) (C := RX2) (T := TX2) (N := 8) hx hb hts inX2 hown hK hP 1 rfl rfl 7 (Nat.le_of_ble_eq_true rfl) (hts _ mw_435) (fun _ h9 => h9) rfl dX1_init_11 ?_
  refine va_putF (D := (dC, dI)) (ci := 12) (v := .ref fm) (ty := .object "ScaleShop$Look") (C := RX1) (T := TX1) (N := 4) hx hb hts inX1 tyX1 tyX1_ok nmX1 hown hK hP hD hS 0 rfl rfl 1 (by decide) (hts _ mw_792) (fun _ h9 => h9) rfl hin rfl (by decide +kernel) rfl rfl (Nat.le_of_ble_eq_true rfl) dX1_init_14 (fun H locs hP hD hS => ?_)
  obtain ⟨hP, hD⟩ := zre (W2 := [(oc12 ch (.ref fe) (.ref fm) .null .null), _]) hP hD rfl
  refine lv_aload_n hx hb dX1_init_17 rfl (lv_at hl 0 rfl) ?_
  refine lv_aload_n hx hb dX1_init_18 rfl (lv_at hl 1 rfl) ?_
  refine va_get (D := (dC, dI)) (ci := 1) (v := .ref lk) (C := RX2) (T := TX2) (N := 8) hx hb hts inX2 hown hK hP 1 rfl rfl 6 (Nat.le_of_ble_eq_true rfl) (hts _ mw_428) (fun _ h9 => h9) rfl dX1_init_19 ?_
  refine va_putF (D := (dC, dI)) (ci := 12) (v := .ref lk) (ty := .object "ScaleShop$Look") (C := RX1) (T := TX1) (N := 4) hx hb hts inX1 tyX1 tyX1_ok nmX1 hown hK hP hD hS 0 rfl rfl 2 (by decide) (hts _ mw_794) (fun _ h9 => h9) rfl hin rfl (by decide +kernel) rfl rfl (Nat.le_of_ble_eq_true rfl) dX1_init_22 (fun H locs hP hD hS => ?_)
  obtain ⟨hP, hD⟩ := zre (W2 := [(oc12 ch (.ref fe) (.ref fm) (.ref lk) .null), _]) hP hD rfl
  refine lv_aload_n hx hb dX1_init_25 rfl (lv_at hl 0 rfl) ?_
  refine lv_aload_n hx hb dX1_init_26 rfl (lv_at hl 2 rfl) ?_
  refine va_putF (D := (dC, dI)) (ci := 12) (v := .ref nx) (ty := .object "ScaleShop$Change") (C := RX1) (T := TX1) (N := 4) hx hb hts inX1 tyX1 tyX1_ok nmX1 hown hK hP hD hS 0 rfl rfl 3 (by decide) (hts _ mw_796) (fun _ h9 => h9) rfl hin rfl (by decide +kernel) rfl rfl (Nat.le_of_ble_eq_true rfl) dX1_init_27 (fun H locs hP hD hS => ?_)
  obtain ⟨hP, hD⟩ := zre (W2 := [(oc12 ch (.ref fe) (.ref fm) (.ref lk) (.ref nx)), _]) hP hD rfl
  obtain ⟨hP9, hD9⟩ := zu_sub (wc := [_, _]) hP hD [true, true] rfl rfl
  rw [hQ9]
  exact W.vret hx hb hr (fun t ht hW => ⟨⟨rfl, by rw [ht]; exact hP9, hD9⟩, hS.F ht⟩) hS.2.2 dX1_init_30
set_option maxHeartbeats 4000000 in
set_option maxRecDepth 100000 in
theorem k_Step_init_n (l : Launch) (dC : Nat → ClassId) (dI : Nat → Nat → Nat) (cI cZ cF : ClassId) (sz : Nat) (sp : Nat) (e1 : Int32) (e2 : Int32) (e3 : Int32) : zM l yX9_init cX9_init 5 none ({ frames := 1, cells := 0, slots := 0, locals := 12 } : Room) [.ref sp, .int e1, .int e2, .int e3, .null] (dC, dI) (zTy cI cZ cF) [(oc11 sp 0 0 0 .null .null)] sz none (fun A t => zPD (dC, dI) classes A [(oc11 sp e1 e2 e3 .null .null)] t.heap) 0 0 := by
  refine zIn (own := "ScaleShop$Step") (loc := [(0, .ref sp), (1, .int e1), (2, .int e2), (3, .int e3), (4, .null)]) rfl rfl rfl rfl (fun p e s m below meth c hx hb hr hts hown hlocks hml hnm9 A hA hS hP hD hK hXN Q9 hQ9 ls hl => ?_)
  have hin : meth.name = "<init>" := hnm9
  refine lv_aload_n hx hb dX9_init_0 rfl (lv_at hl 0 rfl) ?_
  refine W.objInit hx hb hown (hts _ mw_762) (hts _ mw_126) (hts _ mw_objcode) rfl (by rw [hml]; exact hl.1) rfl dX9_init_1 (Nat.le_of_ble_eq_true rfl) (Nat.le_of_ble_eq_true rfl) ?_
  refine W.eq (g2 := F0 m 4 ls []) rfl ?_
  refine lv_aload_n hx hb dX9_init_4 rfl (lv_at hl 0 rfl) ?_
  refine lv_null hx hb dX9_init_5 ?_
  refine va_put (D := (dC, dI)) (ci := 11) (v := .null) (ty := .object "ScaleShop$Change") (C := RX9) (T := TX9) (N := 5) hx hb hts inX9 tyX9 tyX9_ok nmX9 hown hK hP hD hS 0 rfl rfl 4 (by decide) (hts _ mw_771) (fun _ h9 => h9) rfl (by decide +kernel) rfl rfl (Nat.le_of_ble_eq_true rfl) dX9_init_6 (fun H locs hP hD hS => ?_)
  obtain ⟨hP, hD⟩ := zre (W2 := [(oc11 sp 0 0 0 .null .null)]) hP hD rfl
  refine lv_aload_n hx hb dX9_init_9 rfl (lv_at hl 0 rfl) ?_
  refine lv_iload_n hx hb dX9_init_10 rfl (lv_at hl 1 rfl) ?_
  refine va_putF (D := (dC, dI)) (ci := 11) (v := .int e1) (ty := .int) (C := RX9) (T := TX9) (N := 5) hx hb hts inX9 tyX9 tyX9_ok nmX9 hown hK hP hD hS 0 rfl rfl 0 (by decide) (hts _ mw_763) (fun _ h9 => h9) rfl hin rfl (by decide +kernel) rfl rfl (Nat.le_of_ble_eq_true rfl) dX9_init_11 (fun H locs hP hD hS => ?_)
  obtain ⟨hP, hD⟩ := zre (W2 := [(oc11 sp e1 0 0 .null .null)]) hP hD rfl
  refine lv_aload_n hx hb dX9_init_14 rfl (lv_at hl 0 rfl) ?_
  refine lv_iload_n hx hb dX9_init_15 rfl (lv_at hl 2 rfl) ?_
  refine va_putF (D := (dC, dI)) (ci := 11) (v := .int e2) (ty := .int) (C := RX9) (T := TX9) (N := 5) hx hb hts inX9 tyX9 tyX9_ok nmX9 hown hK hP hD hS 0 rfl rfl 1 (by decide) (hts _ mw_765) (fun _ h9 => h9) rfl hin rfl (by decide +kernel) rfl rfl (Nat.le_of_ble_eq_true rfl) dX9_init_16 (fun H locs hP hD hS => ?_)
  obtain ⟨hP, hD⟩ := zre (W2 := [(oc11 sp e1 e2 0 .null .null)]) hP hD rfl
  refine lv_aload_n hx hb dX9_init_19 rfl (lv_at hl 0 rfl) ?_
  refine lv_iload_n hx hb dX9_init_20 rfl (lv_at hl 3 rfl) ?_
  refine va_putF (D := (dC, dI)) (ci := 11) (v := .int e3) (ty := .int) (C := RX9) (T := TX9) (N := 5) hx hb hts inX9 tyX9 tyX9_ok nmX9 hown hK hP hD hS 0 rfl rfl 2 (by decide) (hts _ mw_767) (fun _ h9 => h9) rfl hin rfl (by decide +kernel) rfl rfl (Nat.le_of_ble_eq_true rfl) dX9_init_21 (fun H locs hP hD hS => ?_)
  obtain ⟨hP, hD⟩ := zre (W2 := [(oc11 sp e1 e2 e3 .null .null)]) hP hD rfl
  refine lv_aload_n hx hb dX9_init_24 rfl (lv_at hl 0 rfl) ?_
  refine lv_aloadN hx hb dX9_init_25 (lv_at hl 4 rfl) ?_
  refine va_putF (D := (dC, dI)) (ci := 11) (v := .null) (ty := .object "ScaleShop$Feature") (C := RX9) (T := TX9) (N := 5) hx hb hts inX9 tyX9 tyX9_ok nmX9 hown hK hP hD hS 0 rfl rfl 3 (by decide) (hts _ mw_769) (fun _ h9 => h9) rfl hin rfl (by decide +kernel) rfl rfl (Nat.le_of_ble_eq_true rfl) dX9_init_27 (fun H locs hP hD hS => ?_)
  obtain ⟨hP, hD⟩ := zre (W2 := [(oc11 sp e1 e2 e3 .null .null)]) hP hD rfl
  obtain ⟨hP9, hD9⟩ := zu_sub (wc := [_]) hP hD [true] rfl rfl
  rw [hQ9]
  exact W.vret hx hb hr (fun t ht hW => ⟨⟨rfl, by rw [ht]; exact hP9, hD9⟩, hS.F ht⟩) hS.2.2 dX9_init_30
set_option maxHeartbeats 4000000 in
set_option maxRecDepth 100000 in
theorem k_Step_init (l : Launch) (dC : Nat → ClassId) (dI : Nat → Nat → Nat) (cI cZ cF : ClassId) (sz : Nat) (sp : Nat) (e1 : Int32) (e2 : Int32) (e3 : Int32) (md : Nat) : zM l yX9_init cX9_init 5 none ({ frames := 1, cells := 0, slots := 0, locals := 12 } : Room) [.ref sp, .int e1, .int e2, .int e3, .ref md] (dC, dI) (zTy cI cZ cF) [(oc11 sp 0 0 0 .null .null)] sz none (fun A t => zPD (dC, dI) classes A [(oc11 sp e1 e2 e3 (.ref md) .null)] t.heap) 0 0 := by
  refine zIn (own := "ScaleShop$Step") (loc := [(0, .ref sp), (1, .int e1), (2, .int e2), (3, .int e3), (4, .ref md)]) rfl rfl rfl rfl (fun p e s m below meth c hx hb hr hts hown hlocks hml hnm9 A hA hS hP hD hK hXN Q9 hQ9 ls hl => ?_)
  have hin : meth.name = "<init>" := hnm9
  refine lv_aload_n hx hb dX9_init_0 rfl (lv_at hl 0 rfl) ?_
  refine W.objInit hx hb hown (hts _ mw_762) (hts _ mw_126) (hts _ mw_objcode) rfl (by rw [hml]; exact hl.1) rfl dX9_init_1 (Nat.le_of_ble_eq_true rfl) (Nat.le_of_ble_eq_true rfl) ?_
  refine W.eq (g2 := F0 m 4 ls []) rfl ?_
  refine lv_aload_n hx hb dX9_init_4 rfl (lv_at hl 0 rfl) ?_
  refine lv_null hx hb dX9_init_5 ?_
  refine va_put (D := (dC, dI)) (ci := 11) (v := .null) (ty := .object "ScaleShop$Change") (C := RX9) (T := TX9) (N := 5) hx hb hts inX9 tyX9 tyX9_ok nmX9 hown hK hP hD hS 0 rfl rfl 4 (by decide) (hts _ mw_771) (fun _ h9 => h9) rfl (by decide +kernel) rfl rfl (Nat.le_of_ble_eq_true rfl) dX9_init_6 (fun H locs hP hD hS => ?_)
  obtain ⟨hP, hD⟩ := zre (W2 := [(oc11 sp 0 0 0 .null .null)]) hP hD rfl
  refine lv_aload_n hx hb dX9_init_9 rfl (lv_at hl 0 rfl) ?_
  refine lv_iload_n hx hb dX9_init_10 rfl (lv_at hl 1 rfl) ?_
  refine va_putF (D := (dC, dI)) (ci := 11) (v := .int e1) (ty := .int) (C := RX9) (T := TX9) (N := 5) hx hb hts inX9 tyX9 tyX9_ok nmX9 hown hK hP hD hS 0 rfl rfl 0 (by decide) (hts _ mw_763) (fun _ h9 => h9) rfl hin rfl (by decide +kernel) rfl rfl (Nat.le_of_ble_eq_true rfl) dX9_init_11 (fun H locs hP hD hS => ?_)
  obtain ⟨hP, hD⟩ := zre (W2 := [(oc11 sp e1 0 0 .null .null)]) hP hD rfl
  refine lv_aload_n hx hb dX9_init_14 rfl (lv_at hl 0 rfl) ?_
  refine lv_iload_n hx hb dX9_init_15 rfl (lv_at hl 2 rfl) ?_
  refine va_putF (D := (dC, dI)) (ci := 11) (v := .int e2) (ty := .int) (C := RX9) (T := TX9) (N := 5) hx hb hts inX9 tyX9 tyX9_ok nmX9 hown hK hP hD hS 0 rfl rfl 1 (by decide) (hts _ mw_765) (fun _ h9 => h9) rfl hin rfl (by decide +kernel) rfl rfl (Nat.le_of_ble_eq_true rfl) dX9_init_16 (fun H locs hP hD hS => ?_)
  obtain ⟨hP, hD⟩ := zre (W2 := [(oc11 sp e1 e2 0 .null .null)]) hP hD rfl
  refine lv_aload_n hx hb dX9_init_19 rfl (lv_at hl 0 rfl) ?_
  refine lv_iload_n hx hb dX9_init_20 rfl (lv_at hl 3 rfl) ?_
  refine va_putF (D := (dC, dI)) (ci := 11) (v := .int e3) (ty := .int) (C := RX9) (T := TX9) (N := 5) hx hb hts inX9 tyX9 tyX9_ok nmX9 hown hK hP hD hS 0 rfl rfl 2 (by decide) (hts _ mw_767) (fun _ h9 => h9) rfl hin rfl (by decide +kernel) rfl rfl (Nat.le_of_ble_eq_true rfl) dX9_init_21 (fun H locs hP hD hS => ?_)
  obtain ⟨hP, hD⟩ := zre (W2 := [(oc11 sp e1 e2 e3 .null .null)]) hP hD rfl
  refine lv_aload_n hx hb dX9_init_24 rfl (lv_at hl 0 rfl) ?_
  refine lv_aload hx hb dX9_init_25 (lv_at hl 4 rfl) ?_
  refine va_putF (D := (dC, dI)) (ci := 11) (v := .ref md) (ty := .object "ScaleShop$Feature") (C := RX9) (T := TX9) (N := 5) hx hb hts inX9 tyX9 tyX9_ok nmX9 hown hK hP hD hS 0 rfl rfl 3 (by decide) (hts _ mw_769) (fun _ h9 => h9) rfl hin rfl (by decide +kernel) rfl rfl (Nat.le_of_ble_eq_true rfl) dX9_init_27 (fun H locs hP hD hS => ?_)
  obtain ⟨hP, hD⟩ := zre (W2 := [(oc11 sp e1 e2 e3 (.ref md) .null)]) hP hD rfl
  obtain ⟨hP9, hD9⟩ := zu_sub (wc := [_]) hP hD [true] rfl rfl
  rw [hQ9]
  exact W.vret hx hb hr (fun t ht hW => ⟨⟨rfl, by rw [ht]; exact hP9, hD9⟩, hS.F ht⟩) hS.2.2 dX9_init_30
set_option maxHeartbeats 4000000 in
set_option maxRecDepth 100000 in
theorem k_Sheet_isFull (l : Launch) (dC : Nat → ClassId) (dI : Nat → Nat → Nat) (cI cZ cF : ClassId) (sz : Nat) (sh : Nat) (fa : Nat) (ft : Nat) (FA : Nat → Option Nat) (h200 : ft ≤ 200) : zM l yX8_isFull cX8_isFull 1 (some .boolean) ({ frames := 0, cells := 0, slots := 0, locals := 0 } : Room) [.ref sh] (dC, dI) (zTy cI cZ cF) [(oc7 sh (.ref fa) (nI ft)), (oq fa cF 200 FA)] sz (some (.int (pI (ft = 200)))) (fun A t => zPD (dC, dI) classes A [(oc7 sh (.ref fa) (nI ft)), (oq fa cF 200 FA)] t.heap) 0 0 := by
  refine zIn (own := "ScaleShop$Sheet") (loc := [(0, .ref sh)]) rfl rfl rfl rfl (fun p e s m below meth c hx hb hr hts hown hlocks hml hnm9 A hA hS hP hD hK hXN Q9 hQ9 ls hl => ?_)
  refine lv_aload_n hx hb dX8_isFull_0 rfl (lv_at hl 0 rfl) ?_
  refine va_get (D := (dC, dI)) (ci := 7) (v := .int (nI ft)) (C := RX8) (T := TX8) (N := 2) hx hb hts inX8 hown hK hP 0 rfl rfl 1 (Nat.le_of_ble_eq_true rfl) (hts _ mw_137) (fun _ h9 => h9) rfl dX8_isFull_1 ?_
  refine lv_aload_n hx hb dX8_isFull_4 rfl (lv_at hl 0 rfl) ?_
  refine va_get (D := (dC, dI)) (ci := 7) (v := .ref fa) (C := RX8) (T := TX8) (N := 2) hx hb hts inX8 hown hK hP 0 rfl rfl 0 (Nat.le_of_ble_eq_true rfl) (hts _ mw_136) (fun _ h9 => h9) rfl dX8_isFull_5 ?_
  refine va_alen (v := 200) hx hb hK hP 1 2 rfl rfl (rfl) dX8_isFull_8 ?_
  have b9_2 : ft < 2147483648 := by omega
  refine lv_icmp_lt (tgt := 16) hx hb dX8_isFull_9 rfl (fun c_1 => ?_) (fun c_1 => ?_)
  · have c_1 : ((ft : Nat) : Int) < 200 := zc_lt (nI_toInt b9_2) rfl c_1
    refine lv_iconst (v := 0) hx hb dX8_isFull_16 rfl ?_
    obtain ⟨hP9, hD9⟩ := zu_sub (wc := [_, _]) hP hD [true, true] rfl rfl
    rw [hQ9]
    exact W.zret (ty := .boolean) (v := 0) hx hb hr (rfl) (fun t ht hW => ⟨⟨congrArg (fun z => Outcome.returned (some (Value.int z))) (show (0 : Int32) = pI (ft = 200) from (zp_f (by omega)).symm), by rw [ht]; exact hP9, hD9⟩, hS.F ht⟩) hS.2.2 dX8_isFull_17
  · have c_1 : 200 ≤ ((ft : Nat) : Int) := zc_nlt (nI_toInt b9_2) rfl c_1
    refine lv_iconst (v := 1) hx hb dX8_isFull_12 rfl ?_
    refine lv_goto (tgt := 17) hx hb dX8_isFull_13 rfl ?_
    obtain ⟨hP9, hD9⟩ := zu_sub (wc := [_, _]) hP hD [true, true] rfl rfl
    rw [hQ9]
    exact W.zret (ty := .boolean) (v := 1) hx hb hr (rfl) (fun t ht hW => ⟨⟨congrArg (fun z => Outcome.returned (some (Value.int z))) (show (1 : Int32) = pI (ft = 200) from (zp_t (by omega)).symm), by rw [ht]; exact hP9, hD9⟩, hS.F ht⟩) hS.2.2 dX8_isFull_17
set_option maxHeartbeats 4000000 in
set_option maxRecDepth 100000 in
theorem k_Sheet_add (l : Launch) (dC : Nat → ClassId) (dI : Nat → Nat → Nat) (cI cZ cF : ClassId) (sz : Nat) (sh : Nat) (fa : Nat) (ft : Nat) (FA : Nat → Option Nat) (fe : Nat) (lo : Nat) (rk9 : Int32) (wd9 : Int32) (tw9 : Int32) (pa9 : Int32) (pb9 : Int32) (lk : Nat) (h200 : ft < 200) : zM l yX8_add cX8_add 2 (some .int) ({ frames := 1, cells := 0, slots := 0, locals := 20 } : Room) [.ref sh, .ref fe] (dC, dI) (zTy cI cZ cF) [(oc7 sh (.ref fa) (nI ft)), (oq fa cF 200 FA), (oc1 fe rk9 wd9 tw9 pa9 pb9 (.ref lo) (.ref lk) .null)] sz (some (.int (nI ft))) (fun A t => zPD (dC, dI) classes A [(oc7 sh (.ref fa) (nI (ft + 1))), (oq fa cF 200 (va_up FA ft (some fe))), (oc1 fe rk9 wd9 tw9 pa9 pb9 (.ref lo) (.ref lk) .null)] t.heap) 0 0 := by
  refine zIn (own := "ScaleShop$Sheet") (loc := [(0, .ref sh), (1, .ref fe)]) rfl rfl rfl rfl (fun p e s m below meth c hx hb hr hts hown hlocks hml hnm9 A hA hS hP hD hK hXN Q9 hQ9 ls hl => ?_)
  refine lv_aload_n hx hb dX8_add_0 rfl (lv_at hl 0 rfl) ?_
  obtain ⟨hPc, hDc, hFc⟩ := zo_sub (wc := [_, _]) hP hD hS hA [0, 1] rfl rfl
  refine zcall (st1 := [.int (pI (ft = 200))]) (va_runV (As := []) (rest := []) ⟨hx, hb, hml, hown, hts⟩ (k_Sheet_isFull l dC dI cI cZ cF s.heap.size sh fa ft FA (by first | with_reducible assumption | omega)) (csV_35 hts rfl rfl ⟨Nat.le_of_ble_eq_true rfl, Nat.le_of_ble_eq_true rfl⟩) (zPV2 (q0 := 0) (ci := 7) hPc hDc hK hXN rfl rfl) rfl rfl hl.1 rfl (lv_room (Nat.le_of_ble_eq_true rfl)) dX8_add_1 ⟨Nat.le_of_ble_eq_true rfl, Nat.le_of_ble_eq_true rfl⟩) hS hFc hFc rfl (fun t H locs ht hB hk1 hS => ?_)
  obtain ⟨hP1, hD1⟩ := hB
  rw [ht] at hP1
  obtain ⟨hP, hD⟩ := zn (W2 := [_, _, _]) hP hD hk1 hFc hP1 hD1 [0, 1] [false, false, true] [false, false, true] [0, 1] (by decide +kernel) rfl rfl rfl rfl rfl
  clear hk1 hPc hDc hFc hP1 hD1 ht
  refine lv_if_eq (tgt := 9) hx hb dX8_add_4 rfl (fun c_1 => ?_) (fun c_1 => ?_)
  · have c_1 : ¬ (ft = 200) := zp_0 c_1
    refine lv_aload_n hx hb dX8_add_9 rfl (lv_at hl 0 rfl) ?_
    refine va_get (D := (dC, dI)) (ci := 7) (v := .ref fa) (C := RX8) (T := TX8) (N := 2) hx hb hts inX8 hown hK hP 0 rfl rfl 0 (Nat.le_of_ble_eq_true rfl) (hts _ mw_136) (fun _ h9 => h9) rfl dX8_add_10 ?_
    refine lv_aload_n hx hb dX8_add_13 rfl (lv_at hl 0 rfl) ?_
    refine va_get (D := (dC, dI)) (ci := 7) (v := .int (nI ft)) (C := RX8) (T := TX8) (N := 2) hx hb hts inX8 hown hK hP 0 rfl rfl 1 (Nat.le_of_ble_eq_true rfl) (hts _ mw_137) (fun _ h9 => h9) rfl dX8_add_14 ?_
    refine lv_aload_n hx hb dX8_add_17 rfl (lv_at hl 1 rfl) ?_
    have b9_2 : ft < 200 := by omega
    refine z_aast hx hb hK hP hD hS 1 2 2 1 rfl rfl rfl rfl (e := ft) rfl b9_2 (Nat.le_of_ble_eq_true rfl) dX8_add_18 (fun H locs hP hD hS => ?_)
    obtain ⟨hP, hD⟩ := zre (W2 := [_, (oq fa cF 200 (va_up FA ft (some fe))), _]) hP hD rfl
    refine lv_aload_n hx hb dX8_add_19 rfl (lv_at hl 0 rfl) ?_
    refine lv_dup hx hb dX8_add_20 rfl ?_
    refine va_get (D := (dC, dI)) (ci := 7) (v := .int (nI ft)) (C := RX8) (T := TX8) (N := 2) hx hb hts inX8 hown hK hP 0 rfl rfl 1 (Nat.le_of_ble_eq_true rfl) (hts _ mw_137) (fun _ h9 => h9) rfl dX8_add_21 ?_
    refine lv_iconst (v := 1) hx hb dX8_add_24 rfl ?_
    refine lv_iadd hx hb dX8_add_25 ?_
    refine zz_i (v := nI (ft + 1)) (nI_add ft 1) ?_
    refine va_put (D := (dC, dI)) (ci := 7) (v := .int (nI (ft + 1))) (ty := .int) (C := RX8) (T := TX8) (N := 2) hx hb hts inX8 tyX8 tyX8_ok nmX8 hown hK hP hD hS 0 rfl rfl 1 (by decide) (hts _ mw_137) (fun _ h9 => h9) rfl (by decide +kernel) rfl rfl (Nat.le_of_ble_eq_true rfl) dX8_add_26 (fun H locs hP hD hS => ?_)
    obtain ⟨hP, hD⟩ := zre (W2 := [(oc7 sh (.ref fa) (nI (ft + 1))), _, _]) hP hD rfl
    refine lv_aload_n hx hb dX8_add_29 rfl (lv_at hl 0 rfl) ?_
    refine va_get (D := (dC, dI)) (ci := 7) (v := .int (nI (ft + 1))) (C := RX8) (T := TX8) (N := 2) hx hb hts inX8 hown hK hP 0 rfl rfl 1 (Nat.le_of_ble_eq_true rfl) (hts _ mw_137) (fun _ h9 => h9) rfl dX8_add_30 ?_
    refine lv_iconst (v := 1) hx hb dX8_add_33 rfl ?_
    refine lv_isub hx hb dX8_add_34 ?_
    refine zz_i (v := nI ((ft + 1) - 1)) (pk_sub (a := ft + 1) (b := 1) (by omega)) ?_
    obtain ⟨hP9, hD9⟩ := zu_sub (wc := [_, _, _]) hP hD [true, true, true] rfl rfl
    rw [hQ9]
    exact W.iret (v := nI ((ft + 1) - 1)) hx hb hr (fun t ht hW => ⟨⟨congrArg (fun z => Outcome.returned (some (Value.int z))) (show (nI ((ft + 1) - 1) : Int32) = nI ft from zn_eq (by omega)), by rw [ht]; exact hP9, hD9⟩, hS.F ht⟩) hS.2.2 dX8_add_35
  · have c_1 : ft = 200 := zp_1 c_1
    exfalso; omega
set_option maxHeartbeats 4000000 in
set_option maxRecDepth 100000 in
theorem k_Sheet_removeLast (l : Launch) (dC : Nat → ClassId) (dI : Nat → Nat → Nat) (cI cZ cF : ClassId) (sz : Nat) (sh : Nat) (fa : Nat) (ft : Nat) (FA : Nat → Option Nat) (h200 : ft ≤ 200) (h1f : 1 ≤ ft) : zM l yX8_removeLast cX8_removeLast 1 none ({ frames := 1, cells := 0, slots := 0, locals := 14 } : Room) [.ref sh] (dC, dI) (zTy cI cZ cF) [(oc7 sh (.ref fa) (nI ft)), (oq fa cF 200 FA)] sz none (fun A t => zPD (dC, dI) classes A [(oc7 sh (.ref fa) (nI (ft - 1))), (oq fa cF 200 FA)] t.heap) 0 0 := by
  refine zIn (own := "ScaleShop$Sheet") (loc := [(0, .ref sh)]) rfl rfl rfl rfl (fun p e s m below meth c hx hb hr hts hown hlocks hml hnm9 A hA hS hP hD hK hXN Q9 hQ9 ls hl => ?_)
  refine lv_aload_n hx hb dX8_removeLast_0 rfl (lv_at hl 0 rfl) ?_
  refine lv_aload_n hx hb dX8_removeLast_1 rfl (lv_at hl 0 rfl) ?_
  refine va_get (D := (dC, dI)) (ci := 7) (v := .int (nI ft)) (C := RX8) (T := TX8) (N := 2) hx hb hts inX8 hown hK hP 0 rfl rfl 1 (Nat.le_of_ble_eq_true rfl) (hts _ mw_137) (fun _ h9 => h9) rfl dX8_removeLast_2 ?_
  refine lv_iconst (v := 1) hx hb dX8_removeLast_5 rfl ?_
  refine lv_isub hx hb dX8_removeLast_6 ?_
  refine zz_i (v := nI (ft - 1)) (pk_sub (a := ft) (b := 1) (by omega)) ?_
  refine lv_iconst (v := 0) hx hb dX8_removeLast_7 rfl ?_
  refine va_mmax hx hb (by rw [hml]; exact hl.1.symm) hown (hts _ mw_1048) (hts _ mw_159) (hts _ mw_103) (hts _ mw_maxcode) (Nat.le_of_ble_eq_true rfl) (Nat.le_of_ble_eq_true rfl) (Nat.le_of_ble_eq_true rfl) (Nat.le_of_ble_eq_true rfl) dX8_removeLast_8 ?_
  have b9_1 : (ft - 1) < 2147483648 := by omega
  refine lv_topi (fun v_2 ev_2 => ?_)
  have hv_2 : v_2.toInt = max ((ft - 1 : Nat) : Int) 0 := zmax (nI_toInt b9_1) (by decide) ev_2
  refine zz_i (v := nI (ft - 1)) (Int32.toInt_inj.mp (by rw [hv_2, nI_toInt (by omega)]; omega)) ?_
  refine va_put (D := (dC, dI)) (ci := 7) (v := .int (nI (ft - 1))) (ty := .int) (C := RX8) (T := TX8) (N := 2) hx hb hts inX8 tyX8 tyX8_ok nmX8 hown hK hP hD hS 0 rfl rfl 1 (by decide) (hts _ mw_137) (fun _ h9 => h9) rfl (by decide +kernel) rfl rfl (Nat.le_of_ble_eq_true rfl) dX8_removeLast_11 (fun H locs hP hD hS => ?_)
  obtain ⟨hP, hD⟩ := zre (W2 := [(oc7 sh (.ref fa) (nI (ft - 1))), _]) hP hD rfl
  obtain ⟨hP9, hD9⟩ := zu_sub (wc := [_, _]) hP hD [true, true] rfl rfl
  rw [hQ9]
  exact W.vret hx hb hr (fun t ht hW => ⟨⟨rfl, by rw [ht]; exact hP9, hD9⟩, hS.F ht⟩) hS.2.2 dX8_removeLast_14
set_option maxHeartbeats 4000000 in
set_option maxRecDepth 100000 in
theorem k_Sheet_find_n (l : Launch) (dC : Nat → ClassId) (dI : Nat → Nat → Nat) (cI cZ cF : ClassId) (sz : Nat) (sh : Nat) (fa : Nat) (ft : Nat) (FA : Nat → Option Nat) (v : Int32) (h200 : ft ≤ 200) (hv : ¬ (0 ≤ v.toInt ∧ v.toInt < ((ft : Nat) : Int))) : zM l yX8_find cX8_find 2 (some (.object "ScaleShop$Feature")) ({ frames := 0, cells := 0, slots := 0, locals := 0 } : Room) [.ref sh, .int v] (dC, dI) (zTy cI cZ cF) [(oc7 sh (.ref fa) (nI ft)), (oq fa cF 200 FA)] sz (some (.null)) (fun A t => zPD (dC, dI) classes A [(oc7 sh (.ref fa) (nI ft)), (oq fa cF 200 FA)] t.heap) 0 0 := by
  refine zIn (own := "ScaleShop$Sheet") (loc := [(0, .ref sh), (1, .int v)]) rfl rfl rfl rfl (fun p e s m below meth c hx hb hr hts hown hlocks hml hnm9 A hA hS hP hD hK hXN Q9 hQ9 ls hl => ?_)
  refine lv_iload_n hx hb dX8_find_0 rfl (lv_at hl 1 rfl) ?_
  refine lv_if_lt (tgt := 21) hx hb dX8_find_1 rfl (fun c_1 => ?_) (fun c_1 => ?_)
  · have c_1 : v.toInt < 0 := zc_lt rfl rfl c_1
    refine lv_null hx hb dX8_find_21 ?_
    obtain ⟨hP9, hD9⟩ := zu_sub (wc := [_, _]) hP hD [true, true] rfl rfl
    rw [hQ9]
    exact W.aret hx hb hr (Or.inl ⟨_, rfl⟩) (Or.inl rfl) (fun t ht hW => ⟨⟨rfl, by rw [ht]; exact hP9, hD9⟩, hS.F ht⟩) hS.2.2 dX8_find_22
  · have c_1 : 0 ≤ v.toInt := zc_nlt rfl rfl c_1
    refine lv_iload_n hx hb dX8_find_4 rfl (lv_at hl 1 rfl) ?_
    refine lv_aload_n hx hb dX8_find_5 rfl (lv_at hl 0 rfl) ?_
    refine va_get (D := (dC, dI)) (ci := 7) (v := .int (nI ft)) (C := RX8) (T := TX8) (N := 2) hx hb hts inX8 hown hK hP 0 rfl rfl 1 (Nat.le_of_ble_eq_true rfl) (hts _ mw_137) (fun _ h9 => h9) rfl dX8_find_6 ?_
    have b9_3 : ft < 2147483648 := by omega
    refine lv_icmp_ge (tgt := 21) hx hb dX8_find_9 rfl (fun c_2 => ?_) (fun c_2 => ?_)
    · have c_2 : ((ft : Nat) : Int) ≤ v.toInt := zc_le (nI_toInt b9_3) rfl c_2
      refine lv_null hx hb dX8_find_21 ?_
      obtain ⟨hP9, hD9⟩ := zu_sub (wc := [_, _]) hP hD [true, true] rfl rfl
      rw [hQ9]
      exact W.aret hx hb hr (Or.inl ⟨_, rfl⟩) (Or.inl rfl) (fun t ht hW => ⟨⟨rfl, by rw [ht]; exact hP9, hD9⟩, hS.F ht⟩) hS.2.2 dX8_find_22
    · have c_2 : v.toInt < ((ft : Nat) : Int) := zc_nle (nI_toInt b9_3) rfl c_2
      exfalso; omega
set_option maxHeartbeats 4000000 in
set_option maxRecDepth 100000 in
theorem k_Sheet_find (l : Launch) (dC : Nat → ClassId) (dI : Nat → Nat → Nat) (cI cZ cF : ClassId) (sz : Nat) (sh : Nat) (fa : Nat) (ft : Nat) (FA : Nat → Option Nat) (i : Nat) (fe : Nat) (h200 : ft ≤ 200) (hi : i < ft) (hFA : FA i = some fe) : zM l yX8_find cX8_find 2 (some (.object "ScaleShop$Feature")) ({ frames := 0, cells := 0, slots := 0, locals := 0 } : Room) [.ref sh, .int (nI i)] (dC, dI) (zTy cI cZ cF) [(oc7 sh (.ref fa) (nI ft)), (oq fa cF 200 FA)] sz (some (.ref fe)) (fun A t => zPD (dC, dI) classes A [(oc7 sh (.ref fa) (nI ft)), (oq fa cF 200 FA)] t.heap) 0 0 := by
  refine zIn (own := "ScaleShop$Sheet") (loc := [(0, .ref sh), (1, .int (nI i))]) rfl rfl rfl rfl (fun p e s m below meth c hx hb hr hts hown hlocks hml hnm9 A hA hS hP hD hK hXN Q9 hQ9 ls hl => ?_)
  refine lv_iload_n hx hb dX8_find_0 rfl (lv_at hl 1 rfl) ?_
  have b9_2 : i < 2147483648 := by omega
  refine lv_if_lt (tgt := 21) hx hb dX8_find_1 rfl (fun c_1 => ?_) (fun c_1 => ?_)
  · have c_1 : ((i : Nat) : Int) < 0 := zc_lt (nI_toInt b9_2) rfl c_1
    exfalso; omega
  · have c_1 : 0 ≤ ((i : Nat) : Int) := zc_nlt (nI_toInt b9_2) rfl c_1
    refine lv_iload_n hx hb dX8_find_4 rfl (lv_at hl 1 rfl) ?_
    refine lv_aload_n hx hb dX8_find_5 rfl (lv_at hl 0 rfl) ?_
    refine va_get (D := (dC, dI)) (ci := 7) (v := .int (nI ft)) (C := RX8) (T := TX8) (N := 2) hx hb hts inX8 hown hK hP 0 rfl rfl 1 (Nat.le_of_ble_eq_true rfl) (hts _ mw_137) (fun _ h9 => h9) rfl dX8_find_6 ?_
    have b9_4 : ft < 2147483648 := by omega
    refine lv_icmp_ge (tgt := 21) hx hb dX8_find_9 rfl (fun c_3 => ?_) (fun c_3 => ?_)
    · have c_3 : ((ft : Nat) : Int) ≤ ((i : Nat) : Int) := zc_le (nI_toInt b9_4) (nI_toInt b9_2) c_3
      exfalso; omega
    · have c_3 : ((i : Nat) : Int) < ((ft : Nat) : Int) := zc_nle (nI_toInt b9_4) (nI_toInt b9_2) c_3
      refine lv_aload_n hx hb dX8_find_12 rfl (lv_at hl 0 rfl) ?_
      refine va_get (D := (dC, dI)) (ci := 7) (v := .ref fa) (C := RX8) (T := TX8) (N := 2) hx hb hts inX8 hown hK hP 0 rfl rfl 0 (Nat.le_of_ble_eq_true rfl) (hts _ mw_136) (fun _ h9 => h9) rfl dX8_find_13 ?_
      refine lv_iload_n hx hb dX8_find_16 rfl (lv_at hl 1 rfl) ?_
      have b9_5 : i < 200 := by omega
      refine z_aald hx hb hK hP 1 2 rfl rfl (e := i) rfl b9_5 (Nat.le_of_ble_eq_true rfl) (v := .ref fe) (by rw [hFA]; rfl) dX8_find_17 ?_
      refine lv_goto (tgt := 22) hx hb dX8_find_18 rfl ?_
      obtain ⟨hP9, hD9⟩ := zu_sub (wc := [_, _]) hP hD [true, true] rfl rfl
      rw [hQ9]
      exact W.aret hx hb hr (Or.inl ⟨_, rfl⟩) (Or.inr ⟨_, rfl⟩) (fun t ht hW => ⟨⟨rfl, by rw [ht]; exact hP9, hD9⟩, hS.F ht⟩) hS.2.2 dX8_find_22
set_option maxHeartbeats 4000000 in
set_option maxRecDepth 100000 in
theorem k_Sheet_rowThere_x (l : Launch) (dC : Nat → ClassId) (dI : Nat → Nat → Nat) (cI cZ cF : ClassId) (sz : Nat) (sh : Nat) (fa : Nat) (ft : Nat) (FA : Nat → Option Nat) (v : Int32) (h200 : ft ≤ 200) (hv : ¬ (0 ≤ v.toInt ∧ v.toInt < ((ft : Nat) : Int))) : zM l yX8_rowThere cX8_rowThere 3 (some (.object "ScaleShop$Row")) ({ frames := 1, cells := 0, slots := 0, locals := 21 } : Room) [.ref sh, .int v] (dC, dI) (zTy cI cZ cF) [(oc7 sh (.ref fa) (nI ft)), (oq fa cF 200 FA)] sz (some (.null)) (fun A t => zPD (dC, dI) classes A [(oc7 sh (.ref fa) (nI ft)), (oq fa cF 200 FA)] t.heap) 0 0 := by
  refine zIn (own := "ScaleShop$Sheet") (loc := [(0, .ref sh), (1, .int v)]) rfl rfl rfl rfl (fun p e s m below meth c hx hb hr hts hown hlocks hml hnm9 A hA hS hP hD hK hXN Q9 hQ9 ls hl => ?_)
  refine lv_aload_n hx hb dX8_rowThere_0 rfl (lv_at hl 0 rfl) ?_
  refine lv_iload_n hx hb dX8_rowThere_1 rfl (lv_at hl 1 rfl) ?_
  obtain ⟨hPc, hDc, hFc⟩ := zo_sub (wc := [_, _]) hP hD hS hA [0, 1] rfl rfl
  refine zcall (st1 := [.null]) (va_runV (As := [.int v]) (rest := []) ⟨hx, hb, hml, hown, hts⟩ (k_Sheet_find_n l dC dI cI cZ cF s.heap.size sh fa ft FA v (by first | with_reducible assumption | omega) (by first | with_reducible assumption | assumption)) (csV_36 hts rfl rfl ⟨Nat.le_of_ble_eq_true rfl, Nat.le_of_ble_eq_true rfl⟩) (zPV2 (q0 := 0) (ci := 7) hPc hDc hK hXN rfl rfl) rfl rfl hl.1 rfl (lv_room (Nat.le_of_ble_eq_true rfl)) dX8_rowThere_2 ⟨Nat.le_of_ble_eq_true rfl, Nat.le_of_ble_eq_true rfl⟩) hS hFc hFc rfl (fun t H locs ht hB hk1 hS => ?_)
  obtain ⟨hP1, hD1⟩ := hB
  rw [ht] at hP1
  obtain ⟨hP, hD⟩ := zn (W2 := [_, _]) hP hD hk1 hFc hP1 hD1 [0, 1] [] [false, false] [0, 1] (by decide +kernel) rfl rfl rfl rfl rfl
  clear hk1 hPc hDc hFc hP1 hD1 ht
  refine lv_astore_nN (lv' := [(2, .null), (0, .ref sh), (1, .int v)]) hx hb dX8_rowThere_5 rfl hl (Nat.le_of_ble_eq_true rfl) rfl (fun ls hl => ?_)
  refine lv_aload_nN hx hb dX8_rowThere_6 rfl (lv_at hl 0 rfl) ?_
  refine lv_ifnullN (tgt := 31) hx hb dX8_rowThere_7 rfl ?_
  refine lv_null hx hb dX8_rowThere_31 ?_
  obtain ⟨hP9, hD9⟩ := zu_sub (wc := [_, _]) hP hD [true, true] rfl rfl
  rw [hQ9]
  exact W.aret hx hb hr (Or.inl ⟨_, rfl⟩) (Or.inl rfl) (fun t ht hW => ⟨⟨rfl, by rw [ht]; exact hP9, hD9⟩, hS.F ht⟩) hS.2.2 dX8_rowThere_32
end
section
/-! the class's law: what it asks of two rows and a draft -/
theorem whr_in {n : Nat} {X Y : Nat → Int32} {x y : Int} : (whr n X Y x y).toInt = 1 ↔ inF 5 n X Y x y := by
  have e : eO 5 n = n := by unfold eO; rw [if_neg (by decide), if_pos (by decide)]
  unfold inF; rw [e]
  by_cases h : ∃ i, i < n ∧ eOn n X Y i x y
  · rw [whr_2 h]; exact ⟨fun q => absurd q (by decide), fun q => absurd h q.1⟩
  · rw [whr_n h]
    by_cases q : par2 (eTg n X Y x y) n
    · rw [zp_t q]; exact ⟨fun _ => ⟨h, q⟩, fun _ => by decide⟩
    · rw [zp_f q]; exact ⟨fun g => absurd g (by decide), fun g => absurd g.2 q⟩
abbrev tch (n : Nat) (X Y : Nat → Int32) (rg : Int32) (m : Nat) (U V : Nat → Int32) (rh : Int32) : Prop := ∃ i, i < prt n rg ∧ ∃ j, j < prt m rh ∧ eMt n X Y i m U V j
def tr3 (a b c : Int32) : Nat → Int32 := fun i => if i = 0 then a else if i = 1 then b else c
/-- the class's triangle has a place -/
def wtR (a1 a2 b1 b2 c1 c2 : Int32) (x y : Int) : Prop := ¬ (whr 3 (tr3 a1 b1 c1) (tr3 a2 b2 c2) x y).toInt = 0
theorem wtR_e {a1 a2 b1 b2 c1 c2 : Int32} {T S : Nat → Int32} {x y : Int} : ¬ (whr 3 (upd (upd (upd T 0 a1) 1 b1) 2 c1) (upd (upd (upd S 0 a2) 1 b2) 2 c2) x y).toInt = 0 ↔ wtR a1 a2 b1 b2 c1 c2 x y := by
  unfold wtR
  rw [whr_cg (P := tr3 a1 b1 c1) (Q := tr3 a2 b2 c2) (fun j hj => by
    rcases (show j = 0 ∨ j = 1 ∨ j = 2 by omega) with rfl | rfl | rfl <;> exact ⟨rfl, rfl⟩)]
theorem tr3_pl {a1 a2 b1 b2 c1 c2 : Int32} {T S : Nat → Int32} (h1 : pl a1) (h2 : pl a2) (h3 : pl b1) (h4 : pl b2) (h5 : pl c1) (h6 : pl c2) : pls 3 (upd (upd (upd T 0 a1) 1 b1) 2 c1) (upd (upd (upd S 0 a2) 1 b2) 2 c2) := by
  intro j hj
  rcases (show j = 0 ∨ j = 1 ∨ j = 2 by omega) with rfl | rfl | rfl
  · exact ⟨h1, h2⟩
  · exact ⟨h3, h4⟩
  · exact ⟨h5, h6⟩
/-- a place lies straight ahead on a way -/
def ldT (x0 y0 x1 y1 px py : Int) : Prop := cr x0 y0 x1 y1 px py = 0 ∧ 0 < nrT x0 y0 x1 y1 px py
/-- the class's free way -/
def wyF2 (x0 y0 x1 y1 : Int) (m : Nat) (U V : Nat → Int32) (k : Nat) : Prop := mtC x0 y0 x1 y1 (U k).toInt (V k).toInt (U (nxt m k)).toInt (V (nxt m k)).toInt → onS (U k).toInt (V k).toInt (U (nxt m k)).toInt (V (nxt m k)).toInt x0 y0 ∧ ¬ ldT x0 y0 x1 y1 (U k).toInt (V k).toInt ∧ ¬ ldT x0 y0 x1 y1 (U (nxt m k)).toInt (V (nxt m k)).toInt
theorem wy_pl {a1 a2 b1 b2 : Int32} {T S : Nat → Int32} (h1 : pl a1) (h2 : pl a2) (h3 : pl b1) (h4 : pl b2) : pls 2 (upd (upd T 0 a1) 1 b1) (upd (upd S 0 a2) 1 b2) := by
  intro j hj
  rcases (show j = 0 ∨ j = 1 by omega) with rfl | rfl
  · exact ⟨h1, h2⟩
  · exact ⟨h3, h4⟩
/-- what a moving edge sweeps, by the class -/
def swR (on : Nat) (X Y P Q : Nat → Int32) (x y : Int) (k : Nat) : Prop := ¬ spr on X Y P Q k x y ∧ (wtR (X k) (Y k) (X (nxt on k)) (Y (nxt on k)) (P (nxt on k)) (Q (nxt on k)) x y ∨ wtR (X k) (Y k) (P k) (Q k) (P (nxt on k)) (Q (nxt on k)) x y)
/-- what a corner that goes sweeps, by the class -/
def swC (on : Nat) (X Y : Nat → Int32) (b : Nat) (x y : Int) : Prop := ¬ ((X (prv on b)).toInt = x ∧ (Y (prv on b)).toInt = y) ∧ ¬ ((X (nxt on b)).toInt = x ∧ (Y (nxt on b)).toInt = y) ∧ wtR (X (prv on b)) (Y (prv on b)) (X b) (Y b) (X (nxt on b)) (Y (nxt on b)) x y
/-- as before, by the class: all but what is swept -/
def asb (n : Nat) (X Y : Nat → Int32) (rg : Int32) (nd : Nat) (P Q : Nat → Int32) (rd : Int32) (m : Nat) (U V : Nat → Int32) (rh : Int32) : Prop :=
  (tch n X Y rg m U V rh ↔ tch nd P Q rd m U V rh) ∧ (¬ rd.toInt = 0 → ∀ k, k < m → (inF 5 n X Y (U k).toInt (V k).toInt ↔ inF 5 nd P Q (U k).toInt (V k).toInt)) ∧ (¬ rh.toInt = 0 → (inF 5 m U V (X 0).toInt (Y 0).toInt ↔ inF 5 m U V (P 0).toInt (Q 0).toInt))
section SP
variable {n m i : Nat} {X Y P Q U V : Nat → Int32} {A B : Nat → Prop}
theorem sp_rn (h1 : (P i).toInt = (X i).toInt ∧ (Q i).toInt = (Y i).toInt) (h2 : ¬ ((P (nxt n i)).toInt = (X (nxt n i)).toInt ∧ (Q (nxt n i)).toInt = (Y (nxt n i)).toInt)) (h : ∀ k, A k ↔ B k) : (∃ k, k < m ∧ ¬ ((X i).toInt = (U k).toInt ∧ (Y i).toInt = (V k).toInt) ∧ A k) ↔ ∃ k, k < m ∧ ¬ spr n X Y P Q i (U k).toInt (V k).toInt ∧ B k := by
  refine exists_congr fun k => and_congr_right fun _ => and_congr ?_ (h k)
  unfold spr stay; omega
theorem sp_nr (h1 : ¬ ((P i).toInt = (X i).toInt ∧ (Q i).toInt = (Y i).toInt)) (h2 : (P (nxt n i)).toInt = (X (nxt n i)).toInt ∧ (Q (nxt n i)).toInt = (Y (nxt n i)).toInt) (h : ∀ k, A k ↔ B k) : (∃ k, k < m ∧ ¬ ((X (nxt n i)).toInt = (U k).toInt ∧ (Y (nxt n i)).toInt = (V k).toInt) ∧ A k) ↔ ∃ k, k < m ∧ ¬ spr n X Y P Q i (U k).toInt (V k).toInt ∧ B k := by
  refine exists_congr fun k => and_congr_right fun _ => and_congr ?_ (h k)
  unfold spr stay; omega
theorem sp_nn (h1 : ¬ ((P i).toInt = (X i).toInt ∧ (Q i).toInt = (Y i).toInt)) (h2 : ¬ ((P (nxt n i)).toInt = (X (nxt n i)).toInt ∧ (Q (nxt n i)).toInt = (Y (nxt n i)).toInt)) (h : ∀ k, A k ↔ B k) : (∃ k, k < m ∧ A k) ↔ ∃ k, k < m ∧ ¬ spr n X Y P Q i (U k).toInt (V k).toInt ∧ B k := by
  refine exists_congr fun k => and_congr_right fun _ => ?_
  have g : ¬ spr n X Y P Q i (U k).toInt (V k).toInt := by unfold spr stay; omega
  exact (h k).trans ⟨fun q => ⟨g, q⟩, fun q => q.2⟩
end SP
theorem pls_nr {n : Nat} {X Y : Nat → Int32} (h : pls n X Y) : (∀ k, k < n → nr (X k).toInt) ∧ ∀ k, k < n → nr (Y k).toInt := by
  refine ⟨fun k hk => ?_, fun k hk => ?_⟩ <;> · have := h k hk; unfold pl at this; unfold nr; omega
end
section
set_option maxHeartbeats 4000000 in
set_option maxRecDepth 100000 in
theorem k_Law_leastArea (l : Launch) (dC : Nat → ClassId) (dI : Nat → Nat → Nat) (cI cZ cF : ClassId) (sz : Nat) (lw : Nat) (dr : Nat) (tg : Nat) (wy : Nat) (br : Nat) (bo : Nat) (aa : Nat) (n : Nat) (AR : Nat → Int32) (lim : Int32) (hn40 : n ≤ 40) : Met l yX4_leastArea (.code yX4_leastArea cX4_leastArea 5 (some .int) :: ws0) ({ frames := 0, cells := 0, slots := 0, locals := 0 } : Room) (va_Pc [.ref lw, .int (nI n), .int lim] (zPre (dC, dI) classes (zTy cI cZ cF) [(oc3 lw (.ref dr) (.ref tg) (.ref wy) (.ref br) (.ref bo) (.ref aa)), (oa aa cI 40 AR)] sz zXN)) (zQe (fun v9 t => ∃ (zb : Int32), v9 = (some (.int zb)) ∧ (bstS (fun k => (AR k).toInt.toNat) (fun k => ¬ (0 ≤ (AR k).toInt ∧ (AR k).toInt ≤ lim.toInt)) n zb) ∧ va_P (dC, dI) classes [(oc3 lw (.ref dr) (.ref tg) (.ref wy) (.ref br) (.ref bo) (.ref aa)), (oa aa cI 40 AR)] t.heap ∧ va_D (va_A [(oc3 lw (.ref dr) (.ref tg) (.ref wy) (.ref br) (.ref bo) (.ref aa)), (oa aa cI 40 AR)] sz) [(oc3 lw (.ref dr) (.ref tg) (.ref wy) (.ref br) (.ref bo) (.ref aa)), (oa aa cI 40 AR)]) (va_A [(oc3 lw (.ref dr) (.ref tg) (.ref wy) (.ref br) (.ref bo) (.ref aa)), (oa aa cI 40 AR)] sz)) 0 0 (va_A [(oc3 lw (.ref dr) (.ref tg) (.ref wy) (.ref br) (.ref bo) (.ref aa)), (oa aa cI 40 AR)] sz) := by
  refine Met.ofW (cc := cX4_leastArea) (maxL := 5) (ret := (some .int)) rfl rfl ?_
  intro p e s m args below meth c s₁ B hml hv
  obtain ⟨rfl, hsz, hP, hK, hD0, hXN⟩ := hv
  have hx := B.exec
  have hb := B.bytes
  have hr := B.returns
  have hts0 := atoms_spec (ws := .code yX4_leastArea cX4_leastArea 5 (some .int) :: ws0) B.pre
  have hts : ∀ w9 ∈ ws0, w9.before ([.ref lw, .int (nI n), .int lim] : List Value).toArray s = true := fun w9 h => hts0 w9 (List.mem_cons_of_mem _ h)
  have hown : s.vm.findClass "ScaleShop$Law" = some m.cls := findClass_of_methodNamed B.named
  have hlocks := B.notSynchronized
  subst hsz
  have hD := hD0.self (sz := s.heap.size)
  clear hD0
  generalize hAe : va_A [(oc3 lw (.ref dr) (.ref tg) (.ref wy) (.ref br) (.ref bo) (.ref aa)), (oa aa cI 40 AR)] s.heap.size = A at hD ⊢
  have hA : ∀ q : Nat, s.heap.size ≤ q → A q := fun q h => by rw [← hAe]; exact Or.inr h
  clear hAe
  have hS : va_S A s.heap s.heap [] := va_S.rf
  have hP : va_P (dC, dI) classes [(oc3 lw (.ref dr) (.ref tg) (.ref wy) (.ref br) (.ref bo) (.ref aa)), (oa aa cI 40 AR)] s.heap := hP
  obtain ⟨Q9, hQ9⟩ : ∃ Q9 : State → Prop, Q9 = MQ below (zQe (fun v9 t => ∃ (zb : Int32), v9 = (some (.int zb)) ∧ (bstS (fun k => (AR k).toInt.toNat) (fun k => ¬ (0 ≤ (AR k).toInt ∧ (AR k).toInt ≤ lim.toInt)) n zb) ∧ va_P (dC, dI) classes [(oc3 lw (.ref dr) (.ref tg) (.ref wy) (.ref br) (.ref bo) (.ref aa)), (oa aa cI 40 AR)] t.heap ∧ va_D A [(oc3 lw (.ref dr) (.ref tg) (.ref wy) (.ref br) (.ref bo) (.ref aa)), (oa aa cI 40 AR)]) A) ([.ref lw, .int (nI n), .int lim] : List Value).toArray s 0 0 A := ⟨_, rfl⟩
  rw [← hQ9]
  have hl := lv_entry ([.ref lw, .int (nI n), .int lim]) (n := 5) (Nat.le_of_ble_eq_true rfl)
  rw [lg_entry_eq]
  generalize (lg_sl ([.ref lw, .int (nI n), .int lim]) ++ List.replicate (5 - (lg_sl ([.ref lw, .int (nI n), .int lim])).length) Slot.unset).toArray = ls at hl ⊢
  have hl : lv_has ls 5 [(0, .ref lw), (1, .int (nI n)), (2, .int lim)] := hl
  refine lv_iconst (v := (-1)) hx hb dX4_leastArea_0 rfl ?_
  refine lv_istore_n (lv' := [(3, .int (-1)), (0, .ref lw), (1, .int (nI n)), (2, .int lim)]) hx hb dX4_leastArea_1 rfl hl (Nat.le_of_ble_eq_true rfl) rfl (fun ls hl => ?_)
  refine lv_iconst (v := 0) hx hb dX4_leastArea_2 rfl ?_
  refine lv_istore (lv' := [(4, .int 0), (3, .int (-1)), (0, .ref lw), (1, .int (nI n)), (2, .int lim)]) hx hb dX4_leastArea_3 hl (Nat.le_of_ble_eq_true rfl) rfl (fun ls hl => ?_)
  have hl_5 : ∀ (n9 : Nat) (k : Nat) (z8 : Int32) (H : Heap) (locs : List Loc) (ls : Array Slot), n - k < n9 → (k ≤ n) → (bstS (fun k => (AR k).toInt.toNat) (fun k => ¬ (0 ≤ (AR k).toInt ∧ (AR k).toInt ≤ lim.toInt)) k z8) → va_P (dC, dI) classes [(oc3 lw (.ref dr) (.ref tg) (.ref wy) (.ref br) (.ref bo) (.ref aa)), (oa aa cI 40 AR)] H → va_D A [(oc3 lw (.ref dr) (.ref tg) (.ref wy) (.ref br) (.ref bo) (.ref aa)), (oa aa cI 40 AR)] → va_S A s.heap H locs → lv_has ls 5 [(4, .int (nI k)), (3, .int z8), (0, .ref lw), (1, .int (nI n)), (2, .int lim)] → W p l e ((headSpec (.code yX4_leastArea cX4_leastArea 5 (some .int) :: ws0) ({ frames := 0, cells := 0, slots := 0, locals := 0 } : Room)).room) s m ([.ref lw, .int (nI n), .int lim] : List Value).toArray below meth c H locs 0 0 Q9 (F0 m 5 ls []) := by
    intro n9
    induction n9 with
    | zero => intro k z8 H locs ls hm; exact absurd hm (Nat.not_lt_zero _)
    | succ n9 ih_5 =>
      intro k z8 H locs ls hm hk hat hP hD hS hl
      refine lv_iload hx hb dX4_leastArea_5 (lv_at hl 0 rfl) ?_
      refine lv_iload_n hx hb dX4_leastArea_7 rfl (lv_at hl 3 rfl) ?_
      have b9_2 : k < 2147483648 := by omega
      have b9_3 : n < 2147483648 := by omega
      refine lv_icmp_ge (tgt := 62) hx hb dX4_leastArea_8 rfl (fun c_1 => ?_) (fun c_1 => ?_)
      · have c_1 : ((n : Nat) : Int) ≤ ((k : Nat) : Int) := zc_le (nI_toInt b9_3) (nI_toInt b9_2) c_1
        refine lv_iload_n hx hb dX4_leastArea_62 rfl (lv_at hl 1 rfl) ?_
        have hkn : k = n := (by omega)
        rw [hkn] at hat
        obtain ⟨hP9, hD9⟩ := zu_sub (wc := [_, _]) hP hD [true, true] rfl rfl
        rw [hQ9]
        exact W.iret (v := z8) hx hb hr (fun t ht hW => ⟨⟨_, rfl, z8, rfl, (hat), by rw [ht]; exact hP9, hD9⟩, hS.F ht⟩) hS.2.2 dX4_leastArea_63
      · have c_1 : ((k : Nat) : Int) < ((n : Nat) : Int) := zc_nle (nI_toInt b9_3) (nI_toInt b9_2) c_1
        refine lv_aload_n hx hb dX4_leastArea_11 rfl (lv_at hl 2 rfl) ?_
        refine va_get (D := (dC, dI)) (ci := 3) (v := .ref aa) (C := RX4) (T := TX4) (N := 6) hx hb hts inX4 hown hK hP 0 rfl rfl 5 (Nat.le_of_ble_eq_true rfl) (hts _ mw_225) (fun _ h9 => h9) rfl dX4_leastArea_12 ?_
        refine lv_iload hx hb dX4_leastArea_15 (lv_at hl 0 rfl) ?_
        have b9_4 : k < 40 := by omega
        refine z_iald hx hb hK hP 1 0 rfl rfl (e := k) rfl b9_4 (Nat.le_of_ble_eq_true rfl) dX4_leastArea_17 ?_
        refine lv_if_lt (tgt := 56) hx hb dX4_leastArea_18 rfl (fun c_5 => ?_) (fun c_5 => ?_)
        · have c_5 : (AR k).toInt < 0 := zc_lt rfl rfl c_5
          refine lv_iinc (v := nI (k + 1)) (lv' := [(4, .int (nI (k + 1))), (3, .int z8), (0, .ref lw), (1, .int (nI n)), (2, .int lim)]) hx hb dX4_leastArea_56 hl (k := 0) rfl (nI_add k 1) (Nat.le_of_ble_eq_true rfl) rfl (fun ls hl => ?_)
          refine lv_goto (tgt := 5) hx hb dX4_leastArea_59 rfl ?_
          exact ih_5 (k + 1) z8 H locs ls (by first | with_reducible assumption | omega) (by first | with_reducible assumption | omega) (by first | exact bst_f hat (by first | with_reducible assumption | omega) | exact bst_n hat (by first | with_reducible assumption | omega) (by first | with_reducible assumption | omega) (by first | with_reducible assumption | omega) | exact bst_l hz9 hbk hbF hbm (by first | with_reducible assumption | omega) (by show (AR k).toInt.toNat < (AR b9).toInt.toNat; omega) | exact bst_g hz9 hbk hbF hbm (by show (AR b9).toInt.toNat ≤ (AR k).toInt.toNat; omega)) hP hD hS (lv_sub hl [0, 1, 2, 3, 4] rfl)
        · have c_5 : 0 ≤ (AR k).toInt := zc_nlt rfl rfl c_5
          refine lv_aload_n hx hb dX4_leastArea_21 rfl (lv_at hl 2 rfl) ?_
          refine va_get (D := (dC, dI)) (ci := 3) (v := .ref aa) (C := RX4) (T := TX4) (N := 6) hx hb hts inX4 hown hK hP 0 rfl rfl 5 (Nat.le_of_ble_eq_true rfl) (hts _ mw_225) (fun _ h9 => h9) rfl dX4_leastArea_22 ?_
          refine lv_iload hx hb dX4_leastArea_25 (lv_at hl 0 rfl) ?_
          refine z_iald hx hb hK hP 1 0 rfl rfl (e := k) rfl b9_4 (Nat.le_of_ble_eq_true rfl) dX4_leastArea_27 ?_
          refine lv_iload_n hx hb dX4_leastArea_28 rfl (lv_at hl 4 rfl) ?_
          refine lv_icmp_gt (tgt := 56) hx hb dX4_leastArea_29 rfl (fun c_6 => ?_) (fun c_6 => ?_)
          · have c_6 : lim.toInt < (AR k).toInt := zc_lt rfl rfl c_6
            refine lv_iinc (v := nI (k + 1)) (lv' := [(4, .int (nI (k + 1))), (3, .int z8), (0, .ref lw), (1, .int (nI n)), (2, .int lim)]) hx hb dX4_leastArea_56 hl (k := 0) rfl (nI_add k 1) (Nat.le_of_ble_eq_true rfl) rfl (fun ls hl => ?_)
            refine lv_goto (tgt := 5) hx hb dX4_leastArea_59 rfl ?_
            exact ih_5 (k + 1) z8 H locs ls (by first | with_reducible assumption | omega) (by first | with_reducible assumption | omega) (by first | exact bst_f hat (by first | with_reducible assumption | omega) | exact bst_n hat (by first | with_reducible assumption | omega) (by first | with_reducible assumption | omega) (by first | with_reducible assumption | omega) | exact bst_l hz9 hbk hbF hbm (by first | with_reducible assumption | omega) (by show (AR k).toInt.toNat < (AR b9).toInt.toNat; omega) | exact bst_g hz9 hbk hbF hbm (by show (AR b9).toInt.toNat ≤ (AR k).toInt.toNat; omega)) hP hD hS (lv_sub hl [0, 1, 2, 3, 4] rfl)
          · have c_6 : (AR k).toInt ≤ lim.toInt := zc_nlt rfl rfl c_6
            refine lv_iload_n hx hb dX4_leastArea_32 rfl (lv_at hl 1 rfl) ?_
            refine lv_iconst (v := (-1)) hx hb dX4_leastArea_33 rfl ?_
            refine lv_icmp_eq (tgt := 53) hx hb dX4_leastArea_34 rfl (fun c_7 => ?_) (fun c_7 => ?_)
            · have c_7 : z8.toInt = (-1) := zc_eq rfl rfl c_7
              refine lv_iload hx hb dX4_leastArea_53 (lv_at hl 0 rfl) ?_
              refine lv_istore_n (lv' := [(3, .int (nI k)), (4, .int (nI k)), (0, .ref lw), (1, .int (nI n)), (2, .int lim)]) hx hb dX4_leastArea_55 rfl hl (Nat.le_of_ble_eq_true rfl) rfl (fun ls hl => ?_)
              refine lv_iinc (v := nI (k + 1)) (lv' := [(4, .int (nI (k + 1))), (3, .int (nI k)), (0, .ref lw), (1, .int (nI n)), (2, .int lim)]) hx hb dX4_leastArea_56 hl (k := 1) rfl (nI_add k 1) (Nat.le_of_ble_eq_true rfl) rfl (fun ls hl => ?_)
              refine lv_goto (tgt := 5) hx hb dX4_leastArea_59 rfl ?_
              exact ih_5 (k + 1) (nI k) H locs ls (by first | with_reducible assumption | omega) (by first | with_reducible assumption | omega) (by first | exact bst_f hat (by first | with_reducible assumption | omega) | exact bst_n hat (by first | with_reducible assumption | omega) (by first | with_reducible assumption | omega) (by first | with_reducible assumption | omega) | exact bst_l hz9 hbk hbF hbm (by first | with_reducible assumption | omega) (by show (AR k).toInt.toNat < (AR b9).toInt.toNat; omega) | exact bst_g hz9 hbk hbF hbm (by show (AR b9).toInt.toNat ≤ (AR k).toInt.toNat; omega)) hP hD hS (lv_sub hl [0, 1, 2, 3, 4] rfl)
            · have c_7 : ¬ z8.toInt = (-1) := zc_ne rfl rfl c_7
              obtain ⟨b9, hz9, hbk, hbF, hbm⟩ := bst_get hat (by omega)
              have hbF9 : 0 ≤ (AR b9).toInt ∧ (AR b9).toInt ≤ lim.toInt := Classical.not_not.mp hbF
              refine lv_aload_n hx hb dX4_leastArea_37 rfl (lv_at hl 2 rfl) ?_
              refine va_get (D := (dC, dI)) (ci := 3) (v := .ref aa) (C := RX4) (T := TX4) (N := 6) hx hb hts inX4 hown hK hP 0 rfl rfl 5 (Nat.le_of_ble_eq_true rfl) (hts _ mw_225) (fun _ h9 => h9) rfl dX4_leastArea_38 ?_
              refine lv_iload hx hb dX4_leastArea_41 (lv_at hl 0 rfl) ?_
              refine z_iald hx hb hK hP 1 0 rfl rfl (e := k) rfl b9_4 (Nat.le_of_ble_eq_true rfl) dX4_leastArea_43 ?_
              refine lv_aload_n hx hb dX4_leastArea_44 rfl (lv_at hl 2 rfl) ?_
              refine va_get (D := (dC, dI)) (ci := 3) (v := .ref aa) (C := RX4) (T := TX4) (N := 6) hx hb hts inX4 hown hK hP 0 rfl rfl 5 (Nat.le_of_ble_eq_true rfl) (hts _ mw_225) (fun _ h9 => h9) rfl dX4_leastArea_45 ?_
              refine lv_iload_n hx hb dX4_leastArea_48 rfl (lv_at hl 1 rfl) ?_
              refine zz_i (v := nI b9) (hz9) ?_
              have b9_8 : b9 < 40 := by omega
              refine z_iald hx hb hK hP 1 0 rfl rfl (e := b9) rfl b9_8 (Nat.le_of_ble_eq_true rfl) dX4_leastArea_49 ?_
              refine lv_icmp_ge (tgt := 56) hx hb dX4_leastArea_50 rfl (fun c_9 => ?_) (fun c_9 => ?_)
              · have c_9 : (AR b9).toInt ≤ (AR k).toInt := zc_le rfl rfl c_9
                refine lv_iinc (v := nI (k + 1)) (lv' := [(4, .int (nI (k + 1))), (3, .int z8), (0, .ref lw), (1, .int (nI n)), (2, .int lim)]) hx hb dX4_leastArea_56 hl (k := 0) rfl (nI_add k 1) (Nat.le_of_ble_eq_true rfl) rfl (fun ls hl => ?_)
                refine lv_goto (tgt := 5) hx hb dX4_leastArea_59 rfl ?_
                exact ih_5 (k + 1) z8 H locs ls (by first | with_reducible assumption | omega) (by first | with_reducible assumption | omega) (by first | exact bst_f hat (by first | with_reducible assumption | omega) | exact bst_n hat (by first | with_reducible assumption | omega) (by first | with_reducible assumption | omega) (by first | with_reducible assumption | omega) | exact bst_l hz9 hbk hbF hbm (by first | with_reducible assumption | omega) (by show (AR k).toInt.toNat < (AR b9).toInt.toNat; omega) | exact bst_g hz9 hbk hbF hbm (by show (AR b9).toInt.toNat ≤ (AR k).toInt.toNat; omega)) hP hD hS (lv_sub hl [0, 1, 2, 3, 4] rfl)
              · have c_9 : (AR k).toInt < (AR b9).toInt := zc_nle rfl rfl c_9
                refine lv_iload hx hb dX4_leastArea_53 (lv_at hl 0 rfl) ?_
                refine lv_istore_n (lv' := [(3, .int (nI k)), (4, .int (nI k)), (0, .ref lw), (1, .int (nI n)), (2, .int lim)]) hx hb dX4_leastArea_55 rfl hl (Nat.le_of_ble_eq_true rfl) rfl (fun ls hl => ?_)
                refine lv_iinc (v := nI (k + 1)) (lv' := [(4, .int (nI (k + 1))), (3, .int (nI k)), (0, .ref lw), (1, .int (nI n)), (2, .int lim)]) hx hb dX4_leastArea_56 hl (k := 1) rfl (nI_add k 1) (Nat.le_of_ble_eq_true rfl) rfl (fun ls hl => ?_)
                refine lv_goto (tgt := 5) hx hb dX4_leastArea_59 rfl ?_
                exact ih_5 (k + 1) (nI k) H locs ls (by first | with_reducible assumption | omega) (by first | with_reducible assumption | omega) (by first | exact bst_f hat (by first | with_reducible assumption | omega) | exact bst_n hat (by first | with_reducible assumption | omega) (by first | with_reducible assumption | omega) (by first | with_reducible assumption | omega) | exact bst_l hz9 hbk hbF hbm (by first | with_reducible assumption | omega) (by show (AR k).toInt.toNat < (AR b9).toInt.toNat; omega) | exact bst_g hz9 hbk hbF hbm (by show (AR b9).toInt.toNat ≤ (AR k).toInt.toNat; omega)) hP hD hS (lv_sub hl [0, 1, 2, 3, 4] rfl)
  exact hl_5 _ 0 (-1) s.heap [] ls (Nat.lt_succ_self _) (by first | with_reducible assumption | omega) (bst_0 _ _) hP hD hS (lv_sub hl [0, 1, 2, 3, 4] rfl)
set_option maxHeartbeats 4000000 in
set_option maxRecDepth 100000 in
theorem k_Law_isIn (l : Launch) (dC : Nat → ClassId) (dI : Nat → Nat → Nat) (cI cZ cF : ClassId) (sz : Nat) (r : Nat) (rx : Nat) (ry : Nat) (n : Nat) (cap : Nat) (X : Nat → Int32) (Y : Nat → Int32) (rg : Int32) (u : Nat) (ux : Nat) (uy : Nat) (m2 : Nat) (cap2 : Nat) (U : Nat → Int32) (V : Nat → Int32) (rh : Int32) (hn : n ≤ cap) (hcap : cap ≤ 1000) (hp : pls n X Y) (hm : m2 ≤ cap2) (hcap2 : cap2 ≤ 1000) (hq : pls m2 U V) (h1m : 1 ≤ m2) : zM l yX4_isIn cX4_isIn 2 (some .boolean) ({ frames := 1, cells := 0, slots := 0, locals := 26 } : Room) [.ref r, .ref u] (dC, dI) (zTy cI cZ cF) [(oc6 r (.ref rx) (.ref ry) (nI n) rg), (oa rx cI cap X), (oa ry cI cap Y), (oc6 u (.ref ux) (.ref uy) (nI m2) rh), (oa ux cI cap2 U), (oa uy cI cap2 V)] sz (some (.int (pI (inF 5 n X Y (U 0).toInt (V 0).toInt)))) (fun A t => zPD (dC, dI) classes A [(oc6 r (.ref rx) (.ref ry) (nI n) rg), (oa rx cI cap X), (oa ry cI cap Y), (oc6 u (.ref ux) (.ref uy) (nI m2) rh), (oa ux cI cap2 U), (oa uy cI cap2 V)] t.heap) 0 0 := by
  refine zIn (own := "ScaleShop$Law") (loc := [(0, .ref r), (1, .ref u)]) rfl rfl rfl rfl (fun p e s m below meth c hx hb hr hts hown hlocks hml hnm9 A hA hS hP hD hK hXN Q9 hQ9 ls hl => ?_)
  refine lv_aload_n hx hb dX4_isIn_0 rfl (lv_at hl 0 rfl) ?_
  refine lv_aload_n hx hb dX4_isIn_1 rfl (lv_at hl 1 rfl) ?_
  refine va_get (D := (dC, dI)) (ci := 6) (v := .ref ux) (C := RX7) (T := TX7) (N := 4) hx hb hts inX7 hown hK hP 3 rfl rfl 0 (Nat.le_of_ble_eq_true rfl) (hts _ mw_163) (fun _ h9 => h9) rfl dX4_isIn_2 ?_
  refine lv_iconst (v := 0) hx hb dX4_isIn_5 rfl ?_
  have b9_1 : 0 < cap2 := by omega
  have b9_2 : cap2 < 2147483648 := by omega
  refine z_iald hx hb hK hP 4 0 rfl rfl (e := 0) rfl b9_1 b9_2 dX4_isIn_6 ?_
  refine lv_aload_n hx hb dX4_isIn_7 rfl (lv_at hl 1 rfl) ?_
  refine va_get (D := (dC, dI)) (ci := 6) (v := .ref uy) (C := RX7) (T := TX7) (N := 4) hx hb hts inX7 hown hK hP 3 rfl rfl 1 (Nat.le_of_ble_eq_true rfl) (hts _ mw_170) (fun _ h9 => h9) rfl dX4_isIn_8 ?_
  refine lv_iconst (v := 0) hx hb dX4_isIn_11 rfl ?_
  refine z_iald hx hb hK hP 5 0 rfl rfl (e := 0) rfl b9_1 b9_2 dX4_isIn_12 ?_
  obtain ⟨hPc, hDc, hFc⟩ := zo_sub (wc := [_, _, _]) hP hD hS hA [0, 1, 2] rfl rfl
  refine zcall (st1 := [.int (whr n X Y (U 0).toInt (V 0).toInt)]) (va_runV (As := [.int (U 0), .int (V 0)]) (rest := []) ⟨hx, hb, hml, hown, hts⟩ (k_Row_where l dC dI cI cZ cF s.heap.size r rx ry n cap X Y rg (U 0) (V 0) (by first | with_reducible assumption | omega) (by first | with_reducible assumption | omega) (by first | with_reducible assumption | assumption) ((hq 0 (by first | with_reducible assumption | omega)).1) ((hq 0 (by first | with_reducible assumption | omega)).2)) (csV_38 hts rfl rfl ⟨Nat.le_of_ble_eq_true rfl, Nat.le_of_ble_eq_true rfl⟩) (zPV2 (q0 := 0) (ci := 6) hPc hDc hK hXN rfl rfl) rfl rfl hl.1 rfl (lv_room (Nat.le_of_ble_eq_true rfl)) dX4_isIn_13 ⟨Nat.le_of_ble_eq_true rfl, Nat.le_of_ble_eq_true rfl⟩) hS hFc hFc rfl (fun t H locs ht hB hk1 hS => ?_)
  obtain ⟨hP1, hD1⟩ := hB
  rw [ht] at hP1
  obtain ⟨hP, hD⟩ := zn (W2 := [_, _, _, _, _, _]) hP hD hk1 hFc hP1 hD1 [0, 1, 2] [false, false, false, true, true, true] [false, false, false, true, true, true] [0, 1, 2] (by decide +kernel) rfl rfl rfl rfl rfl
  clear hk1 hPc hDc hFc hP1 hD1 ht
  refine lv_iconst (v := 1) hx hb dX4_isIn_16 rfl ?_
  refine lv_icmp_ne (tgt := 24) hx hb dX4_isIn_17 rfl (fun c_3 => ?_) (fun c_3 => ?_)
  · have c_3 : ¬ (whr n X Y (U 0).toInt (V 0).toInt).toInt = 1 := zc_ne rfl rfl c_3
    refine lv_iconst (v := 0) hx hb dX4_isIn_24 rfl ?_
    obtain ⟨hP9, hD9⟩ := zu_sub (wc := [_, _, _, _, _, _]) hP hD [true, true, true, true, true, true] rfl rfl
    rw [hQ9]
    exact W.zret (ty := .boolean) (v := 0) hx hb hr (rfl) (fun t ht hW => ⟨⟨congrArg (fun z => Outcome.returned (some (Value.int z))) (show (0 : Int32) = pI (inF 5 n X Y (U 0).toInt (V 0).toInt) from (zp_f (by rw [← whr_in]; omega)).symm), by rw [ht]; exact hP9, hD9⟩, hS.F ht⟩) hS.2.2 dX4_isIn_25
  · have c_3 : (whr n X Y (U 0).toInt (V 0).toInt).toInt = 1 := zc_eq rfl rfl c_3
    refine lv_iconst (v := 1) hx hb dX4_isIn_20 rfl ?_
    refine lv_goto (tgt := 25) hx hb dX4_isIn_21 rfl ?_
    obtain ⟨hP9, hD9⟩ := zu_sub (wc := [_, _, _, _, _, _]) hP hD [true, true, true, true, true, true] rfl rfl
    rw [hQ9]
    exact W.zret (ty := .boolean) (v := 1) hx hb hr (rfl) (fun t ht hW => ⟨⟨congrArg (fun z => Outcome.returned (some (Value.int z))) (show (1 : Int32) = pI (inF 5 n X Y (U 0).toInt (V 0).toInt) from (zp_t (by rw [← whr_in]; omega)).symm), by rw [ht]; exact hP9, hD9⟩, hS.F ht⟩) hS.2.2 dX4_isIn_25
set_option maxHeartbeats 4000000 in
set_option maxRecDepth 100000 in
theorem k_Law_holdsAsBefore (l : Launch) (dC : Nat → ClassId) (dI : Nat → Nat → Nat) (cI cZ cF : ClassId) (sz : Nat) (lw : Nat) (dr : Nat) (tg : Nat) (wy : Nat) (br : Nat) (bo : Nat) (aa : Nat) (dx : Nat) (dy : Nat) (nd : Nat) (cd : Nat) (P : Nat → Int32) (Q : Nat → Int32) (rd : Int32) (r : Nat) (rx : Nat) (ry : Nat) (n : Nat) (cap : Nat) (X : Nat → Int32) (Y : Nat → Int32) (rg : Int32) (u : Nat) (ux : Nat) (uy : Nat) (m2 : Nat) (cap2 : Nat) (U : Nat → Int32) (V : Nat → Int32) (rh : Int32) (hnd : nd ≤ cd) (hcd : cd ≤ 1000) (hpd : pls nd P Q) (hn : n ≤ cap) (hcap : cap ≤ 1000) (hp : pls n X Y) (hm : m2 ≤ cap2) (hcap2 : cap2 ≤ 1000) (hq : pls m2 U V) : zM l yX4_holdsAsBefore cX4_holdsAsBefore 5 (some .boolean) ({ frames := 1, cells := 0, slots := 0, locals := 26 } : Room) [.ref lw, .ref r, .ref u] (dC, dI) (zTy cI cZ cF) [(oc3 lw (.ref dr) (.ref tg) (.ref wy) (.ref br) (.ref bo) (.ref aa)), (oc6 dr (.ref dx) (.ref dy) (nI nd) rd), (oa dx cI cd P), (oa dy cI cd Q), (oc6 r (.ref rx) (.ref ry) (nI n) rg), (oa rx cI cap X), (oa ry cI cap Y), (oc6 u (.ref ux) (.ref uy) (nI m2) rh), (oa ux cI cap2 U), (oa uy cI cap2 V)] sz (some (.int (pI (∀ k, k < m2 → (inF 5 n X Y (U k).toInt (V k).toInt ↔ inF 5 nd P Q (U k).toInt (V k).toInt))))) (fun A t => zPD (dC, dI) classes A [(oc3 lw (.ref dr) (.ref tg) (.ref wy) (.ref br) (.ref bo) (.ref aa)), (oc6 dr (.ref dx) (.ref dy) (nI nd) rd), (oa dx cI cd P), (oa dy cI cd Q), (oc6 r (.ref rx) (.ref ry) (nI n) rg), (oa rx cI cap X), (oa ry cI cap Y), (oc6 u (.ref ux) (.ref uy) (nI m2) rh), (oa ux cI cap2 U), (oa uy cI cap2 V)] t.heap) 0 0 := by
  refine zIn (own := "ScaleShop$Law") (loc := [(0, .ref lw), (1, .ref r), (2, .ref u)]) rfl rfl rfl rfl (fun p e s m below meth c hx hb hr hts hown hlocks hml hnm9 A hA hS hP hD hK hXN Q9 hQ9 ls hl => ?_)
  refine lv_iconst (v := 0) hx hb dX4_holdsAsBefore_0 rfl ?_
  refine lv_istore_n (lv' := [(3, .int 0), (0, .ref lw), (1, .ref r), (2, .ref u)]) hx hb dX4_holdsAsBefore_1 rfl hl (Nat.le_of_ble_eq_true rfl) rfl (fun ls hl => ?_)
  have hl_2 : ∀ (n9 : Nat) (k : Nat) (H : Heap) (locs : List Loc) (ls : Array Slot), m2 - k < n9 → (k ≤ m2) → (∀ j, j < k → (inF 5 n X Y (U j).toInt (V j).toInt ↔ inF 5 nd P Q (U j).toInt (V j).toInt)) → va_P (dC, dI) classes [(oc3 lw (.ref dr) (.ref tg) (.ref wy) (.ref br) (.ref bo) (.ref aa)), (oc6 dr (.ref dx) (.ref dy) (nI nd) rd), (oa dx cI cd P), (oa dy cI cd Q), (oc6 r (.ref rx) (.ref ry) (nI n) rg), (oa rx cI cap X), (oa ry cI cap Y), (oc6 u (.ref ux) (.ref uy) (nI m2) rh), (oa ux cI cap2 U), (oa uy cI cap2 V)] H → va_D A [(oc3 lw (.ref dr) (.ref tg) (.ref wy) (.ref br) (.ref bo) (.ref aa)), (oc6 dr (.ref dx) (.ref dy) (nI nd) rd), (oa dx cI cd P), (oa dy cI cd Q), (oc6 r (.ref rx) (.ref ry) (nI n) rg), (oa rx cI cap X), (oa ry cI cap Y), (oc6 u (.ref ux) (.ref uy) (nI m2) rh), (oa ux cI cap2 U), (oa uy cI cap2 V)] → va_S A s.heap H locs → lv_has ls 5 [(3, .int (nI k)), (0, .ref lw), (1, .ref r), (2, .ref u)] → W p l e ({ frames := 1, cells := 0, slots := 0, locals := 26 } : Room) s m ([.ref lw, .ref r, .ref u] : List Value).toArray below meth c H locs 0 0 Q9 (F0 m 2 ls []) := by
    intro n9
    induction n9 with
    | zero => intro k H locs ls hm; exact absurd hm (Nat.not_lt_zero _)
    | succ n9 ih_2 =>
      intro k H locs ls hm hk hall hP hD hS hl
      refine lv_iload_n hx hb dX4_holdsAsBefore_2 rfl (lv_at hl 0 rfl) ?_
      refine lv_aload_n hx hb dX4_holdsAsBefore_3 rfl (lv_at hl 3 rfl) ?_
      refine va_get (D := (dC, dI)) (ci := 6) (v := .int (nI m2)) (C := RX7) (T := TX7) (N := 4) hx hb hts inX7 hown hK hP 7 rfl rfl 2 (Nat.le_of_ble_eq_true rfl) (hts _ mw_176) (fun _ h9 => h9) rfl dX4_holdsAsBefore_4 ?_
      have b9_2 : k < 2147483648 := by omega
      have b9_3 : m2 < 2147483648 := by omega
      refine lv_icmp_ge (tgt := 78) hx hb dX4_holdsAsBefore_7 rfl (fun c_1 => ?_) (fun c_1 => ?_)
      · have c_1 : ((m2 : Nat) : Int) ≤ ((k : Nat) : Int) := zc_le (nI_toInt b9_3) (nI_toInt b9_2) c_1
        refine lv_iconst (v := 1) hx hb dX4_holdsAsBefore_78 rfl ?_
        obtain ⟨hP9, hD9⟩ := zu_sub (wc := [_, _, _, _, _, _, _, _, _, _]) hP hD [true, true, true, true, true, true, true, true, true, true] rfl rfl
        rw [hQ9]
        exact W.zret (ty := .boolean) (v := 1) hx hb hr (rfl) (fun t ht hW => ⟨⟨congrArg (fun z => Outcome.returned (some (Value.int z))) (show (1 : Int32) = pI (∀ k, k < m2 → (inF 5 n X Y (U k).toInt (V k).toInt ↔ inF 5 nd P Q (U k).toInt (V k).toInt)) from (zp_t (fun j hj => hall j (by omega))).symm), by rw [ht]; exact hP9, hD9⟩, hS.F ht⟩) hS.2.2 dX4_holdsAsBefore_79
      · have c_1 : ((k : Nat) : Int) < ((m2 : Nat) : Int) := zc_nle (nI_toInt b9_3) (nI_toInt b9_2) c_1
        refine lv_aload_n hx hb dX4_holdsAsBefore_10 rfl (lv_at hl 2 rfl) ?_
        refine lv_aload_n hx hb dX4_holdsAsBefore_11 rfl (lv_at hl 3 rfl) ?_
        refine va_get (D := (dC, dI)) (ci := 6) (v := .ref ux) (C := RX7) (T := TX7) (N := 4) hx hb hts inX7 hown hK hP 7 rfl rfl 0 (Nat.le_of_ble_eq_true rfl) (hts _ mw_163) (fun _ h9 => h9) rfl dX4_holdsAsBefore_12 ?_
        refine lv_iload_n hx hb dX4_holdsAsBefore_15 rfl (lv_at hl 0 rfl) ?_
        have b9_4 : k < cap2 := by omega
        have b9_5 : cap2 < 2147483648 := by omega
        refine z_iald hx hb hK hP 8 0 rfl rfl (e := k) rfl b9_4 b9_5 dX4_holdsAsBefore_16 ?_
        refine lv_aload_n hx hb dX4_holdsAsBefore_17 rfl (lv_at hl 3 rfl) ?_
        refine va_get (D := (dC, dI)) (ci := 6) (v := .ref uy) (C := RX7) (T := TX7) (N := 4) hx hb hts inX7 hown hK hP 7 rfl rfl 1 (Nat.le_of_ble_eq_true rfl) (hts _ mw_170) (fun _ h9 => h9) rfl dX4_holdsAsBefore_18 ?_
        refine lv_iload_n hx hb dX4_holdsAsBefore_21 rfl (lv_at hl 0 rfl) ?_
        refine z_iald hx hb hK hP 9 0 rfl rfl (e := k) rfl b9_4 b9_5 dX4_holdsAsBefore_22 ?_
        obtain ⟨hPc, hDc, hFc⟩ := zo_sub (wc := [_, _, _]) hP hD hS hA [4, 5, 6] rfl rfl
        refine zcall (st1 := [.int (whr n X Y (U k).toInt (V k).toInt)]) (va_runV (As := [.int (U k), .int (V k)]) (rest := []) ⟨hx, hb, hml, hown, hts⟩ (k_Row_where l dC dI cI cZ cF H.size r rx ry n cap X Y rg (U k) (V k) (by first | with_reducible assumption | omega) (by first | with_reducible assumption | omega) (hp) ((hq k (by first | with_reducible assumption | omega)).1) ((hq k (by first | with_reducible assumption | omega)).2)) (csV_38 hts rfl rfl ⟨Nat.le_of_ble_eq_true rfl, Nat.le_of_ble_eq_true rfl⟩) (zPV2 (q0 := 0) (ci := 6) hPc hDc hK hXN rfl rfl) rfl rfl hl.1 rfl (lv_room (Nat.le_of_ble_eq_true rfl)) dX4_holdsAsBefore_23 ⟨Nat.le_of_ble_eq_true rfl, Nat.le_of_ble_eq_true rfl⟩) hS hFc hFc rfl (fun t H locs ht hB hk1 hS => ?_)
        obtain ⟨hP1, hD1⟩ := hB
        rw [ht] at hP1
        obtain ⟨hP, hD⟩ := zn (W2 := [_, _, _, _, _, _, _, _, _, _]) hP hD hk1 hFc hP1 hD1 [4, 5, 6] [true, true, true, true, false, false, false, true, true, true] [true, true, true, true, false, false, false, true, true, true] [4, 5, 6] (by decide +kernel) rfl rfl rfl rfl rfl
        clear hk1 hPc hDc hFc hP1 hD1 ht
        have hj_6 : W p l e ({ frames := 1, cells := 0, slots := 0, locals := 26 } : Room) s m ([.ref lw, .ref r, .ref u] : List Value).toArray below meth c H locs 0 0 Q9 (F0 m 35 ls [.int (pI (inF 5 n X Y (U k).toInt (V k).toInt))]) := by
          refine lv_istore (lv' := [(4, .int (pI (inF 5 n X Y (U k).toInt (V k).toInt))), (3, .int (nI k)), (0, .ref lw), (1, .ref r), (2, .ref u)]) hx hb dX4_holdsAsBefore_35 hl (Nat.le_of_ble_eq_true rfl) rfl (fun ls hl => ?_)
          refine lv_iload hx hb dX4_holdsAsBefore_37 (lv_at hl 0 rfl) ?_
          refine lv_aload_n hx hb dX4_holdsAsBefore_39 rfl (lv_at hl 2 rfl) ?_
          refine va_get (D := (dC, dI)) (ci := 3) (v := .ref dr) (C := RX4) (T := TX4) (N := 6) hx hb hts inX4 hown hK hP 0 rfl rfl 0 (Nat.le_of_ble_eq_true rfl) (hts _ mw_219) (fun _ h9 => h9) rfl dX4_holdsAsBefore_40 ?_
          refine lv_aload_n hx hb dX4_holdsAsBefore_43 rfl (lv_at hl 4 rfl) ?_
          refine va_get (D := (dC, dI)) (ci := 6) (v := .ref ux) (C := RX7) (T := TX7) (N := 4) hx hb hts inX7 hown hK hP 7 rfl rfl 0 (Nat.le_of_ble_eq_true rfl) (hts _ mw_163) (fun _ h9 => h9) rfl dX4_holdsAsBefore_44 ?_
          refine lv_iload_n hx hb dX4_holdsAsBefore_47 rfl (lv_at hl 1 rfl) ?_
          refine z_iald hx hb hK hP 8 0 rfl rfl (e := k) rfl b9_4 b9_5 dX4_holdsAsBefore_48 ?_
          refine lv_aload_n hx hb dX4_holdsAsBefore_49 rfl (lv_at hl 4 rfl) ?_
          refine va_get (D := (dC, dI)) (ci := 6) (v := .ref uy) (C := RX7) (T := TX7) (N := 4) hx hb hts inX7 hown hK hP 7 rfl rfl 1 (Nat.le_of_ble_eq_true rfl) (hts _ mw_170) (fun _ h9 => h9) rfl dX4_holdsAsBefore_50 ?_
          refine lv_iload_n hx hb dX4_holdsAsBefore_53 rfl (lv_at hl 1 rfl) ?_
          refine z_iald hx hb hK hP 9 0 rfl rfl (e := k) rfl b9_4 b9_5 dX4_holdsAsBefore_54 ?_
          obtain ⟨hPc, hDc, hFc⟩ := zo_sub (wc := [_, _, _]) hP hD hS hA [1, 2, 3] rfl rfl
          refine zcall (st1 := [.int (whr nd P Q (U k).toInt (V k).toInt), .int (pI (inF 5 n X Y (U k).toInt (V k).toInt))]) (va_runV (As := [.int (U k), .int (V k)]) (rest := [.int (pI (inF 5 n X Y (U k).toInt (V k).toInt))]) ⟨hx, hb, hml, hown, hts⟩ (k_Row_where l dC dI cI cZ cF H.size dr dx dy nd cd P Q rd (U k) (V k) (by first | with_reducible assumption | omega) (by first | with_reducible assumption | omega) (hpd) ((hq k (by first | with_reducible assumption | omega)).1) ((hq k (by first | with_reducible assumption | omega)).2)) (csV_38 hts rfl rfl ⟨Nat.le_of_ble_eq_true rfl, Nat.le_of_ble_eq_true rfl⟩) (zPV2 (q0 := 0) (ci := 6) hPc hDc hK hXN rfl rfl) rfl rfl hl.1 rfl (lv_room (Nat.le_of_ble_eq_true rfl)) dX4_holdsAsBefore_55 ⟨Nat.le_of_ble_eq_true rfl, Nat.le_of_ble_eq_true rfl⟩) hS hFc hFc rfl (fun t H locs ht hB hk1 hS => ?_)
          obtain ⟨hP1, hD1⟩ := hB
          rw [ht] at hP1
          obtain ⟨hP, hD⟩ := zn (W2 := [_, _, _, _, _, _, _, _, _, _]) hP hD hk1 hFc hP1 hD1 [1, 2, 3] [true, false, false, false, true, true, true, true, true, true] [true, false, false, false, true, true, true, true, true, true] [1, 2, 3] (by decide +kernel) rfl rfl rfl rfl rfl
          clear hk1 hPc hDc hFc hP1 hD1 ht
          have hj_7 : W p l e ({ frames := 1, cells := 0, slots := 0, locals := 26 } : Room) s m ([.ref lw, .ref r, .ref u] : List Value).toArray below meth c H locs 0 0 Q9 (F0 m 67 ls [.int (pI (inF 5 nd P Q (U k).toInt (V k).toInt)), .int (pI (inF 5 n X Y (U k).toInt (V k).toInt))]) := by
            refine lv_icmp_eq (tgt := 72) hx hb dX4_holdsAsBefore_67 rfl (fun c_8 => ?_) (fun c_8 => ?_)
            · have c_8 : (pI (inF 5 n X Y (U k).toInt (V k).toInt)).toInt = (pI (inF 5 nd P Q (U k).toInt (V k).toInt)).toInt := zc_eq rfl rfl c_8
              refine lv_iinc (v := nI (k + 1)) (lv' := [(3, .int (nI (k + 1))), (4, .int (pI (inF 5 n X Y (U k).toInt (V k).toInt))), (0, .ref lw), (1, .ref r), (2, .ref u)]) hx hb dX4_holdsAsBefore_72 hl (k := 1) rfl (nI_add k 1) (Nat.le_of_ble_eq_true rfl) rfl (fun ls hl => ?_)
              refine lv_goto (tgt := 2) hx hb dX4_holdsAsBefore_75 rfl ?_
              exact ih_2 (k + 1) H locs ls (by first | with_reducible assumption | omega) (by first | with_reducible assumption | omega) (by intro j hj; rcases Nat.lt_or_ge j k with h | h; exact hall j h; rw [show j = k by omega]; exact zp_ieq.mp (by first | with_reducible assumption | assumption)) hP hD hS (lv_sub hl [0, 2, 3, 4] rfl)
            · have c_8 : ¬ (pI (inF 5 n X Y (U k).toInt (V k).toInt)).toInt = (pI (inF 5 nd P Q (U k).toInt (V k).toInt)).toInt := zc_ne rfl rfl c_8
              refine lv_iconst (v := 0) hx hb dX4_holdsAsBefore_70 rfl ?_
              obtain ⟨hP9, hD9⟩ := zu_sub (wc := [_, _, _, _, _, _, _, _, _, _]) hP hD [true, true, true, true, true, true, true, true, true, true] rfl rfl
              rw [hQ9]
              exact W.zret (ty := .boolean) (v := 0) hx hb hr (rfl) (fun t ht hW => ⟨⟨congrArg (fun z => Outcome.returned (some (Value.int z))) (show (0 : Int32) = pI (∀ k, k < m2 → (inF 5 n X Y (U k).toInt (V k).toInt ↔ inF 5 nd P Q (U k).toInt (V k).toInt)) from (zp_f (fun h => absurd (zp_ieq.mpr (h k (by omega))) (by first | with_reducible assumption | assumption))).symm), by rw [ht]; exact hP9, hD9⟩, hS.F ht⟩) hS.2.2 dX4_holdsAsBefore_71
          refine lv_iconst (v := 1) hx hb dX4_holdsAsBefore_58 rfl ?_
          refine lv_icmp_ne (tgt := 66) hx hb dX4_holdsAsBefore_59 rfl (fun c_9 => ?_) (fun c_9 => ?_)
          · have c_9 : ¬ (whr nd P Q (U k).toInt (V k).toInt).toInt = 1 := zc_ne rfl rfl c_9
            refine lv_iconst (v := 0) hx hb dX4_holdsAsBefore_66 rfl ?_
            refine zz_i (v := pI (inF 5 nd P Q (U k).toInt (V k).toInt)) (by first | exact (zp_t (whr_in.mp (by first | with_reducible assumption | assumption))).symm | exact (zp_f (fun h => absurd (whr_in.mpr h) (by first | with_reducible assumption | assumption))).symm) ?_
            exact hj_7 
          · have c_9 : (whr nd P Q (U k).toInt (V k).toInt).toInt = 1 := zc_eq rfl rfl c_9
            refine lv_iconst (v := 1) hx hb dX4_holdsAsBefore_62 rfl ?_
            refine lv_goto (tgt := 67) hx hb dX4_holdsAsBefore_63 rfl ?_
            refine zz_i (v := pI (inF 5 nd P Q (U k).toInt (V k).toInt)) (by first | exact (zp_t (whr_in.mp (by first | with_reducible assumption | assumption))).symm | exact (zp_f (fun h => absurd (whr_in.mpr h) (by first | with_reducible assumption | assumption))).symm) ?_
            exact hj_7 
        refine lv_iconst (v := 1) hx hb dX4_holdsAsBefore_26 rfl ?_
        refine lv_icmp_ne (tgt := 34) hx hb dX4_holdsAsBefore_27 rfl (fun c_10 => ?_) (fun c_10 => ?_)
        · have c_10 : ¬ (whr n X Y (U k).toInt (V k).toInt).toInt = 1 := zc_ne rfl rfl c_10
          refine lv_iconst (v := 0) hx hb dX4_holdsAsBefore_34 rfl ?_
          refine zz_i (v := pI (inF 5 n X Y (U k).toInt (V k).toInt)) (by first | exact (zp_t (whr_in.mp (by first | with_reducible assumption | assumption))).symm | exact (zp_f (fun h => absurd (whr_in.mpr h) (by first | with_reducible assumption | assumption))).symm) ?_
          exact hj_6 
        · have c_10 : (whr n X Y (U k).toInt (V k).toInt).toInt = 1 := zc_eq rfl rfl c_10
          refine lv_iconst (v := 1) hx hb dX4_holdsAsBefore_30 rfl ?_
          refine lv_goto (tgt := 35) hx hb dX4_holdsAsBefore_31 rfl ?_
          refine zz_i (v := pI (inF 5 n X Y (U k).toInt (V k).toInt)) (by first | exact (zp_t (whr_in.mp (by first | with_reducible assumption | assumption))).symm | exact (zp_f (fun h => absurd (whr_in.mpr h) (by first | with_reducible assumption | assumption))).symm) ?_
          exact hj_6 
  exact hl_2 _ 0 s.heap [] ls (Nat.lt_succ_self _) (by first | with_reducible assumption | omega) (by intro j hj; omega) hP hD hS (lv_sub hl [0, 1, 2, 3] rfl)
set_option maxHeartbeats 4000000 in
set_option maxRecDepth 100000 in
theorem k_Law_leadsTo (l : Launch) (dC : Nat → ClassId) (dI : Nat → Nat → Nat) (cI cZ cF : ClassId) (sz : Nat) (lw : Nat) (dr : Nat) (tg : Nat) (wy : Nat) (br : Nat) (bo : Nat) (aa : Nat) (wx : Nat) (wz : Nat) (WX : Nat → Int32) (WY : Nat → Int32) (rw : Int32) (px : Int32) (py : Int32) (hpw : pls 2 WX WY) (hpx : pl px) (hpy : pl py) : zM l yX4_leadsTo cX4_leadsTo 4 (some .boolean) ({ frames := 1, cells := 0, slots := 0, locals := 24 } : Room) [.ref lw, .int px, .int py] (dC, dI) (zTy cI cZ cF) [(oc3 lw (.ref dr) (.ref tg) (.ref wy) (.ref br) (.ref bo) (.ref aa)), (oc6 wy (.ref wx) (.ref wz) (nI 2) rw), (oa wx cI 2 WX), (oa wz cI 2 WY)] sz (some (.int (pI (ldT (WX 0).toInt (WY 0).toInt (WX 1).toInt (WY 1).toInt px.toInt py.toInt)))) (fun A t => zPD (dC, dI) classes A [(oc3 lw (.ref dr) (.ref tg) (.ref wy) (.ref br) (.ref bo) (.ref aa)), (oc6 wy (.ref wx) (.ref wz) (nI 2) rw), (oa wx cI 2 WX), (oa wz cI 2 WY)] t.heap) 0 0 := by
  refine zIn (own := "ScaleShop$Law") (loc := [(0, .ref lw), (1, .int px), (2, .int py)]) rfl rfl rfl rfl (fun p e s m below meth c hx hb hr hts hown hlocks hml hnm9 A hA hS hP hD hK hXN Q9 hQ9 ls hl => ?_)
  have hTb := nrT_b (hpw 0 (by omega)).1 (hpw 0 (by omega)).2 (hpw 1 (by omega)).1 (hpw 1 (by omega)).2 hpx hpy
  have hCb := crBp (hpw 0 (by omega)).1 (hpw 0 (by omega)).2 (hpw 1 (by omega)).1 (hpw 1 (by omega)).2 hpx hpy
  have e9 : eCr 2 WX WY 0 px.toInt py.toInt = cr (WX 0).toInt (WY 0).toInt (WX 1).toInt (WY 1).toInt px.toInt py.toInt := rfl
  refine lv_aload_n hx hb dX4_leadsTo_0 rfl (lv_at hl 0 rfl) ?_
  refine va_get (D := (dC, dI)) (ci := 3) (v := .ref wy) (C := RX4) (T := TX4) (N := 6) hx hb hts inX4 hown hK hP 0 rfl rfl 2 (Nat.le_of_ble_eq_true rfl) (hts _ mw_222) (fun _ h9 => h9) rfl dX4_leadsTo_1 ?_
  refine va_get (D := (dC, dI)) (ci := 6) (v := .ref wx) (C := RX7) (T := TX7) (N := 4) hx hb hts inX7 hown hK hP 1 rfl rfl 0 (Nat.le_of_ble_eq_true rfl) (hts _ mw_163) (fun _ h9 => h9) rfl dX4_leadsTo_4 ?_
  refine lv_iconst (v := 1) hx hb dX4_leadsTo_7 rfl ?_
  refine z_iald hx hb hK hP 2 0 rfl rfl (e := 1) rfl (Nat.le_of_ble_eq_true rfl) (Nat.le_of_ble_eq_true rfl) dX4_leadsTo_8 ?_
  refine lv_aload_n hx hb dX4_leadsTo_9 rfl (lv_at hl 0 rfl) ?_
  refine va_get (D := (dC, dI)) (ci := 3) (v := .ref wy) (C := RX4) (T := TX4) (N := 6) hx hb hts inX4 hown hK hP 0 rfl rfl 2 (Nat.le_of_ble_eq_true rfl) (hts _ mw_222) (fun _ h9 => h9) rfl dX4_leadsTo_10 ?_
  refine va_get (D := (dC, dI)) (ci := 6) (v := .ref wx) (C := RX7) (T := TX7) (N := 4) hx hb hts inX7 hown hK hP 1 rfl rfl 0 (Nat.le_of_ble_eq_true rfl) (hts _ mw_163) (fun _ h9 => h9) rfl dX4_leadsTo_13 ?_
  refine lv_iconst (v := 0) hx hb dX4_leadsTo_16 rfl ?_
  refine z_iald hx hb hK hP 2 0 rfl rfl (e := 0) rfl (Nat.le_of_ble_eq_true rfl) (Nat.le_of_ble_eq_true rfl) dX4_leadsTo_17 ?_
  refine lv_isub hx hb dX4_leadsTo_18 ?_
  refine lv_iload_n hx hb dX4_leadsTo_19 rfl (lv_at hl 1 rfl) ?_
  refine lv_aload_n hx hb dX4_leadsTo_20 rfl (lv_at hl 0 rfl) ?_
  refine va_get (D := (dC, dI)) (ci := 3) (v := .ref wy) (C := RX4) (T := TX4) (N := 6) hx hb hts inX4 hown hK hP 0 rfl rfl 2 (Nat.le_of_ble_eq_true rfl) (hts _ mw_222) (fun _ h9 => h9) rfl dX4_leadsTo_21 ?_
  refine va_get (D := (dC, dI)) (ci := 6) (v := .ref wx) (C := RX7) (T := TX7) (N := 4) hx hb hts inX7 hown hK hP 1 rfl rfl 0 (Nat.le_of_ble_eq_true rfl) (hts _ mw_163) (fun _ h9 => h9) rfl dX4_leadsTo_24 ?_
  refine lv_iconst (v := 0) hx hb dX4_leadsTo_27 rfl ?_
  refine z_iald hx hb hK hP 2 0 rfl rfl (e := 0) rfl (Nat.le_of_ble_eq_true rfl) (Nat.le_of_ble_eq_true rfl) dX4_leadsTo_28 ?_
  refine lv_isub hx hb dX4_leadsTo_29 ?_
  refine lv_imul hx hb dX4_leadsTo_30 ?_
  refine lv_aload_n hx hb dX4_leadsTo_31 rfl (lv_at hl 0 rfl) ?_
  refine va_get (D := (dC, dI)) (ci := 3) (v := .ref wy) (C := RX4) (T := TX4) (N := 6) hx hb hts inX4 hown hK hP 0 rfl rfl 2 (Nat.le_of_ble_eq_true rfl) (hts _ mw_222) (fun _ h9 => h9) rfl dX4_leadsTo_32 ?_
  refine va_get (D := (dC, dI)) (ci := 6) (v := .ref wz) (C := RX7) (T := TX7) (N := 4) hx hb hts inX7 hown hK hP 1 rfl rfl 1 (Nat.le_of_ble_eq_true rfl) (hts _ mw_170) (fun _ h9 => h9) rfl dX4_leadsTo_35 ?_
  refine lv_iconst (v := 1) hx hb dX4_leadsTo_38 rfl ?_
  refine z_iald hx hb hK hP 3 0 rfl rfl (e := 1) rfl (Nat.le_of_ble_eq_true rfl) (Nat.le_of_ble_eq_true rfl) dX4_leadsTo_39 ?_
  refine lv_aload_n hx hb dX4_leadsTo_40 rfl (lv_at hl 0 rfl) ?_
  refine va_get (D := (dC, dI)) (ci := 3) (v := .ref wy) (C := RX4) (T := TX4) (N := 6) hx hb hts inX4 hown hK hP 0 rfl rfl 2 (Nat.le_of_ble_eq_true rfl) (hts _ mw_222) (fun _ h9 => h9) rfl dX4_leadsTo_41 ?_
  refine va_get (D := (dC, dI)) (ci := 6) (v := .ref wz) (C := RX7) (T := TX7) (N := 4) hx hb hts inX7 hown hK hP 1 rfl rfl 1 (Nat.le_of_ble_eq_true rfl) (hts _ mw_170) (fun _ h9 => h9) rfl dX4_leadsTo_44 ?_
  refine lv_iconst (v := 0) hx hb dX4_leadsTo_47 rfl ?_
  refine z_iald hx hb hK hP 3 0 rfl rfl (e := 0) rfl (Nat.le_of_ble_eq_true rfl) (Nat.le_of_ble_eq_true rfl) dX4_leadsTo_48 ?_
  refine lv_isub hx hb dX4_leadsTo_49 ?_
  refine lv_iload_n hx hb dX4_leadsTo_50 rfl (lv_at hl 2 rfl) ?_
  refine lv_aload_n hx hb dX4_leadsTo_51 rfl (lv_at hl 0 rfl) ?_
  refine va_get (D := (dC, dI)) (ci := 3) (v := .ref wy) (C := RX4) (T := TX4) (N := 6) hx hb hts inX4 hown hK hP 0 rfl rfl 2 (Nat.le_of_ble_eq_true rfl) (hts _ mw_222) (fun _ h9 => h9) rfl dX4_leadsTo_52 ?_
  refine va_get (D := (dC, dI)) (ci := 6) (v := .ref wz) (C := RX7) (T := TX7) (N := 4) hx hb hts inX7 hown hK hP 1 rfl rfl 1 (Nat.le_of_ble_eq_true rfl) (hts _ mw_170) (fun _ h9 => h9) rfl dX4_leadsTo_55 ?_
  refine lv_iconst (v := 0) hx hb dX4_leadsTo_58 rfl ?_
  refine z_iald hx hb hK hP 3 0 rfl rfl (e := 0) rfl (Nat.le_of_ble_eq_true rfl) (Nat.le_of_ble_eq_true rfl) dX4_leadsTo_59 ?_
  refine lv_isub hx hb dX4_leadsTo_60 ?_
  refine lv_imul hx hb dX4_leadsTo_61 ?_
  refine lv_iadd hx hb dX4_leadsTo_62 ?_
  refine zz_i (v := iI (nrT (WX 0).toInt (WY 0).toInt (WX 1).toInt (WY 1).toInt px.toInt py.toInt)) (in_dot (hpw 0 (by omega)).1 (hpw 0 (by omega)).2 (hpw 1 (by omega)).1 (hpw 1 (by omega)).2 hpx hpy) ?_
  refine lv_istore_n (lv' := [(3, .int (iI (nrT (WX 0).toInt (WY 0).toInt (WX 1).toInt (WY 1).toInt px.toInt py.toInt))), (0, .ref lw), (1, .int px), (2, .int py)]) hx hb dX4_leadsTo_63 rfl hl (Nat.le_of_ble_eq_true rfl) rfl (fun ls hl => ?_)
  refine lv_aload_n hx hb dX4_leadsTo_64 rfl (lv_at hl 1 rfl) ?_
  refine va_get (D := (dC, dI)) (ci := 3) (v := .ref wy) (C := RX4) (T := TX4) (N := 6) hx hb hts inX4 hown hK hP 0 rfl rfl 2 (Nat.le_of_ble_eq_true rfl) (hts _ mw_222) (fun _ h9 => h9) rfl dX4_leadsTo_65 ?_
  refine lv_iconst (v := 0) hx hb dX4_leadsTo_68 rfl ?_
  refine lv_iload_n hx hb dX4_leadsTo_69 rfl (lv_at hl 2 rfl) ?_
  refine lv_iload_n hx hb dX4_leadsTo_70 rfl (lv_at hl 3 rfl) ?_
  obtain ⟨hPc, hDc, hFc⟩ := zo_sub (wc := [_, _, _]) hP hD hS hA [1, 2, 3] rfl rfl
  refine zcall (st1 := [.int (iI (eCr 2 WX WY 0 px.toInt py.toInt))]) (va_runV (As := [.int 0, .int px, .int py]) (rest := []) ⟨hx, hb, hml, hown, hts⟩ (k_Row_turn l dC dI cI cZ cF s.heap.size wy wx wz 2 2 WX WY rw 0 px py (by first | with_reducible assumption | omega) (by first | with_reducible assumption | omega) (hpw) (by first | with_reducible assumption | omega) (by first | with_reducible assumption | assumption) (by first | with_reducible assumption | assumption)) (csV_39 hts rfl rfl ⟨Nat.le_of_ble_eq_true rfl, Nat.le_of_ble_eq_true rfl⟩) (zPV2 (q0 := 0) (ci := 6) hPc hDc hK hXN rfl rfl) rfl rfl hl.1 rfl (lv_room (Nat.le_of_ble_eq_true rfl)) dX4_leadsTo_71 ⟨Nat.le_of_ble_eq_true rfl, Nat.le_of_ble_eq_true rfl⟩) hS hFc hFc rfl (fun t H locs ht hB hk1 hS => ?_)
  obtain ⟨hP1, hD1⟩ := hB
  rw [ht] at hP1
  obtain ⟨hP, hD⟩ := zn (W2 := [_, _, _, _]) hP hD hk1 hFc hP1 hD1 [1, 2, 3] [true] [true, false, false, false] [1, 2, 3] (by decide +kernel) rfl rfl rfl rfl rfl
  clear hk1 hPc hDc hFc hP1 hD1 ht
  refine lv_if_ne (tgt := 85) hx hb dX4_leadsTo_74 rfl (fun c_1 => ?_) (fun c_1 => ?_)
  · have c_1 : ¬ (eCr 2 WX WY 0 px.toInt py.toInt) = 0 := zc_ne (iI_toInt (by omega)) rfl c_1
    refine lv_iconst (v := 0) hx hb dX4_leadsTo_85 rfl ?_
    obtain ⟨hP9, hD9⟩ := zu_sub (wc := [_, _, _, _]) hP hD [true, true, true, true] rfl rfl
    rw [hQ9]
    exact W.zret (ty := .boolean) (v := 0) hx hb hr (rfl) (fun t ht hW => ⟨⟨congrArg (fun z => Outcome.returned (some (Value.int z))) (show (0 : Int32) = pI (ldT (WX 0).toInt (WY 0).toInt (WX 1).toInt (WY 1).toInt px.toInt py.toInt) from (zp_f (by unfold ldT; omega)).symm), by rw [ht]; exact hP9, hD9⟩, hS.F ht⟩) hS.2.2 dX4_leadsTo_86
  · have c_1 : (eCr 2 WX WY 0 px.toInt py.toInt) = 0 := zc_eq (iI_toInt (by omega)) rfl c_1
    refine lv_iload_n hx hb dX4_leadsTo_77 rfl (lv_at hl 0 rfl) ?_
    refine lv_if_le (tgt := 85) hx hb dX4_leadsTo_78 rfl (fun c_2 => ?_) (fun c_2 => ?_)
    · have c_2 : (nrT (WX 0).toInt (WY 0).toInt (WX 1).toInt (WY 1).toInt px.toInt py.toInt) ≤ 0 := zc_le (iI_toInt (by omega)) rfl c_2
      refine lv_iconst (v := 0) hx hb dX4_leadsTo_85 rfl ?_
      obtain ⟨hP9, hD9⟩ := zu_sub (wc := [_, _, _, _]) hP hD [true, true, true, true] rfl rfl
      rw [hQ9]
      exact W.zret (ty := .boolean) (v := 0) hx hb hr (rfl) (fun t ht hW => ⟨⟨congrArg (fun z => Outcome.returned (some (Value.int z))) (show (0 : Int32) = pI (ldT (WX 0).toInt (WY 0).toInt (WX 1).toInt (WY 1).toInt px.toInt py.toInt) from (zp_f (by unfold ldT; omega)).symm), by rw [ht]; exact hP9, hD9⟩, hS.F ht⟩) hS.2.2 dX4_leadsTo_86
    · have c_2 : 0 < (nrT (WX 0).toInt (WY 0).toInt (WX 1).toInt (WY 1).toInt px.toInt py.toInt) := zc_nle (iI_toInt (by omega)) rfl c_2
      refine lv_iconst (v := 1) hx hb dX4_leadsTo_81 rfl ?_
      refine lv_goto (tgt := 86) hx hb dX4_leadsTo_82 rfl ?_
      obtain ⟨hP9, hD9⟩ := zu_sub (wc := [_, _, _, _]) hP hD [true, true, true, true] rfl rfl
      rw [hQ9]
      exact W.zret (ty := .boolean) (v := 1) hx hb hr (rfl) (fun t ht hW => ⟨⟨congrArg (fun z => Outcome.returned (some (Value.int z))) (show (1 : Int32) = pI (ldT (WX 0).toInt (WY 0).toInt (WX 1).toInt (WY 1).toInt px.toInt py.toInt) from (zp_t (by unfold ldT; omega)).symm), by rw [ht]; exact hP9, hD9⟩, hS.F ht⟩) hS.2.2 dX4_leadsTo_86
set_option maxHeartbeats 4000000 in
set_option maxRecDepth 100000 in
theorem k_Law_isWayFree (l : Launch) (dC : Nat → ClassId) (dI : Nat → Nat → Nat) (cI cZ cF : ClassId) (sz : Nat) (lw : Nat) (dr : Nat) (tg : Nat) (wy : Nat) (br : Nat) (bo : Nat) (aa : Nat) (wx : Nat) (wz : Nat) (nw : Nat) (WX : Nat → Int32) (WY : Nat → Int32) (rw : Int32) (dx : Nat) (dy : Nat) (nd : Nat) (cd : Nat) (P : Nat → Int32) (Q : Nat → Int32) (rd : Int32) (r : Nat) (rx : Nat) (ry : Nat) (n : Nat) (cap : Nat) (X : Nat → Int32) (Y : Nat → Int32) (rg : Int32) (u : Nat) (ux : Nat) (uy : Nat) (m2 : Nat) (cap2 : Nat) (U : Nat → Int32) (V : Nat → Int32) (rh : Int32) (hnd : nd ≤ cd) (hcd : cd ≤ 1000) (hpd : pls nd P Q) (hn : n ≤ cap) (hcap : cap ≤ 1000) (hp : pls n X Y) (hm : m2 ≤ cap2) (hcap2 : cap2 ≤ 1000) (hq : pls m2 U V) (h1n : 1 ≤ n) (h1d : 1 ≤ nd) : zM l yX4_isWayFree cX4_isWayFree 5 (some .boolean) ({ frames := 2, cells := 0, slots := 0, locals := 48 } : Room) [.ref lw, .ref r, .ref u] (dC, dI) (zTy cI cZ cF) [(oc3 lw (.ref dr) (.ref tg) (.ref wy) (.ref br) (.ref bo) (.ref aa)), (oc6 wy (.ref wx) (.ref wz) (nI nw) rw), (oa wx cI 2 WX), (oa wz cI 2 WY), (oc6 dr (.ref dx) (.ref dy) (nI nd) rd), (oa dx cI cd P), (oa dy cI cd Q), (oc6 r (.ref rx) (.ref ry) (nI n) rg), (oa rx cI cap X), (oa ry cI cap Y), (oc6 u (.ref ux) (.ref uy) (nI m2) rh), (oa ux cI cap2 U), (oa uy cI cap2 V)] sz (some (.int (pI (∀ k, k < prt m2 rh → wyF2 (X 0).toInt (Y 0).toInt (P 0).toInt (Q 0).toInt m2 U V k)))) (fun A t => zPD (dC, dI) classes A [(oc3 lw (.ref dr) (.ref tg) (.ref wy) (.ref br) (.ref bo) (.ref aa)), (oc6 wy (.ref wx) (.ref wz) (nI 2) 0), (oa wx cI 2 (upd (upd WX 0 (X 0)) 1 (P 0))), (oa wz cI 2 (upd (upd WY 0 (Y 0)) 1 (Q 0))), (oc6 dr (.ref dx) (.ref dy) (nI nd) rd), (oa dx cI cd P), (oa dy cI cd Q), (oc6 r (.ref rx) (.ref ry) (nI n) rg), (oa rx cI cap X), (oa ry cI cap Y), (oc6 u (.ref ux) (.ref uy) (nI m2) rh), (oa ux cI cap2 U), (oa uy cI cap2 V)] t.heap) 0 0 := by
  refine zIn (own := "ScaleShop$Law") (loc := [(0, .ref lw), (1, .ref r), (2, .ref u)]) rfl rfl rfl rfl (fun p e s m below meth c hx hb hr hts hown hlocks hml hnm9 A hA hS hP hD hK hXN Q9 hQ9 ls hl => ?_)
  have hpr2 := prt_le m2 rh
  have h0x := hp 0 (by omega)
  have h0p := hpd 0 (by omega)
  have hpw := wy_pl (T := WX) (S := WY) h0x.1 h0x.2 h0p.1 h0p.2
  refine lv_aload_n hx hb dX4_isWayFree_0 rfl (lv_at hl 0 rfl) ?_
  refine va_get (D := (dC, dI)) (ci := 3) (v := .ref wy) (C := RX4) (T := TX4) (N := 6) hx hb hts inX4 hown hK hP 0 rfl rfl 2 (Nat.le_of_ble_eq_true rfl) (hts _ mw_222) (fun _ h9 => h9) rfl dX4_isWayFree_1 ?_
  refine lv_iconst (v := 0) hx hb dX4_isWayFree_4 rfl ?_
  obtain ⟨hPc, hDc, hFc⟩ := zo_sub (wc := [_, _, _]) hP hD hS hA [1, 2, 3] rfl rfl
  refine zcall (st1 := []) (va_runV (As := [.int 0]) (rest := []) ⟨hx, hb, hml, hown, hts⟩ (k_Row_clear l dC dI cI cZ cF s.heap.size wy wx wz nw 2 WX WY rw 0 (Or.inl rfl)) (csV_40 hts rfl rfl ⟨Nat.le_of_ble_eq_true rfl, Nat.le_of_ble_eq_true rfl⟩) (zPV2 (q0 := 0) (ci := 6) hPc hDc hK hXN rfl rfl) rfl rfl hl.1 rfl (lv_room (Nat.le_of_ble_eq_true rfl)) dX4_isWayFree_5 ⟨Nat.le_of_ble_eq_true rfl, Nat.le_of_ble_eq_true rfl⟩) hS hFc hFc rfl (fun t H locs ht hB hk1 hS => ?_)
  obtain ⟨hP1, hD1⟩ := hB
  rw [ht] at hP1
  obtain ⟨hP, hD⟩ := zn (W2 := [_, (oc6 wy (.ref wx) (.ref wz) (nI 0) 0), _, _, _, _, _, _, _, _, _, _, _]) hP hD hk1 hFc hP1 hD1 [1, 2, 3] [true, false, false, false, true, true, true, true, true, true, true, true, true] [true, false, false, false, true, true, true, true, true, true, true, true, true] [1, 2, 3] (by decide +kernel) rfl rfl rfl rfl rfl
  clear hk1 hPc hDc hFc hP1 hD1 ht
  refine lv_aload_n hx hb dX4_isWayFree_8 rfl (lv_at hl 0 rfl) ?_
  refine va_get (D := (dC, dI)) (ci := 3) (v := .ref wy) (C := RX4) (T := TX4) (N := 6) hx hb hts inX4 hown hK hP 0 rfl rfl 2 (Nat.le_of_ble_eq_true rfl) (hts _ mw_222) (fun _ h9 => h9) rfl dX4_isWayFree_9 ?_
  refine lv_aload_n hx hb dX4_isWayFree_12 rfl (lv_at hl 1 rfl) ?_
  refine va_get (D := (dC, dI)) (ci := 6) (v := .ref rx) (C := RX7) (T := TX7) (N := 4) hx hb hts inX7 hown hK hP 7 rfl rfl 0 (Nat.le_of_ble_eq_true rfl) (hts _ mw_163) (fun _ h9 => h9) rfl dX4_isWayFree_13 ?_
  refine lv_iconst (v := 0) hx hb dX4_isWayFree_16 rfl ?_
  have b9_1 : 0 < cap := by omega
  have b9_2 : cap < 2147483648 := by omega
  refine z_iald hx hb hK hP 8 0 rfl rfl (e := 0) rfl b9_1 b9_2 dX4_isWayFree_17 ?_
  refine lv_aload_n hx hb dX4_isWayFree_18 rfl (lv_at hl 1 rfl) ?_
  refine va_get (D := (dC, dI)) (ci := 6) (v := .ref ry) (C := RX7) (T := TX7) (N := 4) hx hb hts inX7 hown hK hP 7 rfl rfl 1 (Nat.le_of_ble_eq_true rfl) (hts _ mw_170) (fun _ h9 => h9) rfl dX4_isWayFree_19 ?_
  refine lv_iconst (v := 0) hx hb dX4_isWayFree_22 rfl ?_
  refine z_iald hx hb hK hP 9 0 rfl rfl (e := 0) rfl b9_1 b9_2 dX4_isWayFree_23 ?_
  obtain ⟨hPc, hDc, hFc⟩ := zo_sub (wc := [_, _, _]) hP hD hS hA [1, 2, 3] rfl rfl
  refine zcall (st1 := []) (va_runV (As := [.int (X 0), .int (Y 0)]) (rest := []) ⟨hx, hb, hml, hown, hts⟩ (k_Row_put l dC dI cI cZ cF H.size wy wx wz 0 2 WX WY 0 (X 0) (Y 0) (by first | with_reducible assumption | omega) (by first | with_reducible assumption | omega)) (csV_41 hts rfl rfl ⟨Nat.le_of_ble_eq_true rfl, Nat.le_of_ble_eq_true rfl⟩) (zPV2 (q0 := 0) (ci := 6) hPc hDc hK hXN rfl rfl) rfl rfl hl.1 rfl (lv_room (Nat.le_of_ble_eq_true rfl)) dX4_isWayFree_24 ⟨Nat.le_of_ble_eq_true rfl, Nat.le_of_ble_eq_true rfl⟩) hS hFc hFc rfl (fun t H locs ht hB hk1 hS => ?_)
  obtain ⟨hP1, hD1⟩ := hB
  rw [ht] at hP1
  obtain ⟨hP, hD⟩ := zn (W2 := [_, (oc6 wy (.ref wx) (.ref wz) (nI (0 + 1)) 0), (oa wx cI 2 (upd WX 0 (X 0))), (oa wz cI 2 (upd WY 0 (Y 0))), _, _, _, _, _, _, _, _, _]) hP hD hk1 hFc hP1 hD1 [1, 2, 3] [true, false, false, false, true, true, true, true, true, true, true, true, true] [true, false, false, false, true, true, true, true, true, true, true, true, true] [1, 2, 3] (by decide +kernel) rfl rfl rfl rfl rfl
  clear hk1 hPc hDc hFc hP1 hD1 ht
  refine lv_aload_n hx hb dX4_isWayFree_27 rfl (lv_at hl 0 rfl) ?_
  refine va_get (D := (dC, dI)) (ci := 3) (v := .ref wy) (C := RX4) (T := TX4) (N := 6) hx hb hts inX4 hown hK hP 0 rfl rfl 2 (Nat.le_of_ble_eq_true rfl) (hts _ mw_222) (fun _ h9 => h9) rfl dX4_isWayFree_28 ?_
  refine lv_aload_n hx hb dX4_isWayFree_31 rfl (lv_at hl 0 rfl) ?_
  refine va_get (D := (dC, dI)) (ci := 3) (v := .ref dr) (C := RX4) (T := TX4) (N := 6) hx hb hts inX4 hown hK hP 0 rfl rfl 0 (Nat.le_of_ble_eq_true rfl) (hts _ mw_219) (fun _ h9 => h9) rfl dX4_isWayFree_32 ?_
  refine va_get (D := (dC, dI)) (ci := 6) (v := .ref dx) (C := RX7) (T := TX7) (N := 4) hx hb hts inX7 hown hK hP 4 rfl rfl 0 (Nat.le_of_ble_eq_true rfl) (hts _ mw_163) (fun _ h9 => h9) rfl dX4_isWayFree_35 ?_
  refine lv_iconst (v := 0) hx hb dX4_isWayFree_38 rfl ?_
  have b9_3 : 0 < cd := by omega
  have b9_4 : cd < 2147483648 := by omega
  refine z_iald hx hb hK hP 5 0 rfl rfl (e := 0) rfl b9_3 b9_4 dX4_isWayFree_39 ?_
  refine lv_aload_n hx hb dX4_isWayFree_40 rfl (lv_at hl 0 rfl) ?_
  refine va_get (D := (dC, dI)) (ci := 3) (v := .ref dr) (C := RX4) (T := TX4) (N := 6) hx hb hts inX4 hown hK hP 0 rfl rfl 0 (Nat.le_of_ble_eq_true rfl) (hts _ mw_219) (fun _ h9 => h9) rfl dX4_isWayFree_41 ?_
  refine va_get (D := (dC, dI)) (ci := 6) (v := .ref dy) (C := RX7) (T := TX7) (N := 4) hx hb hts inX7 hown hK hP 4 rfl rfl 1 (Nat.le_of_ble_eq_true rfl) (hts _ mw_170) (fun _ h9 => h9) rfl dX4_isWayFree_44 ?_
  refine lv_iconst (v := 0) hx hb dX4_isWayFree_47 rfl ?_
  refine z_iald hx hb hK hP 6 0 rfl rfl (e := 0) rfl b9_3 b9_4 dX4_isWayFree_48 ?_
  obtain ⟨hPc, hDc, hFc⟩ := zo_sub (wc := [_, _, _]) hP hD hS hA [1, 2, 3] rfl rfl
  refine zcall (st1 := []) (va_runV (As := [.int (P 0), .int (Q 0)]) (rest := []) ⟨hx, hb, hml, hown, hts⟩ (k_Row_put l dC dI cI cZ cF H.size wy wx wz (0 + 1) 2 (upd WX 0 (X 0)) (upd WY 0 (Y 0)) 0 (P 0) (Q 0) (by first | with_reducible assumption | omega) (by first | with_reducible assumption | omega)) (csV_41 hts rfl rfl ⟨Nat.le_of_ble_eq_true rfl, Nat.le_of_ble_eq_true rfl⟩) (zPV2 (q0 := 0) (ci := 6) hPc hDc hK hXN rfl rfl) rfl rfl hl.1 rfl (lv_room (Nat.le_of_ble_eq_true rfl)) dX4_isWayFree_49 ⟨Nat.le_of_ble_eq_true rfl, Nat.le_of_ble_eq_true rfl⟩) hS hFc hFc rfl (fun t H locs ht hB hk1 hS => ?_)
  obtain ⟨hP1, hD1⟩ := hB
  rw [ht] at hP1
  obtain ⟨hP, hD⟩ := zn (W2 := [_, (oc6 wy (.ref wx) (.ref wz) (nI ((0 + 1) + 1)) 0), (oa wx cI 2 (upd (upd WX 0 (X 0)) (0 + 1) (P 0))), (oa wz cI 2 (upd (upd WY 0 (Y 0)) (0 + 1) (Q 0))), _, _, _, _, _, _, _, _, _]) hP hD hk1 hFc hP1 hD1 [1, 2, 3] [true, false, false, false, true, true, true, true, true, true, true, true, true] [true, false, false, false, true, true, true, true, true, true, true, true, true] [1, 2, 3] (by decide +kernel) rfl rfl rfl rfl rfl
  clear hk1 hPc hDc hFc hP1 hD1 ht
  obtain ⟨hP, hD⟩ : zPD (dC, dI) classes A [(oc3 lw (.ref dr) (.ref tg) (.ref wy) (.ref br) (.ref bo) (.ref aa)), (oc6 wy (.ref wx) (.ref wz) (nI (2)) 0), (oa wx cI 2 (upd (upd WX 0 (X 0)) 1 (P 0))), (oa wz cI 2 (upd (upd WY 0 (Y 0)) 1 (Q 0))), (oc6 dr (.ref dx) (.ref dy) (nI nd) rd), (oa dx cI cd P), (oa dy cI cd Q), (oc6 r (.ref rx) (.ref ry) (nI n) rg), (oa rx cI cap X), (oa ry cI cap Y), (oc6 u (.ref ux) (.ref uy) (nI m2) rh), (oa ux cI cap2 U), (oa uy cI cap2 V)] H := ⟨hP, hD⟩
  refine lv_iconst (v := 0) hx hb dX4_isWayFree_52 rfl ?_
  refine lv_istore_n (lv' := [(3, .int 0), (0, .ref lw), (1, .ref r), (2, .ref u)]) hx hb dX4_isWayFree_53 rfl hl (Nat.le_of_ble_eq_true rfl) rfl (fun ls hl => ?_)
  have hl_54 : ∀ (n9 : Nat) (k : Nat) (H : Heap) (locs : List Loc) (ls : Array Slot), prt m2 rh - k < n9 → (k ≤ prt m2 rh) → (∀ j, j < k → wyF2 (X 0).toInt (Y 0).toInt (P 0).toInt (Q 0).toInt m2 U V j) → va_P (dC, dI) classes [(oc3 lw (.ref dr) (.ref tg) (.ref wy) (.ref br) (.ref bo) (.ref aa)), (oc6 wy (.ref wx) (.ref wz) (nI (2)) 0), (oa wx cI 2 (upd (upd WX 0 (X 0)) 1 (P 0))), (oa wz cI 2 (upd (upd WY 0 (Y 0)) 1 (Q 0))), (oc6 dr (.ref dx) (.ref dy) (nI nd) rd), (oa dx cI cd P), (oa dy cI cd Q), (oc6 r (.ref rx) (.ref ry) (nI n) rg), (oa rx cI cap X), (oa ry cI cap Y), (oc6 u (.ref ux) (.ref uy) (nI m2) rh), (oa ux cI cap2 U), (oa uy cI cap2 V)] H → va_D A [(oc3 lw (.ref dr) (.ref tg) (.ref wy) (.ref br) (.ref bo) (.ref aa)), (oc6 wy (.ref wx) (.ref wz) (nI (2)) 0), (oa wx cI 2 (upd (upd WX 0 (X 0)) 1 (P 0))), (oa wz cI 2 (upd (upd WY 0 (Y 0)) 1 (Q 0))), (oc6 dr (.ref dx) (.ref dy) (nI nd) rd), (oa dx cI cd P), (oa dy cI cd Q), (oc6 r (.ref rx) (.ref ry) (nI n) rg), (oa rx cI cap X), (oa ry cI cap Y), (oc6 u (.ref ux) (.ref uy) (nI m2) rh), (oa ux cI cap2 U), (oa uy cI cap2 V)] → va_S A s.heap H locs → lv_has ls 5 [(3, .int (nI k)), (0, .ref lw), (1, .ref r), (2, .ref u)] → W p l e ({ frames := 2, cells := 0, slots := 0, locals := 48 } : Room) s m ([.ref lw, .ref r, .ref u] : List Value).toArray below meth c H locs 0 0 Q9 (F0 m 54 ls []) := by
    intro n9
    induction n9 with
    | zero => intro k H locs ls hm; exact absurd hm (Nat.not_lt_zero _)
    | succ n9 ih_54 =>
      intro k H locs ls hm hk hall hP hD hS hl
      refine lv_iload_n hx hb dX4_isWayFree_54 rfl (lv_at hl 0 rfl) ?_
      refine lv_aload_n hx hb dX4_isWayFree_55 rfl (lv_at hl 3 rfl) ?_
      obtain ⟨hPc, hDc, hFc⟩ := zo_sub (wc := [_, _, _]) hP hD hS hA [10, 11, 12] rfl rfl
      refine zcall (st1 := [.int (nI (prt m2 rh)), .int (nI k)]) (va_runV (As := []) (rest := [.int (nI k)]) ⟨hx, hb, hml, hown, hts⟩ (k_Row_parts l dC dI cI cZ cF H.size u ux uy m2 cap2 U V rh (by first | with_reducible assumption | omega) (by first | with_reducible assumption | omega)) (csV_42 hts rfl rfl ⟨Nat.le_of_ble_eq_true rfl, Nat.le_of_ble_eq_true rfl⟩) (zPV2 (q0 := 0) (ci := 6) hPc hDc hK hXN rfl rfl) rfl rfl hl.1 rfl (lv_room (Nat.le_of_ble_eq_true rfl)) dX4_isWayFree_56 ⟨Nat.le_of_ble_eq_true rfl, Nat.le_of_ble_eq_true rfl⟩) hS hFc hFc rfl (fun t H locs ht hB hk1 hS => ?_)
      obtain ⟨hP1, hD1⟩ := hB
      rw [ht] at hP1
      obtain ⟨hP, hD⟩ := zn (W2 := [_, _, _, _, _, _, _, _, _, _, _, _, _]) hP hD hk1 hFc hP1 hD1 [10, 11, 12] [true, true, true, true, true, true, true, true, true, true] [true, true, true, true, true, true, true, true, true, true, false, false, false] [10, 11, 12] (by decide +kernel) rfl rfl rfl rfl rfl
      clear hk1 hPc hDc hFc hP1 hD1 ht
      have b9_6 : k < 2147483648 := by omega
      have b9_7 : (prt m2 rh) < 2147483648 := by omega
      refine lv_icmp_ge (tgt := 153) hx hb dX4_isWayFree_59 rfl (fun c_5 => ?_) (fun c_5 => ?_)
      · have c_5 : ((prt m2 rh : Nat) : Int) ≤ ((k : Nat) : Int) := zc_le (nI_toInt b9_7) (nI_toInt b9_6) c_5
        refine lv_iconst (v := 1) hx hb dX4_isWayFree_153 rfl ?_
        obtain ⟨hP9, hD9⟩ := zu_sub (wc := [_, _, _, _, _, _, _, _, _, _, _, _, _]) hP hD [true, true, true, true, true, true, true, true, true, true, true, true, true] rfl rfl
        rw [hQ9]
        exact W.zret (ty := .boolean) (v := 1) hx hb hr (rfl) (fun t ht hW => ⟨⟨congrArg (fun z => Outcome.returned (some (Value.int z))) (show (1 : Int32) = pI (∀ k, k < prt m2 rh → wyF2 (X 0).toInt (Y 0).toInt (P 0).toInt (Q 0).toInt m2 U V k) from (zp_t (fun j hj => hall j (by omega))).symm), by rw [ht]; exact hP9, hD9⟩, hS.F ht⟩) hS.2.2 dX4_isWayFree_154
      · have c_5 : ((k : Nat) : Int) < ((prt m2 rh : Nat) : Int) := zc_nle (nI_toInt b9_7) (nI_toInt b9_6) c_5
        have hkm : k < m2 := (by omega)
        have hnk := nxt_lt (n := m2) (i := k) (by omega)
        refine lv_aload_n hx hb dX4_isWayFree_62 rfl (lv_at hl 1 rfl) ?_
        refine va_get (D := (dC, dI)) (ci := 3) (v := .ref wy) (C := RX4) (T := TX4) (N := 6) hx hb hts inX4 hown hK hP 0 rfl rfl 2 (Nat.le_of_ble_eq_true rfl) (hts _ mw_222) (fun _ h9 => h9) rfl dX4_isWayFree_63 ?_
        refine lv_iconst (v := 0) hx hb dX4_isWayFree_66 rfl ?_
        refine lv_aload_n hx hb dX4_isWayFree_67 rfl (lv_at hl 3 rfl) ?_
        refine lv_iload_n hx hb dX4_isWayFree_68 rfl (lv_at hl 0 rfl) ?_
        obtain ⟨hPc, hDc, hFc⟩ := zo_sub (wc := [_, _, _, _, _, _]) hP hD hS hA [1, 2, 3, 10, 11, 12] (by decide +kernel) rfl
        refine zcall (st1 := [.int (pI (eMt 2 (upd (upd WX 0 (X 0)) 1 (P 0)) (upd (upd WY 0 (Y 0)) 1 (Q 0)) 0 m2 U V k))]) (va_runV (As := [.int 0, .ref u, .int (nI k)]) (rest := []) ⟨hx, hb, hml, hown, hts⟩ (k_Row_partsMeet l dC dI cI cZ cF H.size wy wx wz 2 2 (upd (upd WX 0 (X 0)) 1 (P 0)) (upd (upd WY 0 (Y 0)) 1 (Q 0)) 0 u ux uy m2 cap2 U V rh 0 k (by first | with_reducible assumption | omega) (by first | with_reducible assumption | omega) (hpw) (by first | with_reducible assumption | omega) (by first | with_reducible assumption | omega) (by first | with_reducible assumption | assumption) (by first | with_reducible assumption | omega) (by first | with_reducible assumption | omega)) (csV_43 hts rfl rfl ⟨Nat.le_of_ble_eq_true rfl, Nat.le_of_ble_eq_true rfl⟩) (zPV2 (q0 := 0) (ci := 6) hPc hDc hK hXN rfl rfl) rfl rfl hl.1 rfl (lv_room (Nat.le_of_ble_eq_true rfl)) dX4_isWayFree_69 ⟨Nat.le_of_ble_eq_true rfl, Nat.le_of_ble_eq_true rfl⟩) hS hFc hFc rfl (fun t H locs ht hB hk1 hS => ?_)
        obtain ⟨hP1, hD1⟩ := hB
        rw [ht] at hP1
        obtain ⟨hP, hD⟩ := zn (W2 := [_, (oc6 wy (.ref wx) (.ref wz) (nI 2) 0), _, _, _, _, _, _, _, _, _, _, _]) hP hD hk1 hFc hP1 hD1 [1, 2, 3, 10, 11, 12] [true, false, false, false, true, true, true, true, true, true] [true, false, false, false, true, true, true, true, true, true, false, false, false] [1, 2, 3, 10, 11, 12] (by decide +kernel) rfl rfl rfl rfl rfl
        clear hk1 hPc hDc hFc hP1 hD1 ht
        refine zz_i (v := pI (mtC (X 0).toInt (Y 0).toInt (P 0).toInt (Q 0).toInt (U k).toInt (V k).toInt (U (nxt m2 k)).toInt (V (nxt m2 k)).toInt)) (rfl) ?_
        refine lv_if_ne (tgt := 78) hx hb dX4_isWayFree_72 rfl (fun c_8 => ?_) (fun c_8 => ?_)
        · have c_8 : mtC (X 0).toInt (Y 0).toInt (P 0).toInt (Q 0).toInt (U k).toInt (V k).toInt (U (nxt m2 k)).toInt (V (nxt m2 k)).toInt := zp_1 c_8
          refine lv_aload_n hx hb dX4_isWayFree_78 rfl (lv_at hl 3 rfl) ?_
          refine lv_iload_n hx hb dX4_isWayFree_79 rfl (lv_at hl 0 rfl) ?_
          obtain ⟨hPc, hDc, hFc⟩ := zo_sub (wc := [_, _, _]) hP hD hS hA [10, 11, 12] rfl rfl
          refine zcall (st1 := [.int (nI (nxt m2 k))]) (va_runV (As := [.int (nI k)]) (rest := []) ⟨hx, hb, hml, hown, hts⟩ (k_Row_next l dC dI cI cZ cF H.size u ux uy m2 cap2 U V rh k (by first | with_reducible assumption | omega) (by first | with_reducible assumption | omega) (by first | with_reducible assumption | omega)) (csV_44 hts rfl rfl ⟨Nat.le_of_ble_eq_true rfl, Nat.le_of_ble_eq_true rfl⟩) (zPV2 (q0 := 0) (ci := 6) hPc hDc hK hXN rfl rfl) rfl rfl hl.1 rfl (lv_room (Nat.le_of_ble_eq_true rfl)) dX4_isWayFree_80 ⟨Nat.le_of_ble_eq_true rfl, Nat.le_of_ble_eq_true rfl⟩) hS hFc hFc rfl (fun t H locs ht hB hk1 hS => ?_)
          obtain ⟨hP1, hD1⟩ := hB
          rw [ht] at hP1
          obtain ⟨hP, hD⟩ := zn (W2 := [_, _, _, _, _, _, _, _, _, _, _, _, _]) hP hD hk1 hFc hP1 hD1 [10, 11, 12] [true, true, true, true, true, true, true, true, true, true] [true, true, true, true, true, true, true, true, true, true, false, false, false] [10, 11, 12] (by decide +kernel) rfl rfl rfl rfl rfl
          clear hk1 hPc hDc hFc hP1 hD1 ht
          refine lv_istore (lv' := [(4, .int (nI (nxt m2 k))), (3, .int (nI k)), (0, .ref lw), (1, .ref r), (2, .ref u)]) hx hb dX4_isWayFree_83 hl (Nat.le_of_ble_eq_true rfl) rfl (fun ls hl => ?_)
          refine lv_aload_n hx hb dX4_isWayFree_85 rfl (lv_at hl 4 rfl) ?_
          refine lv_iload_n hx hb dX4_isWayFree_86 rfl (lv_at hl 1 rfl) ?_
          refine lv_aload_n hx hb dX4_isWayFree_87 rfl (lv_at hl 3 rfl) ?_
          refine va_get (D := (dC, dI)) (ci := 6) (v := .ref rx) (C := RX7) (T := TX7) (N := 4) hx hb hts inX7 hown hK hP 7 rfl rfl 0 (Nat.le_of_ble_eq_true rfl) (hts _ mw_163) (fun _ h9 => h9) rfl dX4_isWayFree_88 ?_
          refine lv_iconst (v := 0) hx hb dX4_isWayFree_91 rfl ?_
          refine z_iald hx hb hK hP 8 0 rfl rfl (e := 0) rfl b9_1 b9_2 dX4_isWayFree_92 ?_
          refine lv_aload_n hx hb dX4_isWayFree_93 rfl (lv_at hl 3 rfl) ?_
          refine va_get (D := (dC, dI)) (ci := 6) (v := .ref ry) (C := RX7) (T := TX7) (N := 4) hx hb hts inX7 hown hK hP 7 rfl rfl 1 (Nat.le_of_ble_eq_true rfl) (hts _ mw_170) (fun _ h9 => h9) rfl dX4_isWayFree_94 ?_
          refine lv_iconst (v := 0) hx hb dX4_isWayFree_97 rfl ?_
          refine z_iald hx hb hK hP 9 0 rfl rfl (e := 0) rfl b9_1 b9_2 dX4_isWayFree_98 ?_
          obtain ⟨hPc, hDc, hFc⟩ := zo_sub (wc := [_, _, _]) hP hD hS hA [10, 11, 12] rfl rfl
          refine zcall (st1 := [.int (pI (eOn m2 U V k (X 0).toInt (Y 0).toInt))]) (va_runV (As := [.int (nI k), .int (X 0), .int (Y 0)]) (rest := []) ⟨hx, hb, hml, hown, hts⟩ (k_Row_isOn l dC dI cI cZ cF H.size u ux uy m2 cap2 U V rh k (X 0) (Y 0) (by first | with_reducible assumption | omega) (by first | with_reducible assumption | omega) (hq) (by first | with_reducible assumption | omega) (h0x.1) (h0x.2)) (csV_45 hts rfl rfl ⟨Nat.le_of_ble_eq_true rfl, Nat.le_of_ble_eq_true rfl⟩) (zPV2 (q0 := 0) (ci := 6) hPc hDc hK hXN rfl rfl) rfl rfl hl.1 rfl (lv_room (Nat.le_of_ble_eq_true rfl)) dX4_isWayFree_99 ⟨Nat.le_of_ble_eq_true rfl, Nat.le_of_ble_eq_true rfl⟩) hS hFc hFc rfl (fun t H locs ht hB hk1 hS => ?_)
          obtain ⟨hP1, hD1⟩ := hB
          rw [ht] at hP1
          obtain ⟨hP, hD⟩ := zn (W2 := [_, _, _, _, _, _, _, _, _, _, _, _, _]) hP hD hk1 hFc hP1 hD1 [10, 11, 12] [true, true, true, true, true, true, true, true, true, true] [true, true, true, true, true, true, true, true, true, true, false, false, false] [10, 11, 12] (by decide +kernel) rfl rfl rfl rfl rfl
          clear hk1 hPc hDc hFc hP1 hD1 ht
          refine zz_i (v := pI (onS (U k).toInt (V k).toInt (U (nxt m2 k)).toInt (V (nxt m2 k)).toInt (X 0).toInt (Y 0).toInt)) (rfl) ?_
          refine lv_if_eq (tgt := 145) hx hb dX4_isWayFree_102 rfl (fun c_9 => ?_) (fun c_9 => ?_)
          · have c_9 : ¬ (onS (U k).toInt (V k).toInt (U (nxt m2 k)).toInt (V (nxt m2 k)).toInt (X 0).toInt (Y 0).toInt) := zp_0 c_9
            refine lv_iconst (v := 0) hx hb dX4_isWayFree_145 rfl ?_
            obtain ⟨hP9, hD9⟩ := zu_sub (wc := [_, _, _, _, _, _, _, _, _, _, _, _, _]) hP hD [true, true, true, true, true, true, true, true, true, true, true, true, true] rfl rfl
            rw [hQ9]
            exact W.zret (ty := .boolean) (v := 0) hx hb hr (rfl) (fun t ht hW => ⟨⟨congrArg (fun z => Outcome.returned (some (Value.int z))) (show (0 : Int32) = pI (∀ k, k < prt m2 rh → wyF2 (X 0).toInt (Y 0).toInt (P 0).toInt (Q 0).toInt m2 U V k) from (zp_f (fun h => by have h9 := h k (by omega) (by first | with_reducible assumption | assumption); first | exact absurd h9.1 (by first | with_reducible assumption | assumption) | exact absurd (by first | with_reducible assumption | assumption) h9.2.1 | exact absurd (by first | with_reducible assumption | assumption) h9.2.2)).symm), by rw [ht]; exact hP9, hD9⟩, hS.F ht⟩) hS.2.2 dX4_isWayFree_146
          · have c_9 : onS (U k).toInt (V k).toInt (U (nxt m2 k)).toInt (V (nxt m2 k)).toInt (X 0).toInt (Y 0).toInt := zp_1 c_9
            refine lv_aload_n hx hb dX4_isWayFree_105 rfl (lv_at hl 2 rfl) ?_
            refine lv_aload_n hx hb dX4_isWayFree_106 rfl (lv_at hl 4 rfl) ?_
            refine va_get (D := (dC, dI)) (ci := 6) (v := .ref ux) (C := RX7) (T := TX7) (N := 4) hx hb hts inX7 hown hK hP 10 rfl rfl 0 (Nat.le_of_ble_eq_true rfl) (hts _ mw_163) (fun _ h9 => h9) rfl dX4_isWayFree_107 ?_
            refine lv_iload_n hx hb dX4_isWayFree_110 rfl (lv_at hl 1 rfl) ?_
            have b9_10 : k < cap2 := by omega
            have b9_11 : cap2 < 2147483648 := by omega
            refine z_iald hx hb hK hP 11 0 rfl rfl (e := k) rfl b9_10 b9_11 dX4_isWayFree_111 ?_
            refine lv_aload_n hx hb dX4_isWayFree_112 rfl (lv_at hl 4 rfl) ?_
            refine va_get (D := (dC, dI)) (ci := 6) (v := .ref uy) (C := RX7) (T := TX7) (N := 4) hx hb hts inX7 hown hK hP 10 rfl rfl 1 (Nat.le_of_ble_eq_true rfl) (hts _ mw_170) (fun _ h9 => h9) rfl dX4_isWayFree_113 ?_
            refine lv_iload_n hx hb dX4_isWayFree_116 rfl (lv_at hl 1 rfl) ?_
            refine z_iald hx hb hK hP 12 0 rfl rfl (e := k) rfl b9_10 b9_11 dX4_isWayFree_117 ?_
            obtain ⟨hPc, hDc, hFc⟩ := zo_sub (wc := [_, _, _, _]) hP hD hS hA [0, 1, 2, 3] (by decide +kernel) rfl
            refine zcall (st1 := [.int (pI (ldT ((upd (upd WX 0 (X 0)) 1 (P 0)) 0).toInt ((upd (upd WY 0 (Y 0)) 1 (Q 0)) 0).toInt ((upd (upd WX 0 (X 0)) 1 (P 0)) 1).toInt ((upd (upd WY 0 (Y 0)) 1 (Q 0)) 1).toInt (U k).toInt (V k).toInt))]) (va_runV (As := [.int (U k), .int (V k)]) (rest := []) ⟨hx, hb, hml, hown, hts⟩ (k_Law_leadsTo l dC dI cI cZ cF H.size lw dr tg wy br bo aa wx wz (upd (upd WX 0 (X 0)) 1 (P 0)) (upd (upd WY 0 (Y 0)) 1 (Q 0)) 0 (U k) (V k) (hpw) ((hq k hkm).1) ((hq k hkm).2)) (csV_46 hts rfl rfl ⟨Nat.le_of_ble_eq_true rfl, Nat.le_of_ble_eq_true rfl⟩) (zPV2 (q0 := 0) (ci := 3) hPc hDc hK hXN rfl rfl) rfl rfl hl.1 rfl (lv_room (Nat.le_of_ble_eq_true rfl)) dX4_isWayFree_118 ⟨Nat.le_of_ble_eq_true rfl, Nat.le_of_ble_eq_true rfl⟩) hS hFc hFc rfl (fun t H locs ht hB hk1 hS => ?_)
            obtain ⟨hP1, hD1⟩ := hB
            rw [ht] at hP1
            obtain ⟨hP, hD⟩ := zn (W2 := [_, _, _, _, _, _, _, _, _, _, _, _, _]) hP hD hk1 hFc hP1 hD1 [0, 1, 2, 3] [false, false, false, false, true, true, true, true, true, true, true, true, true] [false, false, false, false, true, true, true, true, true, true, true, true, true] [0, 1, 2, 3] (by decide +kernel) rfl rfl rfl rfl rfl
            clear hk1 hPc hDc hFc hP1 hD1 ht
            refine zz_i (v := pI (ldT (X 0).toInt (Y 0).toInt (P 0).toInt (Q 0).toInt (U k).toInt (V k).toInt)) (rfl) ?_
            refine lv_if_ne (tgt := 145) hx hb dX4_isWayFree_121 rfl (fun c_12 => ?_) (fun c_12 => ?_)
            · have c_12 : ldT (X 0).toInt (Y 0).toInt (P 0).toInt (Q 0).toInt (U k).toInt (V k).toInt := zp_1 c_12
              refine lv_iconst (v := 0) hx hb dX4_isWayFree_145 rfl ?_
              obtain ⟨hP9, hD9⟩ := zu_sub (wc := [_, _, _, _, _, _, _, _, _, _, _, _, _]) hP hD [true, true, true, true, true, true, true, true, true, true, true, true, true] rfl rfl
              rw [hQ9]
              exact W.zret (ty := .boolean) (v := 0) hx hb hr (rfl) (fun t ht hW => ⟨⟨congrArg (fun z => Outcome.returned (some (Value.int z))) (show (0 : Int32) = pI (∀ k, k < prt m2 rh → wyF2 (X 0).toInt (Y 0).toInt (P 0).toInt (Q 0).toInt m2 U V k) from (zp_f (fun h => by have h9 := h k (by omega) (by first | with_reducible assumption | assumption); first | exact absurd h9.1 (by first | with_reducible assumption | assumption) | exact absurd (by first | with_reducible assumption | assumption) h9.2.1 | exact absurd (by first | with_reducible assumption | assumption) h9.2.2)).symm), by rw [ht]; exact hP9, hD9⟩, hS.F ht⟩) hS.2.2 dX4_isWayFree_146
            · have c_12 : ¬ (ldT (X 0).toInt (Y 0).toInt (P 0).toInt (Q 0).toInt (U k).toInt (V k).toInt) := zp_0 c_12
              refine lv_aload_n hx hb dX4_isWayFree_124 rfl (lv_at hl 2 rfl) ?_
              refine lv_aload_n hx hb dX4_isWayFree_125 rfl (lv_at hl 4 rfl) ?_
              refine va_get (D := (dC, dI)) (ci := 6) (v := .ref ux) (C := RX7) (T := TX7) (N := 4) hx hb hts inX7 hown hK hP 10 rfl rfl 0 (Nat.le_of_ble_eq_true rfl) (hts _ mw_163) (fun _ h9 => h9) rfl dX4_isWayFree_126 ?_
              refine lv_iload hx hb dX4_isWayFree_129 (lv_at hl 0 rfl) ?_
              have b9_13 : nxt m2 k < cap2 := by omega
              refine z_iald hx hb hK hP 11 0 rfl rfl (e := nxt m2 k) rfl b9_13 b9_11 dX4_isWayFree_131 ?_
              refine lv_aload_n hx hb dX4_isWayFree_132 rfl (lv_at hl 4 rfl) ?_
              refine va_get (D := (dC, dI)) (ci := 6) (v := .ref uy) (C := RX7) (T := TX7) (N := 4) hx hb hts inX7 hown hK hP 10 rfl rfl 1 (Nat.le_of_ble_eq_true rfl) (hts _ mw_170) (fun _ h9 => h9) rfl dX4_isWayFree_133 ?_
              refine lv_iload hx hb dX4_isWayFree_136 (lv_at hl 0 rfl) ?_
              refine z_iald hx hb hK hP 12 0 rfl rfl (e := nxt m2 k) rfl b9_13 b9_11 dX4_isWayFree_138 ?_
              obtain ⟨hPc, hDc, hFc⟩ := zo_sub (wc := [_, _, _, _]) hP hD hS hA [0, 1, 2, 3] (by decide +kernel) rfl
              refine zcall (st1 := [.int (pI (ldT ((upd (upd WX 0 (X 0)) 1 (P 0)) 0).toInt ((upd (upd WY 0 (Y 0)) 1 (Q 0)) 0).toInt ((upd (upd WX 0 (X 0)) 1 (P 0)) 1).toInt ((upd (upd WY 0 (Y 0)) 1 (Q 0)) 1).toInt (U (nxt m2 k)).toInt (V (nxt m2 k)).toInt))]) (va_runV (As := [.int (U (nxt m2 k)), .int (V (nxt m2 k))]) (rest := []) ⟨hx, hb, hml, hown, hts⟩ (k_Law_leadsTo l dC dI cI cZ cF H.size lw dr tg wy br bo aa wx wz (upd (upd WX 0 (X 0)) 1 (P 0)) (upd (upd WY 0 (Y 0)) 1 (Q 0)) 0 (U (nxt m2 k)) (V (nxt m2 k)) (hpw) ((hq _ hnk).1) ((hq _ hnk).2)) (csV_46 hts rfl rfl ⟨Nat.le_of_ble_eq_true rfl, Nat.le_of_ble_eq_true rfl⟩) (zPV2 (q0 := 0) (ci := 3) hPc hDc hK hXN rfl rfl) rfl rfl hl.1 rfl (lv_room (Nat.le_of_ble_eq_true rfl)) dX4_isWayFree_139 ⟨Nat.le_of_ble_eq_true rfl, Nat.le_of_ble_eq_true rfl⟩) hS hFc hFc rfl (fun t H locs ht hB hk1 hS => ?_)
              obtain ⟨hP1, hD1⟩ := hB
              rw [ht] at hP1
              obtain ⟨hP, hD⟩ := zn (W2 := [_, _, _, _, _, _, _, _, _, _, _, _, _]) hP hD hk1 hFc hP1 hD1 [0, 1, 2, 3] [false, false, false, false, true, true, true, true, true, true, true, true, true] [false, false, false, false, true, true, true, true, true, true, true, true, true] [0, 1, 2, 3] (by decide +kernel) rfl rfl rfl rfl rfl
              clear hk1 hPc hDc hFc hP1 hD1 ht
              refine zz_i (v := pI (ldT (X 0).toInt (Y 0).toInt (P 0).toInt (Q 0).toInt (U (nxt m2 k)).toInt (V (nxt m2 k)).toInt)) (rfl) ?_
              refine lv_if_eq (tgt := 147) hx hb dX4_isWayFree_142 rfl (fun c_14 => ?_) (fun c_14 => ?_)
              · have c_14 : ¬ (ldT (X 0).toInt (Y 0).toInt (P 0).toInt (Q 0).toInt (U (nxt m2 k)).toInt (V (nxt m2 k)).toInt) := zp_0 c_14
                refine lv_iinc (v := nI (k + 1)) (lv' := [(3, .int (nI (k + 1))), (4, .int (nI (nxt m2 k))), (0, .ref lw), (1, .ref r), (2, .ref u)]) hx hb dX4_isWayFree_147 hl (k := 1) rfl (nI_add k 1) (Nat.le_of_ble_eq_true rfl) rfl (fun ls hl => ?_)
                refine lv_goto (tgt := 54) hx hb dX4_isWayFree_150 rfl ?_
                exact ih_54 (k + 1) H locs ls (by first | with_reducible assumption | omega) (by first | with_reducible assumption | omega) (by intro j hj; rcases Nat.lt_or_ge j k with h | h; exact hall j h; rw [show j = k by omega]; unfold wyF2; first | exact fun h => absurd h (by first | with_reducible assumption | assumption) | exact fun _ => ⟨by assumption, by assumption, by assumption⟩) hP hD hS (lv_sub hl [0, 2, 3, 4] rfl)
              · have c_14 : ldT (X 0).toInt (Y 0).toInt (P 0).toInt (Q 0).toInt (U (nxt m2 k)).toInt (V (nxt m2 k)).toInt := zp_1 c_14
                refine lv_iconst (v := 0) hx hb dX4_isWayFree_145 rfl ?_
                obtain ⟨hP9, hD9⟩ := zu_sub (wc := [_, _, _, _, _, _, _, _, _, _, _, _, _]) hP hD [true, true, true, true, true, true, true, true, true, true, true, true, true] rfl rfl
                rw [hQ9]
                exact W.zret (ty := .boolean) (v := 0) hx hb hr (rfl) (fun t ht hW => ⟨⟨congrArg (fun z => Outcome.returned (some (Value.int z))) (show (0 : Int32) = pI (∀ k, k < prt m2 rh → wyF2 (X 0).toInt (Y 0).toInt (P 0).toInt (Q 0).toInt m2 U V k) from (zp_f (fun h => by have h9 := h k (by omega) (by first | with_reducible assumption | assumption); first | exact absurd h9.1 (by first | with_reducible assumption | assumption) | exact absurd (by first | with_reducible assumption | assumption) h9.2.1 | exact absurd (by first | with_reducible assumption | assumption) h9.2.2)).symm), by rw [ht]; exact hP9, hD9⟩, hS.F ht⟩) hS.2.2 dX4_isWayFree_146
        · have c_8 : ¬ (mtC (X 0).toInt (Y 0).toInt (P 0).toInt (Q 0).toInt (U k).toInt (V k).toInt (U (nxt m2 k)).toInt (V (nxt m2 k)).toInt) := zp_0 c_8
          refine lv_goto (tgt := 147) hx hb dX4_isWayFree_75 rfl ?_
          refine lv_iinc (v := nI (k + 1)) (lv' := [(3, .int (nI (k + 1))), (0, .ref lw), (1, .ref r), (2, .ref u)]) hx hb dX4_isWayFree_147 hl (k := 0) rfl (nI_add k 1) (Nat.le_of_ble_eq_true rfl) rfl (fun ls hl => ?_)
          refine lv_goto (tgt := 54) hx hb dX4_isWayFree_150 rfl ?_
          exact ih_54 (k + 1) H locs ls (by first | with_reducible assumption | omega) (by first | with_reducible assumption | omega) (by intro j hj; rcases Nat.lt_or_ge j k with h | h; exact hall j h; rw [show j = k by omega]; unfold wyF2; first | exact fun h => absurd h (by first | with_reducible assumption | assumption) | exact fun _ => ⟨by assumption, by assumption, by assumption⟩) hP hD hS (lv_sub hl [0, 1, 2, 3] rfl)
  exact hl_54 _ 0 H locs ls (Nat.lt_succ_self _) (by first | with_reducible assumption | omega) (by intro j hj; omega) hP hD hS (lv_sub hl [0, 1, 2, 3] rfl)
set_option maxHeartbeats 4000000 in
set_option maxRecDepth 100000 in
theorem k_Law_setTriangle_ooo (l : Launch) (dC : Nat → ClassId) (dI : Nat → Nat → Nat) (cI cZ cF : ClassId) (sz : Nat) (lw : Nat) (dr : Nat) (tg : Nat) (wy : Nat) (br : Nat) (bo : Nat) (aa : Nat) (tx : Nat) (ty : Nat) (nt : Nat) (TX : Nat → Int32) (TY : Nat → Int32) (rt : Int32) (r : Nat) (rx : Nat) (ry : Nat) (n : Nat) (cap : Nat) (X : Nat → Int32) (Y : Nat → Int32) (rg : Int32) (i0 : Nat) (i1 : Nat) (i2 : Nat) (hn : n ≤ cap) (hcap : cap ≤ 1000) (hi0 : i0 < n) (hi1 : i1 < n) (hi2 : i2 < n) : zM l yX4_setTriangle cX4_setTriangle 7 none ({ frames := 1, cells := 0, slots := 0, locals := 22 } : Room) [.ref lw, .ref r, .int (nI i0), .ref r, .int (nI i1), .ref r, .int (nI i2)] (dC, dI) (zTy cI cZ cF) [(oc3 lw (.ref dr) (.ref tg) (.ref wy) (.ref br) (.ref bo) (.ref aa)), (oc6 tg (.ref tx) (.ref ty) (nI nt) rt), (oa tx cI 3 TX), (oa ty cI 3 TY), (oc6 r (.ref rx) (.ref ry) (nI n) rg), (oa rx cI cap X), (oa ry cI cap Y)] sz none (fun A t => zPD (dC, dI) classes A [(oc3 lw (.ref dr) (.ref tg) (.ref wy) (.ref br) (.ref bo) (.ref aa)), (oc6 tg (.ref tx) (.ref ty) (nI 3) 1), (oa tx cI 3 (upd (upd (upd TX 0 (X i0)) 1 (X i1)) 2 (X i2))), (oa ty cI 3 (upd (upd (upd TY 0 (Y i0)) 1 (Y i1)) 2 (Y i2))), (oc6 r (.ref rx) (.ref ry) (nI n) rg), (oa rx cI cap X), (oa ry cI cap Y)] t.heap) 0 0 := by
  refine zIn (own := "ScaleShop$Law") (loc := [(0, .ref lw), (1, .ref r), (2, .int (nI i0)), (3, .ref r), (4, .int (nI i1)), (5, .ref r), (6, .int (nI i2))]) rfl rfl rfl rfl (fun p e s m below meth c hx hb hr hts hown hlocks hml hnm9 A hA hS hP hD hK hXN Q9 hQ9 ls hl => ?_)
  refine lv_aload_n hx hb dX4_setTriangle_0 rfl (lv_at hl 0 rfl) ?_
  refine va_get (D := (dC, dI)) (ci := 3) (v := .ref tg) (C := RX4) (T := TX4) (N := 6) hx hb hts inX4 hown hK hP 0 rfl rfl 1 (Nat.le_of_ble_eq_true rfl) (hts _ mw_221) (fun _ h9 => h9) rfl dX4_setTriangle_1 ?_
  refine lv_iconst (v := 1) hx hb dX4_setTriangle_4 rfl ?_
  obtain ⟨hPc, hDc, hFc⟩ := zo_sub (wc := [_, _, _]) hP hD hS hA [1, 2, 3] rfl rfl
  refine zcall (st1 := []) (va_runV (As := [.int 1]) (rest := []) ⟨hx, hb, hml, hown, hts⟩ (k_Row_clear l dC dI cI cZ cF s.heap.size tg tx ty nt 3 TX TY rt 1 (Or.inr rfl)) (csV_40 hts rfl rfl ⟨Nat.le_of_ble_eq_true rfl, Nat.le_of_ble_eq_true rfl⟩) (zPV2 (q0 := 0) (ci := 6) hPc hDc hK hXN rfl rfl) rfl rfl hl.1 rfl (lv_room (Nat.le_of_ble_eq_true rfl)) dX4_setTriangle_5 ⟨Nat.le_of_ble_eq_true rfl, Nat.le_of_ble_eq_true rfl⟩) hS hFc hFc rfl (fun t H locs ht hB hk1 hS => ?_)
  obtain ⟨hP1, hD1⟩ := hB
  rw [ht] at hP1
  obtain ⟨hP, hD⟩ := zn (W2 := [_, (oc6 tg (.ref tx) (.ref ty) (nI 0) 1), _, _, _, _, _]) hP hD hk1 hFc hP1 hD1 [1, 2, 3] [true, false, false, false, true, true, true] [true, false, false, false, true, true, true] [1, 2, 3] (by decide +kernel) rfl rfl rfl rfl rfl
  clear hk1 hPc hDc hFc hP1 hD1 ht
  refine lv_aload_n hx hb dX4_setTriangle_8 rfl (lv_at hl 0 rfl) ?_
  refine va_get (D := (dC, dI)) (ci := 3) (v := .ref tg) (C := RX4) (T := TX4) (N := 6) hx hb hts inX4 hown hK hP 0 rfl rfl 1 (Nat.le_of_ble_eq_true rfl) (hts _ mw_221) (fun _ h9 => h9) rfl dX4_setTriangle_9 ?_
  refine lv_aload_n hx hb dX4_setTriangle_12 rfl (lv_at hl 1 rfl) ?_
  refine va_get (D := (dC, dI)) (ci := 6) (v := .ref rx) (C := RX7) (T := TX7) (N := 4) hx hb hts inX7 hown hK hP 4 rfl rfl 0 (Nat.le_of_ble_eq_true rfl) (hts _ mw_163) (fun _ h9 => h9) rfl dX4_setTriangle_13 ?_
  refine lv_iload_n hx hb dX4_setTriangle_16 rfl (lv_at hl 2 rfl) ?_
  have b9_1 : i0 < cap := by omega
  have b9_2 : cap < 2147483648 := by omega
  refine z_iald hx hb hK hP 5 0 rfl rfl (e := i0) rfl b9_1 b9_2 dX4_setTriangle_17 ?_
  refine lv_aload_n hx hb dX4_setTriangle_18 rfl (lv_at hl 1 rfl) ?_
  refine va_get (D := (dC, dI)) (ci := 6) (v := .ref ry) (C := RX7) (T := TX7) (N := 4) hx hb hts inX7 hown hK hP 4 rfl rfl 1 (Nat.le_of_ble_eq_true rfl) (hts _ mw_170) (fun _ h9 => h9) rfl dX4_setTriangle_19 ?_
  refine lv_iload_n hx hb dX4_setTriangle_22 rfl (lv_at hl 2 rfl) ?_
  refine z_iald hx hb hK hP 6 0 rfl rfl (e := i0) rfl b9_1 b9_2 dX4_setTriangle_23 ?_
  obtain ⟨hPc, hDc, hFc⟩ := zo_sub (wc := [_, _, _]) hP hD hS hA [1, 2, 3] rfl rfl
  refine zcall (st1 := []) (va_runV (As := [.int (X i0), .int (Y i0)]) (rest := []) ⟨hx, hb, hml, hown, hts⟩ (k_Row_put l dC dI cI cZ cF H.size tg tx ty 0 3 TX TY 1 (X i0) (Y i0) (by first | with_reducible assumption | omega) (by first | with_reducible assumption | omega)) (csV_41 hts rfl rfl ⟨Nat.le_of_ble_eq_true rfl, Nat.le_of_ble_eq_true rfl⟩) (zPV2 (q0 := 0) (ci := 6) hPc hDc hK hXN rfl rfl) rfl rfl hl.1 rfl (lv_room (Nat.le_of_ble_eq_true rfl)) dX4_setTriangle_24 ⟨Nat.le_of_ble_eq_true rfl, Nat.le_of_ble_eq_true rfl⟩) hS hFc hFc rfl (fun t H locs ht hB hk1 hS => ?_)
  obtain ⟨hP1, hD1⟩ := hB
  rw [ht] at hP1
  obtain ⟨hP, hD⟩ := zn (W2 := [_, (oc6 tg (.ref tx) (.ref ty) (nI (0 + 1)) 1), (oa tx cI 3 (upd TX 0 (X i0))), (oa ty cI 3 (upd TY 0 (Y i0))), _, _, _]) hP hD hk1 hFc hP1 hD1 [1, 2, 3] [true, false, false, false, true, true, true] [true, false, false, false, true, true, true] [1, 2, 3] (by decide +kernel) rfl rfl rfl rfl rfl
  clear hk1 hPc hDc hFc hP1 hD1 ht
  refine lv_aload_n hx hb dX4_setTriangle_27 rfl (lv_at hl 0 rfl) ?_
  refine va_get (D := (dC, dI)) (ci := 3) (v := .ref tg) (C := RX4) (T := TX4) (N := 6) hx hb hts inX4 hown hK hP 0 rfl rfl 1 (Nat.le_of_ble_eq_true rfl) (hts _ mw_221) (fun _ h9 => h9) rfl dX4_setTriangle_28 ?_
  refine lv_aload_n hx hb dX4_setTriangle_31 rfl (lv_at hl 3 rfl) ?_
  refine va_get (D := (dC, dI)) (ci := 6) (v := .ref rx) (C := RX7) (T := TX7) (N := 4) hx hb hts inX7 hown hK hP 4 rfl rfl 0 (Nat.le_of_ble_eq_true rfl) (hts _ mw_163) (fun _ h9 => h9) rfl dX4_setTriangle_32 ?_
  refine lv_iload hx hb dX4_setTriangle_35 (lv_at hl 4 rfl) ?_
  have b9_3 : i1 < cap := by omega
  refine z_iald hx hb hK hP 5 0 rfl rfl (e := i1) rfl b9_3 b9_2 dX4_setTriangle_37 ?_
  refine lv_aload_n hx hb dX4_setTriangle_38 rfl (lv_at hl 3 rfl) ?_
  refine va_get (D := (dC, dI)) (ci := 6) (v := .ref ry) (C := RX7) (T := TX7) (N := 4) hx hb hts inX7 hown hK hP 4 rfl rfl 1 (Nat.le_of_ble_eq_true rfl) (hts _ mw_170) (fun _ h9 => h9) rfl dX4_setTriangle_39 ?_
  refine lv_iload hx hb dX4_setTriangle_42 (lv_at hl 4 rfl) ?_
  refine z_iald hx hb hK hP 6 0 rfl rfl (e := i1) rfl b9_3 b9_2 dX4_setTriangle_44 ?_
  obtain ⟨hPc, hDc, hFc⟩ := zo_sub (wc := [_, _, _]) hP hD hS hA [1, 2, 3] rfl rfl
  refine zcall (st1 := []) (va_runV (As := [.int (X i1), .int (Y i1)]) (rest := []) ⟨hx, hb, hml, hown, hts⟩ (k_Row_put l dC dI cI cZ cF H.size tg tx ty (0 + 1) 3 (upd TX 0 (X i0)) (upd TY 0 (Y i0)) 1 (X i1) (Y i1) (by first | with_reducible assumption | omega) (by first | with_reducible assumption | omega)) (csV_41 hts rfl rfl ⟨Nat.le_of_ble_eq_true rfl, Nat.le_of_ble_eq_true rfl⟩) (zPV2 (q0 := 0) (ci := 6) hPc hDc hK hXN rfl rfl) rfl rfl hl.1 rfl (lv_room (Nat.le_of_ble_eq_true rfl)) dX4_setTriangle_45 ⟨Nat.le_of_ble_eq_true rfl, Nat.le_of_ble_eq_true rfl⟩) hS hFc hFc rfl (fun t H locs ht hB hk1 hS => ?_)
  obtain ⟨hP1, hD1⟩ := hB
  rw [ht] at hP1
  obtain ⟨hP, hD⟩ := zn (W2 := [_, (oc6 tg (.ref tx) (.ref ty) (nI ((0 + 1) + 1)) 1), (oa tx cI 3 (upd (upd TX 0 (X i0)) (0 + 1) (X i1))), (oa ty cI 3 (upd (upd TY 0 (Y i0)) (0 + 1) (Y i1))), _, _, _]) hP hD hk1 hFc hP1 hD1 [1, 2, 3] [true, false, false, false, true, true, true] [true, false, false, false, true, true, true] [1, 2, 3] (by decide +kernel) rfl rfl rfl rfl rfl
  clear hk1 hPc hDc hFc hP1 hD1 ht
  refine lv_aload_n hx hb dX4_setTriangle_48 rfl (lv_at hl 0 rfl) ?_
  refine va_get (D := (dC, dI)) (ci := 3) (v := .ref tg) (C := RX4) (T := TX4) (N := 6) hx hb hts inX4 hown hK hP 0 rfl rfl 1 (Nat.le_of_ble_eq_true rfl) (hts _ mw_221) (fun _ h9 => h9) rfl dX4_setTriangle_49 ?_
  refine lv_aload hx hb dX4_setTriangle_52 (lv_at hl 5 rfl) ?_
  refine va_get (D := (dC, dI)) (ci := 6) (v := .ref rx) (C := RX7) (T := TX7) (N := 4) hx hb hts inX7 hown hK hP 4 rfl rfl 0 (Nat.le_of_ble_eq_true rfl) (hts _ mw_163) (fun _ h9 => h9) rfl dX4_setTriangle_54 ?_
  refine lv_iload hx hb dX4_setTriangle_57 (lv_at hl 6 rfl) ?_
  have b9_4 : i2 < cap := by omega
  refine z_iald hx hb hK hP 5 0 rfl rfl (e := i2) rfl b9_4 b9_2 dX4_setTriangle_59 ?_
  refine lv_aload hx hb dX4_setTriangle_60 (lv_at hl 5 rfl) ?_
  refine va_get (D := (dC, dI)) (ci := 6) (v := .ref ry) (C := RX7) (T := TX7) (N := 4) hx hb hts inX7 hown hK hP 4 rfl rfl 1 (Nat.le_of_ble_eq_true rfl) (hts _ mw_170) (fun _ h9 => h9) rfl dX4_setTriangle_62 ?_
  refine lv_iload hx hb dX4_setTriangle_65 (lv_at hl 6 rfl) ?_
  refine z_iald hx hb hK hP 6 0 rfl rfl (e := i2) rfl b9_4 b9_2 dX4_setTriangle_67 ?_
  obtain ⟨hPc, hDc, hFc⟩ := zo_sub (wc := [_, _, _]) hP hD hS hA [1, 2, 3] rfl rfl
  refine zcall (st1 := []) (va_runV (As := [.int (X i2), .int (Y i2)]) (rest := []) ⟨hx, hb, hml, hown, hts⟩ (k_Row_put l dC dI cI cZ cF H.size tg tx ty ((0 + 1) + 1) 3 (upd (upd TX 0 (X i0)) (0 + 1) (X i1)) (upd (upd TY 0 (Y i0)) (0 + 1) (Y i1)) 1 (X i2) (Y i2) (by first | with_reducible assumption | omega) (by first | with_reducible assumption | omega)) (csV_41 hts rfl rfl ⟨Nat.le_of_ble_eq_true rfl, Nat.le_of_ble_eq_true rfl⟩) (zPV2 (q0 := 0) (ci := 6) hPc hDc hK hXN rfl rfl) rfl rfl hl.1 rfl (lv_room (Nat.le_of_ble_eq_true rfl)) dX4_setTriangle_68 ⟨Nat.le_of_ble_eq_true rfl, Nat.le_of_ble_eq_true rfl⟩) hS hFc hFc rfl (fun t H locs ht hB hk1 hS => ?_)
  obtain ⟨hP1, hD1⟩ := hB
  rw [ht] at hP1
  obtain ⟨hP, hD⟩ := zn (W2 := [_, (oc6 tg (.ref tx) (.ref ty) (nI (((0 + 1) + 1) + 1)) 1), (oa tx cI 3 (upd (upd (upd TX 0 (X i0)) (0 + 1) (X i1)) ((0 + 1) + 1) (X i2))), (oa ty cI 3 (upd (upd (upd TY 0 (Y i0)) (0 + 1) (Y i1)) ((0 + 1) + 1) (Y i2))), _, _, _]) hP hD hk1 hFc hP1 hD1 [1, 2, 3] [true, false, false, false, true, true, true] [true, false, false, false, true, true, true] [1, 2, 3] (by decide +kernel) rfl rfl rfl rfl rfl
  clear hk1 hPc hDc hFc hP1 hD1 ht
  obtain ⟨hP9, hD9⟩ := zu_sub (wc := [(oc3 lw (.ref dr) (.ref tg) (.ref wy) (.ref br) (.ref bo) (.ref aa)), (oc6 tg (.ref tx) (.ref ty) (nI (((0 + 1) + 1) + 1)) 1), (oa tx cI 3 (upd (upd (upd TX 0 (X i0)) (0 + 1) (X i1)) ((0 + 1) + 1) (X i2))), (oa ty cI 3 (upd (upd (upd TY 0 (Y i0)) (0 + 1) (Y i1)) ((0 + 1) + 1) (Y i2))), (oc6 r (.ref rx) (.ref ry) (nI n) rg), (oa rx cI cap X), (oa ry cI cap Y)]) hP hD [true, true, true, true, true, true, true] rfl rfl
  have hE9 : ([(oc3 lw (.ref dr) (.ref tg) (.ref wy) (.ref br) (.ref bo) (.ref aa)), (oc6 tg (.ref tx) (.ref ty) (nI (((0 + 1) + 1) + 1)) 1), (oa tx cI 3 (upd (upd (upd TX 0 (X i0)) (0 + 1) (X i1)) ((0 + 1) + 1) (X i2))), (oa ty cI 3 (upd (upd (upd TY 0 (Y i0)) (0 + 1) (Y i1)) ((0 + 1) + 1) (Y i2))), (oc6 r (.ref rx) (.ref ry) (nI n) rg), (oa rx cI cap X), (oa ry cI cap Y)] : va_W) = [(oc3 lw (.ref dr) (.ref tg) (.ref wy) (.ref br) (.ref bo) (.ref aa)), (oc6 tg (.ref tx) (.ref ty) (nI 3) 1), (oa tx cI 3 (upd (upd (upd TX 0 (X i0)) 1 (X i1)) 2 (X i2))), (oa ty cI 3 (upd (upd (upd TY 0 (Y i0)) 1 (Y i1)) 2 (Y i2))), (oc6 r (.ref rx) (.ref ry) (nI n) rg), (oa rx cI cap X), (oa ry cI cap Y)] := by rfl
  rw [hE9] at hP9 hD9
  rw [hQ9]
  exact W.vret hx hb hr (fun t ht hW => ⟨⟨rfl, by rw [ht]; exact hP9, hD9⟩, hS.F ht⟩) hS.2.2 dX4_setTriangle_71
set_option maxHeartbeats 4000000 in
set_option maxRecDepth 100000 in
theorem k_Law_setTriangle_ood (l : Launch) (dC : Nat → ClassId) (dI : Nat → Nat → Nat) (cI cZ cF : ClassId) (sz : Nat) (lw : Nat) (dr : Nat) (tg : Nat) (wy : Nat) (br : Nat) (bo : Nat) (aa : Nat) (tx : Nat) (ty : Nat) (nt : Nat) (TX : Nat → Int32) (TY : Nat → Int32) (rt : Int32) (r : Nat) (rx : Nat) (ry : Nat) (n : Nat) (cap : Nat) (X : Nat → Int32) (Y : Nat → Int32) (rg : Int32) (dx : Nat) (dy : Nat) (nd : Nat) (cd : Nat) (P : Nat → Int32) (Q : Nat → Int32) (rd : Int32) (i0 : Nat) (i1 : Nat) (i2 : Nat) (hn : n ≤ cap) (hcap : cap ≤ 1000) (hnd : nd ≤ cd) (hcd : cd ≤ 1000) (hi0 : i0 < n) (hi1 : i1 < n) (hi2 : i2 < nd) : zM l yX4_setTriangle cX4_setTriangle 7 none ({ frames := 1, cells := 0, slots := 0, locals := 22 } : Room) [.ref lw, .ref r, .int (nI i0), .ref r, .int (nI i1), .ref dr, .int (nI i2)] (dC, dI) (zTy cI cZ cF) [(oc3 lw (.ref dr) (.ref tg) (.ref wy) (.ref br) (.ref bo) (.ref aa)), (oc6 tg (.ref tx) (.ref ty) (nI nt) rt), (oa tx cI 3 TX), (oa ty cI 3 TY), (oc6 r (.ref rx) (.ref ry) (nI n) rg), (oa rx cI cap X), (oa ry cI cap Y), (oc6 dr (.ref dx) (.ref dy) (nI nd) rd), (oa dx cI cd P), (oa dy cI cd Q)] sz none (fun A t => zPD (dC, dI) classes A [(oc3 lw (.ref dr) (.ref tg) (.ref wy) (.ref br) (.ref bo) (.ref aa)), (oc6 tg (.ref tx) (.ref ty) (nI 3) 1), (oa tx cI 3 (upd (upd (upd TX 0 (X i0)) 1 (X i1)) 2 (P i2))), (oa ty cI 3 (upd (upd (upd TY 0 (Y i0)) 1 (Y i1)) 2 (Q i2))), (oc6 r (.ref rx) (.ref ry) (nI n) rg), (oa rx cI cap X), (oa ry cI cap Y), (oc6 dr (.ref dx) (.ref dy) (nI nd) rd), (oa dx cI cd P), (oa dy cI cd Q)] t.heap) 0 0 := by
  refine zIn (own := "ScaleShop$Law") (loc := [(0, .ref lw), (1, .ref r), (2, .int (nI i0)), (3, .ref r), (4, .int (nI i1)), (5, .ref dr), (6, .int (nI i2))]) rfl rfl rfl rfl (fun p e s m below meth c hx hb hr hts hown hlocks hml hnm9 A hA hS hP hD hK hXN Q9 hQ9 ls hl => ?_)
  refine lv_aload_n hx hb dX4_setTriangle_0 rfl (lv_at hl 0 rfl) ?_
  refine va_get (D := (dC, dI)) (ci := 3) (v := .ref tg) (C := RX4) (T := TX4) (N := 6) hx hb hts inX4 hown hK hP 0 rfl rfl 1 (Nat.le_of_ble_eq_true rfl) (hts _ mw_221) (fun _ h9 => h9) rfl dX4_setTriangle_1 ?_
  refine lv_iconst (v := 1) hx hb dX4_setTriangle_4 rfl ?_
  obtain ⟨hPc, hDc, hFc⟩ := zo_sub (wc := [_, _, _]) hP hD hS hA [1, 2, 3] rfl rfl
  refine zcall (st1 := []) (va_runV (As := [.int 1]) (rest := []) ⟨hx, hb, hml, hown, hts⟩ (k_Row_clear l dC dI cI cZ cF s.heap.size tg tx ty nt 3 TX TY rt 1 (Or.inr rfl)) (csV_40 hts rfl rfl ⟨Nat.le_of_ble_eq_true rfl, Nat.le_of_ble_eq_true rfl⟩) (zPV2 (q0 := 0) (ci := 6) hPc hDc hK hXN rfl rfl) rfl rfl hl.1 rfl (lv_room (Nat.le_of_ble_eq_true rfl)) dX4_setTriangle_5 ⟨Nat.le_of_ble_eq_true rfl, Nat.le_of_ble_eq_true rfl⟩) hS hFc hFc rfl (fun t H locs ht hB hk1 hS => ?_)
  obtain ⟨hP1, hD1⟩ := hB
  rw [ht] at hP1
  obtain ⟨hP, hD⟩ := zn (W2 := [_, (oc6 tg (.ref tx) (.ref ty) (nI 0) 1), _, _, _, _, _, _, _, _]) hP hD hk1 hFc hP1 hD1 [1, 2, 3] [true, false, false, false, true, true, true, true, true, true] [true, false, false, false, true, true, true, true, true, true] [1, 2, 3] (by decide +kernel) rfl rfl rfl rfl rfl
  clear hk1 hPc hDc hFc hP1 hD1 ht
  refine lv_aload_n hx hb dX4_setTriangle_8 rfl (lv_at hl 0 rfl) ?_
  refine va_get (D := (dC, dI)) (ci := 3) (v := .ref tg) (C := RX4) (T := TX4) (N := 6) hx hb hts inX4 hown hK hP 0 rfl rfl 1 (Nat.le_of_ble_eq_true rfl) (hts _ mw_221) (fun _ h9 => h9) rfl dX4_setTriangle_9 ?_
  refine lv_aload_n hx hb dX4_setTriangle_12 rfl (lv_at hl 1 rfl) ?_
  refine va_get (D := (dC, dI)) (ci := 6) (v := .ref rx) (C := RX7) (T := TX7) (N := 4) hx hb hts inX7 hown hK hP 4 rfl rfl 0 (Nat.le_of_ble_eq_true rfl) (hts _ mw_163) (fun _ h9 => h9) rfl dX4_setTriangle_13 ?_
  refine lv_iload_n hx hb dX4_setTriangle_16 rfl (lv_at hl 2 rfl) ?_
  have b9_1 : i0 < cap := by omega
  have b9_2 : cap < 2147483648 := by omega
  refine z_iald hx hb hK hP 5 0 rfl rfl (e := i0) rfl b9_1 b9_2 dX4_setTriangle_17 ?_
  refine lv_aload_n hx hb dX4_setTriangle_18 rfl (lv_at hl 1 rfl) ?_
  refine va_get (D := (dC, dI)) (ci := 6) (v := .ref ry) (C := RX7) (T := TX7) (N := 4) hx hb hts inX7 hown hK hP 4 rfl rfl 1 (Nat.le_of_ble_eq_true rfl) (hts _ mw_170) (fun _ h9 => h9) rfl dX4_setTriangle_19 ?_
  refine lv_iload_n hx hb dX4_setTriangle_22 rfl (lv_at hl 2 rfl) ?_
  refine z_iald hx hb hK hP 6 0 rfl rfl (e := i0) rfl b9_1 b9_2 dX4_setTriangle_23 ?_
  obtain ⟨hPc, hDc, hFc⟩ := zo_sub (wc := [_, _, _]) hP hD hS hA [1, 2, 3] rfl rfl
  refine zcall (st1 := []) (va_runV (As := [.int (X i0), .int (Y i0)]) (rest := []) ⟨hx, hb, hml, hown, hts⟩ (k_Row_put l dC dI cI cZ cF H.size tg tx ty 0 3 TX TY 1 (X i0) (Y i0) (by first | with_reducible assumption | omega) (by first | with_reducible assumption | omega)) (csV_41 hts rfl rfl ⟨Nat.le_of_ble_eq_true rfl, Nat.le_of_ble_eq_true rfl⟩) (zPV2 (q0 := 0) (ci := 6) hPc hDc hK hXN rfl rfl) rfl rfl hl.1 rfl (lv_room (Nat.le_of_ble_eq_true rfl)) dX4_setTriangle_24 ⟨Nat.le_of_ble_eq_true rfl, Nat.le_of_ble_eq_true rfl⟩) hS hFc hFc rfl (fun t H locs ht hB hk1 hS => ?_)
  obtain ⟨hP1, hD1⟩ := hB
  rw [ht] at hP1
  obtain ⟨hP, hD⟩ := zn (W2 := [_, (oc6 tg (.ref tx) (.ref ty) (nI (0 + 1)) 1), (oa tx cI 3 (upd TX 0 (X i0))), (oa ty cI 3 (upd TY 0 (Y i0))), _, _, _, _, _, _]) hP hD hk1 hFc hP1 hD1 [1, 2, 3] [true, false, false, false, true, true, true, true, true, true] [true, false, false, false, true, true, true, true, true, true] [1, 2, 3] (by decide +kernel) rfl rfl rfl rfl rfl
  clear hk1 hPc hDc hFc hP1 hD1 ht
  refine lv_aload_n hx hb dX4_setTriangle_27 rfl (lv_at hl 0 rfl) ?_
  refine va_get (D := (dC, dI)) (ci := 3) (v := .ref tg) (C := RX4) (T := TX4) (N := 6) hx hb hts inX4 hown hK hP 0 rfl rfl 1 (Nat.le_of_ble_eq_true rfl) (hts _ mw_221) (fun _ h9 => h9) rfl dX4_setTriangle_28 ?_
  refine lv_aload_n hx hb dX4_setTriangle_31 rfl (lv_at hl 3 rfl) ?_
  refine va_get (D := (dC, dI)) (ci := 6) (v := .ref rx) (C := RX7) (T := TX7) (N := 4) hx hb hts inX7 hown hK hP 4 rfl rfl 0 (Nat.le_of_ble_eq_true rfl) (hts _ mw_163) (fun _ h9 => h9) rfl dX4_setTriangle_32 ?_
  refine lv_iload hx hb dX4_setTriangle_35 (lv_at hl 4 rfl) ?_
  have b9_3 : i1 < cap := by omega
  refine z_iald hx hb hK hP 5 0 rfl rfl (e := i1) rfl b9_3 b9_2 dX4_setTriangle_37 ?_
  refine lv_aload_n hx hb dX4_setTriangle_38 rfl (lv_at hl 3 rfl) ?_
  refine va_get (D := (dC, dI)) (ci := 6) (v := .ref ry) (C := RX7) (T := TX7) (N := 4) hx hb hts inX7 hown hK hP 4 rfl rfl 1 (Nat.le_of_ble_eq_true rfl) (hts _ mw_170) (fun _ h9 => h9) rfl dX4_setTriangle_39 ?_
  refine lv_iload hx hb dX4_setTriangle_42 (lv_at hl 4 rfl) ?_
  refine z_iald hx hb hK hP 6 0 rfl rfl (e := i1) rfl b9_3 b9_2 dX4_setTriangle_44 ?_
  obtain ⟨hPc, hDc, hFc⟩ := zo_sub (wc := [_, _, _]) hP hD hS hA [1, 2, 3] rfl rfl
  refine zcall (st1 := []) (va_runV (As := [.int (X i1), .int (Y i1)]) (rest := []) ⟨hx, hb, hml, hown, hts⟩ (k_Row_put l dC dI cI cZ cF H.size tg tx ty (0 + 1) 3 (upd TX 0 (X i0)) (upd TY 0 (Y i0)) 1 (X i1) (Y i1) (by first | with_reducible assumption | omega) (by first | with_reducible assumption | omega)) (csV_41 hts rfl rfl ⟨Nat.le_of_ble_eq_true rfl, Nat.le_of_ble_eq_true rfl⟩) (zPV2 (q0 := 0) (ci := 6) hPc hDc hK hXN rfl rfl) rfl rfl hl.1 rfl (lv_room (Nat.le_of_ble_eq_true rfl)) dX4_setTriangle_45 ⟨Nat.le_of_ble_eq_true rfl, Nat.le_of_ble_eq_true rfl⟩) hS hFc hFc rfl (fun t H locs ht hB hk1 hS => ?_)
  obtain ⟨hP1, hD1⟩ := hB
  rw [ht] at hP1
  obtain ⟨hP, hD⟩ := zn (W2 := [_, (oc6 tg (.ref tx) (.ref ty) (nI ((0 + 1) + 1)) 1), (oa tx cI 3 (upd (upd TX 0 (X i0)) (0 + 1) (X i1))), (oa ty cI 3 (upd (upd TY 0 (Y i0)) (0 + 1) (Y i1))), _, _, _, _, _, _]) hP hD hk1 hFc hP1 hD1 [1, 2, 3] [true, false, false, false, true, true, true, true, true, true] [true, false, false, false, true, true, true, true, true, true] [1, 2, 3] (by decide +kernel) rfl rfl rfl rfl rfl
  clear hk1 hPc hDc hFc hP1 hD1 ht
  refine lv_aload_n hx hb dX4_setTriangle_48 rfl (lv_at hl 0 rfl) ?_
  refine va_get (D := (dC, dI)) (ci := 3) (v := .ref tg) (C := RX4) (T := TX4) (N := 6) hx hb hts inX4 hown hK hP 0 rfl rfl 1 (Nat.le_of_ble_eq_true rfl) (hts _ mw_221) (fun _ h9 => h9) rfl dX4_setTriangle_49 ?_
  refine lv_aload hx hb dX4_setTriangle_52 (lv_at hl 5 rfl) ?_
  refine va_get (D := (dC, dI)) (ci := 6) (v := .ref dx) (C := RX7) (T := TX7) (N := 4) hx hb hts inX7 hown hK hP 7 rfl rfl 0 (Nat.le_of_ble_eq_true rfl) (hts _ mw_163) (fun _ h9 => h9) rfl dX4_setTriangle_54 ?_
  refine lv_iload hx hb dX4_setTriangle_57 (lv_at hl 6 rfl) ?_
  have b9_4 : i2 < cd := by omega
  have b9_5 : cd < 2147483648 := by omega
  refine z_iald hx hb hK hP 8 0 rfl rfl (e := i2) rfl b9_4 b9_5 dX4_setTriangle_59 ?_
  refine lv_aload hx hb dX4_setTriangle_60 (lv_at hl 5 rfl) ?_
  refine va_get (D := (dC, dI)) (ci := 6) (v := .ref dy) (C := RX7) (T := TX7) (N := 4) hx hb hts inX7 hown hK hP 7 rfl rfl 1 (Nat.le_of_ble_eq_true rfl) (hts _ mw_170) (fun _ h9 => h9) rfl dX4_setTriangle_62 ?_
  refine lv_iload hx hb dX4_setTriangle_65 (lv_at hl 6 rfl) ?_
  refine z_iald hx hb hK hP 9 0 rfl rfl (e := i2) rfl b9_4 b9_5 dX4_setTriangle_67 ?_
  obtain ⟨hPc, hDc, hFc⟩ := zo_sub (wc := [_, _, _]) hP hD hS hA [1, 2, 3] rfl rfl
  refine zcall (st1 := []) (va_runV (As := [.int (P i2), .int (Q i2)]) (rest := []) ⟨hx, hb, hml, hown, hts⟩ (k_Row_put l dC dI cI cZ cF H.size tg tx ty ((0 + 1) + 1) 3 (upd (upd TX 0 (X i0)) (0 + 1) (X i1)) (upd (upd TY 0 (Y i0)) (0 + 1) (Y i1)) 1 (P i2) (Q i2) (by first | with_reducible assumption | omega) (by first | with_reducible assumption | omega)) (csV_41 hts rfl rfl ⟨Nat.le_of_ble_eq_true rfl, Nat.le_of_ble_eq_true rfl⟩) (zPV2 (q0 := 0) (ci := 6) hPc hDc hK hXN rfl rfl) rfl rfl hl.1 rfl (lv_room (Nat.le_of_ble_eq_true rfl)) dX4_setTriangle_68 ⟨Nat.le_of_ble_eq_true rfl, Nat.le_of_ble_eq_true rfl⟩) hS hFc hFc rfl (fun t H locs ht hB hk1 hS => ?_)
  obtain ⟨hP1, hD1⟩ := hB
  rw [ht] at hP1
  obtain ⟨hP, hD⟩ := zn (W2 := [_, (oc6 tg (.ref tx) (.ref ty) (nI (((0 + 1) + 1) + 1)) 1), (oa tx cI 3 (upd (upd (upd TX 0 (X i0)) (0 + 1) (X i1)) ((0 + 1) + 1) (P i2))), (oa ty cI 3 (upd (upd (upd TY 0 (Y i0)) (0 + 1) (Y i1)) ((0 + 1) + 1) (Q i2))), _, _, _, _, _, _]) hP hD hk1 hFc hP1 hD1 [1, 2, 3] [true, false, false, false, true, true, true, true, true, true] [true, false, false, false, true, true, true, true, true, true] [1, 2, 3] (by decide +kernel) rfl rfl rfl rfl rfl
  clear hk1 hPc hDc hFc hP1 hD1 ht
  obtain ⟨hP9, hD9⟩ := zu_sub (wc := [(oc3 lw (.ref dr) (.ref tg) (.ref wy) (.ref br) (.ref bo) (.ref aa)), (oc6 tg (.ref tx) (.ref ty) (nI (((0 + 1) + 1) + 1)) 1), (oa tx cI 3 (upd (upd (upd TX 0 (X i0)) (0 + 1) (X i1)) ((0 + 1) + 1) (P i2))), (oa ty cI 3 (upd (upd (upd TY 0 (Y i0)) (0 + 1) (Y i1)) ((0 + 1) + 1) (Q i2))), (oc6 r (.ref rx) (.ref ry) (nI n) rg), (oa rx cI cap X), (oa ry cI cap Y), (oc6 dr (.ref dx) (.ref dy) (nI nd) rd), (oa dx cI cd P), (oa dy cI cd Q)]) hP hD [true, true, true, true, true, true, true, true, true, true] rfl rfl
  have hE9 : ([(oc3 lw (.ref dr) (.ref tg) (.ref wy) (.ref br) (.ref bo) (.ref aa)), (oc6 tg (.ref tx) (.ref ty) (nI (((0 + 1) + 1) + 1)) 1), (oa tx cI 3 (upd (upd (upd TX 0 (X i0)) (0 + 1) (X i1)) ((0 + 1) + 1) (P i2))), (oa ty cI 3 (upd (upd (upd TY 0 (Y i0)) (0 + 1) (Y i1)) ((0 + 1) + 1) (Q i2))), (oc6 r (.ref rx) (.ref ry) (nI n) rg), (oa rx cI cap X), (oa ry cI cap Y), (oc6 dr (.ref dx) (.ref dy) (nI nd) rd), (oa dx cI cd P), (oa dy cI cd Q)] : va_W) = [(oc3 lw (.ref dr) (.ref tg) (.ref wy) (.ref br) (.ref bo) (.ref aa)), (oc6 tg (.ref tx) (.ref ty) (nI 3) 1), (oa tx cI 3 (upd (upd (upd TX 0 (X i0)) 1 (X i1)) 2 (P i2))), (oa ty cI 3 (upd (upd (upd TY 0 (Y i0)) 1 (Y i1)) 2 (Q i2))), (oc6 r (.ref rx) (.ref ry) (nI n) rg), (oa rx cI cap X), (oa ry cI cap Y), (oc6 dr (.ref dx) (.ref dy) (nI nd) rd), (oa dx cI cd P), (oa dy cI cd Q)] := by rfl
  rw [hE9] at hP9 hD9
  rw [hQ9]
  exact W.vret hx hb hr (fun t ht hW => ⟨⟨rfl, by rw [ht]; exact hP9, hD9⟩, hS.F ht⟩) hS.2.2 dX4_setTriangle_71
set_option maxHeartbeats 4000000 in
set_option maxRecDepth 100000 in
theorem k_Law_setTriangle_odd (l : Launch) (dC : Nat → ClassId) (dI : Nat → Nat → Nat) (cI cZ cF : ClassId) (sz : Nat) (lw : Nat) (dr : Nat) (tg : Nat) (wy : Nat) (br : Nat) (bo : Nat) (aa : Nat) (tx : Nat) (ty : Nat) (nt : Nat) (TX : Nat → Int32) (TY : Nat → Int32) (rt : Int32) (r : Nat) (rx : Nat) (ry : Nat) (n : Nat) (cap : Nat) (X : Nat → Int32) (Y : Nat → Int32) (rg : Int32) (dx : Nat) (dy : Nat) (nd : Nat) (cd : Nat) (P : Nat → Int32) (Q : Nat → Int32) (rd : Int32) (i0 : Nat) (i1 : Nat) (i2 : Nat) (hn : n ≤ cap) (hcap : cap ≤ 1000) (hnd : nd ≤ cd) (hcd : cd ≤ 1000) (hi0 : i0 < n) (hi1 : i1 < nd) (hi2 : i2 < nd) : zM l yX4_setTriangle cX4_setTriangle 7 none ({ frames := 1, cells := 0, slots := 0, locals := 22 } : Room) [.ref lw, .ref r, .int (nI i0), .ref dr, .int (nI i1), .ref dr, .int (nI i2)] (dC, dI) (zTy cI cZ cF) [(oc3 lw (.ref dr) (.ref tg) (.ref wy) (.ref br) (.ref bo) (.ref aa)), (oc6 tg (.ref tx) (.ref ty) (nI nt) rt), (oa tx cI 3 TX), (oa ty cI 3 TY), (oc6 r (.ref rx) (.ref ry) (nI n) rg), (oa rx cI cap X), (oa ry cI cap Y), (oc6 dr (.ref dx) (.ref dy) (nI nd) rd), (oa dx cI cd P), (oa dy cI cd Q)] sz none (fun A t => zPD (dC, dI) classes A [(oc3 lw (.ref dr) (.ref tg) (.ref wy) (.ref br) (.ref bo) (.ref aa)), (oc6 tg (.ref tx) (.ref ty) (nI 3) 1), (oa tx cI 3 (upd (upd (upd TX 0 (X i0)) 1 (P i1)) 2 (P i2))), (oa ty cI 3 (upd (upd (upd TY 0 (Y i0)) 1 (Q i1)) 2 (Q i2))), (oc6 r (.ref rx) (.ref ry) (nI n) rg), (oa rx cI cap X), (oa ry cI cap Y), (oc6 dr (.ref dx) (.ref dy) (nI nd) rd), (oa dx cI cd P), (oa dy cI cd Q)] t.heap) 0 0 := by
  refine zIn (own := "ScaleShop$Law") (loc := [(0, .ref lw), (1, .ref r), (2, .int (nI i0)), (3, .ref dr), (4, .int (nI i1)), (5, .ref dr), (6, .int (nI i2))]) rfl rfl rfl rfl (fun p e s m below meth c hx hb hr hts hown hlocks hml hnm9 A hA hS hP hD hK hXN Q9 hQ9 ls hl => ?_)
  refine lv_aload_n hx hb dX4_setTriangle_0 rfl (lv_at hl 0 rfl) ?_
  refine va_get (D := (dC, dI)) (ci := 3) (v := .ref tg) (C := RX4) (T := TX4) (N := 6) hx hb hts inX4 hown hK hP 0 rfl rfl 1 (Nat.le_of_ble_eq_true rfl) (hts _ mw_221) (fun _ h9 => h9) rfl dX4_setTriangle_1 ?_
  refine lv_iconst (v := 1) hx hb dX4_setTriangle_4 rfl ?_
  obtain ⟨hPc, hDc, hFc⟩ := zo_sub (wc := [_, _, _]) hP hD hS hA [1, 2, 3] rfl rfl
  refine zcall (st1 := []) (va_runV (As := [.int 1]) (rest := []) ⟨hx, hb, hml, hown, hts⟩ (k_Row_clear l dC dI cI cZ cF s.heap.size tg tx ty nt 3 TX TY rt 1 (Or.inr rfl)) (csV_40 hts rfl rfl ⟨Nat.le_of_ble_eq_true rfl, Nat.le_of_ble_eq_true rfl⟩) (zPV2 (q0 := 0) (ci := 6) hPc hDc hK hXN rfl rfl) rfl rfl hl.1 rfl (lv_room (Nat.le_of_ble_eq_true rfl)) dX4_setTriangle_5 ⟨Nat.le_of_ble_eq_true rfl, Nat.le_of_ble_eq_true rfl⟩) hS hFc hFc rfl (fun t H locs ht hB hk1 hS => ?_)
  obtain ⟨hP1, hD1⟩ := hB
  rw [ht] at hP1
  obtain ⟨hP, hD⟩ := zn (W2 := [_, (oc6 tg (.ref tx) (.ref ty) (nI 0) 1), _, _, _, _, _, _, _, _]) hP hD hk1 hFc hP1 hD1 [1, 2, 3] [true, false, false, false, true, true, true, true, true, true] [true, false, false, false, true, true, true, true, true, true] [1, 2, 3] (by decide +kernel) rfl rfl rfl rfl rfl
  clear hk1 hPc hDc hFc hP1 hD1 ht
  refine lv_aload_n hx hb dX4_setTriangle_8 rfl (lv_at hl 0 rfl) ?_
  refine va_get (D := (dC, dI)) (ci := 3) (v := .ref tg) (C := RX4) (T := TX4) (N := 6) hx hb hts inX4 hown hK hP 0 rfl rfl 1 (Nat.le_of_ble_eq_true rfl) (hts _ mw_221) (fun _ h9 => h9) rfl dX4_setTriangle_9 ?_
  refine lv_aload_n hx hb dX4_setTriangle_12 rfl (lv_at hl 1 rfl) ?_
  refine va_get (D := (dC, dI)) (ci := 6) (v := .ref rx) (C := RX7) (T := TX7) (N := 4) hx hb hts inX7 hown hK hP 4 rfl rfl 0 (Nat.le_of_ble_eq_true rfl) (hts _ mw_163) (fun _ h9 => h9) rfl dX4_setTriangle_13 ?_
  refine lv_iload_n hx hb dX4_setTriangle_16 rfl (lv_at hl 2 rfl) ?_
  have b9_1 : i0 < cap := by omega
  have b9_2 : cap < 2147483648 := by omega
  refine z_iald hx hb hK hP 5 0 rfl rfl (e := i0) rfl b9_1 b9_2 dX4_setTriangle_17 ?_
  refine lv_aload_n hx hb dX4_setTriangle_18 rfl (lv_at hl 1 rfl) ?_
  refine va_get (D := (dC, dI)) (ci := 6) (v := .ref ry) (C := RX7) (T := TX7) (N := 4) hx hb hts inX7 hown hK hP 4 rfl rfl 1 (Nat.le_of_ble_eq_true rfl) (hts _ mw_170) (fun _ h9 => h9) rfl dX4_setTriangle_19 ?_
  refine lv_iload_n hx hb dX4_setTriangle_22 rfl (lv_at hl 2 rfl) ?_
  refine z_iald hx hb hK hP 6 0 rfl rfl (e := i0) rfl b9_1 b9_2 dX4_setTriangle_23 ?_
  obtain ⟨hPc, hDc, hFc⟩ := zo_sub (wc := [_, _, _]) hP hD hS hA [1, 2, 3] rfl rfl
  refine zcall (st1 := []) (va_runV (As := [.int (X i0), .int (Y i0)]) (rest := []) ⟨hx, hb, hml, hown, hts⟩ (k_Row_put l dC dI cI cZ cF H.size tg tx ty 0 3 TX TY 1 (X i0) (Y i0) (by first | with_reducible assumption | omega) (by first | with_reducible assumption | omega)) (csV_41 hts rfl rfl ⟨Nat.le_of_ble_eq_true rfl, Nat.le_of_ble_eq_true rfl⟩) (zPV2 (q0 := 0) (ci := 6) hPc hDc hK hXN rfl rfl) rfl rfl hl.1 rfl (lv_room (Nat.le_of_ble_eq_true rfl)) dX4_setTriangle_24 ⟨Nat.le_of_ble_eq_true rfl, Nat.le_of_ble_eq_true rfl⟩) hS hFc hFc rfl (fun t H locs ht hB hk1 hS => ?_)
  obtain ⟨hP1, hD1⟩ := hB
  rw [ht] at hP1
  obtain ⟨hP, hD⟩ := zn (W2 := [_, (oc6 tg (.ref tx) (.ref ty) (nI (0 + 1)) 1), (oa tx cI 3 (upd TX 0 (X i0))), (oa ty cI 3 (upd TY 0 (Y i0))), _, _, _, _, _, _]) hP hD hk1 hFc hP1 hD1 [1, 2, 3] [true, false, false, false, true, true, true, true, true, true] [true, false, false, false, true, true, true, true, true, true] [1, 2, 3] (by decide +kernel) rfl rfl rfl rfl rfl
  clear hk1 hPc hDc hFc hP1 hD1 ht
  refine lv_aload_n hx hb dX4_setTriangle_27 rfl (lv_at hl 0 rfl) ?_
  refine va_get (D := (dC, dI)) (ci := 3) (v := .ref tg) (C := RX4) (T := TX4) (N := 6) hx hb hts inX4 hown hK hP 0 rfl rfl 1 (Nat.le_of_ble_eq_true rfl) (hts _ mw_221) (fun _ h9 => h9) rfl dX4_setTriangle_28 ?_
  refine lv_aload_n hx hb dX4_setTriangle_31 rfl (lv_at hl 3 rfl) ?_
  refine va_get (D := (dC, dI)) (ci := 6) (v := .ref dx) (C := RX7) (T := TX7) (N := 4) hx hb hts inX7 hown hK hP 7 rfl rfl 0 (Nat.le_of_ble_eq_true rfl) (hts _ mw_163) (fun _ h9 => h9) rfl dX4_setTriangle_32 ?_
  refine lv_iload hx hb dX4_setTriangle_35 (lv_at hl 4 rfl) ?_
  have b9_3 : i1 < cd := by omega
  have b9_4 : cd < 2147483648 := by omega
  refine z_iald hx hb hK hP 8 0 rfl rfl (e := i1) rfl b9_3 b9_4 dX4_setTriangle_37 ?_
  refine lv_aload_n hx hb dX4_setTriangle_38 rfl (lv_at hl 3 rfl) ?_
  refine va_get (D := (dC, dI)) (ci := 6) (v := .ref dy) (C := RX7) (T := TX7) (N := 4) hx hb hts inX7 hown hK hP 7 rfl rfl 1 (Nat.le_of_ble_eq_true rfl) (hts _ mw_170) (fun _ h9 => h9) rfl dX4_setTriangle_39 ?_
  refine lv_iload hx hb dX4_setTriangle_42 (lv_at hl 4 rfl) ?_
  refine z_iald hx hb hK hP 9 0 rfl rfl (e := i1) rfl b9_3 b9_4 dX4_setTriangle_44 ?_
  obtain ⟨hPc, hDc, hFc⟩ := zo_sub (wc := [_, _, _]) hP hD hS hA [1, 2, 3] rfl rfl
  refine zcall (st1 := []) (va_runV (As := [.int (P i1), .int (Q i1)]) (rest := []) ⟨hx, hb, hml, hown, hts⟩ (k_Row_put l dC dI cI cZ cF H.size tg tx ty (0 + 1) 3 (upd TX 0 (X i0)) (upd TY 0 (Y i0)) 1 (P i1) (Q i1) (by first | with_reducible assumption | omega) (by first | with_reducible assumption | omega)) (csV_41 hts rfl rfl ⟨Nat.le_of_ble_eq_true rfl, Nat.le_of_ble_eq_true rfl⟩) (zPV2 (q0 := 0) (ci := 6) hPc hDc hK hXN rfl rfl) rfl rfl hl.1 rfl (lv_room (Nat.le_of_ble_eq_true rfl)) dX4_setTriangle_45 ⟨Nat.le_of_ble_eq_true rfl, Nat.le_of_ble_eq_true rfl⟩) hS hFc hFc rfl (fun t H locs ht hB hk1 hS => ?_)
  obtain ⟨hP1, hD1⟩ := hB
  rw [ht] at hP1
  obtain ⟨hP, hD⟩ := zn (W2 := [_, (oc6 tg (.ref tx) (.ref ty) (nI ((0 + 1) + 1)) 1), (oa tx cI 3 (upd (upd TX 0 (X i0)) (0 + 1) (P i1))), (oa ty cI 3 (upd (upd TY 0 (Y i0)) (0 + 1) (Q i1))), _, _, _, _, _, _]) hP hD hk1 hFc hP1 hD1 [1, 2, 3] [true, false, false, false, true, true, true, true, true, true] [true, false, false, false, true, true, true, true, true, true] [1, 2, 3] (by decide +kernel) rfl rfl rfl rfl rfl
  clear hk1 hPc hDc hFc hP1 hD1 ht
  refine lv_aload_n hx hb dX4_setTriangle_48 rfl (lv_at hl 0 rfl) ?_
  refine va_get (D := (dC, dI)) (ci := 3) (v := .ref tg) (C := RX4) (T := TX4) (N := 6) hx hb hts inX4 hown hK hP 0 rfl rfl 1 (Nat.le_of_ble_eq_true rfl) (hts _ mw_221) (fun _ h9 => h9) rfl dX4_setTriangle_49 ?_
  refine lv_aload hx hb dX4_setTriangle_52 (lv_at hl 5 rfl) ?_
  refine va_get (D := (dC, dI)) (ci := 6) (v := .ref dx) (C := RX7) (T := TX7) (N := 4) hx hb hts inX7 hown hK hP 7 rfl rfl 0 (Nat.le_of_ble_eq_true rfl) (hts _ mw_163) (fun _ h9 => h9) rfl dX4_setTriangle_54 ?_
  refine lv_iload hx hb dX4_setTriangle_57 (lv_at hl 6 rfl) ?_
  have b9_5 : i2 < cd := by omega
  refine z_iald hx hb hK hP 8 0 rfl rfl (e := i2) rfl b9_5 b9_4 dX4_setTriangle_59 ?_
  refine lv_aload hx hb dX4_setTriangle_60 (lv_at hl 5 rfl) ?_
  refine va_get (D := (dC, dI)) (ci := 6) (v := .ref dy) (C := RX7) (T := TX7) (N := 4) hx hb hts inX7 hown hK hP 7 rfl rfl 1 (Nat.le_of_ble_eq_true rfl) (hts _ mw_170) (fun _ h9 => h9) rfl dX4_setTriangle_62 ?_
  refine lv_iload hx hb dX4_setTriangle_65 (lv_at hl 6 rfl) ?_
  refine z_iald hx hb hK hP 9 0 rfl rfl (e := i2) rfl b9_5 b9_4 dX4_setTriangle_67 ?_
  obtain ⟨hPc, hDc, hFc⟩ := zo_sub (wc := [_, _, _]) hP hD hS hA [1, 2, 3] rfl rfl
  refine zcall (st1 := []) (va_runV (As := [.int (P i2), .int (Q i2)]) (rest := []) ⟨hx, hb, hml, hown, hts⟩ (k_Row_put l dC dI cI cZ cF H.size tg tx ty ((0 + 1) + 1) 3 (upd (upd TX 0 (X i0)) (0 + 1) (P i1)) (upd (upd TY 0 (Y i0)) (0 + 1) (Q i1)) 1 (P i2) (Q i2) (by first | with_reducible assumption | omega) (by first | with_reducible assumption | omega)) (csV_41 hts rfl rfl ⟨Nat.le_of_ble_eq_true rfl, Nat.le_of_ble_eq_true rfl⟩) (zPV2 (q0 := 0) (ci := 6) hPc hDc hK hXN rfl rfl) rfl rfl hl.1 rfl (lv_room (Nat.le_of_ble_eq_true rfl)) dX4_setTriangle_68 ⟨Nat.le_of_ble_eq_true rfl, Nat.le_of_ble_eq_true rfl⟩) hS hFc hFc rfl (fun t H locs ht hB hk1 hS => ?_)
  obtain ⟨hP1, hD1⟩ := hB
  rw [ht] at hP1
  obtain ⟨hP, hD⟩ := zn (W2 := [_, (oc6 tg (.ref tx) (.ref ty) (nI (((0 + 1) + 1) + 1)) 1), (oa tx cI 3 (upd (upd (upd TX 0 (X i0)) (0 + 1) (P i1)) ((0 + 1) + 1) (P i2))), (oa ty cI 3 (upd (upd (upd TY 0 (Y i0)) (0 + 1) (Q i1)) ((0 + 1) + 1) (Q i2))), _, _, _, _, _, _]) hP hD hk1 hFc hP1 hD1 [1, 2, 3] [true, false, false, false, true, true, true, true, true, true] [true, false, false, false, true, true, true, true, true, true] [1, 2, 3] (by decide +kernel) rfl rfl rfl rfl rfl
  clear hk1 hPc hDc hFc hP1 hD1 ht
  obtain ⟨hP9, hD9⟩ := zu_sub (wc := [(oc3 lw (.ref dr) (.ref tg) (.ref wy) (.ref br) (.ref bo) (.ref aa)), (oc6 tg (.ref tx) (.ref ty) (nI (((0 + 1) + 1) + 1)) 1), (oa tx cI 3 (upd (upd (upd TX 0 (X i0)) (0 + 1) (P i1)) ((0 + 1) + 1) (P i2))), (oa ty cI 3 (upd (upd (upd TY 0 (Y i0)) (0 + 1) (Q i1)) ((0 + 1) + 1) (Q i2))), (oc6 r (.ref rx) (.ref ry) (nI n) rg), (oa rx cI cap X), (oa ry cI cap Y), (oc6 dr (.ref dx) (.ref dy) (nI nd) rd), (oa dx cI cd P), (oa dy cI cd Q)]) hP hD [true, true, true, true, true, true, true, true, true, true] rfl rfl
  have hE9 : ([(oc3 lw (.ref dr) (.ref tg) (.ref wy) (.ref br) (.ref bo) (.ref aa)), (oc6 tg (.ref tx) (.ref ty) (nI (((0 + 1) + 1) + 1)) 1), (oa tx cI 3 (upd (upd (upd TX 0 (X i0)) (0 + 1) (P i1)) ((0 + 1) + 1) (P i2))), (oa ty cI 3 (upd (upd (upd TY 0 (Y i0)) (0 + 1) (Q i1)) ((0 + 1) + 1) (Q i2))), (oc6 r (.ref rx) (.ref ry) (nI n) rg), (oa rx cI cap X), (oa ry cI cap Y), (oc6 dr (.ref dx) (.ref dy) (nI nd) rd), (oa dx cI cd P), (oa dy cI cd Q)] : va_W) = [(oc3 lw (.ref dr) (.ref tg) (.ref wy) (.ref br) (.ref bo) (.ref aa)), (oc6 tg (.ref tx) (.ref ty) (nI 3) 1), (oa tx cI 3 (upd (upd (upd TX 0 (X i0)) 1 (P i1)) 2 (P i2))), (oa ty cI 3 (upd (upd (upd TY 0 (Y i0)) 1 (Q i1)) 2 (Q i2))), (oc6 r (.ref rx) (.ref ry) (nI n) rg), (oa rx cI cap X), (oa ry cI cap Y), (oc6 dr (.ref dx) (.ref dy) (nI nd) rd), (oa dx cI cd P), (oa dy cI cd Q)] := by rfl
  rw [hE9] at hP9 hD9
  rw [hQ9]
  exact W.vret hx hb hr (fun t ht hW => ⟨⟨rfl, by rw [ht]; exact hP9, hD9⟩, hS.F ht⟩) hS.2.2 dX4_setTriangle_71
set_option maxHeartbeats 4000000 in
set_option maxRecDepth 100000 in
theorem k_Law_holdsCorner_rr (l : Launch) (dC : Nat → ClassId) (dI : Nat → Nat → Nat) (cI cZ cF : ClassId) (sz : Nat) (lw : Nat) (dr : Nat) (tg : Nat) (wy : Nat) (br : Nat) (bo : Nat) (aa : Nat) (tx : Nat) (ty : Nat) (TX : Nat → Int32) (TY : Nat → Int32) (u : Nat) (ux : Nat) (uy : Nat) (m2 : Nat) (cap2 : Nat) (U : Nat → Int32) (V : Nat → Int32) (rh : Int32) (r : Nat) (rx : Nat) (ry : Nat) (n : Nat) (cap : Nat) (X : Nat → Int32) (Y : Nat → Int32) (rg : Int32) (a9 : Nat) (c9 : Nat) (hn : n ≤ cap) (hcap : cap ≤ 1000) (hm : m2 ≤ cap2) (hcap2 : cap2 ≤ 1000) (hq : pls m2 U V) (hpt : pls 3 TX TY) (ha : a9 < n) (hc9 : c9 < n) : zM l yX4_holdsCorner cX4_holdsCorner 10 (some .boolean) ({ frames := 1, cells := 0, slots := 0, locals := 26 } : Room) [.ref lw, .ref u, .ref r, .int (nI a9), .ref r, .int (nI c9)] (dC, dI) (zTy cI cZ cF) [(oc3 lw (.ref dr) (.ref tg) (.ref wy) (.ref br) (.ref bo) (.ref aa)), (oc6 tg (.ref tx) (.ref ty) (nI 3) 1), (oa tx cI 3 TX), (oa ty cI 3 TY), (oc6 u (.ref ux) (.ref uy) (nI m2) rh), (oa ux cI cap2 U), (oa uy cI cap2 V), (oc6 r (.ref rx) (.ref ry) (nI n) rg), (oa rx cI cap X), (oa ry cI cap Y)] sz (some (.int (pI (∃ j7, j7 < m2 ∧ ¬ ((X a9).toInt = (U j7).toInt ∧ (Y a9).toInt = (V j7).toInt) ∧ ¬ ((X c9).toInt = (U j7).toInt ∧ (Y c9).toInt = (V j7).toInt) ∧ ¬ (whr 3 TX TY (U j7).toInt (V j7).toInt).toInt = 0)))) (fun A t => zPD (dC, dI) classes A [(oc3 lw (.ref dr) (.ref tg) (.ref wy) (.ref br) (.ref bo) (.ref aa)), (oc6 tg (.ref tx) (.ref ty) (nI 3) 1), (oa tx cI 3 TX), (oa ty cI 3 TY), (oc6 u (.ref ux) (.ref uy) (nI m2) rh), (oa ux cI cap2 U), (oa uy cI cap2 V), (oc6 r (.ref rx) (.ref ry) (nI n) rg), (oa rx cI cap X), (oa ry cI cap Y)] t.heap) 0 0 := by
  refine zIn (own := "ScaleShop$Law") (loc := [(0, .ref lw), (1, .ref u), (2, .ref r), (3, .int (nI a9)), (4, .ref r), (5, .int (nI c9))]) rfl rfl rfl rfl (fun p e s m below meth c hx hb hr hts hown hlocks hml hnm9 A hA hS hP hD hK hXN Q9 hQ9 ls hl => ?_)
  refine lv_iconst (v := 0) hx hb dX4_holdsCorner_0 rfl ?_
  refine lv_istore (lv' := [(6, .int 0), (0, .ref lw), (1, .ref u), (2, .ref r), (3, .int (nI a9)), (4, .ref r), (5, .int (nI c9))]) hx hb dX4_holdsCorner_1 hl (Nat.le_of_ble_eq_true rfl) rfl (fun ls hl => ?_)
  have hl_3 : ∀ (n9 : Nat) (k : Nat) (H : Heap) (locs : List Loc) (ls : Array Slot), m2 - k < n9 → (k ≤ m2) → (∀ j, j < k → ¬ (¬ ((X a9).toInt = (U j).toInt ∧ (Y a9).toInt = (V j).toInt) ∧ ¬ ((X c9).toInt = (U j).toInt ∧ (Y c9).toInt = (V j).toInt) ∧ ¬ (whr 3 TX TY (U j).toInt (V j).toInt).toInt = 0)) → va_P (dC, dI) classes [(oc3 lw (.ref dr) (.ref tg) (.ref wy) (.ref br) (.ref bo) (.ref aa)), (oc6 tg (.ref tx) (.ref ty) (nI 3) 1), (oa tx cI 3 TX), (oa ty cI 3 TY), (oc6 u (.ref ux) (.ref uy) (nI m2) rh), (oa ux cI cap2 U), (oa uy cI cap2 V), (oc6 r (.ref rx) (.ref ry) (nI n) rg), (oa rx cI cap X), (oa ry cI cap Y)] H → va_D A [(oc3 lw (.ref dr) (.ref tg) (.ref wy) (.ref br) (.ref bo) (.ref aa)), (oc6 tg (.ref tx) (.ref ty) (nI 3) 1), (oa tx cI 3 TX), (oa ty cI 3 TY), (oc6 u (.ref ux) (.ref uy) (nI m2) rh), (oa ux cI cap2 U), (oa uy cI cap2 V), (oc6 r (.ref rx) (.ref ry) (nI n) rg), (oa rx cI cap X), (oa ry cI cap Y)] → va_S A s.heap H locs → lv_has ls 10 [(6, .int (nI k)), (0, .ref lw), (1, .ref u), (2, .ref r), (3, .int (nI a9)), (4, .ref r), (5, .int (nI c9))] → W p l e ({ frames := 1, cells := 0, slots := 0, locals := 26 } : Room) s m ([.ref lw, .ref u, .ref r, .int (nI a9), .ref r, .int (nI c9)] : List Value).toArray below meth c H locs 0 0 Q9 (F0 m 3 ls []) := by
    intro n9
    induction n9 with
    | zero => intro k H locs ls hm; exact absurd hm (Nat.not_lt_zero _)
    | succ n9 ih_3 =>
      intro k H locs ls hm hk hno hP hD hS hl
      refine lv_iload hx hb dX4_holdsCorner_3 (lv_at hl 0 rfl) ?_
      refine lv_aload_n hx hb dX4_holdsCorner_5 rfl (lv_at hl 2 rfl) ?_
      refine va_get (D := (dC, dI)) (ci := 6) (v := .int (nI m2)) (C := RX7) (T := TX7) (N := 4) hx hb hts inX7 hown hK hP 4 rfl rfl 2 (Nat.le_of_ble_eq_true rfl) (hts _ mw_176) (fun _ h9 => h9) rfl dX4_holdsCorner_6 ?_
      have b9_2 : k < 2147483648 := by omega
      have b9_3 : m2 < 2147483648 := by omega
      refine lv_icmp_ge (tgt := 99) hx hb dX4_holdsCorner_9 rfl (fun c_1 => ?_) (fun c_1 => ?_)
      · have c_1 : ((m2 : Nat) : Int) ≤ ((k : Nat) : Int) := zc_le (nI_toInt b9_3) (nI_toInt b9_2) c_1
        refine lv_iconst (v := 0) hx hb dX4_holdsCorner_99 rfl ?_
        obtain ⟨hP9, hD9⟩ := zu_sub (wc := [_, _, _, _, _, _, _, _, _, _]) hP hD [true, true, true, true, true, true, true, true, true, true] rfl rfl
        rw [hQ9]
        exact W.zret (ty := .boolean) (v := 0) hx hb hr (rfl) (fun t ht hW => ⟨⟨congrArg (fun z => Outcome.returned (some (Value.int z))) (show (0 : Int32) = pI (∃ j7, j7 < m2 ∧ ¬ ((X a9).toInt = (U j7).toInt ∧ (Y a9).toInt = (V j7).toInt) ∧ ¬ ((X c9).toInt = (U j7).toInt ∧ (Y c9).toInt = (V j7).toInt) ∧ ¬ (whr 3 TX TY (U j7).toInt (V j7).toInt).toInt = 0) from (zp_f (fun ⟨j, hj, h⟩ => hno j (by omega) h)).symm), by rw [ht]; exact hP9, hD9⟩, hS.F ht⟩) hS.2.2 dX4_holdsCorner_100
      · have c_1 : ((k : Nat) : Int) < ((m2 : Nat) : Int) := zc_nle (nI_toInt b9_3) (nI_toInt b9_2) c_1
        refine lv_aload_n hx hb dX4_holdsCorner_12 rfl (lv_at hl 2 rfl) ?_
        refine va_get (D := (dC, dI)) (ci := 6) (v := .ref ux) (C := RX7) (T := TX7) (N := 4) hx hb hts inX7 hown hK hP 4 rfl rfl 0 (Nat.le_of_ble_eq_true rfl) (hts _ mw_163) (fun _ h9 => h9) rfl dX4_holdsCorner_13 ?_
        refine lv_iload hx hb dX4_holdsCorner_16 (lv_at hl 0 rfl) ?_
        have b9_4 : k < cap2 := by omega
        have b9_5 : cap2 < 2147483648 := by omega
        refine z_iald hx hb hK hP 5 0 rfl rfl (e := k) rfl b9_4 b9_5 dX4_holdsCorner_18 ?_
        refine lv_istore (lv' := [(7, .int (U k)), (6, .int (nI k)), (0, .ref lw), (1, .ref u), (2, .ref r), (3, .int (nI a9)), (4, .ref r), (5, .int (nI c9))]) hx hb dX4_holdsCorner_19 hl (Nat.le_of_ble_eq_true rfl) rfl (fun ls hl => ?_)
        refine lv_aload_n hx hb dX4_holdsCorner_21 rfl (lv_at hl 3 rfl) ?_
        refine va_get (D := (dC, dI)) (ci := 6) (v := .ref uy) (C := RX7) (T := TX7) (N := 4) hx hb hts inX7 hown hK hP 4 rfl rfl 1 (Nat.le_of_ble_eq_true rfl) (hts _ mw_170) (fun _ h9 => h9) rfl dX4_holdsCorner_22 ?_
        refine lv_iload hx hb dX4_holdsCorner_25 (lv_at hl 1 rfl) ?_
        refine z_iald hx hb hK hP 6 0 rfl rfl (e := k) rfl b9_4 b9_5 dX4_holdsCorner_27 ?_
        refine lv_istore (lv' := [(8, .int (V k)), (7, .int (U k)), (6, .int (nI k)), (0, .ref lw), (1, .ref u), (2, .ref r), (3, .int (nI a9)), (4, .ref r), (5, .int (nI c9))]) hx hb dX4_holdsCorner_28 hl (Nat.le_of_ble_eq_true rfl) rfl (fun ls hl => ?_)
        refine lv_aload_n hx hb dX4_holdsCorner_30 rfl (lv_at hl 5 rfl) ?_
        refine lv_ifnull hx hb dX4_holdsCorner_31 ?_
        refine lv_aload_n hx hb dX4_holdsCorner_34 rfl (lv_at hl 5 rfl) ?_
        refine lv_iload_n hx hb dX4_holdsCorner_35 rfl (lv_at hl 6 rfl) ?_
        refine lv_iload hx hb dX4_holdsCorner_36 (lv_at hl 1 rfl) ?_
        refine lv_iload hx hb dX4_holdsCorner_38 (lv_at hl 0 rfl) ?_
        obtain ⟨hPc, hDc, hFc⟩ := zo_sub (wc := [_, _, _]) hP hD hS hA [7, 8, 9] rfl rfl
        refine zcall (st1 := [.int (pI ((X a9).toInt = (U k).toInt ∧ (Y a9).toInt = (V k).toInt))]) (va_runV (As := [.int (nI a9), .int (U k), .int (V k)]) (rest := []) ⟨hx, hb, hml, hown, hts⟩ (k_Row_isCorner l dC dI cI cZ cF H.size r rx ry n cap X Y rg a9 (U k) (V k) (by first | with_reducible assumption | omega) (by first | with_reducible assumption | omega) (by first | with_reducible assumption | omega)) (csV_47 hts rfl rfl ⟨Nat.le_of_ble_eq_true rfl, Nat.le_of_ble_eq_true rfl⟩) (zPV2 (q0 := 0) (ci := 6) hPc hDc hK hXN rfl rfl) rfl rfl hl.1 rfl (lv_room (Nat.le_of_ble_eq_true rfl)) dX4_holdsCorner_40 ⟨Nat.le_of_ble_eq_true rfl, Nat.le_of_ble_eq_true rfl⟩) hS hFc hFc rfl (fun t H locs ht hB hk1 hS => ?_)
        obtain ⟨hP1, hD1⟩ := hB
        rw [ht] at hP1
        obtain ⟨hP, hD⟩ := zn (W2 := [_, _, _, _, _, _, _, _, _, _]) hP hD hk1 hFc hP1 hD1 [7, 8, 9] [true, true, true, true, true, true, true] [true, true, true, true, true, true, true, false, false, false] [7, 8, 9] (by decide +kernel) rfl rfl rfl rfl rfl
        clear hk1 hPc hDc hFc hP1 hD1 ht
        refine lv_if_ne (tgt := 65) hx hb dX4_holdsCorner_43 rfl (fun c_6 => ?_) (fun c_6 => ?_)
        · have c_6 : (X a9).toInt = (U k).toInt ∧ (Y a9).toInt = (V k).toInt := zp_1 c_6
          refine lv_iconst (v := 1) hx hb dX4_holdsCorner_65 rfl ?_
          refine lv_goto (tgt := 70) hx hb dX4_holdsCorner_66 rfl ?_
          refine lv_istore (lv' := [(9, .int 1), (8, .int (V k)), (7, .int (U k)), (6, .int (nI k)), (0, .ref lw), (1, .ref u), (2, .ref r), (3, .int (nI a9)), (4, .ref r), (5, .int (nI c9))]) hx hb dX4_holdsCorner_70 hl (Nat.le_of_ble_eq_true rfl) rfl (fun ls hl => ?_)
          refine lv_iload hx hb dX4_holdsCorner_72 (lv_at hl 0 rfl) ?_
          refine lv_if_ne (tgt := 93) hx hb dX4_holdsCorner_74 rfl (fun c_7 => ?_) (fun c_7 => ?_)
          · refine lv_iinc (v := nI (k + 1)) (lv' := [(6, .int (nI (k + 1))), (9, .int 1), (8, .int (V k)), (7, .int (U k)), (0, .ref lw), (1, .ref u), (2, .ref r), (3, .int (nI a9)), (4, .ref r), (5, .int (nI c9))]) hx hb dX4_holdsCorner_93 hl (k := 3) rfl (nI_add k 1) (Nat.le_of_ble_eq_true rfl) rfl (fun ls hl => ?_)
            refine lv_goto (tgt := 3) hx hb dX4_holdsCorner_96 rfl ?_
            exact ih_3 (k + 1) H locs ls (by first | with_reducible assumption | omega) (by first | with_reducible assumption | omega) (by intro j hj; rcases Nat.lt_or_ge j k with h | h; exact hno j h; rw [show j = k by omega]; first | exact fun h => absurd (by first | with_reducible assumption | assumption) h.1 | exact fun h => absurd (by first | with_reducible assumption | assumption) h.2.1 | exact fun h => absurd (by first | with_reducible assumption | assumption) h.2.2) hP hD hS (lv_sub hl [0, 4, 5, 6, 7, 8, 9] rfl)
          · exact absurd c_7 (by decide)
        · have c_6 : ¬ ((X a9).toInt = (U k).toInt ∧ (Y a9).toInt = (V k).toInt) := zp_0 c_6
          refine lv_aload hx hb dX4_holdsCorner_46 (lv_at hl 7 rfl) ?_
          refine lv_ifnull hx hb dX4_holdsCorner_48 ?_
          refine lv_aload hx hb dX4_holdsCorner_51 (lv_at hl 7 rfl) ?_
          refine lv_iload hx hb dX4_holdsCorner_53 (lv_at hl 8 rfl) ?_
          refine lv_iload hx hb dX4_holdsCorner_55 (lv_at hl 1 rfl) ?_
          refine lv_iload hx hb dX4_holdsCorner_57 (lv_at hl 0 rfl) ?_
          obtain ⟨hPc, hDc, hFc⟩ := zo_sub (wc := [_, _, _]) hP hD hS hA [7, 8, 9] rfl rfl
          refine zcall (st1 := [.int (pI ((X c9).toInt = (U k).toInt ∧ (Y c9).toInt = (V k).toInt))]) (va_runV (As := [.int (nI c9), .int (U k), .int (V k)]) (rest := []) ⟨hx, hb, hml, hown, hts⟩ (k_Row_isCorner l dC dI cI cZ cF H.size r rx ry n cap X Y rg c9 (U k) (V k) (by first | with_reducible assumption | omega) (by first | with_reducible assumption | omega) (by first | with_reducible assumption | omega)) (csV_47 hts rfl rfl ⟨Nat.le_of_ble_eq_true rfl, Nat.le_of_ble_eq_true rfl⟩) (zPV2 (q0 := 0) (ci := 6) hPc hDc hK hXN rfl rfl) rfl rfl hl.1 rfl (lv_room (Nat.le_of_ble_eq_true rfl)) dX4_holdsCorner_59 ⟨Nat.le_of_ble_eq_true rfl, Nat.le_of_ble_eq_true rfl⟩) hS hFc hFc rfl (fun t H locs ht hB hk1 hS => ?_)
          obtain ⟨hP1, hD1⟩ := hB
          rw [ht] at hP1
          obtain ⟨hP, hD⟩ := zn (W2 := [_, _, _, _, _, _, _, _, _, _]) hP hD hk1 hFc hP1 hD1 [7, 8, 9] [true, true, true, true, true, true, true] [true, true, true, true, true, true, true, false, false, false] [7, 8, 9] (by decide +kernel) rfl rfl rfl rfl rfl
          clear hk1 hPc hDc hFc hP1 hD1 ht
          refine lv_if_eq (tgt := 69) hx hb dX4_holdsCorner_62 rfl (fun c_8 => ?_) (fun c_8 => ?_)
          · have c_8 : ¬ ((X c9).toInt = (U k).toInt ∧ (Y c9).toInt = (V k).toInt) := zp_0 c_8
            refine lv_iconst (v := 0) hx hb dX4_holdsCorner_69 rfl ?_
            refine lv_istore (lv' := [(9, .int 0), (8, .int (V k)), (7, .int (U k)), (6, .int (nI k)), (0, .ref lw), (1, .ref u), (2, .ref r), (3, .int (nI a9)), (4, .ref r), (5, .int (nI c9))]) hx hb dX4_holdsCorner_70 hl (Nat.le_of_ble_eq_true rfl) rfl (fun ls hl => ?_)
            refine lv_iload hx hb dX4_holdsCorner_72 (lv_at hl 0 rfl) ?_
            refine lv_if_ne (tgt := 93) hx hb dX4_holdsCorner_74 rfl (fun c_9 => ?_) (fun c_9 => ?_)
            · exact absurd (by decide) c_9
            · refine lv_aload_n hx hb dX4_holdsCorner_77 rfl (lv_at hl 4 rfl) ?_
              refine va_get (D := (dC, dI)) (ci := 3) (v := .ref tg) (C := RX4) (T := TX4) (N := 6) hx hb hts inX4 hown hK hP 0 rfl rfl 1 (Nat.le_of_ble_eq_true rfl) (hts _ mw_221) (fun _ h9 => h9) rfl dX4_holdsCorner_78 ?_
              refine lv_iload hx hb dX4_holdsCorner_81 (lv_at hl 2 rfl) ?_
              refine lv_iload hx hb dX4_holdsCorner_83 (lv_at hl 1 rfl) ?_
              obtain ⟨hPc, hDc, hFc⟩ := zo_sub (wc := [_, _, _]) hP hD hS hA [1, 2, 3] rfl rfl
              refine zcall (st1 := [.int (whr 3 TX TY (U k).toInt (V k).toInt)]) (va_runV (As := [.int (U k), .int (V k)]) (rest := []) ⟨hx, hb, hml, hown, hts⟩ (k_Row_where l dC dI cI cZ cF H.size tg tx ty 3 3 TX TY 1 (U k) (V k) (by first | with_reducible assumption | omega) (by first | with_reducible assumption | omega) (hpt) ((hq k (by first | with_reducible assumption | omega)).1) ((hq k (by first | with_reducible assumption | omega)).2)) (csV_38 hts rfl rfl ⟨Nat.le_of_ble_eq_true rfl, Nat.le_of_ble_eq_true rfl⟩) (zPV2 (q0 := 0) (ci := 6) hPc hDc hK hXN rfl rfl) rfl rfl hl.1 rfl (lv_room (Nat.le_of_ble_eq_true rfl)) dX4_holdsCorner_85 ⟨Nat.le_of_ble_eq_true rfl, Nat.le_of_ble_eq_true rfl⟩) hS hFc hFc rfl (fun t H locs ht hB hk1 hS => ?_)
              obtain ⟨hP1, hD1⟩ := hB
              rw [ht] at hP1
              obtain ⟨hP, hD⟩ := zn (W2 := [_, _, _, _, _, _, _, _, _, _]) hP hD hk1 hFc hP1 hD1 [1, 2, 3] [true, false, false, false, true, true, true, true, true, true] [true, false, false, false, true, true, true, true, true, true] [1, 2, 3] (by decide +kernel) rfl rfl rfl rfl rfl
              clear hk1 hPc hDc hFc hP1 hD1 ht
              refine lv_if_eq (tgt := 93) hx hb dX4_holdsCorner_88 rfl (fun c_10 => ?_) (fun c_10 => ?_)
              · have c_10 : (whr 3 TX TY (U k).toInt (V k).toInt).toInt = 0 := zc_eq rfl rfl c_10
                refine lv_iinc (v := nI (k + 1)) (lv' := [(6, .int (nI (k + 1))), (9, .int 0), (8, .int (V k)), (7, .int (U k)), (0, .ref lw), (1, .ref u), (2, .ref r), (3, .int (nI a9)), (4, .ref r), (5, .int (nI c9))]) hx hb dX4_holdsCorner_93 hl (k := 3) rfl (nI_add k 1) (Nat.le_of_ble_eq_true rfl) rfl (fun ls hl => ?_)
                refine lv_goto (tgt := 3) hx hb dX4_holdsCorner_96 rfl ?_
                exact ih_3 (k + 1) H locs ls (by first | with_reducible assumption | omega) (by first | with_reducible assumption | omega) (by intro j hj; rcases Nat.lt_or_ge j k with h | h; exact hno j h; rw [show j = k by omega]; first | exact fun h => absurd (by first | with_reducible assumption | assumption) h.1 | exact fun h => absurd (by first | with_reducible assumption | assumption) h.2.1 | exact fun h => absurd (by first | with_reducible assumption | assumption) h.2.2) hP hD hS (lv_sub hl [0, 4, 5, 6, 7, 8, 9] rfl)
              · have c_10 : ¬ (whr 3 TX TY (U k).toInt (V k).toInt).toInt = 0 := zc_ne rfl rfl c_10
                refine lv_iconst (v := 1) hx hb dX4_holdsCorner_91 rfl ?_
                obtain ⟨hP9, hD9⟩ := zu_sub (wc := [_, _, _, _, _, _, _, _, _, _]) hP hD [true, true, true, true, true, true, true, true, true, true] rfl rfl
                rw [hQ9]
                exact W.zret (ty := .boolean) (v := 1) hx hb hr (rfl) (fun t ht hW => ⟨⟨congrArg (fun z => Outcome.returned (some (Value.int z))) (show (1 : Int32) = pI (∃ j7, j7 < m2 ∧ ¬ ((X a9).toInt = (U j7).toInt ∧ (Y a9).toInt = (V j7).toInt) ∧ ¬ ((X c9).toInt = (U j7).toInt ∧ (Y c9).toInt = (V j7).toInt) ∧ ¬ (whr 3 TX TY (U j7).toInt (V j7).toInt).toInt = 0) from (zp_t (⟨k, by omega, by assumption, by assumption, by assumption⟩)).symm), by rw [ht]; exact hP9, hD9⟩, hS.F ht⟩) hS.2.2 dX4_holdsCorner_92
          · have c_8 : (X c9).toInt = (U k).toInt ∧ (Y c9).toInt = (V k).toInt := zp_1 c_8
            refine lv_iconst (v := 1) hx hb dX4_holdsCorner_65 rfl ?_
            refine lv_goto (tgt := 70) hx hb dX4_holdsCorner_66 rfl ?_
            refine lv_istore (lv' := [(9, .int 1), (8, .int (V k)), (7, .int (U k)), (6, .int (nI k)), (0, .ref lw), (1, .ref u), (2, .ref r), (3, .int (nI a9)), (4, .ref r), (5, .int (nI c9))]) hx hb dX4_holdsCorner_70 hl (Nat.le_of_ble_eq_true rfl) rfl (fun ls hl => ?_)
            refine lv_iload hx hb dX4_holdsCorner_72 (lv_at hl 0 rfl) ?_
            refine lv_if_ne (tgt := 93) hx hb dX4_holdsCorner_74 rfl (fun c_11 => ?_) (fun c_11 => ?_)
            · refine lv_iinc (v := nI (k + 1)) (lv' := [(6, .int (nI (k + 1))), (9, .int 1), (8, .int (V k)), (7, .int (U k)), (0, .ref lw), (1, .ref u), (2, .ref r), (3, .int (nI a9)), (4, .ref r), (5, .int (nI c9))]) hx hb dX4_holdsCorner_93 hl (k := 3) rfl (nI_add k 1) (Nat.le_of_ble_eq_true rfl) rfl (fun ls hl => ?_)
              refine lv_goto (tgt := 3) hx hb dX4_holdsCorner_96 rfl ?_
              exact ih_3 (k + 1) H locs ls (by first | with_reducible assumption | omega) (by first | with_reducible assumption | omega) (by intro j hj; rcases Nat.lt_or_ge j k with h | h; exact hno j h; rw [show j = k by omega]; first | exact fun h => absurd (by first | with_reducible assumption | assumption) h.1 | exact fun h => absurd (by first | with_reducible assumption | assumption) h.2.1 | exact fun h => absurd (by first | with_reducible assumption | assumption) h.2.2) hP hD hS (lv_sub hl [0, 4, 5, 6, 7, 8, 9] rfl)
            · exact absurd c_11 (by decide)
  exact hl_3 _ 0 s.heap [] ls (Nat.lt_succ_self _) (by first | with_reducible assumption | omega) (by intro j hj; omega) hP hD hS (lv_sub hl [0, 1, 2, 3, 4, 5, 6] rfl)
set_option maxHeartbeats 4000000 in
set_option maxRecDepth 100000 in
theorem k_Law_holdsCorner_rn (l : Launch) (dC : Nat → ClassId) (dI : Nat → Nat → Nat) (cI cZ cF : ClassId) (sz : Nat) (lw : Nat) (dr : Nat) (tg : Nat) (wy : Nat) (br : Nat) (bo : Nat) (aa : Nat) (tx : Nat) (ty : Nat) (TX : Nat → Int32) (TY : Nat → Int32) (u : Nat) (ux : Nat) (uy : Nat) (m2 : Nat) (cap2 : Nat) (U : Nat → Int32) (V : Nat → Int32) (rh : Int32) (r : Nat) (rx : Nat) (ry : Nat) (n : Nat) (cap : Nat) (X : Nat → Int32) (Y : Nat → Int32) (rg : Int32) (a9 : Nat) (c9 : Nat) (hn : n ≤ cap) (hcap : cap ≤ 1000) (hm : m2 ≤ cap2) (hcap2 : cap2 ≤ 1000) (hq : pls m2 U V) (hpt : pls 3 TX TY) (ha : a9 < n) : zM l yX4_holdsCorner cX4_holdsCorner 10 (some .boolean) ({ frames := 1, cells := 0, slots := 0, locals := 26 } : Room) [.ref lw, .ref u, .ref r, .int (nI a9), .null, .int (nI c9)] (dC, dI) (zTy cI cZ cF) [(oc3 lw (.ref dr) (.ref tg) (.ref wy) (.ref br) (.ref bo) (.ref aa)), (oc6 tg (.ref tx) (.ref ty) (nI 3) 1), (oa tx cI 3 TX), (oa ty cI 3 TY), (oc6 u (.ref ux) (.ref uy) (nI m2) rh), (oa ux cI cap2 U), (oa uy cI cap2 V), (oc6 r (.ref rx) (.ref ry) (nI n) rg), (oa rx cI cap X), (oa ry cI cap Y)] sz (some (.int (pI (∃ j7, j7 < m2 ∧ ¬ ((X a9).toInt = (U j7).toInt ∧ (Y a9).toInt = (V j7).toInt) ∧ ¬ (whr 3 TX TY (U j7).toInt (V j7).toInt).toInt = 0)))) (fun A t => zPD (dC, dI) classes A [(oc3 lw (.ref dr) (.ref tg) (.ref wy) (.ref br) (.ref bo) (.ref aa)), (oc6 tg (.ref tx) (.ref ty) (nI 3) 1), (oa tx cI 3 TX), (oa ty cI 3 TY), (oc6 u (.ref ux) (.ref uy) (nI m2) rh), (oa ux cI cap2 U), (oa uy cI cap2 V), (oc6 r (.ref rx) (.ref ry) (nI n) rg), (oa rx cI cap X), (oa ry cI cap Y)] t.heap) 0 0 := by
  refine zIn (own := "ScaleShop$Law") (loc := [(0, .ref lw), (1, .ref u), (2, .ref r), (3, .int (nI a9)), (4, .null), (5, .int (nI c9))]) rfl rfl rfl rfl (fun p e s m below meth c hx hb hr hts hown hlocks hml hnm9 A hA hS hP hD hK hXN Q9 hQ9 ls hl => ?_)
  refine lv_iconst (v := 0) hx hb dX4_holdsCorner_0 rfl ?_
  refine lv_istore (lv' := [(6, .int 0), (0, .ref lw), (1, .ref u), (2, .ref r), (3, .int (nI a9)), (4, .null), (5, .int (nI c9))]) hx hb dX4_holdsCorner_1 hl (Nat.le_of_ble_eq_true rfl) rfl (fun ls hl => ?_)
  have hl_3 : ∀ (n9 : Nat) (k : Nat) (H : Heap) (locs : List Loc) (ls : Array Slot), m2 - k < n9 → (k ≤ m2) → (∀ j, j < k → ¬ (¬ ((X a9).toInt = (U j).toInt ∧ (Y a9).toInt = (V j).toInt) ∧ ¬ (whr 3 TX TY (U j).toInt (V j).toInt).toInt = 0)) → va_P (dC, dI) classes [(oc3 lw (.ref dr) (.ref tg) (.ref wy) (.ref br) (.ref bo) (.ref aa)), (oc6 tg (.ref tx) (.ref ty) (nI 3) 1), (oa tx cI 3 TX), (oa ty cI 3 TY), (oc6 u (.ref ux) (.ref uy) (nI m2) rh), (oa ux cI cap2 U), (oa uy cI cap2 V), (oc6 r (.ref rx) (.ref ry) (nI n) rg), (oa rx cI cap X), (oa ry cI cap Y)] H → va_D A [(oc3 lw (.ref dr) (.ref tg) (.ref wy) (.ref br) (.ref bo) (.ref aa)), (oc6 tg (.ref tx) (.ref ty) (nI 3) 1), (oa tx cI 3 TX), (oa ty cI 3 TY), (oc6 u (.ref ux) (.ref uy) (nI m2) rh), (oa ux cI cap2 U), (oa uy cI cap2 V), (oc6 r (.ref rx) (.ref ry) (nI n) rg), (oa rx cI cap X), (oa ry cI cap Y)] → va_S A s.heap H locs → lv_has ls 10 [(6, .int (nI k)), (0, .ref lw), (1, .ref u), (2, .ref r), (3, .int (nI a9)), (4, .null), (5, .int (nI c9))] → W p l e ({ frames := 1, cells := 0, slots := 0, locals := 26 } : Room) s m ([.ref lw, .ref u, .ref r, .int (nI a9), .null, .int (nI c9)] : List Value).toArray below meth c H locs 0 0 Q9 (F0 m 3 ls []) := by
    intro n9
    induction n9 with
    | zero => intro k H locs ls hm; exact absurd hm (Nat.not_lt_zero _)
    | succ n9 ih_3 =>
      intro k H locs ls hm hk hno hP hD hS hl
      refine lv_iload hx hb dX4_holdsCorner_3 (lv_at hl 0 rfl) ?_
      refine lv_aload_n hx hb dX4_holdsCorner_5 rfl (lv_at hl 2 rfl) ?_
      refine va_get (D := (dC, dI)) (ci := 6) (v := .int (nI m2)) (C := RX7) (T := TX7) (N := 4) hx hb hts inX7 hown hK hP 4 rfl rfl 2 (Nat.le_of_ble_eq_true rfl) (hts _ mw_176) (fun _ h9 => h9) rfl dX4_holdsCorner_6 ?_
      have b9_2 : k < 2147483648 := by omega
      have b9_3 : m2 < 2147483648 := by omega
      refine lv_icmp_ge (tgt := 99) hx hb dX4_holdsCorner_9 rfl (fun c_1 => ?_) (fun c_1 => ?_)
      · have c_1 : ((m2 : Nat) : Int) ≤ ((k : Nat) : Int) := zc_le (nI_toInt b9_3) (nI_toInt b9_2) c_1
        refine lv_iconst (v := 0) hx hb dX4_holdsCorner_99 rfl ?_
        obtain ⟨hP9, hD9⟩ := zu_sub (wc := [_, _, _, _, _, _, _, _, _, _]) hP hD [true, true, true, true, true, true, true, true, true, true] rfl rfl
        rw [hQ9]
        exact W.zret (ty := .boolean) (v := 0) hx hb hr (rfl) (fun t ht hW => ⟨⟨congrArg (fun z => Outcome.returned (some (Value.int z))) (show (0 : Int32) = pI (∃ j7, j7 < m2 ∧ ¬ ((X a9).toInt = (U j7).toInt ∧ (Y a9).toInt = (V j7).toInt) ∧ ¬ (whr 3 TX TY (U j7).toInt (V j7).toInt).toInt = 0) from (zp_f (fun ⟨j, hj, h⟩ => hno j (by omega) h)).symm), by rw [ht]; exact hP9, hD9⟩, hS.F ht⟩) hS.2.2 dX4_holdsCorner_100
      · have c_1 : ((k : Nat) : Int) < ((m2 : Nat) : Int) := zc_nle (nI_toInt b9_3) (nI_toInt b9_2) c_1
        refine lv_aload_n hx hb dX4_holdsCorner_12 rfl (lv_at hl 2 rfl) ?_
        refine va_get (D := (dC, dI)) (ci := 6) (v := .ref ux) (C := RX7) (T := TX7) (N := 4) hx hb hts inX7 hown hK hP 4 rfl rfl 0 (Nat.le_of_ble_eq_true rfl) (hts _ mw_163) (fun _ h9 => h9) rfl dX4_holdsCorner_13 ?_
        refine lv_iload hx hb dX4_holdsCorner_16 (lv_at hl 0 rfl) ?_
        have b9_4 : k < cap2 := by omega
        have b9_5 : cap2 < 2147483648 := by omega
        refine z_iald hx hb hK hP 5 0 rfl rfl (e := k) rfl b9_4 b9_5 dX4_holdsCorner_18 ?_
        refine lv_istore (lv' := [(7, .int (U k)), (6, .int (nI k)), (0, .ref lw), (1, .ref u), (2, .ref r), (3, .int (nI a9)), (4, .null), (5, .int (nI c9))]) hx hb dX4_holdsCorner_19 hl (Nat.le_of_ble_eq_true rfl) rfl (fun ls hl => ?_)
        refine lv_aload_n hx hb dX4_holdsCorner_21 rfl (lv_at hl 3 rfl) ?_
        refine va_get (D := (dC, dI)) (ci := 6) (v := .ref uy) (C := RX7) (T := TX7) (N := 4) hx hb hts inX7 hown hK hP 4 rfl rfl 1 (Nat.le_of_ble_eq_true rfl) (hts _ mw_170) (fun _ h9 => h9) rfl dX4_holdsCorner_22 ?_
        refine lv_iload hx hb dX4_holdsCorner_25 (lv_at hl 1 rfl) ?_
        refine z_iald hx hb hK hP 6 0 rfl rfl (e := k) rfl b9_4 b9_5 dX4_holdsCorner_27 ?_
        refine lv_istore (lv' := [(8, .int (V k)), (7, .int (U k)), (6, .int (nI k)), (0, .ref lw), (1, .ref u), (2, .ref r), (3, .int (nI a9)), (4, .null), (5, .int (nI c9))]) hx hb dX4_holdsCorner_28 hl (Nat.le_of_ble_eq_true rfl) rfl (fun ls hl => ?_)
        refine lv_aload_n hx hb dX4_holdsCorner_30 rfl (lv_at hl 5 rfl) ?_
        refine lv_ifnull hx hb dX4_holdsCorner_31 ?_
        refine lv_aload_n hx hb dX4_holdsCorner_34 rfl (lv_at hl 5 rfl) ?_
        refine lv_iload_n hx hb dX4_holdsCorner_35 rfl (lv_at hl 6 rfl) ?_
        refine lv_iload hx hb dX4_holdsCorner_36 (lv_at hl 1 rfl) ?_
        refine lv_iload hx hb dX4_holdsCorner_38 (lv_at hl 0 rfl) ?_
        obtain ⟨hPc, hDc, hFc⟩ := zo_sub (wc := [_, _, _]) hP hD hS hA [7, 8, 9] rfl rfl
        refine zcall (st1 := [.int (pI ((X a9).toInt = (U k).toInt ∧ (Y a9).toInt = (V k).toInt))]) (va_runV (As := [.int (nI a9), .int (U k), .int (V k)]) (rest := []) ⟨hx, hb, hml, hown, hts⟩ (k_Row_isCorner l dC dI cI cZ cF H.size r rx ry n cap X Y rg a9 (U k) (V k) (by first | with_reducible assumption | omega) (by first | with_reducible assumption | omega) (by first | with_reducible assumption | omega)) (csV_47 hts rfl rfl ⟨Nat.le_of_ble_eq_true rfl, Nat.le_of_ble_eq_true rfl⟩) (zPV2 (q0 := 0) (ci := 6) hPc hDc hK hXN rfl rfl) rfl rfl hl.1 rfl (lv_room (Nat.le_of_ble_eq_true rfl)) dX4_holdsCorner_40 ⟨Nat.le_of_ble_eq_true rfl, Nat.le_of_ble_eq_true rfl⟩) hS hFc hFc rfl (fun t H locs ht hB hk1 hS => ?_)
        obtain ⟨hP1, hD1⟩ := hB
        rw [ht] at hP1
        obtain ⟨hP, hD⟩ := zn (W2 := [_, _, _, _, _, _, _, _, _, _]) hP hD hk1 hFc hP1 hD1 [7, 8, 9] [true, true, true, true, true, true, true] [true, true, true, true, true, true, true, false, false, false] [7, 8, 9] (by decide +kernel) rfl rfl rfl rfl rfl
        clear hk1 hPc hDc hFc hP1 hD1 ht
        refine lv_if_ne (tgt := 65) hx hb dX4_holdsCorner_43 rfl (fun c_6 => ?_) (fun c_6 => ?_)
        · have c_6 : (X a9).toInt = (U k).toInt ∧ (Y a9).toInt = (V k).toInt := zp_1 c_6
          refine lv_iconst (v := 1) hx hb dX4_holdsCorner_65 rfl ?_
          refine lv_goto (tgt := 70) hx hb dX4_holdsCorner_66 rfl ?_
          refine lv_istore (lv' := [(9, .int 1), (8, .int (V k)), (7, .int (U k)), (6, .int (nI k)), (0, .ref lw), (1, .ref u), (2, .ref r), (3, .int (nI a9)), (4, .null), (5, .int (nI c9))]) hx hb dX4_holdsCorner_70 hl (Nat.le_of_ble_eq_true rfl) rfl (fun ls hl => ?_)
          refine lv_iload hx hb dX4_holdsCorner_72 (lv_at hl 0 rfl) ?_
          refine lv_if_ne (tgt := 93) hx hb dX4_holdsCorner_74 rfl (fun c_7 => ?_) (fun c_7 => ?_)
          · refine lv_iinc (v := nI (k + 1)) (lv' := [(6, .int (nI (k + 1))), (9, .int 1), (8, .int (V k)), (7, .int (U k)), (0, .ref lw), (1, .ref u), (2, .ref r), (3, .int (nI a9)), (4, .null), (5, .int (nI c9))]) hx hb dX4_holdsCorner_93 hl (k := 3) rfl (nI_add k 1) (Nat.le_of_ble_eq_true rfl) rfl (fun ls hl => ?_)
            refine lv_goto (tgt := 3) hx hb dX4_holdsCorner_96 rfl ?_
            exact ih_3 (k + 1) H locs ls (by first | with_reducible assumption | omega) (by first | with_reducible assumption | omega) (by intro j hj; rcases Nat.lt_or_ge j k with h | h; exact hno j h; rw [show j = k by omega]; first | exact fun h => absurd (by first | with_reducible assumption | assumption) h.1 | exact fun h => absurd (by first | with_reducible assumption | assumption) h.2) hP hD hS (lv_sub hl [0, 4, 5, 6, 7, 8, 9] rfl)
          · exact absurd c_7 (by decide)
        · have c_6 : ¬ ((X a9).toInt = (U k).toInt ∧ (Y a9).toInt = (V k).toInt) := zp_0 c_6
          refine lv_aloadN hx hb dX4_holdsCorner_46 (lv_at hl 7 rfl) ?_
          refine lv_ifnullN (tgt := 69) hx hb dX4_holdsCorner_48 rfl ?_
          refine lv_iconst (v := 0) hx hb dX4_holdsCorner_69 rfl ?_
          refine lv_istore (lv' := [(9, .int 0), (8, .int (V k)), (7, .int (U k)), (6, .int (nI k)), (0, .ref lw), (1, .ref u), (2, .ref r), (3, .int (nI a9)), (4, .null), (5, .int (nI c9))]) hx hb dX4_holdsCorner_70 hl (Nat.le_of_ble_eq_true rfl) rfl (fun ls hl => ?_)
          refine lv_iload hx hb dX4_holdsCorner_72 (lv_at hl 0 rfl) ?_
          refine lv_if_ne (tgt := 93) hx hb dX4_holdsCorner_74 rfl (fun c_8 => ?_) (fun c_8 => ?_)
          · exact absurd (by decide) c_8
          · refine lv_aload_n hx hb dX4_holdsCorner_77 rfl (lv_at hl 4 rfl) ?_
            refine va_get (D := (dC, dI)) (ci := 3) (v := .ref tg) (C := RX4) (T := TX4) (N := 6) hx hb hts inX4 hown hK hP 0 rfl rfl 1 (Nat.le_of_ble_eq_true rfl) (hts _ mw_221) (fun _ h9 => h9) rfl dX4_holdsCorner_78 ?_
            refine lv_iload hx hb dX4_holdsCorner_81 (lv_at hl 2 rfl) ?_
            refine lv_iload hx hb dX4_holdsCorner_83 (lv_at hl 1 rfl) ?_
            obtain ⟨hPc, hDc, hFc⟩ := zo_sub (wc := [_, _, _]) hP hD hS hA [1, 2, 3] rfl rfl
            refine zcall (st1 := [.int (whr 3 TX TY (U k).toInt (V k).toInt)]) (va_runV (As := [.int (U k), .int (V k)]) (rest := []) ⟨hx, hb, hml, hown, hts⟩ (k_Row_where l dC dI cI cZ cF H.size tg tx ty 3 3 TX TY 1 (U k) (V k) (by first | with_reducible assumption | omega) (by first | with_reducible assumption | omega) (hpt) ((hq k (by first | with_reducible assumption | omega)).1) ((hq k (by first | with_reducible assumption | omega)).2)) (csV_38 hts rfl rfl ⟨Nat.le_of_ble_eq_true rfl, Nat.le_of_ble_eq_true rfl⟩) (zPV2 (q0 := 0) (ci := 6) hPc hDc hK hXN rfl rfl) rfl rfl hl.1 rfl (lv_room (Nat.le_of_ble_eq_true rfl)) dX4_holdsCorner_85 ⟨Nat.le_of_ble_eq_true rfl, Nat.le_of_ble_eq_true rfl⟩) hS hFc hFc rfl (fun t H locs ht hB hk1 hS => ?_)
            obtain ⟨hP1, hD1⟩ := hB
            rw [ht] at hP1
            obtain ⟨hP, hD⟩ := zn (W2 := [_, _, _, _, _, _, _, _, _, _]) hP hD hk1 hFc hP1 hD1 [1, 2, 3] [true, false, false, false, true, true, true, true, true, true] [true, false, false, false, true, true, true, true, true, true] [1, 2, 3] (by decide +kernel) rfl rfl rfl rfl rfl
            clear hk1 hPc hDc hFc hP1 hD1 ht
            refine lv_if_eq (tgt := 93) hx hb dX4_holdsCorner_88 rfl (fun c_9 => ?_) (fun c_9 => ?_)
            · have c_9 : (whr 3 TX TY (U k).toInt (V k).toInt).toInt = 0 := zc_eq rfl rfl c_9
              refine lv_iinc (v := nI (k + 1)) (lv' := [(6, .int (nI (k + 1))), (9, .int 0), (8, .int (V k)), (7, .int (U k)), (0, .ref lw), (1, .ref u), (2, .ref r), (3, .int (nI a9)), (4, .null), (5, .int (nI c9))]) hx hb dX4_holdsCorner_93 hl (k := 3) rfl (nI_add k 1) (Nat.le_of_ble_eq_true rfl) rfl (fun ls hl => ?_)
              refine lv_goto (tgt := 3) hx hb dX4_holdsCorner_96 rfl ?_
              exact ih_3 (k + 1) H locs ls (by first | with_reducible assumption | omega) (by first | with_reducible assumption | omega) (by intro j hj; rcases Nat.lt_or_ge j k with h | h; exact hno j h; rw [show j = k by omega]; first | exact fun h => absurd (by first | with_reducible assumption | assumption) h.1 | exact fun h => absurd (by first | with_reducible assumption | assumption) h.2) hP hD hS (lv_sub hl [0, 4, 5, 6, 7, 8, 9] rfl)
            · have c_9 : ¬ (whr 3 TX TY (U k).toInt (V k).toInt).toInt = 0 := zc_ne rfl rfl c_9
              refine lv_iconst (v := 1) hx hb dX4_holdsCorner_91 rfl ?_
              obtain ⟨hP9, hD9⟩ := zu_sub (wc := [_, _, _, _, _, _, _, _, _, _]) hP hD [true, true, true, true, true, true, true, true, true, true] rfl rfl
              rw [hQ9]
              exact W.zret (ty := .boolean) (v := 1) hx hb hr (rfl) (fun t ht hW => ⟨⟨congrArg (fun z => Outcome.returned (some (Value.int z))) (show (1 : Int32) = pI (∃ j7, j7 < m2 ∧ ¬ ((X a9).toInt = (U j7).toInt ∧ (Y a9).toInt = (V j7).toInt) ∧ ¬ (whr 3 TX TY (U j7).toInt (V j7).toInt).toInt = 0) from (zp_t (⟨k, by omega, by assumption, by assumption⟩)).symm), by rw [ht]; exact hP9, hD9⟩, hS.F ht⟩) hS.2.2 dX4_holdsCorner_92
  exact hl_3 _ 0 s.heap [] ls (Nat.lt_succ_self _) (by first | with_reducible assumption | omega) (by intro j hj; omega) hP hD hS (lv_sub hl [0, 1, 2, 3, 4, 5, 6] rfl)
set_option maxHeartbeats 4000000 in
set_option maxRecDepth 100000 in
theorem k_Law_holdsCorner_nr (l : Launch) (dC : Nat → ClassId) (dI : Nat → Nat → Nat) (cI cZ cF : ClassId) (sz : Nat) (lw : Nat) (dr : Nat) (tg : Nat) (wy : Nat) (br : Nat) (bo : Nat) (aa : Nat) (tx : Nat) (ty : Nat) (TX : Nat → Int32) (TY : Nat → Int32) (u : Nat) (ux : Nat) (uy : Nat) (m2 : Nat) (cap2 : Nat) (U : Nat → Int32) (V : Nat → Int32) (rh : Int32) (r : Nat) (rx : Nat) (ry : Nat) (n : Nat) (cap : Nat) (X : Nat → Int32) (Y : Nat → Int32) (rg : Int32) (a9 : Nat) (c9 : Nat) (hn : n ≤ cap) (hcap : cap ≤ 1000) (hm : m2 ≤ cap2) (hcap2 : cap2 ≤ 1000) (hq : pls m2 U V) (hpt : pls 3 TX TY) (hc9 : c9 < n) : zM l yX4_holdsCorner cX4_holdsCorner 10 (some .boolean) ({ frames := 1, cells := 0, slots := 0, locals := 26 } : Room) [.ref lw, .ref u, .null, .int (nI a9), .ref r, .int (nI c9)] (dC, dI) (zTy cI cZ cF) [(oc3 lw (.ref dr) (.ref tg) (.ref wy) (.ref br) (.ref bo) (.ref aa)), (oc6 tg (.ref tx) (.ref ty) (nI 3) 1), (oa tx cI 3 TX), (oa ty cI 3 TY), (oc6 u (.ref ux) (.ref uy) (nI m2) rh), (oa ux cI cap2 U), (oa uy cI cap2 V), (oc6 r (.ref rx) (.ref ry) (nI n) rg), (oa rx cI cap X), (oa ry cI cap Y)] sz (some (.int (pI (∃ j7, j7 < m2 ∧ ¬ ((X c9).toInt = (U j7).toInt ∧ (Y c9).toInt = (V j7).toInt) ∧ ¬ (whr 3 TX TY (U j7).toInt (V j7).toInt).toInt = 0)))) (fun A t => zPD (dC, dI) classes A [(oc3 lw (.ref dr) (.ref tg) (.ref wy) (.ref br) (.ref bo) (.ref aa)), (oc6 tg (.ref tx) (.ref ty) (nI 3) 1), (oa tx cI 3 TX), (oa ty cI 3 TY), (oc6 u (.ref ux) (.ref uy) (nI m2) rh), (oa ux cI cap2 U), (oa uy cI cap2 V), (oc6 r (.ref rx) (.ref ry) (nI n) rg), (oa rx cI cap X), (oa ry cI cap Y)] t.heap) 0 0 := by
  refine zIn (own := "ScaleShop$Law") (loc := [(0, .ref lw), (1, .ref u), (2, .null), (3, .int (nI a9)), (4, .ref r), (5, .int (nI c9))]) rfl rfl rfl rfl (fun p e s m below meth c hx hb hr hts hown hlocks hml hnm9 A hA hS hP hD hK hXN Q9 hQ9 ls hl => ?_)
  refine lv_iconst (v := 0) hx hb dX4_holdsCorner_0 rfl ?_
  refine lv_istore (lv' := [(6, .int 0), (0, .ref lw), (1, .ref u), (2, .null), (3, .int (nI a9)), (4, .ref r), (5, .int (nI c9))]) hx hb dX4_holdsCorner_1 hl (Nat.le_of_ble_eq_true rfl) rfl (fun ls hl => ?_)
  have hl_3 : ∀ (n9 : Nat) (k : Nat) (H : Heap) (locs : List Loc) (ls : Array Slot), m2 - k < n9 → (k ≤ m2) → (∀ j, j < k → ¬ (¬ ((X c9).toInt = (U j).toInt ∧ (Y c9).toInt = (V j).toInt) ∧ ¬ (whr 3 TX TY (U j).toInt (V j).toInt).toInt = 0)) → va_P (dC, dI) classes [(oc3 lw (.ref dr) (.ref tg) (.ref wy) (.ref br) (.ref bo) (.ref aa)), (oc6 tg (.ref tx) (.ref ty) (nI 3) 1), (oa tx cI 3 TX), (oa ty cI 3 TY), (oc6 u (.ref ux) (.ref uy) (nI m2) rh), (oa ux cI cap2 U), (oa uy cI cap2 V), (oc6 r (.ref rx) (.ref ry) (nI n) rg), (oa rx cI cap X), (oa ry cI cap Y)] H → va_D A [(oc3 lw (.ref dr) (.ref tg) (.ref wy) (.ref br) (.ref bo) (.ref aa)), (oc6 tg (.ref tx) (.ref ty) (nI 3) 1), (oa tx cI 3 TX), (oa ty cI 3 TY), (oc6 u (.ref ux) (.ref uy) (nI m2) rh), (oa ux cI cap2 U), (oa uy cI cap2 V), (oc6 r (.ref rx) (.ref ry) (nI n) rg), (oa rx cI cap X), (oa ry cI cap Y)] → va_S A s.heap H locs → lv_has ls 10 [(6, .int (nI k)), (0, .ref lw), (1, .ref u), (2, .null), (3, .int (nI a9)), (4, .ref r), (5, .int (nI c9))] → W p l e ({ frames := 1, cells := 0, slots := 0, locals := 26 } : Room) s m ([.ref lw, .ref u, .null, .int (nI a9), .ref r, .int (nI c9)] : List Value).toArray below meth c H locs 0 0 Q9 (F0 m 3 ls []) := by
    intro n9
    induction n9 with
    | zero => intro k H locs ls hm; exact absurd hm (Nat.not_lt_zero _)
    | succ n9 ih_3 =>
      intro k H locs ls hm hk hno hP hD hS hl
      refine lv_iload hx hb dX4_holdsCorner_3 (lv_at hl 0 rfl) ?_
      refine lv_aload_n hx hb dX4_holdsCorner_5 rfl (lv_at hl 2 rfl) ?_
      refine va_get (D := (dC, dI)) (ci := 6) (v := .int (nI m2)) (C := RX7) (T := TX7) (N := 4) hx hb hts inX7 hown hK hP 4 rfl rfl 2 (Nat.le_of_ble_eq_true rfl) (hts _ mw_176) (fun _ h9 => h9) rfl dX4_holdsCorner_6 ?_
      have b9_2 : k < 2147483648 := by omega
      have b9_3 : m2 < 2147483648 := by omega
      refine lv_icmp_ge (tgt := 99) hx hb dX4_holdsCorner_9 rfl (fun c_1 => ?_) (fun c_1 => ?_)
      · have c_1 : ((m2 : Nat) : Int) ≤ ((k : Nat) : Int) := zc_le (nI_toInt b9_3) (nI_toInt b9_2) c_1
        refine lv_iconst (v := 0) hx hb dX4_holdsCorner_99 rfl ?_
        obtain ⟨hP9, hD9⟩ := zu_sub (wc := [_, _, _, _, _, _, _, _, _, _]) hP hD [true, true, true, true, true, true, true, true, true, true] rfl rfl
        rw [hQ9]
        exact W.zret (ty := .boolean) (v := 0) hx hb hr (rfl) (fun t ht hW => ⟨⟨congrArg (fun z => Outcome.returned (some (Value.int z))) (show (0 : Int32) = pI (∃ j7, j7 < m2 ∧ ¬ ((X c9).toInt = (U j7).toInt ∧ (Y c9).toInt = (V j7).toInt) ∧ ¬ (whr 3 TX TY (U j7).toInt (V j7).toInt).toInt = 0) from (zp_f (fun ⟨j, hj, h⟩ => hno j (by omega) h)).symm), by rw [ht]; exact hP9, hD9⟩, hS.F ht⟩) hS.2.2 dX4_holdsCorner_100
      · have c_1 : ((k : Nat) : Int) < ((m2 : Nat) : Int) := zc_nle (nI_toInt b9_3) (nI_toInt b9_2) c_1
        refine lv_aload_n hx hb dX4_holdsCorner_12 rfl (lv_at hl 2 rfl) ?_
        refine va_get (D := (dC, dI)) (ci := 6) (v := .ref ux) (C := RX7) (T := TX7) (N := 4) hx hb hts inX7 hown hK hP 4 rfl rfl 0 (Nat.le_of_ble_eq_true rfl) (hts _ mw_163) (fun _ h9 => h9) rfl dX4_holdsCorner_13 ?_
        refine lv_iload hx hb dX4_holdsCorner_16 (lv_at hl 0 rfl) ?_
        have b9_4 : k < cap2 := by omega
        have b9_5 : cap2 < 2147483648 := by omega
        refine z_iald hx hb hK hP 5 0 rfl rfl (e := k) rfl b9_4 b9_5 dX4_holdsCorner_18 ?_
        refine lv_istore (lv' := [(7, .int (U k)), (6, .int (nI k)), (0, .ref lw), (1, .ref u), (2, .null), (3, .int (nI a9)), (4, .ref r), (5, .int (nI c9))]) hx hb dX4_holdsCorner_19 hl (Nat.le_of_ble_eq_true rfl) rfl (fun ls hl => ?_)
        refine lv_aload_n hx hb dX4_holdsCorner_21 rfl (lv_at hl 3 rfl) ?_
        refine va_get (D := (dC, dI)) (ci := 6) (v := .ref uy) (C := RX7) (T := TX7) (N := 4) hx hb hts inX7 hown hK hP 4 rfl rfl 1 (Nat.le_of_ble_eq_true rfl) (hts _ mw_170) (fun _ h9 => h9) rfl dX4_holdsCorner_22 ?_
        refine lv_iload hx hb dX4_holdsCorner_25 (lv_at hl 1 rfl) ?_
        refine z_iald hx hb hK hP 6 0 rfl rfl (e := k) rfl b9_4 b9_5 dX4_holdsCorner_27 ?_
        refine lv_istore (lv' := [(8, .int (V k)), (7, .int (U k)), (6, .int (nI k)), (0, .ref lw), (1, .ref u), (2, .null), (3, .int (nI a9)), (4, .ref r), (5, .int (nI c9))]) hx hb dX4_holdsCorner_28 hl (Nat.le_of_ble_eq_true rfl) rfl (fun ls hl => ?_)
        refine lv_aload_nN hx hb dX4_holdsCorner_30 rfl (lv_at hl 5 rfl) ?_
        refine lv_ifnullN (tgt := 46) hx hb dX4_holdsCorner_31 rfl ?_
        refine lv_aload hx hb dX4_holdsCorner_46 (lv_at hl 7 rfl) ?_
        refine lv_ifnull hx hb dX4_holdsCorner_48 ?_
        refine lv_aload hx hb dX4_holdsCorner_51 (lv_at hl 7 rfl) ?_
        refine lv_iload hx hb dX4_holdsCorner_53 (lv_at hl 8 rfl) ?_
        refine lv_iload hx hb dX4_holdsCorner_55 (lv_at hl 1 rfl) ?_
        refine lv_iload hx hb dX4_holdsCorner_57 (lv_at hl 0 rfl) ?_
        obtain ⟨hPc, hDc, hFc⟩ := zo_sub (wc := [_, _, _]) hP hD hS hA [7, 8, 9] rfl rfl
        refine zcall (st1 := [.int (pI ((X c9).toInt = (U k).toInt ∧ (Y c9).toInt = (V k).toInt))]) (va_runV (As := [.int (nI c9), .int (U k), .int (V k)]) (rest := []) ⟨hx, hb, hml, hown, hts⟩ (k_Row_isCorner l dC dI cI cZ cF H.size r rx ry n cap X Y rg c9 (U k) (V k) (by first | with_reducible assumption | omega) (by first | with_reducible assumption | omega) (by first | with_reducible assumption | omega)) (csV_47 hts rfl rfl ⟨Nat.le_of_ble_eq_true rfl, Nat.le_of_ble_eq_true rfl⟩) (zPV2 (q0 := 0) (ci := 6) hPc hDc hK hXN rfl rfl) rfl rfl hl.1 rfl (lv_room (Nat.le_of_ble_eq_true rfl)) dX4_holdsCorner_59 ⟨Nat.le_of_ble_eq_true rfl, Nat.le_of_ble_eq_true rfl⟩) hS hFc hFc rfl (fun t H locs ht hB hk1 hS => ?_)
        obtain ⟨hP1, hD1⟩ := hB
        rw [ht] at hP1
        obtain ⟨hP, hD⟩ := zn (W2 := [_, _, _, _, _, _, _, _, _, _]) hP hD hk1 hFc hP1 hD1 [7, 8, 9] [true, true, true, true, true, true, true] [true, true, true, true, true, true, true, false, false, false] [7, 8, 9] (by decide +kernel) rfl rfl rfl rfl rfl
        clear hk1 hPc hDc hFc hP1 hD1 ht
        refine lv_if_eq (tgt := 69) hx hb dX4_holdsCorner_62 rfl (fun c_6 => ?_) (fun c_6 => ?_)
        · have c_6 : ¬ ((X c9).toInt = (U k).toInt ∧ (Y c9).toInt = (V k).toInt) := zp_0 c_6
          refine lv_iconst (v := 0) hx hb dX4_holdsCorner_69 rfl ?_
          refine lv_istore (lv' := [(9, .int 0), (8, .int (V k)), (7, .int (U k)), (6, .int (nI k)), (0, .ref lw), (1, .ref u), (2, .null), (3, .int (nI a9)), (4, .ref r), (5, .int (nI c9))]) hx hb dX4_holdsCorner_70 hl (Nat.le_of_ble_eq_true rfl) rfl (fun ls hl => ?_)
          refine lv_iload hx hb dX4_holdsCorner_72 (lv_at hl 0 rfl) ?_
          refine lv_if_ne (tgt := 93) hx hb dX4_holdsCorner_74 rfl (fun c_7 => ?_) (fun c_7 => ?_)
          · exact absurd (by decide) c_7
          · refine lv_aload_n hx hb dX4_holdsCorner_77 rfl (lv_at hl 4 rfl) ?_
            refine va_get (D := (dC, dI)) (ci := 3) (v := .ref tg) (C := RX4) (T := TX4) (N := 6) hx hb hts inX4 hown hK hP 0 rfl rfl 1 (Nat.le_of_ble_eq_true rfl) (hts _ mw_221) (fun _ h9 => h9) rfl dX4_holdsCorner_78 ?_
            refine lv_iload hx hb dX4_holdsCorner_81 (lv_at hl 2 rfl) ?_
            refine lv_iload hx hb dX4_holdsCorner_83 (lv_at hl 1 rfl) ?_
            obtain ⟨hPc, hDc, hFc⟩ := zo_sub (wc := [_, _, _]) hP hD hS hA [1, 2, 3] rfl rfl
            refine zcall (st1 := [.int (whr 3 TX TY (U k).toInt (V k).toInt)]) (va_runV (As := [.int (U k), .int (V k)]) (rest := []) ⟨hx, hb, hml, hown, hts⟩ (k_Row_where l dC dI cI cZ cF H.size tg tx ty 3 3 TX TY 1 (U k) (V k) (by first | with_reducible assumption | omega) (by first | with_reducible assumption | omega) (hpt) ((hq k (by first | with_reducible assumption | omega)).1) ((hq k (by first | with_reducible assumption | omega)).2)) (csV_38 hts rfl rfl ⟨Nat.le_of_ble_eq_true rfl, Nat.le_of_ble_eq_true rfl⟩) (zPV2 (q0 := 0) (ci := 6) hPc hDc hK hXN rfl rfl) rfl rfl hl.1 rfl (lv_room (Nat.le_of_ble_eq_true rfl)) dX4_holdsCorner_85 ⟨Nat.le_of_ble_eq_true rfl, Nat.le_of_ble_eq_true rfl⟩) hS hFc hFc rfl (fun t H locs ht hB hk1 hS => ?_)
            obtain ⟨hP1, hD1⟩ := hB
            rw [ht] at hP1
            obtain ⟨hP, hD⟩ := zn (W2 := [_, _, _, _, _, _, _, _, _, _]) hP hD hk1 hFc hP1 hD1 [1, 2, 3] [true, false, false, false, true, true, true, true, true, true] [true, false, false, false, true, true, true, true, true, true] [1, 2, 3] (by decide +kernel) rfl rfl rfl rfl rfl
            clear hk1 hPc hDc hFc hP1 hD1 ht
            refine lv_if_eq (tgt := 93) hx hb dX4_holdsCorner_88 rfl (fun c_8 => ?_) (fun c_8 => ?_)
            · have c_8 : (whr 3 TX TY (U k).toInt (V k).toInt).toInt = 0 := zc_eq rfl rfl c_8
              refine lv_iinc (v := nI (k + 1)) (lv' := [(6, .int (nI (k + 1))), (9, .int 0), (8, .int (V k)), (7, .int (U k)), (0, .ref lw), (1, .ref u), (2, .null), (3, .int (nI a9)), (4, .ref r), (5, .int (nI c9))]) hx hb dX4_holdsCorner_93 hl (k := 3) rfl (nI_add k 1) (Nat.le_of_ble_eq_true rfl) rfl (fun ls hl => ?_)
              refine lv_goto (tgt := 3) hx hb dX4_holdsCorner_96 rfl ?_
              exact ih_3 (k + 1) H locs ls (by first | with_reducible assumption | omega) (by first | with_reducible assumption | omega) (by intro j hj; rcases Nat.lt_or_ge j k with h | h; exact hno j h; rw [show j = k by omega]; first | exact fun h => absurd (by first | with_reducible assumption | assumption) h.1 | exact fun h => absurd (by first | with_reducible assumption | assumption) h.2) hP hD hS (lv_sub hl [0, 4, 5, 6, 7, 8, 9] rfl)
            · have c_8 : ¬ (whr 3 TX TY (U k).toInt (V k).toInt).toInt = 0 := zc_ne rfl rfl c_8
              refine lv_iconst (v := 1) hx hb dX4_holdsCorner_91 rfl ?_
              obtain ⟨hP9, hD9⟩ := zu_sub (wc := [_, _, _, _, _, _, _, _, _, _]) hP hD [true, true, true, true, true, true, true, true, true, true] rfl rfl
              rw [hQ9]
              exact W.zret (ty := .boolean) (v := 1) hx hb hr (rfl) (fun t ht hW => ⟨⟨congrArg (fun z => Outcome.returned (some (Value.int z))) (show (1 : Int32) = pI (∃ j7, j7 < m2 ∧ ¬ ((X c9).toInt = (U j7).toInt ∧ (Y c9).toInt = (V j7).toInt) ∧ ¬ (whr 3 TX TY (U j7).toInt (V j7).toInt).toInt = 0) from (zp_t (⟨k, by omega, by assumption, by assumption⟩)).symm), by rw [ht]; exact hP9, hD9⟩, hS.F ht⟩) hS.2.2 dX4_holdsCorner_92
        · have c_6 : (X c9).toInt = (U k).toInt ∧ (Y c9).toInt = (V k).toInt := zp_1 c_6
          refine lv_iconst (v := 1) hx hb dX4_holdsCorner_65 rfl ?_
          refine lv_goto (tgt := 70) hx hb dX4_holdsCorner_66 rfl ?_
          refine lv_istore (lv' := [(9, .int 1), (8, .int (V k)), (7, .int (U k)), (6, .int (nI k)), (0, .ref lw), (1, .ref u), (2, .null), (3, .int (nI a9)), (4, .ref r), (5, .int (nI c9))]) hx hb dX4_holdsCorner_70 hl (Nat.le_of_ble_eq_true rfl) rfl (fun ls hl => ?_)
          refine lv_iload hx hb dX4_holdsCorner_72 (lv_at hl 0 rfl) ?_
          refine lv_if_ne (tgt := 93) hx hb dX4_holdsCorner_74 rfl (fun c_9 => ?_) (fun c_9 => ?_)
          · refine lv_iinc (v := nI (k + 1)) (lv' := [(6, .int (nI (k + 1))), (9, .int 1), (8, .int (V k)), (7, .int (U k)), (0, .ref lw), (1, .ref u), (2, .null), (3, .int (nI a9)), (4, .ref r), (5, .int (nI c9))]) hx hb dX4_holdsCorner_93 hl (k := 3) rfl (nI_add k 1) (Nat.le_of_ble_eq_true rfl) rfl (fun ls hl => ?_)
            refine lv_goto (tgt := 3) hx hb dX4_holdsCorner_96 rfl ?_
            exact ih_3 (k + 1) H locs ls (by first | with_reducible assumption | omega) (by first | with_reducible assumption | omega) (by intro j hj; rcases Nat.lt_or_ge j k with h | h; exact hno j h; rw [show j = k by omega]; first | exact fun h => absurd (by first | with_reducible assumption | assumption) h.1 | exact fun h => absurd (by first | with_reducible assumption | assumption) h.2) hP hD hS (lv_sub hl [0, 4, 5, 6, 7, 8, 9] rfl)
          · exact absurd c_9 (by decide)
  exact hl_3 _ 0 s.heap [] ls (Nat.lt_succ_self _) (by first | with_reducible assumption | omega) (by intro j hj; omega) hP hD hS (lv_sub hl [0, 1, 2, 3, 4, 5, 6] rfl)
set_option maxHeartbeats 4000000 in
set_option maxRecDepth 100000 in
theorem k_Law_holdsCorner_nn (l : Launch) (dC : Nat → ClassId) (dI : Nat → Nat → Nat) (cI cZ cF : ClassId) (sz : Nat) (lw : Nat) (dr : Nat) (tg : Nat) (wy : Nat) (br : Nat) (bo : Nat) (aa : Nat) (tx : Nat) (ty : Nat) (TX : Nat → Int32) (TY : Nat → Int32) (u : Nat) (ux : Nat) (uy : Nat) (m2 : Nat) (cap2 : Nat) (U : Nat → Int32) (V : Nat → Int32) (rh : Int32) (a9 : Nat) (c9 : Nat) (hm : m2 ≤ cap2) (hcap2 : cap2 ≤ 1000) (hq : pls m2 U V) (hpt : pls 3 TX TY) : zM l yX4_holdsCorner cX4_holdsCorner 10 (some .boolean) ({ frames := 1, cells := 0, slots := 0, locals := 26 } : Room) [.ref lw, .ref u, .null, .int (nI a9), .null, .int (nI c9)] (dC, dI) (zTy cI cZ cF) [(oc3 lw (.ref dr) (.ref tg) (.ref wy) (.ref br) (.ref bo) (.ref aa)), (oc6 tg (.ref tx) (.ref ty) (nI 3) 1), (oa tx cI 3 TX), (oa ty cI 3 TY), (oc6 u (.ref ux) (.ref uy) (nI m2) rh), (oa ux cI cap2 U), (oa uy cI cap2 V)] sz (some (.int (pI (∃ j7, j7 < m2 ∧ ¬ (whr 3 TX TY (U j7).toInt (V j7).toInt).toInt = 0)))) (fun A t => zPD (dC, dI) classes A [(oc3 lw (.ref dr) (.ref tg) (.ref wy) (.ref br) (.ref bo) (.ref aa)), (oc6 tg (.ref tx) (.ref ty) (nI 3) 1), (oa tx cI 3 TX), (oa ty cI 3 TY), (oc6 u (.ref ux) (.ref uy) (nI m2) rh), (oa ux cI cap2 U), (oa uy cI cap2 V)] t.heap) 0 0 := by
  refine zIn (own := "ScaleShop$Law") (loc := [(0, .ref lw), (1, .ref u), (2, .null), (3, .int (nI a9)), (4, .null), (5, .int (nI c9))]) rfl rfl rfl rfl (fun p e s m below meth c hx hb hr hts hown hlocks hml hnm9 A hA hS hP hD hK hXN Q9 hQ9 ls hl => ?_)
  refine lv_iconst (v := 0) hx hb dX4_holdsCorner_0 rfl ?_
  refine lv_istore (lv' := [(6, .int 0), (0, .ref lw), (1, .ref u), (2, .null), (3, .int (nI a9)), (4, .null), (5, .int (nI c9))]) hx hb dX4_holdsCorner_1 hl (Nat.le_of_ble_eq_true rfl) rfl (fun ls hl => ?_)
  have hl_3 : ∀ (n9 : Nat) (k : Nat) (H : Heap) (locs : List Loc) (ls : Array Slot), m2 - k < n9 → (k ≤ m2) → (∀ j, j < k → ¬ (¬ (whr 3 TX TY (U j).toInt (V j).toInt).toInt = 0)) → va_P (dC, dI) classes [(oc3 lw (.ref dr) (.ref tg) (.ref wy) (.ref br) (.ref bo) (.ref aa)), (oc6 tg (.ref tx) (.ref ty) (nI 3) 1), (oa tx cI 3 TX), (oa ty cI 3 TY), (oc6 u (.ref ux) (.ref uy) (nI m2) rh), (oa ux cI cap2 U), (oa uy cI cap2 V)] H → va_D A [(oc3 lw (.ref dr) (.ref tg) (.ref wy) (.ref br) (.ref bo) (.ref aa)), (oc6 tg (.ref tx) (.ref ty) (nI 3) 1), (oa tx cI 3 TX), (oa ty cI 3 TY), (oc6 u (.ref ux) (.ref uy) (nI m2) rh), (oa ux cI cap2 U), (oa uy cI cap2 V)] → va_S A s.heap H locs → lv_has ls 10 [(6, .int (nI k)), (0, .ref lw), (1, .ref u), (2, .null), (3, .int (nI a9)), (4, .null), (5, .int (nI c9))] → W p l e ({ frames := 1, cells := 0, slots := 0, locals := 26 } : Room) s m ([.ref lw, .ref u, .null, .int (nI a9), .null, .int (nI c9)] : List Value).toArray below meth c H locs 0 0 Q9 (F0 m 3 ls []) := by
    intro n9
    induction n9 with
    | zero => intro k H locs ls hm; exact absurd hm (Nat.not_lt_zero _)
    | succ n9 ih_3 =>
      intro k H locs ls hm hk hno hP hD hS hl
      refine lv_iload hx hb dX4_holdsCorner_3 (lv_at hl 0 rfl) ?_
      refine lv_aload_n hx hb dX4_holdsCorner_5 rfl (lv_at hl 2 rfl) ?_
      refine va_get (D := (dC, dI)) (ci := 6) (v := .int (nI m2)) (C := RX7) (T := TX7) (N := 4) hx hb hts inX7 hown hK hP 4 rfl rfl 2 (Nat.le_of_ble_eq_true rfl) (hts _ mw_176) (fun _ h9 => h9) rfl dX4_holdsCorner_6 ?_
      have b9_2 : k < 2147483648 := by omega
      have b9_3 : m2 < 2147483648 := by omega
      refine lv_icmp_ge (tgt := 99) hx hb dX4_holdsCorner_9 rfl (fun c_1 => ?_) (fun c_1 => ?_)
      · have c_1 : ((m2 : Nat) : Int) ≤ ((k : Nat) : Int) := zc_le (nI_toInt b9_3) (nI_toInt b9_2) c_1
        refine lv_iconst (v := 0) hx hb dX4_holdsCorner_99 rfl ?_
        obtain ⟨hP9, hD9⟩ := zu_sub (wc := [_, _, _, _, _, _, _]) hP hD [true, true, true, true, true, true, true] rfl rfl
        rw [hQ9]
        exact W.zret (ty := .boolean) (v := 0) hx hb hr (rfl) (fun t ht hW => ⟨⟨congrArg (fun z => Outcome.returned (some (Value.int z))) (show (0 : Int32) = pI (∃ j7, j7 < m2 ∧ ¬ (whr 3 TX TY (U j7).toInt (V j7).toInt).toInt = 0) from (zp_f (fun ⟨j, hj, h⟩ => hno j (by omega) h)).symm), by rw [ht]; exact hP9, hD9⟩, hS.F ht⟩) hS.2.2 dX4_holdsCorner_100
      · have c_1 : ((k : Nat) : Int) < ((m2 : Nat) : Int) := zc_nle (nI_toInt b9_3) (nI_toInt b9_2) c_1
        refine lv_aload_n hx hb dX4_holdsCorner_12 rfl (lv_at hl 2 rfl) ?_
        refine va_get (D := (dC, dI)) (ci := 6) (v := .ref ux) (C := RX7) (T := TX7) (N := 4) hx hb hts inX7 hown hK hP 4 rfl rfl 0 (Nat.le_of_ble_eq_true rfl) (hts _ mw_163) (fun _ h9 => h9) rfl dX4_holdsCorner_13 ?_
        refine lv_iload hx hb dX4_holdsCorner_16 (lv_at hl 0 rfl) ?_
        have b9_4 : k < cap2 := by omega
        have b9_5 : cap2 < 2147483648 := by omega
        refine z_iald hx hb hK hP 5 0 rfl rfl (e := k) rfl b9_4 b9_5 dX4_holdsCorner_18 ?_
        refine lv_istore (lv' := [(7, .int (U k)), (6, .int (nI k)), (0, .ref lw), (1, .ref u), (2, .null), (3, .int (nI a9)), (4, .null), (5, .int (nI c9))]) hx hb dX4_holdsCorner_19 hl (Nat.le_of_ble_eq_true rfl) rfl (fun ls hl => ?_)
        refine lv_aload_n hx hb dX4_holdsCorner_21 rfl (lv_at hl 3 rfl) ?_
        refine va_get (D := (dC, dI)) (ci := 6) (v := .ref uy) (C := RX7) (T := TX7) (N := 4) hx hb hts inX7 hown hK hP 4 rfl rfl 1 (Nat.le_of_ble_eq_true rfl) (hts _ mw_170) (fun _ h9 => h9) rfl dX4_holdsCorner_22 ?_
        refine lv_iload hx hb dX4_holdsCorner_25 (lv_at hl 1 rfl) ?_
        refine z_iald hx hb hK hP 6 0 rfl rfl (e := k) rfl b9_4 b9_5 dX4_holdsCorner_27 ?_
        refine lv_istore (lv' := [(8, .int (V k)), (7, .int (U k)), (6, .int (nI k)), (0, .ref lw), (1, .ref u), (2, .null), (3, .int (nI a9)), (4, .null), (5, .int (nI c9))]) hx hb dX4_holdsCorner_28 hl (Nat.le_of_ble_eq_true rfl) rfl (fun ls hl => ?_)
        refine lv_aload_nN hx hb dX4_holdsCorner_30 rfl (lv_at hl 5 rfl) ?_
        refine lv_ifnullN (tgt := 46) hx hb dX4_holdsCorner_31 rfl ?_
        refine lv_aloadN hx hb dX4_holdsCorner_46 (lv_at hl 7 rfl) ?_
        refine lv_ifnullN (tgt := 69) hx hb dX4_holdsCorner_48 rfl ?_
        refine lv_iconst (v := 0) hx hb dX4_holdsCorner_69 rfl ?_
        refine lv_istore (lv' := [(9, .int 0), (8, .int (V k)), (7, .int (U k)), (6, .int (nI k)), (0, .ref lw), (1, .ref u), (2, .null), (3, .int (nI a9)), (4, .null), (5, .int (nI c9))]) hx hb dX4_holdsCorner_70 hl (Nat.le_of_ble_eq_true rfl) rfl (fun ls hl => ?_)
        refine lv_iload hx hb dX4_holdsCorner_72 (lv_at hl 0 rfl) ?_
        refine lv_if_ne (tgt := 93) hx hb dX4_holdsCorner_74 rfl (fun c_6 => ?_) (fun c_6 => ?_)
        · exact absurd (by decide) c_6
        · refine lv_aload_n hx hb dX4_holdsCorner_77 rfl (lv_at hl 4 rfl) ?_
          refine va_get (D := (dC, dI)) (ci := 3) (v := .ref tg) (C := RX4) (T := TX4) (N := 6) hx hb hts inX4 hown hK hP 0 rfl rfl 1 (Nat.le_of_ble_eq_true rfl) (hts _ mw_221) (fun _ h9 => h9) rfl dX4_holdsCorner_78 ?_
          refine lv_iload hx hb dX4_holdsCorner_81 (lv_at hl 2 rfl) ?_
          refine lv_iload hx hb dX4_holdsCorner_83 (lv_at hl 1 rfl) ?_
          obtain ⟨hPc, hDc, hFc⟩ := zo_sub (wc := [_, _, _]) hP hD hS hA [1, 2, 3] rfl rfl
          refine zcall (st1 := [.int (whr 3 TX TY (U k).toInt (V k).toInt)]) (va_runV (As := [.int (U k), .int (V k)]) (rest := []) ⟨hx, hb, hml, hown, hts⟩ (k_Row_where l dC dI cI cZ cF H.size tg tx ty 3 3 TX TY 1 (U k) (V k) (by first | with_reducible assumption | omega) (by first | with_reducible assumption | omega) (hpt) ((hq k (by first | with_reducible assumption | omega)).1) ((hq k (by first | with_reducible assumption | omega)).2)) (csV_38 hts rfl rfl ⟨Nat.le_of_ble_eq_true rfl, Nat.le_of_ble_eq_true rfl⟩) (zPV2 (q0 := 0) (ci := 6) hPc hDc hK hXN rfl rfl) rfl rfl hl.1 rfl (lv_room (Nat.le_of_ble_eq_true rfl)) dX4_holdsCorner_85 ⟨Nat.le_of_ble_eq_true rfl, Nat.le_of_ble_eq_true rfl⟩) hS hFc hFc rfl (fun t H locs ht hB hk1 hS => ?_)
          obtain ⟨hP1, hD1⟩ := hB
          rw [ht] at hP1
          obtain ⟨hP, hD⟩ := zn (W2 := [_, _, _, _, _, _, _]) hP hD hk1 hFc hP1 hD1 [1, 2, 3] [true, false, false, false, true, true, true] [true, false, false, false, true, true, true] [1, 2, 3] (by decide +kernel) rfl rfl rfl rfl rfl
          clear hk1 hPc hDc hFc hP1 hD1 ht
          refine lv_if_eq (tgt := 93) hx hb dX4_holdsCorner_88 rfl (fun c_7 => ?_) (fun c_7 => ?_)
          · have c_7 : (whr 3 TX TY (U k).toInt (V k).toInt).toInt = 0 := zc_eq rfl rfl c_7
            refine lv_iinc (v := nI (k + 1)) (lv' := [(6, .int (nI (k + 1))), (9, .int 0), (8, .int (V k)), (7, .int (U k)), (0, .ref lw), (1, .ref u), (2, .null), (3, .int (nI a9)), (4, .null), (5, .int (nI c9))]) hx hb dX4_holdsCorner_93 hl (k := 3) rfl (nI_add k 1) (Nat.le_of_ble_eq_true rfl) rfl (fun ls hl => ?_)
            refine lv_goto (tgt := 3) hx hb dX4_holdsCorner_96 rfl ?_
            exact ih_3 (k + 1) H locs ls (by first | with_reducible assumption | omega) (by first | with_reducible assumption | omega) (by intro j hj; rcases Nat.lt_or_ge j k with h | h; exact hno j h; rw [show j = k by omega]; first | exact fun h => absurd (by first | with_reducible assumption | assumption) h) hP hD hS (lv_sub hl [0, 4, 5, 6, 7, 8, 9] rfl)
          · have c_7 : ¬ (whr 3 TX TY (U k).toInt (V k).toInt).toInt = 0 := zc_ne rfl rfl c_7
            refine lv_iconst (v := 1) hx hb dX4_holdsCorner_91 rfl ?_
            obtain ⟨hP9, hD9⟩ := zu_sub (wc := [_, _, _, _, _, _, _]) hP hD [true, true, true, true, true, true, true] rfl rfl
            rw [hQ9]
            exact W.zret (ty := .boolean) (v := 1) hx hb hr (rfl) (fun t ht hW => ⟨⟨congrArg (fun z => Outcome.returned (some (Value.int z))) (show (1 : Int32) = pI (∃ j7, j7 < m2 ∧ ¬ (whr 3 TX TY (U j7).toInt (V j7).toInt).toInt = 0) from (zp_t (⟨k, by omega, by assumption⟩)).symm), by rw [ht]; exact hP9, hD9⟩, hS.F ht⟩) hS.2.2 dX4_holdsCorner_92
  exact hl_3 _ 0 s.heap [] ls (Nat.lt_succ_self _) (by first | with_reducible assumption | omega) (by intro j hj; omega) hP hD hS (lv_sub hl [0, 1, 2, 3, 4, 5, 6] rfl)
end
