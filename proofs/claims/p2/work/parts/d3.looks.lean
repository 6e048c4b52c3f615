set_option maxHeartbeats 4000000 in
set_option maxRecDepth 100000 in
theorem k_Row_init (l : Launch) (dC : Nat → ClassId) (dI : Nat → Nat → Nat) (cI cZ cF : ClassId) (sz : Nat) (r : Nat) (rm : Nat) (rg : Int32) (hrm : 1 ≤ rm ∧ rm ≤ 1000) (hrg : rg = 0 ∨ rg = 1) : Met l yX7_init (.code yX7_init cX7_init 4 none :: ws0) ({ frames := 1, cells := 2, slots := 2 * rm, locals := 13 } : Room) (va_Pc [.ref r, .int (nI rm), .int rg] (zPre (dC, dI) classes (zTy cI cZ cF) [(oc6 r .null .null 0 0)] sz zXN)) (zQ none (fun t => ∃ (rx : Nat), ∃ (ry : Nat), va_P (dC, dI) classes [(oc6 r (.ref rx) (.ref ry) (nI 0) rg), (oa rx cI rm (fun _ => 0)), (oa ry cI rm (fun _ => 0))] t.heap ∧ va_D (va_A [(oc6 r .null .null 0 0)] sz) [(oc6 r (.ref rx) (.ref ry) (nI 0) rg), (oa rx cI rm (fun _ => 0)), (oa ry cI rm (fun _ => 0))]) (va_A [(oc6 r .null .null 0 0)] sz)) 2 (2 * rm) (va_A [(oc6 r .null .null 0 0)] sz) := by
  refine Met.ofW (cc := cX7_init) (maxL := 4) (ret := none) (by decide) rfl ?_
  intro p e s m args below meth c s₁ B hml hv
  obtain ⟨rfl, hsz, hP, hK, hD0, hXN⟩ := hv
  have hx := B.exec
  have hb := B.bytes
  have hr := B.returns
  have hts0 := atoms_spec (ws := .code yX7_init cX7_init 4 none :: ws0) B.pre
  have hts : ∀ w9 ∈ ws0, w9.before ([.ref r, .int (nI rm), .int rg] : List Value).toArray s = true := fun w9 h => hts0 w9 (List.mem_cons_of_mem _ h)
  have hown : s.vm.findClass "ScaleShop$Row" = some m.cls := findClass_of_methodNamed B.named
  have hlocks := B.notSynchronized
  have hin : meth.name = "<init>" := (name_of_methodNamed B.named B.method).1
  subst hsz
  have hD := hD0.self (sz := s.heap.size)
  clear hD0
  generalize hAe : va_A [(oc6 r .null .null 0 0)] s.heap.size = A at hD ⊢
  have hA : ∀ q : Nat, s.heap.size ≤ q → A q := fun q h => by rw [← hAe]; exact Or.inr h
  clear hAe
  have hS : va_S A s.heap s.heap [] := va_S.rf
  have hP : va_P (dC, dI) classes [(oc6 r .null .null 0 0)] s.heap := hP
  obtain ⟨Q9, hQ9⟩ : ∃ Q9 : State → Prop, Q9 = MQ below (zQ none (fun t => ∃ (rx : Nat), ∃ (ry : Nat), va_P (dC, dI) classes [(oc6 r (.ref rx) (.ref ry) (nI 0) rg), (oa rx cI rm (fun _ => 0)), (oa ry cI rm (fun _ => 0))] t.heap ∧ va_D A [(oc6 r (.ref rx) (.ref ry) (nI 0) rg), (oa rx cI rm (fun _ => 0)), (oa ry cI rm (fun _ => 0))]) A) ([.ref r, .int (nI rm), .int rg] : List Value).toArray s 2 (2 * rm) A := ⟨_, rfl⟩
  rw [← hQ9]
  have hl := lv_entry ([.ref r, .int (nI rm), .int rg]) (n := 4) (Nat.le_of_ble_eq_true rfl)
  rw [lg_entry_eq]
  generalize (lg_sl ([.ref r, .int (nI rm), .int rg]) ++ List.replicate (4 - (lg_sl ([.ref r, .int (nI rm), .int rg])).length) Slot.unset).toArray = ls at hl ⊢
  have hl : lv_has ls 4 [(0, .ref r), (1, .int (nI rm)), (2, .int rg)] := hl
  refine lv_aload_n hx hb dX7_init_0 rfl (lv_at hl 0 rfl) ?_
  refine W.objInit hx hb hown (hts _ mw_157) (hts _ mw_126) (hts _ mw_objcode) rfl (by rw [hml]; exact hl.1) rfl dX7_init_1 (Nat.le_of_ble_eq_true rfl) (Nat.le_of_ble_eq_true rfl) ?_
  refine W.eq (g2 := F0 m 4 ls []) rfl ?_
  refine lv_aload_n hx hb dX7_init_4 rfl (lv_at hl 0 rfl) ?_
  refine lv_iconst (v := 0) hx hb dX7_init_5 (by decide) ?_
  refine va_put (D := (dC, dI)) (ci := 6) (v := .int 0) (ty := .int) (C := RX7) (T := TX7) (N := 4) hx hb hts inX7 tyX7 tyX7_ok nmX7 hown hK hP hD hS 0 rfl rfl 2 (by decide) (hts _ mw_175) (fun _ h9 => h9) rfl (by decide +kernel) rfl rfl (Nat.le_of_ble_eq_true rfl) dX7_init_6 (fun H locs hP hD hS => ?_)
  have hP : va_P (dC, dI) classes [(oc6 r .null .null 0 0)] H := hP
  have hD : va_D A [(oc6 r .null .null 0 0)] := hD
  refine lv_iload_n hx hb dX7_init_9 rfl (lv_at hl 1 rfl) ?_
  refine lv_iconst (v := 1) hx hb dX7_init_10 (by decide) ?_
  refine va_mmax hx hb (by rw [hml]; exact hl.1.symm) hown (hts _ mw_158) (hts _ mw_159) (hts _ mw_103) (hts _ mw_maxcode) (Nat.le_of_ble_eq_true rfl) (Nat.le_of_ble_eq_true rfl) (Nat.le_of_ble_eq_true rfl) (Nat.le_of_ble_eq_true rfl) dX7_init_11 ?_
  refine lv_topi (fun v_1 ev_1 => ?_)
  have hv_1 : v_1.toInt = max ((rm : Nat) : Int) 1 := zmax (nI_toInt (by omega)) (by decide) ev_1
  refine zz_i (v := nI rm) (Int32.toInt_inj.mp (by rw [hv_1, nI_toInt (by omega)]; omega)) ?_
  refine lv_istore_n (lv' := [(3, .int (nI rm)), (0, .ref r), (1, .int (nI rm)), (2, .int rg)]) hx hb dX7_init_14 rfl hl (by decide) rfl (fun ls hl => ?_)
  refine lv_aload_n hx hb dX7_init_15 rfl (lv_at hl 1 rfl) ?_
  refine lv_iload_n hx hb dX7_init_16 rfl (lv_at hl 0 rfl) ?_
  refine zz_newa (atype := .int) (a0 := (rm, .inl (fun _ => 0))) hx hb (hts _ mw_195) (ty := .int) rfl hK hP hD hS hA (n := nI rm) (N' := rm) (cA := cI) 0 rfl (fun _ => rfl) (nI_pos (by omega)) (nI_clamp (by omega)) (show rm * 4 ≤ 536870912 by omega) (show 1 ≤ 2 by omega) (show (0 + rm) ≤ 2 * rm by omega) dX7_init_17 (fun rx H hP hD hS => ?_)
  have hP : va_P (dC, dI) classes [(oc6 r .null .null 0 0), (oa rx cI rm (fun _ => 0))] H := hP
  have hD : va_D A [(oc6 r .null .null 0 0), (oa rx cI rm (fun _ => 0))] := hD
  refine va_putF (D := (dC, dI)) (ci := 6) (v := .ref rx) (ty := .array .int) (C := RX7) (T := TX7) (N := 4) hx hb hts inX7 tyX7 tyX7_ok nmX7 hown hK hP hD hS 0 rfl rfl 0 (by decide) (hts _ mw_161) (fun _ h9 => h9) rfl hin rfl (by decide +kernel) rfl rfl (Nat.le_of_ble_eq_true rfl) dX7_init_19 (fun H locs hP hD hS => ?_)
  have hP : va_P (dC, dI) classes [(oc6 r (.ref rx) .null 0 0), (oa rx cI rm (fun _ => 0))] H := hP
  have hD : va_D A [(oc6 r (.ref rx) .null 0 0), (oa rx cI rm (fun _ => 0))] := hD
  refine lv_aload_n hx hb dX7_init_22 rfl (lv_at hl 1 rfl) ?_
  refine lv_iload_n hx hb dX7_init_23 rfl (lv_at hl 0 rfl) ?_
  refine zz_newa (atype := .int) (a0 := (rm, .inl (fun _ => 0))) hx hb (hts _ mw_195) (ty := .int) rfl hK hP hD hS hA (n := nI rm) (N' := rm) (cA := cI) 0 rfl (fun _ => rfl) (nI_pos (by omega)) (nI_clamp (by omega)) (show rm * 4 ≤ 536870912 by omega) (show 2 ≤ 2 by omega) (show ((0 + rm) + rm) ≤ 2 * rm by omega) dX7_init_24 (fun ry H hP hD hS => ?_)
  have hP : va_P (dC, dI) classes [(oc6 r (.ref rx) .null 0 0), (oa rx cI rm (fun _ => 0)), (oa ry cI rm (fun _ => 0))] H := hP
  have hD : va_D A [(oc6 r (.ref rx) .null 0 0), (oa rx cI rm (fun _ => 0)), (oa ry cI rm (fun _ => 0))] := hD
  refine va_putF (D := (dC, dI)) (ci := 6) (v := .ref ry) (ty := .array .int) (C := RX7) (T := TX7) (N := 4) hx hb hts inX7 tyX7 tyX7_ok nmX7 hown hK hP hD hS 0 rfl rfl 1 (by decide) (hts _ mw_168) (fun _ h9 => h9) rfl hin rfl (by decide +kernel) rfl rfl (Nat.le_of_ble_eq_true rfl) dX7_init_26 (fun H locs hP hD hS => ?_)
  have hP : va_P (dC, dI) classes [(oc6 r (.ref rx) (.ref ry) 0 0), (oa rx cI rm (fun _ => 0)), (oa ry cI rm (fun _ => 0))] H := hP
  have hD : va_D A [(oc6 r (.ref rx) (.ref ry) 0 0), (oa rx cI rm (fun _ => 0)), (oa ry cI rm (fun _ => 0))] := hD
  refine lv_aload_n hx hb dX7_init_29 rfl (lv_at hl 1 rfl) ?_
  refine lv_iload_n hx hb dX7_init_30 rfl (lv_at hl 3 rfl) ?_
  refine va_put (D := (dC, dI)) (ci := 6) (v := .int rg) (ty := .boolean) (C := RX7) (T := TX7) (N := 4) hx hb hts inX7 tyX7 tyX7_ok nmX7 hown hK hP hD hS 0 rfl rfl 3 (by decide) (hts _ mw_183) (fun _ h9 => h9) rfl (by decide +kernel) (zb_nar hrg) (zb_fit hrg) (Nat.le_of_ble_eq_true rfl) dX7_init_31 (fun H locs hP hD hS => ?_)
  have hP : va_P (dC, dI) classes [(oc6 r (.ref rx) (.ref ry) 0 rg), (oa rx cI rm (fun _ => 0)), (oa ry cI rm (fun _ => 0))] H := hP
  have hD : va_D A [(oc6 r (.ref rx) (.ref ry) 0 rg), (oa rx cI rm (fun _ => 0)), (oa ry cI rm (fun _ => 0))] := hD
  have hP9 := hP.sub (ws' := [(oc6 r (.ref rx) (.ref ry) 0 rg), (oa rx cI rm (fun _ => 0)), (oa ry cI rm (fun _ => 0))]) [0, 1, 2] rfl
  have hD9 := hD.sub (ws' := [(oc6 r (.ref rx) (.ref ry) 0 rg), (oa rx cI rm (fun _ => 0)), (oa ry cI rm (fun _ => 0))]) [0, 1, 2] (by decide) rfl
  have hE9 : ([(oc6 r (.ref rx) (.ref ry) 0 rg), (oa rx cI rm (fun _ => 0)), (oa ry cI rm (fun _ => 0))] : va_W) = [(oc6 r (.ref rx) (.ref ry) (nI 0) rg), (oa rx cI rm (fun _ => 0)), (oa ry cI rm (fun _ => 0))] := by rfl
  rw [hE9] at hP9 hD9
  refine W.widen (k := 2) (n := 2 * rm) (by omega) (by omega) ?_
  rw [hQ9]
  exact W.vret hx hb hr (fun t ht hW => ⟨⟨rfl, rx, ry, by rw [ht]; exact hP9, hD9⟩, hS.F ht⟩) hS.2.2 dX7_init_34
set_option maxHeartbeats 4000000 in
set_option maxRecDepth 100000 in
theorem k_Row_copy (l : Launch) (dC : Nat → ClassId) (dI : Nat → Nat → Nat) (cI cZ cF : ClassId) (sz : Nat) (r : Nat) (rx : Nat) (ry : Nat) (n : Nat) (cap : Nat) (X : Nat → Int32) (Y : Nat → Int32) (rg : Int32) (hn : 1 ≤ n ∧ n ≤ cap) (hcap : cap ≤ 1000) (hrg : rg = 0 ∨ rg = 1) : Met l yX7_copy (.code yX7_copy cX7_copy 2 (some (.object "ScaleShop$Row")) :: ws0) ({ frames := 2, cells := 3, slots := 2 * n + 4, locals := 44 } : Room) (va_Pc [.ref r] (zPre (dC, dI) classes (zTy cI cZ cF) [(oc6 r (.ref rx) (.ref ry) (nI n) rg), (oa rx cI cap X), (oa ry cI cap Y)] sz zXN)) (zQe (fun v9 t => ∃ (q : Nat), ∃ (qx : Nat), ∃ (qy : Nat), ∃ (X1 : Nat → Int32), ∃ (Y1 : Nat → Int32), v9 = (some (.ref q)) ∧ (∀ k, k < n → X1 k = X k ∧ Y1 k = Y k) ∧ va_P (dC, dI) classes [(oc6 r (.ref rx) (.ref ry) (nI n) rg), (oa rx cI cap X), (oa ry cI cap Y), (oc6 q (.ref qx) (.ref qy) (nI n) rg), (oa qx cI n X1), (oa qy cI n Y1)] t.heap ∧ va_D (va_A [(oc6 r (.ref rx) (.ref ry) (nI n) rg), (oa rx cI cap X), (oa ry cI cap Y)] sz) [(oc6 r (.ref rx) (.ref ry) (nI n) rg), (oa rx cI cap X), (oa ry cI cap Y), (oc6 q (.ref qx) (.ref qy) (nI n) rg), (oa qx cI n X1), (oa qy cI n Y1)]) (va_A [(oc6 r (.ref rx) (.ref ry) (nI n) rg), (oa rx cI cap X), (oa ry cI cap Y)] sz)) 3 (2 * n + 4) (va_A [(oc6 r (.ref rx) (.ref ry) (nI n) rg), (oa rx cI cap X), (oa ry cI cap Y)] sz) := by
  refine Met.ofW (cc := cX7_copy) (maxL := 2) (ret := (some (.object "ScaleShop$Row"))) (by decide) rfl ?_
  intro p e s m args below meth c s₁ B hml hv
  obtain ⟨rfl, hsz, hP, hK, hD0, hXN⟩ := hv
  have hx := B.exec
  have hb := B.bytes
  have hr := B.returns
  have hts0 := atoms_spec (ws := .code yX7_copy cX7_copy 2 (some (.object "ScaleShop$Row")) :: ws0) B.pre
  have hts : ∀ w9 ∈ ws0, w9.before ([.ref r] : List Value).toArray s = true := fun w9 h => hts0 w9 (List.mem_cons_of_mem _ h)
  have hown : s.vm.findClass "ScaleShop$Row" = some m.cls := findClass_of_methodNamed B.named
  have hlocks := B.notSynchronized
  subst hsz
  have hD := hD0.self (sz := s.heap.size)
  clear hD0
  generalize hAe : va_A [(oc6 r (.ref rx) (.ref ry) (nI n) rg), (oa rx cI cap X), (oa ry cI cap Y)] s.heap.size = A at hD ⊢
  have hA : ∀ q : Nat, s.heap.size ≤ q → A q := fun q h => by rw [← hAe]; exact Or.inr h
  clear hAe
  have hS : va_S A s.heap s.heap [] := va_S.rf
  have hP : va_P (dC, dI) classes [(oc6 r (.ref rx) (.ref ry) (nI n) rg), (oa rx cI cap X), (oa ry cI cap Y)] s.heap := hP
  obtain ⟨Q9, hQ9⟩ : ∃ Q9 : State → Prop, Q9 = MQ below (zQe (fun v9 t => ∃ (q : Nat), ∃ (qx : Nat), ∃ (qy : Nat), ∃ (X1 : Nat → Int32), ∃ (Y1 : Nat → Int32), v9 = (some (.ref q)) ∧ (∀ k, k < n → X1 k = X k ∧ Y1 k = Y k) ∧ va_P (dC, dI) classes [(oc6 r (.ref rx) (.ref ry) (nI n) rg), (oa rx cI cap X), (oa ry cI cap Y), (oc6 q (.ref qx) (.ref qy) (nI n) rg), (oa qx cI n X1), (oa qy cI n Y1)] t.heap ∧ va_D A [(oc6 r (.ref rx) (.ref ry) (nI n) rg), (oa rx cI cap X), (oa ry cI cap Y), (oc6 q (.ref qx) (.ref qy) (nI n) rg), (oa qx cI n X1), (oa qy cI n Y1)]) A) ([.ref r] : List Value).toArray s 3 (2 * n + 4) A := ⟨_, rfl⟩
  rw [← hQ9]
  have hl := lv_entry ([.ref r]) (n := 2) (Nat.le_of_ble_eq_true rfl)
  rw [lg_entry_eq]
  generalize (lg_sl ([.ref r]) ++ List.replicate (2 - (lg_sl ([.ref r])).length) Slot.unset).toArray = ls at hl ⊢
  have hl : lv_has ls 2 [(0, .ref r)] := hl
  refine va_new (ci := 6) (fs := [.null, .null, .int 0, .int 0]) (C := RX7) (T := TX7) (N := 4) hx hb hts inX7 tyX7 tyX7_ok hown (hts _ mw_748) (hts _ mw_153) (hts _ mw_102) hK hP hD hS hA rfl dfX7 (show 1 ≤ 3 by omega) (show 4 ≤ 2 * n + 4 by omega) dX7_copy_0 (fun q H hP hD hS => ?_)
  have hP : va_P (dC, dI) classes [(oc6 r (.ref rx) (.ref ry) (nI n) rg), (oa rx cI cap X), (oa ry cI cap Y), (oc6 q .null .null 0 0)] H := hP
  have hD : va_D A [(oc6 r (.ref rx) (.ref ry) (nI n) rg), (oa rx cI cap X), (oa ry cI cap Y), (oc6 q .null .null 0 0)] := hD
  refine lv_dup hx hb dX7_copy_3 rfl ?_
  refine lv_aload_n hx hb dX7_copy_4 rfl (lv_at hl 0 rfl) ?_
  refine va_get (D := (dC, dI)) (ci := 6) (v := .int (nI n)) (C := RX7) (T := TX7) (N := 4) hx hb hts inX7 hown hK hP 0 rfl rfl 2 (by decide) (hts _ mw_175) (fun _ h9 => h9) rfl dX7_copy_5 ?_
  refine lv_aload_n hx hb dX7_copy_8 rfl (lv_at hl 0 rfl) ?_
  refine va_get (D := (dC, dI)) (ci := 6) (v := .int rg) (C := RX7) (T := TX7) (N := 4) hx hb hts inX7 hown hK hP 0 rfl rfl 3 (by decide) (hts _ mw_183) (fun _ h9 => h9) rfl dX7_copy_9 ?_
  have hPc := hP.sub (ws' := [(oc6 q .null .null 0 0)]) [3] rfl
  have hDc := hD.sub (ws' := [(oc6 q .null .null 0 0)]) [3] (by decide) rfl
  have hFc := va_free (wc := [(oc6 q .null .null 0 0)]) hD hS hA [3] rfl
  refine zcall (st1 := [.ref q]) (va_runI (As := [.int (nI n), .int rg]) (rest := [.ref q]) ⟨hx, hb, hml, hown, hts⟩ (k_Row_init l dC dI cI cZ cF H.size q n rg (by omega) (by assumption)) (cwI 2 hts (zz_gC mc_yX7_init) rfl rfl rfl (hts _ mw_102) (hts _ mw_749) (hts _ mw_155) rfl (by decide +kernel) ⟨Nat.le_of_ble_eq_true rfl, Nat.le_of_ble_eq_true rfl⟩) (zPS2 hPc hDc hK hXN) rfl rfl hl.1 rfl (lv_room (Nat.le_of_ble_eq_true rfl)) dX7_copy_12 ⟨show (1 + 2) ≤ 3 by omega, show (4 + (2 * n)) ≤ 2 * n + 4 by omega⟩) hS hFc hFc rfl (fun t H1 locs ht hB hk1 hS => ?_)
  obtain ⟨qx, qy, hP1, hD1⟩ := hB
  rw [ht] at hP1
  obtain ⟨hP, hD⟩ := va_join (wr := [(oc6 r (.ref rx) (.ref ry) (nI n) rg), (oa rx cI cap X), (oa ry cI cap Y)]) (w1 := [(oc6 q (.ref qx) (.ref qy) (nI 0) rg), (oa qx cI n (fun _ => 0)), (oa qy cI n (fun _ => 0))]) hP hD [3] [0, 1, 2] rfl rfl (by decide) (by decide) hk1 hFc hP1 hD1
  clear hk1 hPc hDc hFc hP1 hD1 ht
  generalize H1 = H at hP hS ⊢
  have hP : va_P (dC, dI) classes [(oc6 r (.ref rx) (.ref ry) (nI n) rg), (oa rx cI cap X), (oa ry cI cap Y), (oc6 q (.ref qx) (.ref qy) (nI 0) rg), (oa qx cI n (fun _ => 0)), (oa qy cI n (fun _ => 0))] H := hP
  have hD : va_D A [(oc6 r (.ref rx) (.ref ry) (nI n) rg), (oa rx cI cap X), (oa ry cI cap Y), (oc6 q (.ref qx) (.ref qy) (nI 0) rg), (oa qx cI n (fun _ => 0)), (oa qy cI n (fun _ => 0))] := hD
  refine lv_astore_n (lv' := [(1, .ref q), (0, .ref r)]) hx hb dX7_copy_15 rfl hl (by decide) rfl (fun ls hl => ?_)
  refine lv_aload_n hx hb dX7_copy_16 rfl (lv_at hl 0 rfl) ?_
  refine lv_aload_n hx hb dX7_copy_17 rfl (lv_at hl 1 rfl) ?_
  have hPc := hP.sub (ws' := [(oc6 q (.ref qx) (.ref qy) (nI 0) rg), (oa qx cI n (fun _ => 0)), (oa qy cI n (fun _ => 0)), (oc6 r (.ref rx) (.ref ry) (nI n) rg), (oa rx cI cap X), (oa ry cI cap Y)]) [3, 4, 5, 0, 1, 2] rfl
  have hDc := hD.sub (ws' := [(oc6 q (.ref qx) (.ref qy) (nI 0) rg), (oa qx cI n (fun _ => 0)), (oa qy cI n (fun _ => 0)), (oc6 r (.ref rx) (.ref ry) (nI n) rg), (oa rx cI cap X), (oa ry cI cap Y)]) [3, 4, 5, 0, 1, 2] (by decide) rfl
  have hFc := va_free (wc := [(oc6 q (.ref qx) (.ref qy) (nI 0) rg), (oa qx cI n (fun _ => 0)), (oa qy cI n (fun _ => 0)), (oc6 r (.ref rx) (.ref ry) (nI n) rg), (oa rx cI cap X), (oa ry cI cap Y)]) hD hS hA [3, 4, 5, 0, 1, 2] rfl
  refine zcall (st1 := []) (va_runV (As := [.ref r]) (rest := []) ⟨hx, hb, hml, hown, hts⟩ (k_Row_copyFrom l dC dI cI cZ cF H.size q qx qy 0 n (fun _ => 0) (fun _ => 0) rg r rx ry n cap X Y rg (by omega) (by omega) (by omega) (by omega) (hrg)) (cwV 1 hts (zz_gV mw_750 mw_596 mw_597 mw_102 mc_yX7_copyFrom) rfl rfl rfl (by decide +kernel) ⟨Nat.le_of_ble_eq_true rfl, Nat.le_of_ble_eq_true rfl⟩) (zPV2 (q0 := 0) (ci := 6) hPc hDc hK hXN rfl rfl) rfl rfl hl.1 rfl (lv_room (Nat.le_of_ble_eq_true rfl)) dX7_copy_18 ⟨show (1 + 2) ≤ 3 by omega, show (4 + (2 * n)) ≤ 2 * n + 4 by omega⟩) hS hFc hFc rfl (fun t H1 locs ht hB hk1 hS => ?_)
  obtain ⟨X1, Y1, hall, hP1, hD1⟩ := hB
  rw [ht] at hP1
  obtain ⟨hP, hD⟩ := va_join (wr := []) (w1 := [(oc6 q (.ref qx) (.ref qy) (nI n) rg), (oa qx cI n X1), (oa qy cI n Y1), (oc6 r (.ref rx) (.ref ry) (nI n) rg), (oa rx cI cap X), (oa ry cI cap Y)]) hP hD [3, 4, 5, 0, 1, 2] [] rfl rfl (by decide) (by decide) hk1 hFc hP1 hD1
  clear hk1 hPc hDc hFc hP1 hD1 ht
  generalize H1 = H at hP hS ⊢
  have hP := hP.sub (ws' := [(oc6 r (.ref rx) (.ref ry) (nI n) rg), (oa rx cI cap X), (oa ry cI cap Y), (oc6 q (.ref qx) (.ref qy) (nI n) rg), (oa qx cI n X1), (oa qy cI n Y1)]) [3, 4, 5, 0, 1, 2] rfl
  have hD := hD.sub (ws' := [(oc6 r (.ref rx) (.ref ry) (nI n) rg), (oa rx cI cap X), (oa ry cI cap Y), (oc6 q (.ref qx) (.ref qy) (nI n) rg), (oa qx cI n X1), (oa qy cI n Y1)]) [3, 4, 5, 0, 1, 2] (by decide) rfl
  have hP : va_P (dC, dI) classes [(oc6 r (.ref rx) (.ref ry) (nI n) rg), (oa rx cI cap X), (oa ry cI cap Y), (oc6 q (.ref qx) (.ref qy) (nI n) rg), (oa qx cI n X1), (oa qy cI n Y1)] H := hP
  have hD : va_D A [(oc6 r (.ref rx) (.ref ry) (nI n) rg), (oa rx cI cap X), (oa ry cI cap Y), (oc6 q (.ref qx) (.ref qy) (nI n) rg), (oa qx cI n X1), (oa qy cI n Y1)] := hD
  refine lv_aload_n hx hb dX7_copy_21 rfl (lv_at hl 0 rfl) ?_
  have hP9 := hP.sub (ws' := [(oc6 r (.ref rx) (.ref ry) (nI n) rg), (oa rx cI cap X), (oa ry cI cap Y), (oc6 q (.ref qx) (.ref qy) (nI n) rg), (oa qx cI n X1), (oa qy cI n Y1)]) [0, 1, 2, 3, 4, 5] rfl
  have hD9 := hD.sub (ws' := [(oc6 r (.ref rx) (.ref ry) (nI n) rg), (oa rx cI cap X), (oa ry cI cap Y), (oc6 q (.ref qx) (.ref qy) (nI n) rg), (oa qx cI n X1), (oa qy cI n Y1)]) [0, 1, 2, 3, 4, 5] (by decide) rfl
  refine W.widen (k := 3) (n := 2 * n + 4) (by omega) (by omega) ?_
  rw [hQ9]
  exact W.aret hx hb hr (Or.inl ⟨_, rfl⟩) (Or.inr ⟨_, rfl⟩) (fun t ht hW => ⟨⟨_, rfl, q, qx, qy, X1, Y1, rfl, (hall), by rw [ht]; exact hP9, hD9⟩, hS.F ht⟩) hS.2.2 dX7_copy_22
set_option maxHeartbeats 4000000 in
set_option maxRecDepth 100000 in
theorem k_Look_init (l : Launch) (dC : Nat → ClassId) (dI : Nat → Nat → Nat) (cI cZ cF : ClassId) (sz : Nat) (lk : Nat) (kd9 : Int32) : Met l yX5_init (.code yX5_init cX5_init 2 none :: ws0) ({ frames := 1, cells := 0, slots := 0, locals := 12 } : Room) (va_Pc [.ref lk, .int kd9] (zPre (dC, dI) classes (zTy cI cZ cF) [(oc4 lk 0 0 .null 0 0 0)] sz zXN)) (zQ none (fun t => va_P (dC, dI) classes [(oc4 lk kd9 0 .null 0 (-1) 0)] t.heap ∧ va_D (va_A [(oc4 lk 0 0 .null 0 0 0)] sz) [(oc4 lk kd9 0 .null 0 (-1) 0)]) (va_A [(oc4 lk 0 0 .null 0 0 0)] sz)) 0 0 (va_A [(oc4 lk 0 0 .null 0 0 0)] sz) := by
  refine Met.ofW (cc := cX5_init) (maxL := 2) (ret := none) (by decide) rfl ?_
  intro p e s m args below meth c s₁ B hml hv
  obtain ⟨rfl, hsz, hP, hK, hD0, hXN⟩ := hv
  have hx := B.exec
  have hb := B.bytes
  have hr := B.returns
  have hts0 := atoms_spec (ws := .code yX5_init cX5_init 2 none :: ws0) B.pre
  have hts : ∀ w9 ∈ ws0, w9.before ([.ref lk, .int kd9] : List Value).toArray s = true := fun w9 h => hts0 w9 (List.mem_cons_of_mem _ h)
  have hown : s.vm.findClass "ScaleShop$Look" = some m.cls := findClass_of_methodNamed B.named
  have hlocks := B.notSynchronized
  have hin : meth.name = "<init>" := (name_of_methodNamed B.named B.method).1
  subst hsz
  have hD := hD0.self (sz := s.heap.size)
  clear hD0
  generalize hAe : va_A [(oc4 lk 0 0 .null 0 0 0)] s.heap.size = A at hD ⊢
  have hA : ∀ q : Nat, s.heap.size ≤ q → A q := fun q h => by rw [← hAe]; exact Or.inr h
  clear hAe
  have hS : va_S A s.heap s.heap [] := va_S.rf
  have hP : va_P (dC, dI) classes [(oc4 lk 0 0 .null 0 0 0)] s.heap := hP
  obtain ⟨Q9, hQ9⟩ : ∃ Q9 : State → Prop, Q9 = MQ below (zQ none (fun t => va_P (dC, dI) classes [(oc4 lk kd9 0 .null 0 (-1) 0)] t.heap ∧ va_D A [(oc4 lk kd9 0 .null 0 (-1) 0)]) A) ([.ref lk, .int kd9] : List Value).toArray s 0 0 A := ⟨_, rfl⟩
  rw [← hQ9]
  have hl := lv_entry ([.ref lk, .int kd9]) (n := 2) (Nat.le_of_ble_eq_true rfl)
  rw [lg_entry_eq]
  generalize (lg_sl ([.ref lk, .int kd9]) ++ List.replicate (2 - (lg_sl ([.ref lk, .int kd9])).length) Slot.unset).toArray = ls at hl ⊢
  have hl : lv_has ls 2 [(0, .ref lk), (1, .int kd9)] := hl
  refine lv_aload_n hx hb dX5_init_0 rfl (lv_at hl 0 rfl) ?_
  refine W.objInit hx hb hown (hts _ mw_377) (hts _ mw_126) (hts _ mw_objcode) rfl (by rw [hml]; exact hl.1) rfl dX5_init_1 (Nat.le_of_ble_eq_true rfl) (Nat.le_of_ble_eq_true rfl) ?_
  refine W.eq (g2 := F0 m 4 ls []) rfl ?_
  refine lv_aload_n hx hb dX5_init_4 rfl (lv_at hl 0 rfl) ?_
  refine lv_iconst (v := 0) hx hb dX5_init_5 (by decide) ?_
  refine va_put (D := (dC, dI)) (ci := 4) (v := .int 0) (ty := .int) (C := RX5) (T := TX5) (N := 6) hx hb hts inX5 tyX5 tyX5_ok nmX5 hown hK hP hD hS 0 rfl rfl 1 (by decide) (hts _ mw_384) (fun _ h9 => h9) rfl (by decide +kernel) rfl rfl (Nat.le_of_ble_eq_true rfl) dX5_init_6 (fun H locs hP hD hS => ?_)
  have hP : va_P (dC, dI) classes [(oc4 lk 0 0 .null 0 0 0)] H := hP
  have hD : va_D A [(oc4 lk 0 0 .null 0 0 0)] := hD
  refine lv_aload_n hx hb dX5_init_9 rfl (lv_at hl 0 rfl) ?_
  refine lv_null hx hb dX5_init_10 ?_
  refine va_put (D := (dC, dI)) (ci := 4) (v := .null) (ty := .object "ScaleShop$Row") (C := RX5) (T := TX5) (N := 6) hx hb hts inX5 tyX5 tyX5_ok nmX5 hown hK hP hD hS 0 rfl rfl 2 (by decide) (hts _ mw_388) (fun _ h9 => h9) rfl (by decide +kernel) rfl rfl (Nat.le_of_ble_eq_true rfl) dX5_init_11 (fun H locs hP hD hS => ?_)
  have hP : va_P (dC, dI) classes [(oc4 lk 0 0 .null 0 0 0)] H := hP
  have hD : va_D A [(oc4 lk 0 0 .null 0 0 0)] := hD
  refine lv_aload_n hx hb dX5_init_14 rfl (lv_at hl 0 rfl) ?_
  refine lv_iconst (v := 0) hx hb dX5_init_15 (by decide) ?_
  refine va_put (D := (dC, dI)) (ci := 4) (v := .int 0) (ty := .int) (C := RX5) (T := TX5) (N := 6) hx hb hts inX5 tyX5 tyX5_ok nmX5 hown hK hP hD hS 0 rfl rfl 3 (by decide) (hts _ mw_394) (fun _ h9 => h9) rfl (by decide +kernel) rfl rfl (Nat.le_of_ble_eq_true rfl) dX5_init_16 (fun H locs hP hD hS => ?_)
  have hP : va_P (dC, dI) classes [(oc4 lk 0 0 .null 0 0 0)] H := hP
  have hD : va_D A [(oc4 lk 0 0 .null 0 0 0)] := hD
  refine lv_aload_n hx hb dX5_init_19 rfl (lv_at hl 0 rfl) ?_
  refine lv_iconst (v := (-1)) hx hb dX5_init_20 (by decide) ?_
  refine va_put (D := (dC, dI)) (ci := 4) (v := .int (-1)) (ty := .int) (C := RX5) (T := TX5) (N := 6) hx hb hts inX5 tyX5 tyX5_ok nmX5 hown hK hP hD hS 0 rfl rfl 4 (by decide) (hts _ mw_397) (fun _ h9 => h9) rfl (by decide +kernel) rfl rfl (Nat.le_of_ble_eq_true rfl) dX5_init_21 (fun H locs hP hD hS => ?_)
  have hP : va_P (dC, dI) classes [(oc4 lk 0 0 .null 0 (-1) 0)] H := hP
  have hD : va_D A [(oc4 lk 0 0 .null 0 (-1) 0)] := hD
  refine lv_aload_n hx hb dX5_init_24 rfl (lv_at hl 0 rfl) ?_
  refine lv_iconst (v := 0) hx hb dX5_init_25 (by decide) ?_
  refine va_put (D := (dC, dI)) (ci := 4) (v := .int 0) (ty := .int) (C := RX5) (T := TX5) (N := 6) hx hb hts inX5 tyX5 tyX5_ok nmX5 hown hK hP hD hS 0 rfl rfl 5 (by decide) (hts _ mw_399) (fun _ h9 => h9) rfl (by decide +kernel) rfl rfl (Nat.le_of_ble_eq_true rfl) dX5_init_26 (fun H locs hP hD hS => ?_)
  have hP : va_P (dC, dI) classes [(oc4 lk 0 0 .null 0 (-1) 0)] H := hP
  have hD : va_D A [(oc4 lk 0 0 .null 0 (-1) 0)] := hD
  refine lv_aload_n hx hb dX5_init_29 rfl (lv_at hl 0 rfl) ?_
  refine lv_iload_n hx hb dX5_init_30 rfl (lv_at hl 1 rfl) ?_
  refine va_put (D := (dC, dI)) (ci := 4) (v := .int kd9) (ty := .int) (C := RX5) (T := TX5) (N := 6) hx hb hts inX5 tyX5 tyX5_ok nmX5 hown hK hP hD hS 0 rfl rfl 0 (by decide) (hts _ mw_378) (fun _ h9 => h9) rfl (by decide +kernel) rfl rfl (Nat.le_of_ble_eq_true rfl) dX5_init_31 (fun H locs hP hD hS => ?_)
  have hP : va_P (dC, dI) classes [(oc4 lk kd9 0 .null 0 (-1) 0)] H := hP
  have hD : va_D A [(oc4 lk kd9 0 .null 0 (-1) 0)] := hD
  have hP9 := hP.sub (ws' := [(oc4 lk kd9 0 .null 0 (-1) 0)]) [0] rfl
  have hD9 := hD.sub (ws' := [(oc4 lk kd9 0 .null 0 (-1) 0)]) [0] (by decide) rfl
  rw [hQ9]
  exact W.vret hx hb hr (fun t ht hW => ⟨⟨rfl, by rw [ht]; exact hP9, hD9⟩, hS.F ht⟩) hS.2.2 dX5_init_34
set_option maxHeartbeats 4000000 in
set_option maxRecDepth 100000 in
theorem k_Look_copy_r (l : Launch) (dC : Nat → ClassId) (dI : Nat → Nat → Nat) (cI cZ cF : ClassId) (sz : Nat) (lk : Nat) (kd9 : Int32) (st9 : Int32) (gb9 : Int32) (jt9 : Int32) (we9 : Int32) (r : Nat) : Met l yX5_copy (.code yX5_copy cX5_copy 2 (some (.object "ScaleShop$Look")) :: ws0) ({ frames := 2, cells := 1, slots := 6, locals := 33 } : Room) (va_Pc [.ref lk] (zPre (dC, dI) classes (zTy cI cZ cF) [(oc4 lk kd9 st9 (.ref r) gb9 jt9 we9)] sz zXN)) (zQe (fun v9 t => ∃ (q : Nat), v9 = (some (.ref q)) ∧ va_P (dC, dI) classes [(oc4 lk kd9 st9 (.ref r) gb9 jt9 we9), (oc4 q kd9 st9 (.ref r) gb9 jt9 we9)] t.heap ∧ va_D (va_A [(oc4 lk kd9 st9 (.ref r) gb9 jt9 we9)] sz) [(oc4 lk kd9 st9 (.ref r) gb9 jt9 we9), (oc4 q kd9 st9 (.ref r) gb9 jt9 we9)]) (va_A [(oc4 lk kd9 st9 (.ref r) gb9 jt9 we9)] sz)) 1 6 (va_A [(oc4 lk kd9 st9 (.ref r) gb9 jt9 we9)] sz) := by
  refine Met.ofW (cc := cX5_copy) (maxL := 2) (ret := (some (.object "ScaleShop$Look"))) (by decide) rfl ?_
  intro p e s m args below meth c s₁ B hml hv
  obtain ⟨rfl, hsz, hP, hK, hD0, hXN⟩ := hv
  have hx := B.exec
  have hb := B.bytes
  have hr := B.returns
  have hts0 := atoms_spec (ws := .code yX5_copy cX5_copy 2 (some (.object "ScaleShop$Look")) :: ws0) B.pre
  have hts : ∀ w9 ∈ ws0, w9.before ([.ref lk] : List Value).toArray s = true := fun w9 h => hts0 w9 (List.mem_cons_of_mem _ h)
  have hown : s.vm.findClass "ScaleShop$Look" = some m.cls := findClass_of_methodNamed B.named
  have hlocks := B.notSynchronized
  subst hsz
  have hD := hD0.self (sz := s.heap.size)
  clear hD0
  generalize hAe : va_A [(oc4 lk kd9 st9 (.ref r) gb9 jt9 we9)] s.heap.size = A at hD ⊢
  have hA : ∀ q : Nat, s.heap.size ≤ q → A q := fun q h => by rw [← hAe]; exact Or.inr h
  clear hAe
  have hS : va_S A s.heap s.heap [] := va_S.rf
  have hP : va_P (dC, dI) classes [(oc4 lk kd9 st9 (.ref r) gb9 jt9 we9)] s.heap := hP
  obtain ⟨Q9, hQ9⟩ : ∃ Q9 : State → Prop, Q9 = MQ below (zQe (fun v9 t => ∃ (q : Nat), v9 = (some (.ref q)) ∧ va_P (dC, dI) classes [(oc4 lk kd9 st9 (.ref r) gb9 jt9 we9), (oc4 q kd9 st9 (.ref r) gb9 jt9 we9)] t.heap ∧ va_D A [(oc4 lk kd9 st9 (.ref r) gb9 jt9 we9), (oc4 q kd9 st9 (.ref r) gb9 jt9 we9)]) A) ([.ref lk] : List Value).toArray s 1 6 A := ⟨_, rfl⟩
  rw [← hQ9]
  have hl := lv_entry ([.ref lk]) (n := 2) (Nat.le_of_ble_eq_true rfl)
  rw [lg_entry_eq]
  generalize (lg_sl ([.ref lk]) ++ List.replicate (2 - (lg_sl ([.ref lk])).length) Slot.unset).toArray = ls at hl ⊢
  have hl : lv_has ls 2 [(0, .ref lk)] := hl
  refine va_new (ci := 4) (fs := [.int 0, .int 0, .null, .int 0, .int 0, .int 0]) (C := RX5) (T := TX5) (N := 6) hx hb hts inX5 tyX5 tyX5_ok hown (hts _ mw_742) (hts _ mw_373) (hts _ mw_112) hK hP hD hS hA rfl dfX5 (Nat.le_of_ble_eq_true rfl) (Nat.le_of_ble_eq_true rfl) dX5_copy_0 (fun q H hP hD hS => ?_)
  have hP : va_P (dC, dI) classes [(oc4 lk kd9 st9 (.ref r) gb9 jt9 we9), (oc4 q 0 0 .null 0 0 0)] H := hP
  have hD : va_D A [(oc4 lk kd9 st9 (.ref r) gb9 jt9 we9), (oc4 q 0 0 .null 0 0 0)] := hD
  refine lv_dup hx hb dX5_copy_3 rfl ?_
  refine lv_aload_n hx hb dX5_copy_4 rfl (lv_at hl 0 rfl) ?_
  refine va_get (D := (dC, dI)) (ci := 4) (v := .int kd9) (C := RX5) (T := TX5) (N := 6) hx hb hts inX5 hown hK hP 0 rfl rfl 0 (by decide) (hts _ mw_378) (fun _ h9 => h9) rfl dX5_copy_5 ?_
  have hPc := hP.sub (ws' := [(oc4 q 0 0 .null 0 0 0)]) [1] rfl
  have hDc := hD.sub (ws' := [(oc4 q 0 0 .null 0 0 0)]) [1] (by decide) rfl
  have hFc := va_free (wc := [(oc4 q 0 0 .null 0 0 0)]) hD hS hA [1] rfl
  refine zcall (st1 := [.ref q]) (va_runI (As := [.int kd9]) (rest := [.ref q]) ⟨hx, hb, hml, hown, hts⟩ (k_Look_init l dC dI cI cZ cF H.size q kd9 ) (cwI 1 hts (zz_gC mc_yX5_init) rfl rfl rfl (hts _ mw_112) (hts _ mw_743) (hts _ mw_375) rfl (by decide +kernel) ⟨Nat.le_of_ble_eq_true rfl, Nat.le_of_ble_eq_true rfl⟩) (zPS2 hPc hDc hK hXN) rfl rfl hl.1 rfl (lv_room (Nat.le_of_ble_eq_true rfl)) dX5_copy_8 ⟨Nat.le_of_ble_eq_true rfl, Nat.le_of_ble_eq_true rfl⟩) hS hFc hFc rfl (fun t H1 locs ht hB hk1 hS => ?_)
  obtain ⟨hP1, hD1⟩ := hB
  rw [ht] at hP1
  obtain ⟨hP, hD⟩ := va_join (wr := [(oc4 lk kd9 st9 (.ref r) gb9 jt9 we9)]) (w1 := [(oc4 q kd9 0 .null 0 (-1) 0)]) hP hD [1] [0] rfl rfl (by decide) (by decide) hk1 hFc hP1 hD1
  clear hk1 hPc hDc hFc hP1 hD1 ht
  generalize H1 = H at hP hS ⊢
  have hP : va_P (dC, dI) classes [(oc4 lk kd9 st9 (.ref r) gb9 jt9 we9), (oc4 q kd9 0 .null 0 (-1) 0)] H := hP
  have hD : va_D A [(oc4 lk kd9 st9 (.ref r) gb9 jt9 we9), (oc4 q kd9 0 .null 0 (-1) 0)] := hD
  refine lv_astore_n (lv' := [(1, .ref q), (0, .ref lk)]) hx hb dX5_copy_11 rfl hl (by decide) rfl (fun ls hl => ?_)
  refine lv_aload_n hx hb dX5_copy_12 rfl (lv_at hl 0 rfl) ?_
  refine lv_aload_n hx hb dX5_copy_13 rfl (lv_at hl 1 rfl) ?_
  refine va_get (D := (dC, dI)) (ci := 4) (v := .int st9) (C := RX5) (T := TX5) (N := 6) hx hb hts inX5 hown hK hP 0 rfl rfl 1 (by decide) (hts _ mw_384) (fun _ h9 => h9) rfl dX5_copy_14 ?_
  refine va_put (D := (dC, dI)) (ci := 4) (v := .int st9) (ty := .int) (C := RX5) (T := TX5) (N := 6) hx hb hts inX5 tyX5 tyX5_ok nmX5 hown hK hP hD hS 1 rfl rfl 1 (by decide) (hts _ mw_384) (fun _ h9 => h9) rfl (by decide +kernel) rfl rfl (Nat.le_of_ble_eq_true rfl) dX5_copy_17 (fun H locs hP hD hS => ?_)
  have hP : va_P (dC, dI) classes [(oc4 lk kd9 st9 (.ref r) gb9 jt9 we9), (oc4 q kd9 st9 .null 0 (-1) 0)] H := hP
  have hD : va_D A [(oc4 lk kd9 st9 (.ref r) gb9 jt9 we9), (oc4 q kd9 st9 .null 0 (-1) 0)] := hD
  refine lv_aload_n hx hb dX5_copy_20 rfl (lv_at hl 0 rfl) ?_
  refine lv_aload_n hx hb dX5_copy_21 rfl (lv_at hl 1 rfl) ?_
  refine va_get (D := (dC, dI)) (ci := 4) (v := .ref r) (C := RX5) (T := TX5) (N := 6) hx hb hts inX5 hown hK hP 0 rfl rfl 2 (by decide) (hts _ mw_388) (fun _ h9 => h9) rfl dX5_copy_22 ?_
  refine va_put (D := (dC, dI)) (ci := 4) (v := .ref r) (ty := .object "ScaleShop$Row") (C := RX5) (T := TX5) (N := 6) hx hb hts inX5 tyX5 tyX5_ok nmX5 hown hK hP hD hS 1 rfl rfl 2 (by decide) (hts _ mw_388) (fun _ h9 => h9) rfl (by decide +kernel) rfl rfl (Nat.le_of_ble_eq_true rfl) dX5_copy_25 (fun H locs hP hD hS => ?_)
  have hP : va_P (dC, dI) classes [(oc4 lk kd9 st9 (.ref r) gb9 jt9 we9), (oc4 q kd9 st9 (.ref r) 0 (-1) 0)] H := hP
  have hD : va_D A [(oc4 lk kd9 st9 (.ref r) gb9 jt9 we9), (oc4 q kd9 st9 (.ref r) 0 (-1) 0)] := hD
  refine lv_aload_n hx hb dX5_copy_28 rfl (lv_at hl 0 rfl) ?_
  refine lv_aload_n hx hb dX5_copy_29 rfl (lv_at hl 1 rfl) ?_
  refine va_get (D := (dC, dI)) (ci := 4) (v := .int gb9) (C := RX5) (T := TX5) (N := 6) hx hb hts inX5 hown hK hP 0 rfl rfl 3 (by decide) (hts _ mw_394) (fun _ h9 => h9) rfl dX5_copy_30 ?_
  refine va_put (D := (dC, dI)) (ci := 4) (v := .int gb9) (ty := .int) (C := RX5) (T := TX5) (N := 6) hx hb hts inX5 tyX5 tyX5_ok nmX5 hown hK hP hD hS 1 rfl rfl 3 (by decide) (hts _ mw_394) (fun _ h9 => h9) rfl (by decide +kernel) rfl rfl (Nat.le_of_ble_eq_true rfl) dX5_copy_33 (fun H locs hP hD hS => ?_)
  have hP : va_P (dC, dI) classes [(oc4 lk kd9 st9 (.ref r) gb9 jt9 we9), (oc4 q kd9 st9 (.ref r) gb9 (-1) 0)] H := hP
  have hD : va_D A [(oc4 lk kd9 st9 (.ref r) gb9 jt9 we9), (oc4 q kd9 st9 (.ref r) gb9 (-1) 0)] := hD
  refine lv_aload_n hx hb dX5_copy_36 rfl (lv_at hl 0 rfl) ?_
  refine lv_aload_n hx hb dX5_copy_37 rfl (lv_at hl 1 rfl) ?_
  refine va_get (D := (dC, dI)) (ci := 4) (v := .int jt9) (C := RX5) (T := TX5) (N := 6) hx hb hts inX5 hown hK hP 0 rfl rfl 4 (by decide) (hts _ mw_397) (fun _ h9 => h9) rfl dX5_copy_38 ?_
  refine va_put (D := (dC, dI)) (ci := 4) (v := .int jt9) (ty := .int) (C := RX5) (T := TX5) (N := 6) hx hb hts inX5 tyX5 tyX5_ok nmX5 hown hK hP hD hS 1 rfl rfl 4 (by decide) (hts _ mw_397) (fun _ h9 => h9) rfl (by decide +kernel) rfl rfl (Nat.le_of_ble_eq_true rfl) dX5_copy_41 (fun H locs hP hD hS => ?_)
  have hP : va_P (dC, dI) classes [(oc4 lk kd9 st9 (.ref r) gb9 jt9 we9), (oc4 q kd9 st9 (.ref r) gb9 jt9 0)] H := hP
  have hD : va_D A [(oc4 lk kd9 st9 (.ref r) gb9 jt9 we9), (oc4 q kd9 st9 (.ref r) gb9 jt9 0)] := hD
  refine lv_aload_n hx hb dX5_copy_44 rfl (lv_at hl 0 rfl) ?_
  refine lv_aload_n hx hb dX5_copy_45 rfl (lv_at hl 1 rfl) ?_
  refine va_get (D := (dC, dI)) (ci := 4) (v := .int we9) (C := RX5) (T := TX5) (N := 6) hx hb hts inX5 hown hK hP 0 rfl rfl 5 (by decide) (hts _ mw_399) (fun _ h9 => h9) rfl dX5_copy_46 ?_
  refine va_put (D := (dC, dI)) (ci := 4) (v := .int we9) (ty := .int) (C := RX5) (T := TX5) (N := 6) hx hb hts inX5 tyX5 tyX5_ok nmX5 hown hK hP hD hS 1 rfl rfl 5 (by decide) (hts _ mw_399) (fun _ h9 => h9) rfl (by decide +kernel) rfl rfl (Nat.le_of_ble_eq_true rfl) dX5_copy_49 (fun H locs hP hD hS => ?_)
  have hP : va_P (dC, dI) classes [(oc4 lk kd9 st9 (.ref r) gb9 jt9 we9), (oc4 q kd9 st9 (.ref r) gb9 jt9 we9)] H := hP
  have hD : va_D A [(oc4 lk kd9 st9 (.ref r) gb9 jt9 we9), (oc4 q kd9 st9 (.ref r) gb9 jt9 we9)] := hD
  refine lv_aload_n hx hb dX5_copy_52 rfl (lv_at hl 0 rfl) ?_
  have hP9 := hP.sub (ws' := [(oc4 lk kd9 st9 (.ref r) gb9 jt9 we9), (oc4 q kd9 st9 (.ref r) gb9 jt9 we9)]) [0, 1] rfl
  have hD9 := hD.sub (ws' := [(oc4 lk kd9 st9 (.ref r) gb9 jt9 we9), (oc4 q kd9 st9 (.ref r) gb9 jt9 we9)]) [0, 1] (by decide) rfl
  refine W.widen (k := 1) (n := 6) (by decide) (by decide) ?_
  rw [hQ9]
  exact W.aret hx hb hr (Or.inl ⟨_, rfl⟩) (Or.inr ⟨_, rfl⟩) (fun t ht hW => ⟨⟨_, rfl, q, rfl, by rw [ht]; exact hP9, hD9⟩, hS.F ht⟩) hS.2.2 dX5_copy_53
set_option maxHeartbeats 4000000 in
set_option maxRecDepth 100000 in
theorem k_Look_copy_n (l : Launch) (dC : Nat → ClassId) (dI : Nat → Nat → Nat) (cI cZ cF : ClassId) (sz : Nat) (lk : Nat) (kd9 : Int32) (st9 : Int32) (gb9 : Int32) (jt9 : Int32) (we9 : Int32) : Met l yX5_copy (.code yX5_copy cX5_copy 2 (some (.object "ScaleShop$Look")) :: ws0) ({ frames := 2, cells := 1, slots := 6, locals := 33 } : Room) (va_Pc [.ref lk] (zPre (dC, dI) classes (zTy cI cZ cF) [(oc4 lk kd9 st9 .null gb9 jt9 we9)] sz zXN)) (zQe (fun v9 t => ∃ (q : Nat), v9 = (some (.ref q)) ∧ va_P (dC, dI) classes [(oc4 lk kd9 st9 .null gb9 jt9 we9), (oc4 q kd9 st9 .null gb9 jt9 we9)] t.heap ∧ va_D (va_A [(oc4 lk kd9 st9 .null gb9 jt9 we9)] sz) [(oc4 lk kd9 st9 .null gb9 jt9 we9), (oc4 q kd9 st9 .null gb9 jt9 we9)]) (va_A [(oc4 lk kd9 st9 .null gb9 jt9 we9)] sz)) 1 6 (va_A [(oc4 lk kd9 st9 .null gb9 jt9 we9)] sz) := by
  refine Met.ofW (cc := cX5_copy) (maxL := 2) (ret := (some (.object "ScaleShop$Look"))) (by decide) rfl ?_
  intro p e s m args below meth c s₁ B hml hv
  obtain ⟨rfl, hsz, hP, hK, hD0, hXN⟩ := hv
  have hx := B.exec
  have hb := B.bytes
  have hr := B.returns
  have hts0 := atoms_spec (ws := .code yX5_copy cX5_copy 2 (some (.object "ScaleShop$Look")) :: ws0) B.pre
  have hts : ∀ w9 ∈ ws0, w9.before ([.ref lk] : List Value).toArray s = true := fun w9 h => hts0 w9 (List.mem_cons_of_mem _ h)
  have hown : s.vm.findClass "ScaleShop$Look" = some m.cls := findClass_of_methodNamed B.named
  have hlocks := B.notSynchronized
  subst hsz
  have hD := hD0.self (sz := s.heap.size)
  clear hD0
  generalize hAe : va_A [(oc4 lk kd9 st9 .null gb9 jt9 we9)] s.heap.size = A at hD ⊢
  have hA : ∀ q : Nat, s.heap.size ≤ q → A q := fun q h => by rw [← hAe]; exact Or.inr h
  clear hAe
  have hS : va_S A s.heap s.heap [] := va_S.rf
  have hP : va_P (dC, dI) classes [(oc4 lk kd9 st9 .null gb9 jt9 we9)] s.heap := hP
  obtain ⟨Q9, hQ9⟩ : ∃ Q9 : State → Prop, Q9 = MQ below (zQe (fun v9 t => ∃ (q : Nat), v9 = (some (.ref q)) ∧ va_P (dC, dI) classes [(oc4 lk kd9 st9 .null gb9 jt9 we9), (oc4 q kd9 st9 .null gb9 jt9 we9)] t.heap ∧ va_D A [(oc4 lk kd9 st9 .null gb9 jt9 we9), (oc4 q kd9 st9 .null gb9 jt9 we9)]) A) ([.ref lk] : List Value).toArray s 1 6 A := ⟨_, rfl⟩
  rw [← hQ9]
  have hl := lv_entry ([.ref lk]) (n := 2) (Nat.le_of_ble_eq_true rfl)
  rw [lg_entry_eq]
  generalize (lg_sl ([.ref lk]) ++ List.replicate (2 - (lg_sl ([.ref lk])).length) Slot.unset).toArray = ls at hl ⊢
  have hl : lv_has ls 2 [(0, .ref lk)] := hl
  refine va_new (ci := 4) (fs := [.int 0, .int 0, .null, .int 0, .int 0, .int 0]) (C := RX5) (T := TX5) (N := 6) hx hb hts inX5 tyX5 tyX5_ok hown (hts _ mw_742) (hts _ mw_373) (hts _ mw_112) hK hP hD hS hA rfl dfX5 (Nat.le_of_ble_eq_true rfl) (Nat.le_of_ble_eq_true rfl) dX5_copy_0 (fun q H hP hD hS => ?_)
  have hP : va_P (dC, dI) classes [(oc4 lk kd9 st9 .null gb9 jt9 we9), (oc4 q 0 0 .null 0 0 0)] H := hP
  have hD : va_D A [(oc4 lk kd9 st9 .null gb9 jt9 we9), (oc4 q 0 0 .null 0 0 0)] := hD
  refine lv_dup hx hb dX5_copy_3 rfl ?_
  refine lv_aload_n hx hb dX5_copy_4 rfl (lv_at hl 0 rfl) ?_
  refine va_get (D := (dC, dI)) (ci := 4) (v := .int kd9) (C := RX5) (T := TX5) (N := 6) hx hb hts inX5 hown hK hP 0 rfl rfl 0 (by decide) (hts _ mw_378) (fun _ h9 => h9) rfl dX5_copy_5 ?_
  have hPc := hP.sub (ws' := [(oc4 q 0 0 .null 0 0 0)]) [1] rfl
  have hDc := hD.sub (ws' := [(oc4 q 0 0 .null 0 0 0)]) [1] (by decide) rfl
  have hFc := va_free (wc := [(oc4 q 0 0 .null 0 0 0)]) hD hS hA [1] rfl
  refine zcall (st1 := [.ref q]) (va_runI (As := [.int kd9]) (rest := [.ref q]) ⟨hx, hb, hml, hown, hts⟩ (k_Look_init l dC dI cI cZ cF H.size q kd9 ) (cwI 1 hts (zz_gC mc_yX5_init) rfl rfl rfl (hts _ mw_112) (hts _ mw_743) (hts _ mw_375) rfl (by decide +kernel) ⟨Nat.le_of_ble_eq_true rfl, Nat.le_of_ble_eq_true rfl⟩) (zPS2 hPc hDc hK hXN) rfl rfl hl.1 rfl (lv_room (Nat.le_of_ble_eq_true rfl)) dX5_copy_8 ⟨Nat.le_of_ble_eq_true rfl, Nat.le_of_ble_eq_true rfl⟩) hS hFc hFc rfl (fun t H1 locs ht hB hk1 hS => ?_)
  obtain ⟨hP1, hD1⟩ := hB
  rw [ht] at hP1
  obtain ⟨hP, hD⟩ := va_join (wr := [(oc4 lk kd9 st9 .null gb9 jt9 we9)]) (w1 := [(oc4 q kd9 0 .null 0 (-1) 0)]) hP hD [1] [0] rfl rfl (by decide) (by decide) hk1 hFc hP1 hD1
  clear hk1 hPc hDc hFc hP1 hD1 ht
  generalize H1 = H at hP hS ⊢
  have hP : va_P (dC, dI) classes [(oc4 lk kd9 st9 .null gb9 jt9 we9), (oc4 q kd9 0 .null 0 (-1) 0)] H := hP
  have hD : va_D A [(oc4 lk kd9 st9 .null gb9 jt9 we9), (oc4 q kd9 0 .null 0 (-1) 0)] := hD
  refine lv_astore_n (lv' := [(1, .ref q), (0, .ref lk)]) hx hb dX5_copy_11 rfl hl (by decide) rfl (fun ls hl => ?_)
  refine lv_aload_n hx hb dX5_copy_12 rfl (lv_at hl 0 rfl) ?_
  refine lv_aload_n hx hb dX5_copy_13 rfl (lv_at hl 1 rfl) ?_
  refine va_get (D := (dC, dI)) (ci := 4) (v := .int st9) (C := RX5) (T := TX5) (N := 6) hx hb hts inX5 hown hK hP 0 rfl rfl 1 (by decide) (hts _ mw_384) (fun _ h9 => h9) rfl dX5_copy_14 ?_
  refine va_put (D := (dC, dI)) (ci := 4) (v := .int st9) (ty := .int) (C := RX5) (T := TX5) (N := 6) hx hb hts inX5 tyX5 tyX5_ok nmX5 hown hK hP hD hS 1 rfl rfl 1 (by decide) (hts _ mw_384) (fun _ h9 => h9) rfl (by decide +kernel) rfl rfl (Nat.le_of_ble_eq_true rfl) dX5_copy_17 (fun H locs hP hD hS => ?_)
  have hP : va_P (dC, dI) classes [(oc4 lk kd9 st9 .null gb9 jt9 we9), (oc4 q kd9 st9 .null 0 (-1) 0)] H := hP
  have hD : va_D A [(oc4 lk kd9 st9 .null gb9 jt9 we9), (oc4 q kd9 st9 .null 0 (-1) 0)] := hD
  refine lv_aload_n hx hb dX5_copy_20 rfl (lv_at hl 0 rfl) ?_
  refine lv_aload_n hx hb dX5_copy_21 rfl (lv_at hl 1 rfl) ?_
  refine va_get (D := (dC, dI)) (ci := 4) (v := .null) (C := RX5) (T := TX5) (N := 6) hx hb hts inX5 hown hK hP 0 rfl rfl 2 (by decide) (hts _ mw_388) (fun _ h9 => h9) rfl dX5_copy_22 ?_
  refine va_put (D := (dC, dI)) (ci := 4) (v := .null) (ty := .object "ScaleShop$Row") (C := RX5) (T := TX5) (N := 6) hx hb hts inX5 tyX5 tyX5_ok nmX5 hown hK hP hD hS 1 rfl rfl 2 (by decide) (hts _ mw_388) (fun _ h9 => h9) rfl (by decide +kernel) rfl rfl (Nat.le_of_ble_eq_true rfl) dX5_copy_25 (fun H locs hP hD hS => ?_)
  have hP : va_P (dC, dI) classes [(oc4 lk kd9 st9 .null gb9 jt9 we9), (oc4 q kd9 st9 .null 0 (-1) 0)] H := hP
  have hD : va_D A [(oc4 lk kd9 st9 .null gb9 jt9 we9), (oc4 q kd9 st9 .null 0 (-1) 0)] := hD
  refine lv_aload_n hx hb dX5_copy_28 rfl (lv_at hl 0 rfl) ?_
  refine lv_aload_n hx hb dX5_copy_29 rfl (lv_at hl 1 rfl) ?_
  refine va_get (D := (dC, dI)) (ci := 4) (v := .int gb9) (C := RX5) (T := TX5) (N := 6) hx hb hts inX5 hown hK hP 0 rfl rfl 3 (by decide) (hts _ mw_394) (fun _ h9 => h9) rfl dX5_copy_30 ?_
  refine va_put (D := (dC, dI)) (ci := 4) (v := .int gb9) (ty := .int) (C := RX5) (T := TX5) (N := 6) hx hb hts inX5 tyX5 tyX5_ok nmX5 hown hK hP hD hS 1 rfl rfl 3 (by decide) (hts _ mw_394) (fun _ h9 => h9) rfl (by decide +kernel) rfl rfl (Nat.le_of_ble_eq_true rfl) dX5_copy_33 (fun H locs hP hD hS => ?_)
  have hP : va_P (dC, dI) classes [(oc4 lk kd9 st9 .null gb9 jt9 we9), (oc4 q kd9 st9 .null gb9 (-1) 0)] H := hP
  have hD : va_D A [(oc4 lk kd9 st9 .null gb9 jt9 we9), (oc4 q kd9 st9 .null gb9 (-1) 0)] := hD
  refine lv_aload_n hx hb dX5_copy_36 rfl (lv_at hl 0 rfl) ?_
  refine lv_aload_n hx hb dX5_copy_37 rfl (lv_at hl 1 rfl) ?_
  refine va_get (D := (dC, dI)) (ci := 4) (v := .int jt9) (C := RX5) (T := TX5) (N := 6) hx hb hts inX5 hown hK hP 0 rfl rfl 4 (by decide) (hts _ mw_397) (fun _ h9 => h9) rfl dX5_copy_38 ?_
  refine va_put (D := (dC, dI)) (ci := 4) (v := .int jt9) (ty := .int) (C := RX5) (T := TX5) (N := 6) hx hb hts inX5 tyX5 tyX5_ok nmX5 hown hK hP hD hS 1 rfl rfl 4 (by decide) (hts _ mw_397) (fun _ h9 => h9) rfl (by decide +kernel) rfl rfl (Nat.le_of_ble_eq_true rfl) dX5_copy_41 (fun H locs hP hD hS => ?_)
  have hP : va_P (dC, dI) classes [(oc4 lk kd9 st9 .null gb9 jt9 we9), (oc4 q kd9 st9 .null gb9 jt9 0)] H := hP
  have hD : va_D A [(oc4 lk kd9 st9 .null gb9 jt9 we9), (oc4 q kd9 st9 .null gb9 jt9 0)] := hD
  refine lv_aload_n hx hb dX5_copy_44 rfl (lv_at hl 0 rfl) ?_
  refine lv_aload_n hx hb dX5_copy_45 rfl (lv_at hl 1 rfl) ?_
  refine va_get (D := (dC, dI)) (ci := 4) (v := .int we9) (C := RX5) (T := TX5) (N := 6) hx hb hts inX5 hown hK hP 0 rfl rfl 5 (by decide) (hts _ mw_399) (fun _ h9 => h9) rfl dX5_copy_46 ?_
  refine va_put (D := (dC, dI)) (ci := 4) (v := .int we9) (ty := .int) (C := RX5) (T := TX5) (N := 6) hx hb hts inX5 tyX5 tyX5_ok nmX5 hown hK hP hD hS 1 rfl rfl 5 (by decide) (hts _ mw_399) (fun _ h9 => h9) rfl (by decide +kernel) rfl rfl (Nat.le_of_ble_eq_true rfl) dX5_copy_49 (fun H locs hP hD hS => ?_)
  have hP : va_P (dC, dI) classes [(oc4 lk kd9 st9 .null gb9 jt9 we9), (oc4 q kd9 st9 .null gb9 jt9 we9)] H := hP
  have hD : va_D A [(oc4 lk kd9 st9 .null gb9 jt9 we9), (oc4 q kd9 st9 .null gb9 jt9 we9)] := hD
  refine lv_aload_n hx hb dX5_copy_52 rfl (lv_at hl 0 rfl) ?_
  have hP9 := hP.sub (ws' := [(oc4 lk kd9 st9 .null gb9 jt9 we9), (oc4 q kd9 st9 .null gb9 jt9 we9)]) [0, 1] rfl
  have hD9 := hD.sub (ws' := [(oc4 lk kd9 st9 .null gb9 jt9 we9), (oc4 q kd9 st9 .null gb9 jt9 we9)]) [0, 1] (by decide) rfl
  refine W.widen (k := 1) (n := 6) (by decide) (by decide) ?_
  rw [hQ9]
  exact W.aret hx hb hr (Or.inl ⟨_, rfl⟩) (Or.inr ⟨_, rfl⟩) (fun t ht hW => ⟨⟨_, rfl, q, rfl, by rw [ht]; exact hP9, hD9⟩, hS.F ht⟩) hS.2.2 dX5_copy_53
set_option maxHeartbeats 4000000 in
set_option maxRecDepth 100000 in
theorem k_Feature_init (l : Launch) (dC : Nat → ClassId) (dI : Nat → Nat → Nat) (cI cZ cF : ClassId) (sz : Nat) (fe : Nat) (cl9 : Nat) (kd9 : Int32) (rk9 : Int32) (wd9 : Int32) (tw9 : Int32) (hcl : (1 ≤ kd9.toInt ∧ kd9.toInt ≤ 5 ∧ cl9 = 40) ∨ (¬ (1 ≤ kd9.toInt ∧ kd9.toInt ≤ 5) ∧ cl9 = 1)) : Met l yX2_init (.code yX2_init cX2_init 5 none :: ws0) ({ frames := 2, cells := 4, slots := 2 * cl9 + 10, locals := 36 } : Room) (va_Pc [.ref fe, .int kd9, .int rk9, .int wd9, .int tw9] (zPre (dC, dI) classes (zTy cI cZ cF) [(oc1 fe 0 0 0 0 0 .null .null .null)] sz zXN)) (zQ none (fun t => ∃ (lo : Nat), ∃ (lx : Nat), ∃ (ly : Nat), ∃ (lk : Nat), va_P (dC, dI) classes [(oc1 fe rk9 wd9 tw9 (-1) (-1) (.ref lo) (.ref lk) .null), (oc6 lo (.ref lx) (.ref ly) (nI 0) 0), (oa lx cI cl9 (fun _ => 0)), (oa ly cI cl9 (fun _ => 0)), (oc4 lk kd9 0 .null 0 (-1) 0)] t.heap ∧ va_D (va_A [(oc1 fe 0 0 0 0 0 .null .null .null)] sz) [(oc1 fe rk9 wd9 tw9 (-1) (-1) (.ref lo) (.ref lk) .null), (oc6 lo (.ref lx) (.ref ly) (nI 0) 0), (oa lx cI cl9 (fun _ => 0)), (oa ly cI cl9 (fun _ => 0)), (oc4 lk kd9 0 .null 0 (-1) 0)]) (va_A [(oc1 fe 0 0 0 0 0 .null .null .null)] sz)) 4 (2 * cl9 + 10) (va_A [(oc1 fe 0 0 0 0 0 .null .null .null)] sz) := by
  refine Met.ofW (cc := cX2_init) (maxL := 5) (ret := none) (by decide) rfl ?_
  intro p e s m args below meth c s₁ B hml hv
  obtain ⟨rfl, hsz, hP, hK, hD0, hXN⟩ := hv
  have hx := B.exec
  have hb := B.bytes
  have hr := B.returns
  have hts0 := atoms_spec (ws := .code yX2_init cX2_init 5 none :: ws0) B.pre
  have hts : ∀ w9 ∈ ws0, w9.before ([.ref fe, .int kd9, .int rk9, .int wd9, .int tw9] : List Value).toArray s = true := fun w9 h => hts0 w9 (List.mem_cons_of_mem _ h)
  have hown : s.vm.findClass "ScaleShop$Feature" = some m.cls := findClass_of_methodNamed B.named
  have hlocks := B.notSynchronized
  have hin : meth.name = "<init>" := (name_of_methodNamed B.named B.method).1
  subst hsz
  have hD := hD0.self (sz := s.heap.size)
  clear hD0
  generalize hAe : va_A [(oc1 fe 0 0 0 0 0 .null .null .null)] s.heap.size = A at hD ⊢
  have hA : ∀ q : Nat, s.heap.size ≤ q → A q := fun q h => by rw [← hAe]; exact Or.inr h
  clear hAe
  have hS : va_S A s.heap s.heap [] := va_S.rf
  have hP : va_P (dC, dI) classes [(oc1 fe 0 0 0 0 0 .null .null .null)] s.heap := hP
  obtain ⟨Q9, hQ9⟩ : ∃ Q9 : State → Prop, Q9 = MQ below (zQ none (fun t => ∃ (lo : Nat), ∃ (lx : Nat), ∃ (ly : Nat), ∃ (lk : Nat), va_P (dC, dI) classes [(oc1 fe rk9 wd9 tw9 (-1) (-1) (.ref lo) (.ref lk) .null), (oc6 lo (.ref lx) (.ref ly) (nI 0) 0), (oa lx cI cl9 (fun _ => 0)), (oa ly cI cl9 (fun _ => 0)), (oc4 lk kd9 0 .null 0 (-1) 0)] t.heap ∧ va_D A [(oc1 fe rk9 wd9 tw9 (-1) (-1) (.ref lo) (.ref lk) .null), (oc6 lo (.ref lx) (.ref ly) (nI 0) 0), (oa lx cI cl9 (fun _ => 0)), (oa ly cI cl9 (fun _ => 0)), (oc4 lk kd9 0 .null 0 (-1) 0)]) A) ([.ref fe, .int kd9, .int rk9, .int wd9, .int tw9] : List Value).toArray s 4 (2 * cl9 + 10) A := ⟨_, rfl⟩
  rw [← hQ9]
  have hl := lv_entry ([.ref fe, .int kd9, .int rk9, .int wd9, .int tw9]) (n := 5) (Nat.le_of_ble_eq_true rfl)
  rw [lg_entry_eq]
  generalize (lg_sl ([.ref fe, .int kd9, .int rk9, .int wd9, .int tw9]) ++ List.replicate (5 - (lg_sl ([.ref fe, .int kd9, .int rk9, .int wd9, .int tw9])).length) Slot.unset).toArray = ls at hl ⊢
  have hl : lv_has ls 5 [(0, .ref fe), (1, .int kd9), (2, .int rk9), (3, .int wd9), (4, .int tw9)] := hl
  refine lv_aload_n hx hb dX2_init_0 rfl (lv_at hl 0 rfl) ?_
  refine W.objInit hx hb hown (hts _ mw_369) (hts _ mw_126) (hts _ mw_objcode) rfl (by rw [hml]; exact hl.1) rfl dX2_init_1 (Nat.le_of_ble_eq_true rfl) (Nat.le_of_ble_eq_true rfl) ?_
  refine W.eq (g2 := F0 m 4 ls []) rfl ?_
  refine lv_aload_n hx hb dX2_init_4 rfl (lv_at hl 0 rfl) ?_
  refine lv_iconst (v := (-1)) hx hb dX2_init_5 (by decide) ?_
  refine va_put (D := (dC, dI)) (ci := 1) (v := .int (-1)) (ty := .int) (C := RX2) (T := TX2) (N := 8) hx hb hts inX2 tyX2 tyX2_ok nmX2 hown hK hP hD hS 0 rfl rfl 3 (by decide) (hts _ mw_422) (fun _ h9 => h9) rfl (by decide +kernel) rfl rfl (Nat.le_of_ble_eq_true rfl) dX2_init_6 (fun H locs hP hD hS => ?_)
  have hP : va_P (dC, dI) classes [(oc1 fe 0 0 0 (-1) 0 .null .null .null)] H := hP
  have hD : va_D A [(oc1 fe 0 0 0 (-1) 0 .null .null .null)] := hD
  refine lv_aload_n hx hb dX2_init_9 rfl (lv_at hl 0 rfl) ?_
  refine lv_iconst (v := (-1)) hx hb dX2_init_10 (by decide) ?_
  refine va_put (D := (dC, dI)) (ci := 1) (v := .int (-1)) (ty := .int) (C := RX2) (T := TX2) (N := 8) hx hb hts inX2 tyX2 tyX2_ok nmX2 hown hK hP hD hS 0 rfl rfl 4 (by decide) (hts _ mw_424) (fun _ h9 => h9) rfl (by decide +kernel) rfl rfl (Nat.le_of_ble_eq_true rfl) dX2_init_11 (fun H locs hP hD hS => ?_)
  have hP : va_P (dC, dI) classes [(oc1 fe 0 0 0 (-1) (-1) .null .null .null)] H := hP
  have hD : va_D A [(oc1 fe 0 0 0 (-1) (-1) .null .null .null)] := hD
  refine lv_aload_n hx hb dX2_init_14 rfl (lv_at hl 0 rfl) ?_
  refine lv_null hx hb dX2_init_15 ?_
  refine va_put (D := (dC, dI)) (ci := 1) (v := .null) (ty := .object "ScaleShop$Look") (C := RX2) (T := TX2) (N := 8) hx hb hts inX2 tyX2 tyX2_ok nmX2 hown hK hP hD hS 0 rfl rfl 7 (by decide) (hts _ mw_436) (fun _ h9 => h9) rfl (by decide +kernel) rfl rfl (Nat.le_of_ble_eq_true rfl) dX2_init_16 (fun H locs hP hD hS => ?_)
  have hP : va_P (dC, dI) classes [(oc1 fe 0 0 0 (-1) (-1) .null .null .null)] H := hP
  have hD : va_D A [(oc1 fe 0 0 0 (-1) (-1) .null .null .null)] := hD
  refine lv_aload_n hx hb dX2_init_19 rfl (lv_at hl 0 rfl) ?_
  refine lv_iload_n hx hb dX2_init_20 rfl (lv_at hl 2 rfl) ?_
  refine va_putF (D := (dC, dI)) (ci := 1) (v := .int rk9) (ty := .int) (C := RX2) (T := TX2) (N := 8) hx hb hts inX2 tyX2 tyX2_ok nmX2 hown hK hP hD hS 0 rfl rfl 0 (by decide) (hts _ mw_415) (fun _ h9 => h9) rfl hin rfl (by decide +kernel) rfl rfl (Nat.le_of_ble_eq_true rfl) dX2_init_21 (fun H locs hP hD hS => ?_)
  have hP : va_P (dC, dI) classes [(oc1 fe rk9 0 0 (-1) (-1) .null .null .null)] H := hP
  have hD : va_D A [(oc1 fe rk9 0 0 (-1) (-1) .null .null .null)] := hD
  refine lv_aload_n hx hb dX2_init_24 rfl (lv_at hl 0 rfl) ?_
  refine lv_iload_n hx hb dX2_init_25 rfl (lv_at hl 3 rfl) ?_
  refine va_putF (D := (dC, dI)) (ci := 1) (v := .int wd9) (ty := .int) (C := RX2) (T := TX2) (N := 8) hx hb hts inX2 tyX2 tyX2_ok nmX2 hown hK hP hD hS 0 rfl rfl 1 (by decide) (hts _ mw_418) (fun _ h9 => h9) rfl hin rfl (by decide +kernel) rfl rfl (Nat.le_of_ble_eq_true rfl) dX2_init_26 (fun H locs hP hD hS => ?_)
  have hP : va_P (dC, dI) classes [(oc1 fe rk9 wd9 0 (-1) (-1) .null .null .null)] H := hP
  have hD : va_D A [(oc1 fe rk9 wd9 0 (-1) (-1) .null .null .null)] := hD
  refine lv_aload_n hx hb dX2_init_29 rfl (lv_at hl 0 rfl) ?_
  refine lv_iload hx hb dX2_init_30 (lv_at hl 4 rfl) ?_
  refine va_putF (D := (dC, dI)) (ci := 1) (v := .int tw9) (ty := .int) (C := RX2) (T := TX2) (N := 8) hx hb hts inX2 tyX2 tyX2_ok nmX2 hown hK hP hD hS 0 rfl rfl 2 (by decide) (hts _ mw_420) (fun _ h9 => h9) rfl hin rfl (by decide +kernel) rfl rfl (Nat.le_of_ble_eq_true rfl) dX2_init_32 (fun H locs hP hD hS => ?_)
  have hP : va_P (dC, dI) classes [(oc1 fe rk9 wd9 tw9 (-1) (-1) .null .null .null)] H := hP
  have hD : va_D A [(oc1 fe rk9 wd9 tw9 (-1) (-1) .null .null .null)] := hD
  refine lv_aload_n hx hb dX2_init_35 rfl (lv_at hl 0 rfl) ?_
  refine va_new (ci := 6) (fs := [.null, .null, .int 0, .int 0]) (C := RX7) (T := TX7) (N := 4) hx hb hts inX7 tyX7 tyX7_ok hown (hts _ mw_370) (hts _ mw_153) (hts _ mw_102) hK hP hD hS hA rfl dfX7 (show 1 ≤ 4 by omega) (show 4 ≤ 2 * cl9 + 10 by omega) dX2_init_36 (fun lo H hP hD hS => ?_)
  have hP : va_P (dC, dI) classes [(oc1 fe rk9 wd9 tw9 (-1) (-1) .null .null .null), (oc6 lo .null .null 0 0)] H := hP
  have hD : va_D A [(oc1 fe rk9 wd9 tw9 (-1) (-1) .null .null .null), (oc6 lo .null .null 0 0)] := hD
  refine lv_dup hx hb dX2_init_39 rfl ?_
  have hj_1 : W p l e ((headSpec (.code yX2_init cX2_init 5 none :: ws0) ({ frames := 2, cells := 4, slots := 2 * cl9 + 10, locals := 36 } : Room)).room) s m ([.ref fe, .int kd9, .int rk9, .int wd9, .int tw9] : List Value).toArray below meth c H locs 1 4 Q9 (F0 m 55 ls [.int (nI cl9), .ref lo, .ref lo, .ref fe]) := by
    refine lv_iconst (v := 0) hx hb dX2_init_55 (by decide) ?_
    have hPc := hP.sub (ws' := [(oc6 lo .null .null 0 0)]) [1] rfl
    have hDc := hD.sub (ws' := [(oc6 lo .null .null 0 0)]) [1] (by decide) rfl
    have hFc := va_free (wc := [(oc6 lo .null .null 0 0)]) hD hS hA [1] rfl
    refine zcall (st1 := [.ref lo, .ref fe]) (va_runI (As := [.int (nI cl9), .int 0]) (rest := [.ref lo, .ref fe]) ⟨hx, hb, hml, hown, hts⟩ (k_Row_init l dC dI cI cZ cF H.size lo cl9 0 (by omega) (Or.inl rfl)) (cwI 2 hts (zz_gC mc_yX7_init) rfl rfl rfl (hts _ mw_102) (hts _ mw_371) (hts _ mw_155) rfl (by decide +kernel) ⟨Nat.le_of_ble_eq_true rfl, Nat.le_of_ble_eq_true rfl⟩) (zPS2 hPc hDc hK hXN) rfl rfl hl.1 rfl (lv_room (Nat.le_of_ble_eq_true rfl)) dX2_init_56 ⟨show (1 + 2) ≤ 4 by omega, show (4 + (2 * cl9)) ≤ 2 * cl9 + 10 by omega⟩) hS hFc hFc rfl (fun t H1 locs ht hB hk1 hS => ?_)
    obtain ⟨lx, ly, hP1, hD1⟩ := hB
    rw [ht] at hP1
    obtain ⟨hP, hD⟩ := va_join (wr := [(oc1 fe rk9 wd9 tw9 (-1) (-1) .null .null .null)]) (w1 := [(oc6 lo (.ref lx) (.ref ly) (nI 0) 0), (oa lx cI cl9 (fun _ => 0)), (oa ly cI cl9 (fun _ => 0))]) hP hD [1] [0] rfl rfl (by decide) (by decide) hk1 hFc hP1 hD1
    clear hk1 hPc hDc hFc hP1 hD1 ht
    generalize H1 = H at hP hS ⊢
    have hP : va_P (dC, dI) classes [(oc1 fe rk9 wd9 tw9 (-1) (-1) .null .null .null), (oc6 lo (.ref lx) (.ref ly) (nI 0) 0), (oa lx cI cl9 (fun _ => 0)), (oa ly cI cl9 (fun _ => 0))] H := hP
    have hD : va_D A [(oc1 fe rk9 wd9 tw9 (-1) (-1) .null .null .null), (oc6 lo (.ref lx) (.ref ly) (nI 0) 0), (oa lx cI cl9 (fun _ => 0)), (oa ly cI cl9 (fun _ => 0))] := hD
    refine va_putF (D := (dC, dI)) (ci := 1) (v := .ref lo) (ty := .object "ScaleShop$Row") (C := RX2) (T := TX2) (N := 8) hx hb hts inX2 tyX2 tyX2_ok nmX2 hown hK hP hD hS 0 rfl rfl 5 (by decide) (hts _ mw_426) (fun _ h9 => h9) rfl hin rfl (by decide +kernel) rfl rfl (Nat.le_of_ble_eq_true rfl) dX2_init_59 (fun H locs hP hD hS => ?_)
    have hP : va_P (dC, dI) classes [(oc1 fe rk9 wd9 tw9 (-1) (-1) (.ref lo) .null .null), (oc6 lo (.ref lx) (.ref ly) (nI 0) 0), (oa lx cI cl9 (fun _ => 0)), (oa ly cI cl9 (fun _ => 0))] H := hP
    have hD : va_D A [(oc1 fe rk9 wd9 tw9 (-1) (-1) (.ref lo) .null .null), (oc6 lo (.ref lx) (.ref ly) (nI 0) 0), (oa lx cI cl9 (fun _ => 0)), (oa ly cI cl9 (fun _ => 0))] := hD
    refine lv_aload_n hx hb dX2_init_62 rfl (lv_at hl 0 rfl) ?_
    refine va_new (ci := 4) (fs := [.int 0, .int 0, .null, .int 0, .int 0, .int 0]) (C := RX5) (T := TX5) (N := 6) hx hb hts inX5 tyX5 tyX5_ok hown (hts _ mw_372) (hts _ mw_373) (hts _ mw_112) hK hP hD hS hA rfl dfX5 (show ((1 + 2) + 1) ≤ 4 by omega) (show ((4 + (2 * cl9)) + 6) ≤ 2 * cl9 + 10 by omega) dX2_init_63 (fun lk H hP hD hS => ?_)
    have hP : va_P (dC, dI) classes [(oc1 fe rk9 wd9 tw9 (-1) (-1) (.ref lo) .null .null), (oc6 lo (.ref lx) (.ref ly) (nI 0) 0), (oa lx cI cl9 (fun _ => 0)), (oa ly cI cl9 (fun _ => 0)), (oc4 lk 0 0 .null 0 0 0)] H := hP
    have hD : va_D A [(oc1 fe rk9 wd9 tw9 (-1) (-1) (.ref lo) .null .null), (oc6 lo (.ref lx) (.ref ly) (nI 0) 0), (oa lx cI cl9 (fun _ => 0)), (oa ly cI cl9 (fun _ => 0)), (oc4 lk 0 0 .null 0 0 0)] := hD
    refine lv_dup hx hb dX2_init_66 rfl ?_
    refine lv_iload_n hx hb dX2_init_67 rfl (lv_at hl 1 rfl) ?_
    have hPc := hP.sub (ws' := [(oc4 lk 0 0 .null 0 0 0)]) [4] rfl
    have hDc := hD.sub (ws' := [(oc4 lk 0 0 .null 0 0 0)]) [4] (by decide) rfl
    have hFc := va_free (wc := [(oc4 lk 0 0 .null 0 0 0)]) hD hS hA [4] rfl
    refine zcall (st1 := [.ref lk, .ref fe]) (va_runI (As := [.int kd9]) (rest := [.ref lk, .ref fe]) ⟨hx, hb, hml, hown, hts⟩ (k_Look_init l dC dI cI cZ cF H.size lk kd9 ) (cwI 1 hts (zz_gC mc_yX5_init) rfl rfl rfl (hts _ mw_112) (hts _ mw_374) (hts _ mw_375) rfl (by decide +kernel) ⟨Nat.le_of_ble_eq_true rfl, Nat.le_of_ble_eq_true rfl⟩) (zPS2 hPc hDc hK hXN) rfl rfl hl.1 rfl (lv_room (Nat.le_of_ble_eq_true rfl)) dX2_init_68 ⟨show ((1 + 2) + 1) ≤ 4 by omega, show ((4 + (2 * cl9)) + 6) ≤ 2 * cl9 + 10 by omega⟩) hS hFc hFc rfl (fun t H1 locs ht hB hk1 hS => ?_)
    obtain ⟨hP1, hD1⟩ := hB
    rw [ht] at hP1
    obtain ⟨hP, hD⟩ := va_join (wr := [(oc1 fe rk9 wd9 tw9 (-1) (-1) (.ref lo) .null .null), (oc6 lo (.ref lx) (.ref ly) (nI 0) 0), (oa lx cI cl9 (fun _ => 0)), (oa ly cI cl9 (fun _ => 0))]) (w1 := [(oc4 lk kd9 0 .null 0 (-1) 0)]) hP hD [4] [0, 1, 2, 3] rfl rfl (by decide) (by decide) hk1 hFc hP1 hD1
    clear hk1 hPc hDc hFc hP1 hD1 ht
    generalize H1 = H at hP hS ⊢
    have hP : va_P (dC, dI) classes [(oc1 fe rk9 wd9 tw9 (-1) (-1) (.ref lo) .null .null), (oc6 lo (.ref lx) (.ref ly) (nI 0) 0), (oa lx cI cl9 (fun _ => 0)), (oa ly cI cl9 (fun _ => 0)), (oc4 lk kd9 0 .null 0 (-1) 0)] H := hP
    have hD : va_D A [(oc1 fe rk9 wd9 tw9 (-1) (-1) (.ref lo) .null .null), (oc6 lo (.ref lx) (.ref ly) (nI 0) 0), (oa lx cI cl9 (fun _ => 0)), (oa ly cI cl9 (fun _ => 0)), (oc4 lk kd9 0 .null 0 (-1) 0)] := hD
    refine va_put (D := (dC, dI)) (ci := 1) (v := .ref lk) (ty := .object "ScaleShop$Look") (C := RX2) (T := TX2) (N := 8) hx hb hts inX2 tyX2 tyX2_ok nmX2 hown hK hP hD hS 0 rfl rfl 6 (by decide) (hts _ mw_429) (fun _ h9 => h9) rfl (by decide +kernel) rfl rfl (Nat.le_of_ble_eq_true rfl) dX2_init_71 (fun H locs hP hD hS => ?_)
    have hP : va_P (dC, dI) classes [(oc1 fe rk9 wd9 tw9 (-1) (-1) (.ref lo) (.ref lk) .null), (oc6 lo (.ref lx) (.ref ly) (nI 0) 0), (oa lx cI cl9 (fun _ => 0)), (oa ly cI cl9 (fun _ => 0)), (oc4 lk kd9 0 .null 0 (-1) 0)] H := hP
    have hD : va_D A [(oc1 fe rk9 wd9 tw9 (-1) (-1) (.ref lo) (.ref lk) .null), (oc6 lo (.ref lx) (.ref ly) (nI 0) 0), (oa lx cI cl9 (fun _ => 0)), (oa ly cI cl9 (fun _ => 0)), (oc4 lk kd9 0 .null 0 (-1) 0)] := hD
    have hP9 := hP.sub (ws' := [(oc1 fe rk9 wd9 tw9 (-1) (-1) (.ref lo) (.ref lk) .null), (oc6 lo (.ref lx) (.ref ly) (nI 0) 0), (oa lx cI cl9 (fun _ => 0)), (oa ly cI cl9 (fun _ => 0)), (oc4 lk kd9 0 .null 0 (-1) 0)]) [0, 1, 2, 3, 4] rfl
    have hD9 := hD.sub (ws' := [(oc1 fe rk9 wd9 tw9 (-1) (-1) (.ref lo) (.ref lk) .null), (oc6 lo (.ref lx) (.ref ly) (nI 0) 0), (oa lx cI cl9 (fun _ => 0)), (oa ly cI cl9 (fun _ => 0)), (oc4 lk kd9 0 .null 0 (-1) 0)]) [0, 1, 2, 3, 4] (by decide) rfl
    refine W.widen (k := 4) (n := 2 * cl9 + 10) (by omega) (by omega) ?_
    rw [hQ9]
    exact W.vret hx hb hr (fun t ht hW => ⟨⟨rfl, lo, lx, ly, lk, by rw [ht]; exact hP9, hD9⟩, hS.F ht⟩) hS.2.2 dX2_init_74
  refine lv_iload_n hx hb dX2_init_40 rfl (lv_at hl 1 rfl) ?_
  refine lv_if_le (tgt := 54) hx hb dX2_init_41 (by decide) (fun c_2 => ?_) (fun c_2 => ?_)
  · have c_2 : kd9.toInt ≤ 0 := zc_le rfl (by decide) c_2
    refine lv_iconst (v := 1) hx hb dX2_init_54 (by decide) ?_
    refine zz_i (v := nI cl9) (by first | (rw [show cl9 = 40 by omega]; rfl) | (rw [show cl9 = 1 by omega]; rfl)) ?_
    exact hj_1 
  · have c_2 : 0 < kd9.toInt := zc_nle rfl (by decide) c_2
    refine lv_iload_n hx hb dX2_init_44 rfl (lv_at hl 1 rfl) ?_
    refine lv_iconst (v := 5) hx hb dX2_init_45 (by decide) ?_
    refine lv_icmp_gt (tgt := 54) hx hb dX2_init_46 (by decide) (fun c_3 => ?_) (fun c_3 => ?_)
    · have c_3 : 5 < kd9.toInt := zc_lt (by decide) rfl c_3
      refine lv_iconst (v := 1) hx hb dX2_init_54 (by decide) ?_
      refine zz_i (v := nI cl9) (by first | (rw [show cl9 = 40 by omega]; rfl) | (rw [show cl9 = 1 by omega]; rfl)) ?_
      exact hj_1 
    · have c_3 : kd9.toInt ≤ 5 := zc_nlt (by decide) rfl c_3
      refine lv_bipush (v := 40) hx hb dX2_init_49 (by decide) ?_
      refine lv_goto (tgt := 55) hx hb dX2_init_51 (by decide) ?_
      refine zz_i (v := nI cl9) (by first | (rw [show cl9 = 40 by omega]; rfl) | (rw [show cl9 = 1 by omega]; rfl)) ?_
      exact hj_1 
set_option maxHeartbeats 4000000 in
set_option maxRecDepth 100000 in
theorem k_Feature_bends_r (l : Launch) (dC : Nat → ClassId) (dI : Nat → Nat → Nat) (cI cZ cF : ClassId) (sz : Nat) (fe : Nat) (lo : Nat) (rk9 : Int32) (wd9 : Int32) (tw9 : Int32) (pa9 : Int32) (pb9 : Int32) (lk : Nat) (kd9 : Int32) (st9 : Int32) (gb9 : Int32) (jt9 : Int32) (we9 : Int32) (r : Nat) : Met l yX2_bends (.code yX2_bends cX2_bends 1 (some .boolean) :: ws0) ({ frames := 0, cells := 0, slots := 0, locals := 0 } : Room) (va_Pc [.ref fe] (zPre (dC, dI) classes (zTy cI cZ cF) [(oc1 fe rk9 wd9 tw9 pa9 pb9 (.ref lo) (.ref lk) .null), (oc4 lk kd9 st9 (.ref r) gb9 jt9 we9)] sz zXN)) (zQ (some (.int (pI (1 ≤ kd9.toInt ∧ kd9.toInt ≤ 5)))) (fun t => va_P (dC, dI) classes [(oc1 fe rk9 wd9 tw9 pa9 pb9 (.ref lo) (.ref lk) .null), (oc4 lk kd9 st9 (.ref r) gb9 jt9 we9)] t.heap ∧ va_D (va_A [(oc1 fe rk9 wd9 tw9 pa9 pb9 (.ref lo) (.ref lk) .null), (oc4 lk kd9 st9 (.ref r) gb9 jt9 we9)] sz) [(oc1 fe rk9 wd9 tw9 pa9 pb9 (.ref lo) (.ref lk) .null), (oc4 lk kd9 st9 (.ref r) gb9 jt9 we9)]) (va_A [(oc1 fe rk9 wd9 tw9 pa9 pb9 (.ref lo) (.ref lk) .null), (oc4 lk kd9 st9 (.ref r) gb9 jt9 we9)] sz)) 0 0 (va_A [(oc1 fe rk9 wd9 tw9 pa9 pb9 (.ref lo) (.ref lk) .null), (oc4 lk kd9 st9 (.ref r) gb9 jt9 we9)] sz) := by
  refine Met.ofW (cc := cX2_bends) (maxL := 1) (ret := (some .boolean)) (by decide) rfl ?_
  intro p e s m args below meth c s₁ B hml hv
  obtain ⟨rfl, hsz, hP, hK, hD0, hXN⟩ := hv
  have hx := B.exec
  have hb := B.bytes
  have hr := B.returns
  have hts0 := atoms_spec (ws := .code yX2_bends cX2_bends 1 (some .boolean) :: ws0) B.pre
  have hts : ∀ w9 ∈ ws0, w9.before ([.ref fe] : List Value).toArray s = true := fun w9 h => hts0 w9 (List.mem_cons_of_mem _ h)
  have hown : s.vm.findClass "ScaleShop$Feature" = some m.cls := findClass_of_methodNamed B.named
  have hlocks := B.notSynchronized
  subst hsz
  have hD := hD0.self (sz := s.heap.size)
  clear hD0
  generalize hAe : va_A [(oc1 fe rk9 wd9 tw9 pa9 pb9 (.ref lo) (.ref lk) .null), (oc4 lk kd9 st9 (.ref r) gb9 jt9 we9)] s.heap.size = A at hD ⊢
  have hA : ∀ q : Nat, s.heap.size ≤ q → A q := fun q h => by rw [← hAe]; exact Or.inr h
  clear hAe
  have hS : va_S A s.heap s.heap [] := va_S.rf
  have hP : va_P (dC, dI) classes [(oc1 fe rk9 wd9 tw9 pa9 pb9 (.ref lo) (.ref lk) .null), (oc4 lk kd9 st9 (.ref r) gb9 jt9 we9)] s.heap := hP
  obtain ⟨Q9, hQ9⟩ : ∃ Q9 : State → Prop, Q9 = MQ below (zQ (some (.int (pI (1 ≤ kd9.toInt ∧ kd9.toInt ≤ 5)))) (fun t => va_P (dC, dI) classes [(oc1 fe rk9 wd9 tw9 pa9 pb9 (.ref lo) (.ref lk) .null), (oc4 lk kd9 st9 (.ref r) gb9 jt9 we9)] t.heap ∧ va_D A [(oc1 fe rk9 wd9 tw9 pa9 pb9 (.ref lo) (.ref lk) .null), (oc4 lk kd9 st9 (.ref r) gb9 jt9 we9)]) A) ([.ref fe] : List Value).toArray s 0 0 A := ⟨_, rfl⟩
  rw [← hQ9]
  have hl := lv_entry ([.ref fe]) (n := 1) (Nat.le_of_ble_eq_true rfl)
  rw [lg_entry_eq]
  generalize (lg_sl ([.ref fe]) ++ List.replicate (1 - (lg_sl ([.ref fe])).length) Slot.unset).toArray = ls at hl ⊢
  have hl : lv_has ls 1 [(0, .ref fe)] := hl
  refine lv_aload_n hx hb dX2_bends_0 rfl (lv_at hl 0 rfl) ?_
  refine va_get (D := (dC, dI)) (ci := 1) (v := .ref lk) (C := RX2) (T := TX2) (N := 8) hx hb hts inX2 hown hK hP 0 rfl rfl 6 (by decide) (hts _ mw_429) (fun _ h9 => h9) rfl dX2_bends_1 ?_
  refine va_get (D := (dC, dI)) (ci := 4) (v := .int kd9) (C := RX5) (T := TX5) (N := 6) hx hb hts inX5 hown hK hP 1 rfl rfl 0 (by decide) (hts _ mw_379) (fun _ h9 => h9) rfl dX2_bends_4 ?_
  refine lv_if_le (tgt := 25) hx hb dX2_bends_7 (by decide) (fun c_1 => ?_) (fun c_1 => ?_)
  · have c_1 : kd9.toInt ≤ 0 := zc_le rfl (by decide) c_1
    refine lv_iconst (v := 0) hx hb dX2_bends_25 (by decide) ?_
    have hP9 := hP.sub (ws' := [(oc1 fe rk9 wd9 tw9 pa9 pb9 (.ref lo) (.ref lk) .null), (oc4 lk kd9 st9 (.ref r) gb9 jt9 we9)]) [0, 1] rfl
    have hD9 := hD.sub (ws' := [(oc1 fe rk9 wd9 tw9 pa9 pb9 (.ref lo) (.ref lk) .null), (oc4 lk kd9 st9 (.ref r) gb9 jt9 we9)]) [0, 1] (by decide) rfl
    rw [hQ9]
    exact W.zret (ty := .boolean) (v := 0) hx hb hr (rfl) (fun t ht hW => ⟨⟨congrArg (fun z => Outcome.returned (some (Value.int z))) (show (0 : Int32) = pI (1 ≤ kd9.toInt ∧ kd9.toInt ≤ 5) from (zp_f (by omega)).symm), by rw [ht]; exact hP9, hD9⟩, hS.F ht⟩) hS.2.2 dX2_bends_26
  · have c_1 : 0 < kd9.toInt := zc_nle rfl (by decide) c_1
    refine lv_aload_n hx hb dX2_bends_10 rfl (lv_at hl 0 rfl) ?_
    refine va_get (D := (dC, dI)) (ci := 1) (v := .ref lk) (C := RX2) (T := TX2) (N := 8) hx hb hts inX2 hown hK hP 0 rfl rfl 6 (by decide) (hts _ mw_429) (fun _ h9 => h9) rfl dX2_bends_11 ?_
    refine va_get (D := (dC, dI)) (ci := 4) (v := .int kd9) (C := RX5) (T := TX5) (N := 6) hx hb hts inX5 hown hK hP 1 rfl rfl 0 (by decide) (hts _ mw_379) (fun _ h9 => h9) rfl dX2_bends_14 ?_
    refine lv_iconst (v := 5) hx hb dX2_bends_17 (by decide) ?_
    refine lv_icmp_gt (tgt := 25) hx hb dX2_bends_18 (by decide) (fun c_2 => ?_) (fun c_2 => ?_)
    · have c_2 : 5 < kd9.toInt := zc_lt (by decide) rfl c_2
      refine lv_iconst (v := 0) hx hb dX2_bends_25 (by decide) ?_
      have hP9 := hP.sub (ws' := [(oc1 fe rk9 wd9 tw9 pa9 pb9 (.ref lo) (.ref lk) .null), (oc4 lk kd9 st9 (.ref r) gb9 jt9 we9)]) [0, 1] rfl
      have hD9 := hD.sub (ws' := [(oc1 fe rk9 wd9 tw9 pa9 pb9 (.ref lo) (.ref lk) .null), (oc4 lk kd9 st9 (.ref r) gb9 jt9 we9)]) [0, 1] (by decide) rfl
      rw [hQ9]
      exact W.zret (ty := .boolean) (v := 0) hx hb hr (rfl) (fun t ht hW => ⟨⟨congrArg (fun z => Outcome.returned (some (Value.int z))) (show (0 : Int32) = pI (1 ≤ kd9.toInt ∧ kd9.toInt ≤ 5) from (zp_f (by omega)).symm), by rw [ht]; exact hP9, hD9⟩, hS.F ht⟩) hS.2.2 dX2_bends_26
    · have c_2 : kd9.toInt ≤ 5 := zc_nlt (by decide) rfl c_2
      refine lv_iconst (v := 1) hx hb dX2_bends_21 (by decide) ?_
      refine lv_goto (tgt := 26) hx hb dX2_bends_22 (by decide) ?_
      have hP9 := hP.sub (ws' := [(oc1 fe rk9 wd9 tw9 pa9 pb9 (.ref lo) (.ref lk) .null), (oc4 lk kd9 st9 (.ref r) gb9 jt9 we9)]) [0, 1] rfl
      have hD9 := hD.sub (ws' := [(oc1 fe rk9 wd9 tw9 pa9 pb9 (.ref lo) (.ref lk) .null), (oc4 lk kd9 st9 (.ref r) gb9 jt9 we9)]) [0, 1] (by decide) rfl
      rw [hQ9]
      exact W.zret (ty := .boolean) (v := 1) hx hb hr (rfl) (fun t ht hW => ⟨⟨congrArg (fun z => Outcome.returned (some (Value.int z))) (show (1 : Int32) = pI (1 ≤ kd9.toInt ∧ kd9.toInt ≤ 5) from (zp_t (by omega)).symm), by rw [ht]; exact hP9, hD9⟩, hS.F ht⟩) hS.2.2 dX2_bends_26
set_option maxHeartbeats 4000000 in
set_option maxRecDepth 100000 in
theorem k_Feature_mayHaveCorner_r (l : Launch) (dC : Nat → ClassId) (dI : Nat → Nat → Nat) (cI cZ cF : ClassId) (sz : Nat) (fe : Nat) (lo : Nat) (rk9 : Int32) (wd9 : Int32) (tw9 : Int32) (pa9 : Int32) (pb9 : Int32) (lk : Nat) (kd9 : Int32) (st9 : Int32) (gb9 : Int32) (jt9 : Int32) (we9 : Int32) (r : Nat) (rx : Nat) (ry : Nat) (n : Nat) (kv : Int32) (rg : Int32) (hn : n ≤ 1000) : Met l yX2_mayHaveCorner (.code yX2_mayHaveCorner cX2_mayHaveCorner 2 (some .boolean) :: ws0) ({ frames := 0, cells := 0, slots := 0, locals := 0 } : Room) (va_Pc [.ref fe, .int kv] (zPre (dC, dI) classes (zTy cI cZ cF) [(oc1 fe rk9 wd9 tw9 pa9 pb9 (.ref lo) (.ref lk) .null), (oc4 lk kd9 st9 (.ref r) gb9 jt9 we9), (oc6 r (.ref rx) (.ref ry) (nI n) rg)] sz zXN)) (zQ (some (.int (pI (0 ≤ kv.toInt ∧ kv.toInt < ((n : Nat) : Int))))) (fun t => va_P (dC, dI) classes [(oc1 fe rk9 wd9 tw9 pa9 pb9 (.ref lo) (.ref lk) .null), (oc4 lk kd9 st9 (.ref r) gb9 jt9 we9), (oc6 r (.ref rx) (.ref ry) (nI n) rg)] t.heap ∧ va_D (va_A [(oc1 fe rk9 wd9 tw9 pa9 pb9 (.ref lo) (.ref lk) .null), (oc4 lk kd9 st9 (.ref r) gb9 jt9 we9), (oc6 r (.ref rx) (.ref ry) (nI n) rg)] sz) [(oc1 fe rk9 wd9 tw9 pa9 pb9 (.ref lo) (.ref lk) .null), (oc4 lk kd9 st9 (.ref r) gb9 jt9 we9), (oc6 r (.ref rx) (.ref ry) (nI n) rg)]) (va_A [(oc1 fe rk9 wd9 tw9 pa9 pb9 (.ref lo) (.ref lk) .null), (oc4 lk kd9 st9 (.ref r) gb9 jt9 we9), (oc6 r (.ref rx) (.ref ry) (nI n) rg)] sz)) 0 0 (va_A [(oc1 fe rk9 wd9 tw9 pa9 pb9 (.ref lo) (.ref lk) .null), (oc4 lk kd9 st9 (.ref r) gb9 jt9 we9), (oc6 r (.ref rx) (.ref ry) (nI n) rg)] sz) := by
  refine Met.ofW (cc := cX2_mayHaveCorner) (maxL := 2) (ret := (some .boolean)) (by decide) rfl ?_
  intro p e s m args below meth c s₁ B hml hv
  obtain ⟨rfl, hsz, hP, hK, hD0, hXN⟩ := hv
  have hx := B.exec
  have hb := B.bytes
  have hr := B.returns
  have hts0 := atoms_spec (ws := .code yX2_mayHaveCorner cX2_mayHaveCorner 2 (some .boolean) :: ws0) B.pre
  have hts : ∀ w9 ∈ ws0, w9.before ([.ref fe, .int kv] : List Value).toArray s = true := fun w9 h => hts0 w9 (List.mem_cons_of_mem _ h)
  have hown : s.vm.findClass "ScaleShop$Feature" = some m.cls := findClass_of_methodNamed B.named
  have hlocks := B.notSynchronized
  subst hsz
  have hD := hD0.self (sz := s.heap.size)
  clear hD0
  generalize hAe : va_A [(oc1 fe rk9 wd9 tw9 pa9 pb9 (.ref lo) (.ref lk) .null), (oc4 lk kd9 st9 (.ref r) gb9 jt9 we9), (oc6 r (.ref rx) (.ref ry) (nI n) rg)] s.heap.size = A at hD ⊢
  have hA : ∀ q : Nat, s.heap.size ≤ q → A q := fun q h => by rw [← hAe]; exact Or.inr h
  clear hAe
  have hS : va_S A s.heap s.heap [] := va_S.rf
  have hP : va_P (dC, dI) classes [(oc1 fe rk9 wd9 tw9 pa9 pb9 (.ref lo) (.ref lk) .null), (oc4 lk kd9 st9 (.ref r) gb9 jt9 we9), (oc6 r (.ref rx) (.ref ry) (nI n) rg)] s.heap := hP
  obtain ⟨Q9, hQ9⟩ : ∃ Q9 : State → Prop, Q9 = MQ below (zQ (some (.int (pI (0 ≤ kv.toInt ∧ kv.toInt < ((n : Nat) : Int))))) (fun t => va_P (dC, dI) classes [(oc1 fe rk9 wd9 tw9 pa9 pb9 (.ref lo) (.ref lk) .null), (oc4 lk kd9 st9 (.ref r) gb9 jt9 we9), (oc6 r (.ref rx) (.ref ry) (nI n) rg)] t.heap ∧ va_D A [(oc1 fe rk9 wd9 tw9 pa9 pb9 (.ref lo) (.ref lk) .null), (oc4 lk kd9 st9 (.ref r) gb9 jt9 we9), (oc6 r (.ref rx) (.ref ry) (nI n) rg)]) A) ([.ref fe, .int kv] : List Value).toArray s 0 0 A := ⟨_, rfl⟩
  rw [← hQ9]
  have hl := lv_entry ([.ref fe, .int kv]) (n := 2) (Nat.le_of_ble_eq_true rfl)
  rw [lg_entry_eq]
  generalize (lg_sl ([.ref fe, .int kv]) ++ List.replicate (2 - (lg_sl ([.ref fe, .int kv])).length) Slot.unset).toArray = ls at hl ⊢
  have hl : lv_has ls 2 [(0, .ref fe), (1, .int kv)] := hl
  refine lv_iload_n hx hb dX2_mayHaveCorner_0 rfl (lv_at hl 1 rfl) ?_
  refine lv_if_lt (tgt := 32) hx hb dX2_mayHaveCorner_1 (by decide) (fun c_1 => ?_) (fun c_1 => ?_)
  · have c_1 : kv.toInt < 0 := zc_lt rfl (by decide) c_1
    refine lv_iconst (v := 0) hx hb dX2_mayHaveCorner_32 (by decide) ?_
    have hP9 := hP.sub (ws' := [(oc1 fe rk9 wd9 tw9 pa9 pb9 (.ref lo) (.ref lk) .null), (oc4 lk kd9 st9 (.ref r) gb9 jt9 we9), (oc6 r (.ref rx) (.ref ry) (nI n) rg)]) [0, 1, 2] rfl
    have hD9 := hD.sub (ws' := [(oc1 fe rk9 wd9 tw9 pa9 pb9 (.ref lo) (.ref lk) .null), (oc4 lk kd9 st9 (.ref r) gb9 jt9 we9), (oc6 r (.ref rx) (.ref ry) (nI n) rg)]) [0, 1, 2] (by decide) rfl
    rw [hQ9]
    exact W.zret (ty := .boolean) (v := 0) hx hb hr (rfl) (fun t ht hW => ⟨⟨congrArg (fun z => Outcome.returned (some (Value.int z))) (show (0 : Int32) = pI (0 ≤ kv.toInt ∧ kv.toInt < ((n : Nat) : Int)) from (zp_f (by omega)).symm), by rw [ht]; exact hP9, hD9⟩, hS.F ht⟩) hS.2.2 dX2_mayHaveCorner_33
  · have c_1 : 0 ≤ kv.toInt := zc_nlt rfl (by decide) c_1
    refine lv_aload_n hx hb dX2_mayHaveCorner_4 rfl (lv_at hl 0 rfl) ?_
    refine va_get (D := (dC, dI)) (ci := 1) (v := .ref lk) (C := RX2) (T := TX2) (N := 8) hx hb hts inX2 hown hK hP 0 rfl rfl 6 (by decide) (hts _ mw_429) (fun _ h9 => h9) rfl dX2_mayHaveCorner_5 ?_
    refine va_get (D := (dC, dI)) (ci := 4) (v := .ref r) (C := RX5) (T := TX5) (N := 6) hx hb hts inX5 hown hK hP 1 rfl rfl 2 (by decide) (hts _ mw_392) (fun _ h9 => h9) rfl dX2_mayHaveCorner_8 ?_
    refine lv_ifnull hx hb dX2_mayHaveCorner_11 ?_
    refine lv_iload_n hx hb dX2_mayHaveCorner_14 rfl (lv_at hl 1 rfl) ?_
    refine lv_aload_n hx hb dX2_mayHaveCorner_15 rfl (lv_at hl 0 rfl) ?_
    refine va_get (D := (dC, dI)) (ci := 1) (v := .ref lk) (C := RX2) (T := TX2) (N := 8) hx hb hts inX2 hown hK hP 0 rfl rfl 6 (by decide) (hts _ mw_429) (fun _ h9 => h9) rfl dX2_mayHaveCorner_16 ?_
    refine va_get (D := (dC, dI)) (ci := 4) (v := .ref r) (C := RX5) (T := TX5) (N := 6) hx hb hts inX5 hown hK hP 1 rfl rfl 2 (by decide) (hts _ mw_392) (fun _ h9 => h9) rfl dX2_mayHaveCorner_19 ?_
    refine va_get (D := (dC, dI)) (ci := 6) (v := .int (nI n)) (C := RX7) (T := TX7) (N := 4) hx hb hts inX7 hown hK hP 2 rfl rfl 2 (by decide) (hts _ mw_178) (fun _ h9 => h9) rfl dX2_mayHaveCorner_22 ?_
    refine lv_icmp_ge (tgt := 32) hx hb dX2_mayHaveCorner_25 (by decide) (fun c_2 => ?_) (fun c_2 => ?_)
    · have c_2 : ((n : Nat) : Int) ≤ kv.toInt := zc_le (nI_toInt (by omega)) rfl c_2
      refine lv_iconst (v := 0) hx hb dX2_mayHaveCorner_32 (by decide) ?_
      have hP9 := hP.sub (ws' := [(oc1 fe rk9 wd9 tw9 pa9 pb9 (.ref lo) (.ref lk) .null), (oc4 lk kd9 st9 (.ref r) gb9 jt9 we9), (oc6 r (.ref rx) (.ref ry) (nI n) rg)]) [0, 1, 2] rfl
      have hD9 := hD.sub (ws' := [(oc1 fe rk9 wd9 tw9 pa9 pb9 (.ref lo) (.ref lk) .null), (oc4 lk kd9 st9 (.ref r) gb9 jt9 we9), (oc6 r (.ref rx) (.ref ry) (nI n) rg)]) [0, 1, 2] (by decide) rfl
      rw [hQ9]
      exact W.zret (ty := .boolean) (v := 0) hx hb hr (rfl) (fun t ht hW => ⟨⟨congrArg (fun z => Outcome.returned (some (Value.int z))) (show (0 : Int32) = pI (0 ≤ kv.toInt ∧ kv.toInt < ((n : Nat) : Int)) from (zp_f (by omega)).symm), by rw [ht]; exact hP9, hD9⟩, hS.F ht⟩) hS.2.2 dX2_mayHaveCorner_33
    · have c_2 : kv.toInt < ((n : Nat) : Int) := zc_nle (nI_toInt (by omega)) rfl c_2
      refine lv_iconst (v := 1) hx hb dX2_mayHaveCorner_28 (by decide) ?_
      refine lv_goto (tgt := 33) hx hb dX2_mayHaveCorner_29 (by decide) ?_
      have hP9 := hP.sub (ws' := [(oc1 fe rk9 wd9 tw9 pa9 pb9 (.ref lo) (.ref lk) .null), (oc4 lk kd9 st9 (.ref r) gb9 jt9 we9), (oc6 r (.ref rx) (.ref ry) (nI n) rg)]) [0, 1, 2] rfl
      have hD9 := hD.sub (ws' := [(oc1 fe rk9 wd9 tw9 pa9 pb9 (.ref lo) (.ref lk) .null), (oc4 lk kd9 st9 (.ref r) gb9 jt9 we9), (oc6 r (.ref rx) (.ref ry) (nI n) rg)]) [0, 1, 2] (by decide) rfl
      rw [hQ9]
      exact W.zret (ty := .boolean) (v := 1) hx hb hr (rfl) (fun t ht hW => ⟨⟨congrArg (fun z => Outcome.returned (some (Value.int z))) (show (1 : Int32) = pI (0 ≤ kv.toInt ∧ kv.toInt < ((n : Nat) : Int)) from (zp_t (by omega)).symm), by rw [ht]; exact hP9, hD9⟩, hS.F ht⟩) hS.2.2 dX2_mayHaveCorner_33
set_option maxHeartbeats 4000000 in
set_option maxRecDepth 100000 in
theorem k_Feature_bends_n (l : Launch) (dC : Nat → ClassId) (dI : Nat → Nat → Nat) (cI cZ cF : ClassId) (sz : Nat) (fe : Nat) (lo : Nat) (rk9 : Int32) (wd9 : Int32) (tw9 : Int32) (pa9 : Int32) (pb9 : Int32) (lk : Nat) (kd9 : Int32) (st9 : Int32) (gb9 : Int32) (jt9 : Int32) (we9 : Int32) : Met l yX2_bends (.code yX2_bends cX2_bends 1 (some .boolean) :: ws0) ({ frames := 0, cells := 0, slots := 0, locals := 0 } : Room) (va_Pc [.ref fe] (zPre (dC, dI) classes (zTy cI cZ cF) [(oc1 fe rk9 wd9 tw9 pa9 pb9 (.ref lo) (.ref lk) .null), (oc4 lk kd9 st9 .null gb9 jt9 we9)] sz zXN)) (zQ (some (.int (pI (1 ≤ kd9.toInt ∧ kd9.toInt ≤ 5)))) (fun t => va_P (dC, dI) classes [(oc1 fe rk9 wd9 tw9 pa9 pb9 (.ref lo) (.ref lk) .null), (oc4 lk kd9 st9 .null gb9 jt9 we9)] t.heap ∧ va_D (va_A [(oc1 fe rk9 wd9 tw9 pa9 pb9 (.ref lo) (.ref lk) .null), (oc4 lk kd9 st9 .null gb9 jt9 we9)] sz) [(oc1 fe rk9 wd9 tw9 pa9 pb9 (.ref lo) (.ref lk) .null), (oc4 lk kd9 st9 .null gb9 jt9 we9)]) (va_A [(oc1 fe rk9 wd9 tw9 pa9 pb9 (.ref lo) (.ref lk) .null), (oc4 lk kd9 st9 .null gb9 jt9 we9)] sz)) 0 0 (va_A [(oc1 fe rk9 wd9 tw9 pa9 pb9 (.ref lo) (.ref lk) .null), (oc4 lk kd9 st9 .null gb9 jt9 we9)] sz) := by
  refine Met.ofW (cc := cX2_bends) (maxL := 1) (ret := (some .boolean)) (by decide) rfl ?_
  intro p e s m args below meth c s₁ B hml hv
  obtain ⟨rfl, hsz, hP, hK, hD0, hXN⟩ := hv
  have hx := B.exec
  have hb := B.bytes
  have hr := B.returns
  have hts0 := atoms_spec (ws := .code yX2_bends cX2_bends 1 (some .boolean) :: ws0) B.pre
  have hts : ∀ w9 ∈ ws0, w9.before ([.ref fe] : List Value).toArray s = true := fun w9 h => hts0 w9 (List.mem_cons_of_mem _ h)
  have hown : s.vm.findClass "ScaleShop$Feature" = some m.cls := findClass_of_methodNamed B.named
  have hlocks := B.notSynchronized
  subst hsz
  have hD := hD0.self (sz := s.heap.size)
  clear hD0
  generalize hAe : va_A [(oc1 fe rk9 wd9 tw9 pa9 pb9 (.ref lo) (.ref lk) .null), (oc4 lk kd9 st9 .null gb9 jt9 we9)] s.heap.size = A at hD ⊢
  have hA : ∀ q : Nat, s.heap.size ≤ q → A q := fun q h => by rw [← hAe]; exact Or.inr h
  clear hAe
  have hS : va_S A s.heap s.heap [] := va_S.rf
  have hP : va_P (dC, dI) classes [(oc1 fe rk9 wd9 tw9 pa9 pb9 (.ref lo) (.ref lk) .null), (oc4 lk kd9 st9 .null gb9 jt9 we9)] s.heap := hP
  obtain ⟨Q9, hQ9⟩ : ∃ Q9 : State → Prop, Q9 = MQ below (zQ (some (.int (pI (1 ≤ kd9.toInt ∧ kd9.toInt ≤ 5)))) (fun t => va_P (dC, dI) classes [(oc1 fe rk9 wd9 tw9 pa9 pb9 (.ref lo) (.ref lk) .null), (oc4 lk kd9 st9 .null gb9 jt9 we9)] t.heap ∧ va_D A [(oc1 fe rk9 wd9 tw9 pa9 pb9 (.ref lo) (.ref lk) .null), (oc4 lk kd9 st9 .null gb9 jt9 we9)]) A) ([.ref fe] : List Value).toArray s 0 0 A := ⟨_, rfl⟩
  rw [← hQ9]
  have hl := lv_entry ([.ref fe]) (n := 1) (Nat.le_of_ble_eq_true rfl)
  rw [lg_entry_eq]
  generalize (lg_sl ([.ref fe]) ++ List.replicate (1 - (lg_sl ([.ref fe])).length) Slot.unset).toArray = ls at hl ⊢
  have hl : lv_has ls 1 [(0, .ref fe)] := hl
  refine lv_aload_n hx hb dX2_bends_0 rfl (lv_at hl 0 rfl) ?_
  refine va_get (D := (dC, dI)) (ci := 1) (v := .ref lk) (C := RX2) (T := TX2) (N := 8) hx hb hts inX2 hown hK hP 0 rfl rfl 6 (by decide) (hts _ mw_429) (fun _ h9 => h9) rfl dX2_bends_1 ?_
  refine va_get (D := (dC, dI)) (ci := 4) (v := .int kd9) (C := RX5) (T := TX5) (N := 6) hx hb hts inX5 hown hK hP 1 rfl rfl 0 (by decide) (hts _ mw_379) (fun _ h9 => h9) rfl dX2_bends_4 ?_
  refine lv_if_le (tgt := 25) hx hb dX2_bends_7 (by decide) (fun c_1 => ?_) (fun c_1 => ?_)
  · have c_1 : kd9.toInt ≤ 0 := zc_le rfl (by decide) c_1
    refine lv_iconst (v := 0) hx hb dX2_bends_25 (by decide) ?_
    have hP9 := hP.sub (ws' := [(oc1 fe rk9 wd9 tw9 pa9 pb9 (.ref lo) (.ref lk) .null), (oc4 lk kd9 st9 .null gb9 jt9 we9)]) [0, 1] rfl
    have hD9 := hD.sub (ws' := [(oc1 fe rk9 wd9 tw9 pa9 pb9 (.ref lo) (.ref lk) .null), (oc4 lk kd9 st9 .null gb9 jt9 we9)]) [0, 1] (by decide) rfl
    rw [hQ9]
    exact W.zret (ty := .boolean) (v := 0) hx hb hr (rfl) (fun t ht hW => ⟨⟨congrArg (fun z => Outcome.returned (some (Value.int z))) (show (0 : Int32) = pI (1 ≤ kd9.toInt ∧ kd9.toInt ≤ 5) from (zp_f (by omega)).symm), by rw [ht]; exact hP9, hD9⟩, hS.F ht⟩) hS.2.2 dX2_bends_26
  · have c_1 : 0 < kd9.toInt := zc_nle rfl (by decide) c_1
    refine lv_aload_n hx hb dX2_bends_10 rfl (lv_at hl 0 rfl) ?_
    refine va_get (D := (dC, dI)) (ci := 1) (v := .ref lk) (C := RX2) (T := TX2) (N := 8) hx hb hts inX2 hown hK hP 0 rfl rfl 6 (by decide) (hts _ mw_429) (fun _ h9 => h9) rfl dX2_bends_11 ?_
    refine va_get (D := (dC, dI)) (ci := 4) (v := .int kd9) (C := RX5) (T := TX5) (N := 6) hx hb hts inX5 hown hK hP 1 rfl rfl 0 (by decide) (hts _ mw_379) (fun _ h9 => h9) rfl dX2_bends_14 ?_
    refine lv_iconst (v := 5) hx hb dX2_bends_17 (by decide) ?_
    refine lv_icmp_gt (tgt := 25) hx hb dX2_bends_18 (by decide) (fun c_2 => ?_) (fun c_2 => ?_)
    · have c_2 : 5 < kd9.toInt := zc_lt (by decide) rfl c_2
      refine lv_iconst (v := 0) hx hb dX2_bends_25 (by decide) ?_
      have hP9 := hP.sub (ws' := [(oc1 fe rk9 wd9 tw9 pa9 pb9 (.ref lo) (.ref lk) .null), (oc4 lk kd9 st9 .null gb9 jt9 we9)]) [0, 1] rfl
      have hD9 := hD.sub (ws' := [(oc1 fe rk9 wd9 tw9 pa9 pb9 (.ref lo) (.ref lk) .null), (oc4 lk kd9 st9 .null gb9 jt9 we9)]) [0, 1] (by decide) rfl
      rw [hQ9]
      exact W.zret (ty := .boolean) (v := 0) hx hb hr (rfl) (fun t ht hW => ⟨⟨congrArg (fun z => Outcome.returned (some (Value.int z))) (show (0 : Int32) = pI (1 ≤ kd9.toInt ∧ kd9.toInt ≤ 5) from (zp_f (by omega)).symm), by rw [ht]; exact hP9, hD9⟩, hS.F ht⟩) hS.2.2 dX2_bends_26
    · have c_2 : kd9.toInt ≤ 5 := zc_nlt (by decide) rfl c_2
      refine lv_iconst (v := 1) hx hb dX2_bends_21 (by decide) ?_
      refine lv_goto (tgt := 26) hx hb dX2_bends_22 (by decide) ?_
      have hP9 := hP.sub (ws' := [(oc1 fe rk9 wd9 tw9 pa9 pb9 (.ref lo) (.ref lk) .null), (oc4 lk kd9 st9 .null gb9 jt9 we9)]) [0, 1] rfl
      have hD9 := hD.sub (ws' := [(oc1 fe rk9 wd9 tw9 pa9 pb9 (.ref lo) (.ref lk) .null), (oc4 lk kd9 st9 .null gb9 jt9 we9)]) [0, 1] (by decide) rfl
      rw [hQ9]
      exact W.zret (ty := .boolean) (v := 1) hx hb hr (rfl) (fun t ht hW => ⟨⟨congrArg (fun z => Outcome.returned (some (Value.int z))) (show (1 : Int32) = pI (1 ≤ kd9.toInt ∧ kd9.toInt ≤ 5) from (zp_t (by omega)).symm), by rw [ht]; exact hP9, hD9⟩, hS.F ht⟩) hS.2.2 dX2_bends_26
set_option maxHeartbeats 4000000 in
set_option maxRecDepth 100000 in
theorem k_Feature_mayHaveCorner_n (l : Launch) (dC : Nat → ClassId) (dI : Nat → Nat → Nat) (cI cZ cF : ClassId) (sz : Nat) (fe : Nat) (lo : Nat) (rk9 : Int32) (wd9 : Int32) (tw9 : Int32) (pa9 : Int32) (pb9 : Int32) (lk : Nat) (kd9 : Int32) (st9 : Int32) (gb9 : Int32) (jt9 : Int32) (we9 : Int32) (kv : Int32) : Met l yX2_mayHaveCorner (.code yX2_mayHaveCorner cX2_mayHaveCorner 2 (some .boolean) :: ws0) ({ frames := 0, cells := 0, slots := 0, locals := 0 } : Room) (va_Pc [.ref fe, .int kv] (zPre (dC, dI) classes (zTy cI cZ cF) [(oc1 fe rk9 wd9 tw9 pa9 pb9 (.ref lo) (.ref lk) .null), (oc4 lk kd9 st9 .null gb9 jt9 we9)] sz zXN)) (zQ (some (.int (pI (0 ≤ kv.toInt)))) (fun t => va_P (dC, dI) classes [(oc1 fe rk9 wd9 tw9 pa9 pb9 (.ref lo) (.ref lk) .null), (oc4 lk kd9 st9 .null gb9 jt9 we9)] t.heap ∧ va_D (va_A [(oc1 fe rk9 wd9 tw9 pa9 pb9 (.ref lo) (.ref lk) .null), (oc4 lk kd9 st9 .null gb9 jt9 we9)] sz) [(oc1 fe rk9 wd9 tw9 pa9 pb9 (.ref lo) (.ref lk) .null), (oc4 lk kd9 st9 .null gb9 jt9 we9)]) (va_A [(oc1 fe rk9 wd9 tw9 pa9 pb9 (.ref lo) (.ref lk) .null), (oc4 lk kd9 st9 .null gb9 jt9 we9)] sz)) 0 0 (va_A [(oc1 fe rk9 wd9 tw9 pa9 pb9 (.ref lo) (.ref lk) .null), (oc4 lk kd9 st9 .null gb9 jt9 we9)] sz) := by
  refine Met.ofW (cc := cX2_mayHaveCorner) (maxL := 2) (ret := (some .boolean)) (by decide) rfl ?_
  intro p e s m args below meth c s₁ B hml hv
  obtain ⟨rfl, hsz, hP, hK, hD0, hXN⟩ := hv
  have hx := B.exec
  have hb := B.bytes
  have hr := B.returns
  have hts0 := atoms_spec (ws := .code yX2_mayHaveCorner cX2_mayHaveCorner 2 (some .boolean) :: ws0) B.pre
  have hts : ∀ w9 ∈ ws0, w9.before ([.ref fe, .int kv] : List Value).toArray s = true := fun w9 h => hts0 w9 (List.mem_cons_of_mem _ h)
  have hown : s.vm.findClass "ScaleShop$Feature" = some m.cls := findClass_of_methodNamed B.named
  have hlocks := B.notSynchronized
  subst hsz
  have hD := hD0.self (sz := s.heap.size)
  clear hD0
  generalize hAe : va_A [(oc1 fe rk9 wd9 tw9 pa9 pb9 (.ref lo) (.ref lk) .null), (oc4 lk kd9 st9 .null gb9 jt9 we9)] s.heap.size = A at hD ⊢
  have hA : ∀ q : Nat, s.heap.size ≤ q → A q := fun q h => by rw [← hAe]; exact Or.inr h
  clear hAe
  have hS : va_S A s.heap s.heap [] := va_S.rf
  have hP : va_P (dC, dI) classes [(oc1 fe rk9 wd9 tw9 pa9 pb9 (.ref lo) (.ref lk) .null), (oc4 lk kd9 st9 .null gb9 jt9 we9)] s.heap := hP
  obtain ⟨Q9, hQ9⟩ : ∃ Q9 : State → Prop, Q9 = MQ below (zQ (some (.int (pI (0 ≤ kv.toInt)))) (fun t => va_P (dC, dI) classes [(oc1 fe rk9 wd9 tw9 pa9 pb9 (.ref lo) (.ref lk) .null), (oc4 lk kd9 st9 .null gb9 jt9 we9)] t.heap ∧ va_D A [(oc1 fe rk9 wd9 tw9 pa9 pb9 (.ref lo) (.ref lk) .null), (oc4 lk kd9 st9 .null gb9 jt9 we9)]) A) ([.ref fe, .int kv] : List Value).toArray s 0 0 A := ⟨_, rfl⟩
  rw [← hQ9]
  have hl := lv_entry ([.ref fe, .int kv]) (n := 2) (Nat.le_of_ble_eq_true rfl)
  rw [lg_entry_eq]
  generalize (lg_sl ([.ref fe, .int kv]) ++ List.replicate (2 - (lg_sl ([.ref fe, .int kv])).length) Slot.unset).toArray = ls at hl ⊢
  have hl : lv_has ls 2 [(0, .ref fe), (1, .int kv)] := hl
  refine lv_iload_n hx hb dX2_mayHaveCorner_0 rfl (lv_at hl 1 rfl) ?_
  refine lv_if_lt (tgt := 32) hx hb dX2_mayHaveCorner_1 (by decide) (fun c_1 => ?_) (fun c_1 => ?_)
  · have c_1 : kv.toInt < 0 := zc_lt rfl (by decide) c_1
    refine lv_iconst (v := 0) hx hb dX2_mayHaveCorner_32 (by decide) ?_
    have hP9 := hP.sub (ws' := [(oc1 fe rk9 wd9 tw9 pa9 pb9 (.ref lo) (.ref lk) .null), (oc4 lk kd9 st9 .null gb9 jt9 we9)]) [0, 1] rfl
    have hD9 := hD.sub (ws' := [(oc1 fe rk9 wd9 tw9 pa9 pb9 (.ref lo) (.ref lk) .null), (oc4 lk kd9 st9 .null gb9 jt9 we9)]) [0, 1] (by decide) rfl
    rw [hQ9]
    exact W.zret (ty := .boolean) (v := 0) hx hb hr (rfl) (fun t ht hW => ⟨⟨congrArg (fun z => Outcome.returned (some (Value.int z))) (show (0 : Int32) = pI (0 ≤ kv.toInt) from (zp_f (by omega)).symm), by rw [ht]; exact hP9, hD9⟩, hS.F ht⟩) hS.2.2 dX2_mayHaveCorner_33
  · have c_1 : 0 ≤ kv.toInt := zc_nlt rfl (by decide) c_1
    refine lv_aload_n hx hb dX2_mayHaveCorner_4 rfl (lv_at hl 0 rfl) ?_
    refine va_get (D := (dC, dI)) (ci := 1) (v := .ref lk) (C := RX2) (T := TX2) (N := 8) hx hb hts inX2 hown hK hP 0 rfl rfl 6 (by decide) (hts _ mw_429) (fun _ h9 => h9) rfl dX2_mayHaveCorner_5 ?_
    refine va_get (D := (dC, dI)) (ci := 4) (v := .null) (C := RX5) (T := TX5) (N := 6) hx hb hts inX5 hown hK hP 1 rfl rfl 2 (by decide) (hts _ mw_392) (fun _ h9 => h9) rfl dX2_mayHaveCorner_8 ?_
    refine lv_ifnullN (tgt := 28) hx hb dX2_mayHaveCorner_11 (by decide) ?_
    refine lv_iconst (v := 1) hx hb dX2_mayHaveCorner_28 (by decide) ?_
    refine lv_goto (tgt := 33) hx hb dX2_mayHaveCorner_29 (by decide) ?_
    have hP9 := hP.sub (ws' := [(oc1 fe rk9 wd9 tw9 pa9 pb9 (.ref lo) (.ref lk) .null), (oc4 lk kd9 st9 .null gb9 jt9 we9)]) [0, 1] rfl
    have hD9 := hD.sub (ws' := [(oc1 fe rk9 wd9 tw9 pa9 pb9 (.ref lo) (.ref lk) .null), (oc4 lk kd9 st9 .null gb9 jt9 we9)]) [0, 1] (by decide) rfl
    rw [hQ9]
    exact W.zret (ty := .boolean) (v := 1) hx hb hr (rfl) (fun t ht hW => ⟨⟨congrArg (fun z => Outcome.returned (some (Value.int z))) (show (1 : Int32) = pI (0 ≤ kv.toInt) from (zp_t (by omega)).symm), by rw [ht]; exact hP9, hD9⟩, hS.F ht⟩) hS.2.2 dX2_mayHaveCorner_33
set_option maxHeartbeats 4000000 in
set_option maxRecDepth 100000 in
theorem k_Feature_bends_f_r (l : Launch) (dC : Nat → ClassId) (dI : Nat → Nat → Nat) (cI cZ cF : ClassId) (sz : Nat) (fe : Nat) (lo : Nat) (rk9 : Int32) (wd9 : Int32) (tw9 : Int32) (pa9 : Int32) (pb9 : Int32) (lk : Nat) (kd9 : Int32) (st9 : Int32) (gb9 : Int32) (jt9 : Int32) (we9 : Int32) (r : Nat) (fm : Nat) : Met l yX2_bends (.code yX2_bends cX2_bends 1 (some .boolean) :: ws0) ({ frames := 0, cells := 0, slots := 0, locals := 0 } : Room) (va_Pc [.ref fe] (zPre (dC, dI) classes (zTy cI cZ cF) [(oc1 fe rk9 wd9 tw9 pa9 pb9 (.ref lo) (.ref lk) (.ref fm)), (oc4 lk kd9 st9 (.ref r) gb9 jt9 we9)] sz zXN)) (zQ (some (.int (pI (1 ≤ kd9.toInt ∧ kd9.toInt ≤ 5)))) (fun t => va_P (dC, dI) classes [(oc1 fe rk9 wd9 tw9 pa9 pb9 (.ref lo) (.ref lk) (.ref fm)), (oc4 lk kd9 st9 (.ref r) gb9 jt9 we9)] t.heap ∧ va_D (va_A [(oc1 fe rk9 wd9 tw9 pa9 pb9 (.ref lo) (.ref lk) (.ref fm)), (oc4 lk kd9 st9 (.ref r) gb9 jt9 we9)] sz) [(oc1 fe rk9 wd9 tw9 pa9 pb9 (.ref lo) (.ref lk) (.ref fm)), (oc4 lk kd9 st9 (.ref r) gb9 jt9 we9)]) (va_A [(oc1 fe rk9 wd9 tw9 pa9 pb9 (.ref lo) (.ref lk) (.ref fm)), (oc4 lk kd9 st9 (.ref r) gb9 jt9 we9)] sz)) 0 0 (va_A [(oc1 fe rk9 wd9 tw9 pa9 pb9 (.ref lo) (.ref lk) (.ref fm)), (oc4 lk kd9 st9 (.ref r) gb9 jt9 we9)] sz) := by
  refine Met.ofW (cc := cX2_bends) (maxL := 1) (ret := (some .boolean)) (by decide) rfl ?_
  intro p e s m args below meth c s₁ B hml hv
  obtain ⟨rfl, hsz, hP, hK, hD0, hXN⟩ := hv
  have hx := B.exec
  have hb := B.bytes
  have hr := B.returns
  have hts0 := atoms_spec (ws := .code yX2_bends cX2_bends 1 (some .boolean) :: ws0) B.pre
  have hts : ∀ w9 ∈ ws0, w9.before ([.ref fe] : List Value).toArray s = true := fun w9 h => hts0 w9 (List.mem_cons_of_mem _ h)
  have hown : s.vm.findClass "ScaleShop$Feature" = some m.cls := findClass_of_methodNamed B.named
  have hlocks := B.notSynchronized
  subst hsz
  have hD := hD0.self (sz := s.heap.size)
  clear hD0
  generalize hAe : va_A [(oc1 fe rk9 wd9 tw9 pa9 pb9 (.ref lo) (.ref lk) (.ref fm)), (oc4 lk kd9 st9 (.ref r) gb9 jt9 we9)] s.heap.size = A at hD ⊢
  have hA : ∀ q : Nat, s.heap.size ≤ q → A q := fun q h => by rw [← hAe]; exact Or.inr h
  clear hAe
  have hS : va_S A s.heap s.heap [] := va_S.rf
  have hP : va_P (dC, dI) classes [(oc1 fe rk9 wd9 tw9 pa9 pb9 (.ref lo) (.ref lk) (.ref fm)), (oc4 lk kd9 st9 (.ref r) gb9 jt9 we9)] s.heap := hP
  obtain ⟨Q9, hQ9⟩ : ∃ Q9 : State → Prop, Q9 = MQ below (zQ (some (.int (pI (1 ≤ kd9.toInt ∧ kd9.toInt ≤ 5)))) (fun t => va_P (dC, dI) classes [(oc1 fe rk9 wd9 tw9 pa9 pb9 (.ref lo) (.ref lk) (.ref fm)), (oc4 lk kd9 st9 (.ref r) gb9 jt9 we9)] t.heap ∧ va_D A [(oc1 fe rk9 wd9 tw9 pa9 pb9 (.ref lo) (.ref lk) (.ref fm)), (oc4 lk kd9 st9 (.ref r) gb9 jt9 we9)]) A) ([.ref fe] : List Value).toArray s 0 0 A := ⟨_, rfl⟩
  rw [← hQ9]
  have hl := lv_entry ([.ref fe]) (n := 1) (Nat.le_of_ble_eq_true rfl)
  rw [lg_entry_eq]
  generalize (lg_sl ([.ref fe]) ++ List.replicate (1 - (lg_sl ([.ref fe])).length) Slot.unset).toArray = ls at hl ⊢
  have hl : lv_has ls 1 [(0, .ref fe)] := hl
  refine lv_aload_n hx hb dX2_bends_0 rfl (lv_at hl 0 rfl) ?_
  refine va_get (D := (dC, dI)) (ci := 1) (v := .ref lk) (C := RX2) (T := TX2) (N := 8) hx hb hts inX2 hown hK hP 0 rfl rfl 6 (by decide) (hts _ mw_429) (fun _ h9 => h9) rfl dX2_bends_1 ?_
  refine va_get (D := (dC, dI)) (ci := 4) (v := .int kd9) (C := RX5) (T := TX5) (N := 6) hx hb hts inX5 hown hK hP 1 rfl rfl 0 (by decide) (hts _ mw_379) (fun _ h9 => h9) rfl dX2_bends_4 ?_
  refine lv_if_le (tgt := 25) hx hb dX2_bends_7 (by decide) (fun c_1 => ?_) (fun c_1 => ?_)
  · have c_1 : kd9.toInt ≤ 0 := zc_le rfl (by decide) c_1
    refine lv_iconst (v := 0) hx hb dX2_bends_25 (by decide) ?_
    have hP9 := hP.sub (ws' := [(oc1 fe rk9 wd9 tw9 pa9 pb9 (.ref lo) (.ref lk) (.ref fm)), (oc4 lk kd9 st9 (.ref r) gb9 jt9 we9)]) [0, 1] rfl
    have hD9 := hD.sub (ws' := [(oc1 fe rk9 wd9 tw9 pa9 pb9 (.ref lo) (.ref lk) (.ref fm)), (oc4 lk kd9 st9 (.ref r) gb9 jt9 we9)]) [0, 1] (by decide) rfl
    rw [hQ9]
    exact W.zret (ty := .boolean) (v := 0) hx hb hr (rfl) (fun t ht hW => ⟨⟨congrArg (fun z => Outcome.returned (some (Value.int z))) (show (0 : Int32) = pI (1 ≤ kd9.toInt ∧ kd9.toInt ≤ 5) from (zp_f (by omega)).symm), by rw [ht]; exact hP9, hD9⟩, hS.F ht⟩) hS.2.2 dX2_bends_26
  · have c_1 : 0 < kd9.toInt := zc_nle rfl (by decide) c_1
    refine lv_aload_n hx hb dX2_bends_10 rfl (lv_at hl 0 rfl) ?_
    refine va_get (D := (dC, dI)) (ci := 1) (v := .ref lk) (C := RX2) (T := TX2) (N := 8) hx hb hts inX2 hown hK hP 0 rfl rfl 6 (by decide) (hts _ mw_429) (fun _ h9 => h9) rfl dX2_bends_11 ?_
    refine va_get (D := (dC, dI)) (ci := 4) (v := .int kd9) (C := RX5) (T := TX5) (N := 6) hx hb hts inX5 hown hK hP 1 rfl rfl 0 (by decide) (hts _ mw_379) (fun _ h9 => h9) rfl dX2_bends_14 ?_
    refine lv_iconst (v := 5) hx hb dX2_bends_17 (by decide) ?_
    refine lv_icmp_gt (tgt := 25) hx hb dX2_bends_18 (by decide) (fun c_2 => ?_) (fun c_2 => ?_)
    · have c_2 : 5 < kd9.toInt := zc_lt (by decide) rfl c_2
      refine lv_iconst (v := 0) hx hb dX2_bends_25 (by decide) ?_
      have hP9 := hP.sub (ws' := [(oc1 fe rk9 wd9 tw9 pa9 pb9 (.ref lo) (.ref lk) (.ref fm)), (oc4 lk kd9 st9 (.ref r) gb9 jt9 we9)]) [0, 1] rfl
      have hD9 := hD.sub (ws' := [(oc1 fe rk9 wd9 tw9 pa9 pb9 (.ref lo) (.ref lk) (.ref fm)), (oc4 lk kd9 st9 (.ref r) gb9 jt9 we9)]) [0, 1] (by decide) rfl
      rw [hQ9]
      exact W.zret (ty := .boolean) (v := 0) hx hb hr (rfl) (fun t ht hW => ⟨⟨congrArg (fun z => Outcome.returned (some (Value.int z))) (show (0 : Int32) = pI (1 ≤ kd9.toInt ∧ kd9.toInt ≤ 5) from (zp_f (by omega)).symm), by rw [ht]; exact hP9, hD9⟩, hS.F ht⟩) hS.2.2 dX2_bends_26
    · have c_2 : kd9.toInt ≤ 5 := zc_nlt (by decide) rfl c_2
      refine lv_iconst (v := 1) hx hb dX2_bends_21 (by decide) ?_
      refine lv_goto (tgt := 26) hx hb dX2_bends_22 (by decide) ?_
      have hP9 := hP.sub (ws' := [(oc1 fe rk9 wd9 tw9 pa9 pb9 (.ref lo) (.ref lk) (.ref fm)), (oc4 lk kd9 st9 (.ref r) gb9 jt9 we9)]) [0, 1] rfl
      have hD9 := hD.sub (ws' := [(oc1 fe rk9 wd9 tw9 pa9 pb9 (.ref lo) (.ref lk) (.ref fm)), (oc4 lk kd9 st9 (.ref r) gb9 jt9 we9)]) [0, 1] (by decide) rfl
      rw [hQ9]
      exact W.zret (ty := .boolean) (v := 1) hx hb hr (rfl) (fun t ht hW => ⟨⟨congrArg (fun z => Outcome.returned (some (Value.int z))) (show (1 : Int32) = pI (1 ≤ kd9.toInt ∧ kd9.toInt ≤ 5) from (zp_t (by omega)).symm), by rw [ht]; exact hP9, hD9⟩, hS.F ht⟩) hS.2.2 dX2_bends_26
set_option maxHeartbeats 4000000 in
set_option maxRecDepth 100000 in
theorem k_Feature_mayHaveCorner_f_r (l : Launch) (dC : Nat → ClassId) (dI : Nat → Nat → Nat) (cI cZ cF : ClassId) (sz : Nat) (fe : Nat) (lo : Nat) (rk9 : Int32) (wd9 : Int32) (tw9 : Int32) (pa9 : Int32) (pb9 : Int32) (lk : Nat) (kd9 : Int32) (st9 : Int32) (gb9 : Int32) (jt9 : Int32) (we9 : Int32) (r : Nat) (rx : Nat) (ry : Nat) (n : Nat) (fm : Nat) (kv : Int32) (rg : Int32) (hn : n ≤ 1000) : Met l yX2_mayHaveCorner (.code yX2_mayHaveCorner cX2_mayHaveCorner 2 (some .boolean) :: ws0) ({ frames := 0, cells := 0, slots := 0, locals := 0 } : Room) (va_Pc [.ref fe, .int kv] (zPre (dC, dI) classes (zTy cI cZ cF) [(oc1 fe rk9 wd9 tw9 pa9 pb9 (.ref lo) (.ref lk) (.ref fm)), (oc4 lk kd9 st9 (.ref r) gb9 jt9 we9), (oc6 r (.ref rx) (.ref ry) (nI n) rg)] sz zXN)) (zQ (some (.int (pI (0 ≤ kv.toInt ∧ kv.toInt < ((n : Nat) : Int))))) (fun t => va_P (dC, dI) classes [(oc1 fe rk9 wd9 tw9 pa9 pb9 (.ref lo) (.ref lk) (.ref fm)), (oc4 lk kd9 st9 (.ref r) gb9 jt9 we9), (oc6 r (.ref rx) (.ref ry) (nI n) rg)] t.heap ∧ va_D (va_A [(oc1 fe rk9 wd9 tw9 pa9 pb9 (.ref lo) (.ref lk) (.ref fm)), (oc4 lk kd9 st9 (.ref r) gb9 jt9 we9), (oc6 r (.ref rx) (.ref ry) (nI n) rg)] sz) [(oc1 fe rk9 wd9 tw9 pa9 pb9 (.ref lo) (.ref lk) (.ref fm)), (oc4 lk kd9 st9 (.ref r) gb9 jt9 we9), (oc6 r (.ref rx) (.ref ry) (nI n) rg)]) (va_A [(oc1 fe rk9 wd9 tw9 pa9 pb9 (.ref lo) (.ref lk) (.ref fm)), (oc4 lk kd9 st9 (.ref r) gb9 jt9 we9), (oc6 r (.ref rx) (.ref ry) (nI n) rg)] sz)) 0 0 (va_A [(oc1 fe rk9 wd9 tw9 pa9 pb9 (.ref lo) (.ref lk) (.ref fm)), (oc4 lk kd9 st9 (.ref r) gb9 jt9 we9), (oc6 r (.ref rx) (.ref ry) (nI n) rg)] sz) := by
  refine Met.ofW (cc := cX2_mayHaveCorner) (maxL := 2) (ret := (some .boolean)) (by decide) rfl ?_
  intro p e s m args below meth c s₁ B hml hv
  obtain ⟨rfl, hsz, hP, hK, hD0, hXN⟩ := hv
  have hx := B.exec
  have hb := B.bytes
  have hr := B.returns
  have hts0 := atoms_spec (ws := .code yX2_mayHaveCorner cX2_mayHaveCorner 2 (some .boolean) :: ws0) B.pre
  have hts : ∀ w9 ∈ ws0, w9.before ([.ref fe, .int kv] : List Value).toArray s = true := fun w9 h => hts0 w9 (List.mem_cons_of_mem _ h)
  have hown : s.vm.findClass "ScaleShop$Feature" = some m.cls := findClass_of_methodNamed B.named
  have hlocks := B.notSynchronized
  subst hsz
  have hD := hD0.self (sz := s.heap.size)
  clear hD0
  generalize hAe : va_A [(oc1 fe rk9 wd9 tw9 pa9 pb9 (.ref lo) (.ref lk) (.ref fm)), (oc4 lk kd9 st9 (.ref r) gb9 jt9 we9), (oc6 r (.ref rx) (.ref ry) (nI n) rg)] s.heap.size = A at hD ⊢
  have hA : ∀ q : Nat, s.heap.size ≤ q → A q := fun q h => by rw [← hAe]; exact Or.inr h
  clear hAe
  have hS : va_S A s.heap s.heap [] := va_S.rf
  have hP : va_P (dC, dI) classes [(oc1 fe rk9 wd9 tw9 pa9 pb9 (.ref lo) (.ref lk) (.ref fm)), (oc4 lk kd9 st9 (.ref r) gb9 jt9 we9), (oc6 r (.ref rx) (.ref ry) (nI n) rg)] s.heap := hP
  obtain ⟨Q9, hQ9⟩ : ∃ Q9 : State → Prop, Q9 = MQ below (zQ (some (.int (pI (0 ≤ kv.toInt ∧ kv.toInt < ((n : Nat) : Int))))) (fun t => va_P (dC, dI) classes [(oc1 fe rk9 wd9 tw9 pa9 pb9 (.ref lo) (.ref lk) (.ref fm)), (oc4 lk kd9 st9 (.ref r) gb9 jt9 we9), (oc6 r (.ref rx) (.ref ry) (nI n) rg)] t.heap ∧ va_D A [(oc1 fe rk9 wd9 tw9 pa9 pb9 (.ref lo) (.ref lk) (.ref fm)), (oc4 lk kd9 st9 (.ref r) gb9 jt9 we9), (oc6 r (.ref rx) (.ref ry) (nI n) rg)]) A) ([.ref fe, .int kv] : List Value).toArray s 0 0 A := ⟨_, rfl⟩
  rw [← hQ9]
  have hl := lv_entry ([.ref fe, .int kv]) (n := 2) (Nat.le_of_ble_eq_true rfl)
  rw [lg_entry_eq]
  generalize (lg_sl ([.ref fe, .int kv]) ++ List.replicate (2 - (lg_sl ([.ref fe, .int kv])).length) Slot.unset).toArray = ls at hl ⊢
  have hl : lv_has ls 2 [(0, .ref fe), (1, .int kv)] := hl
  refine lv_iload_n hx hb dX2_mayHaveCorner_0 rfl (lv_at hl 1 rfl) ?_
  refine lv_if_lt (tgt := 32) hx hb dX2_mayHaveCorner_1 (by decide) (fun c_1 => ?_) (fun c_1 => ?_)
  · have c_1 : kv.toInt < 0 := zc_lt rfl (by decide) c_1
    refine lv_iconst (v := 0) hx hb dX2_mayHaveCorner_32 (by decide) ?_
    have hP9 := hP.sub (ws' := [(oc1 fe rk9 wd9 tw9 pa9 pb9 (.ref lo) (.ref lk) (.ref fm)), (oc4 lk kd9 st9 (.ref r) gb9 jt9 we9), (oc6 r (.ref rx) (.ref ry) (nI n) rg)]) [0, 1, 2] rfl
    have hD9 := hD.sub (ws' := [(oc1 fe rk9 wd9 tw9 pa9 pb9 (.ref lo) (.ref lk) (.ref fm)), (oc4 lk kd9 st9 (.ref r) gb9 jt9 we9), (oc6 r (.ref rx) (.ref ry) (nI n) rg)]) [0, 1, 2] (by decide) rfl
    rw [hQ9]
    exact W.zret (ty := .boolean) (v := 0) hx hb hr (rfl) (fun t ht hW => ⟨⟨congrArg (fun z => Outcome.returned (some (Value.int z))) (show (0 : Int32) = pI (0 ≤ kv.toInt ∧ kv.toInt < ((n : Nat) : Int)) from (zp_f (by omega)).symm), by rw [ht]; exact hP9, hD9⟩, hS.F ht⟩) hS.2.2 dX2_mayHaveCorner_33
  · have c_1 : 0 ≤ kv.toInt := zc_nlt rfl (by decide) c_1
    refine lv_aload_n hx hb dX2_mayHaveCorner_4 rfl (lv_at hl 0 rfl) ?_
    refine va_get (D := (dC, dI)) (ci := 1) (v := .ref lk) (C := RX2) (T := TX2) (N := 8) hx hb hts inX2 hown hK hP 0 rfl rfl 6 (by decide) (hts _ mw_429) (fun _ h9 => h9) rfl dX2_mayHaveCorner_5 ?_
    refine va_get (D := (dC, dI)) (ci := 4) (v := .ref r) (C := RX5) (T := TX5) (N := 6) hx hb hts inX5 hown hK hP 1 rfl rfl 2 (by decide) (hts _ mw_392) (fun _ h9 => h9) rfl dX2_mayHaveCorner_8 ?_
    refine lv_ifnull hx hb dX2_mayHaveCorner_11 ?_
    refine lv_iload_n hx hb dX2_mayHaveCorner_14 rfl (lv_at hl 1 rfl) ?_
    refine lv_aload_n hx hb dX2_mayHaveCorner_15 rfl (lv_at hl 0 rfl) ?_
    refine va_get (D := (dC, dI)) (ci := 1) (v := .ref lk) (C := RX2) (T := TX2) (N := 8) hx hb hts inX2 hown hK hP 0 rfl rfl 6 (by decide) (hts _ mw_429) (fun _ h9 => h9) rfl dX2_mayHaveCorner_16 ?_
    refine va_get (D := (dC, dI)) (ci := 4) (v := .ref r) (C := RX5) (T := TX5) (N := 6) hx hb hts inX5 hown hK hP 1 rfl rfl 2 (by decide) (hts _ mw_392) (fun _ h9 => h9) rfl dX2_mayHaveCorner_19 ?_
    refine va_get (D := (dC, dI)) (ci := 6) (v := .int (nI n)) (C := RX7) (T := TX7) (N := 4) hx hb hts inX7 hown hK hP 2 rfl rfl 2 (by decide) (hts _ mw_178) (fun _ h9 => h9) rfl dX2_mayHaveCorner_22 ?_
    refine lv_icmp_ge (tgt := 32) hx hb dX2_mayHaveCorner_25 (by decide) (fun c_2 => ?_) (fun c_2 => ?_)
    · have c_2 : ((n : Nat) : Int) ≤ kv.toInt := zc_le (nI_toInt (by omega)) rfl c_2
      refine lv_iconst (v := 0) hx hb dX2_mayHaveCorner_32 (by decide) ?_
      have hP9 := hP.sub (ws' := [(oc1 fe rk9 wd9 tw9 pa9 pb9 (.ref lo) (.ref lk) (.ref fm)), (oc4 lk kd9 st9 (.ref r) gb9 jt9 we9), (oc6 r (.ref rx) (.ref ry) (nI n) rg)]) [0, 1, 2] rfl
      have hD9 := hD.sub (ws' := [(oc1 fe rk9 wd9 tw9 pa9 pb9 (.ref lo) (.ref lk) (.ref fm)), (oc4 lk kd9 st9 (.ref r) gb9 jt9 we9), (oc6 r (.ref rx) (.ref ry) (nI n) rg)]) [0, 1, 2] (by decide) rfl
      rw [hQ9]
      exact W.zret (ty := .boolean) (v := 0) hx hb hr (rfl) (fun t ht hW => ⟨⟨congrArg (fun z => Outcome.returned (some (Value.int z))) (show (0 : Int32) = pI (0 ≤ kv.toInt ∧ kv.toInt < ((n : Nat) : Int)) from (zp_f (by omega)).symm), by rw [ht]; exact hP9, hD9⟩, hS.F ht⟩) hS.2.2 dX2_mayHaveCorner_33
    · have c_2 : kv.toInt < ((n : Nat) : Int) := zc_nle (nI_toInt (by omega)) rfl c_2
      refine lv_iconst (v := 1) hx hb dX2_mayHaveCorner_28 (by decide) ?_
      refine lv_goto (tgt := 33) hx hb dX2_mayHaveCorner_29 (by decide) ?_
      have hP9 := hP.sub (ws' := [(oc1 fe rk9 wd9 tw9 pa9 pb9 (.ref lo) (.ref lk) (.ref fm)), (oc4 lk kd9 st9 (.ref r) gb9 jt9 we9), (oc6 r (.ref rx) (.ref ry) (nI n) rg)]) [0, 1, 2] rfl
      have hD9 := hD.sub (ws' := [(oc1 fe rk9 wd9 tw9 pa9 pb9 (.ref lo) (.ref lk) (.ref fm)), (oc4 lk kd9 st9 (.ref r) gb9 jt9 we9), (oc6 r (.ref rx) (.ref ry) (nI n) rg)]) [0, 1, 2] (by decide) rfl
      rw [hQ9]
      exact W.zret (ty := .boolean) (v := 1) hx hb hr (rfl) (fun t ht hW => ⟨⟨congrArg (fun z => Outcome.returned (some (Value.int z))) (show (1 : Int32) = pI (0 ≤ kv.toInt ∧ kv.toInt < ((n : Nat) : Int)) from (zp_t (by omega)).symm), by rw [ht]; exact hP9, hD9⟩, hS.F ht⟩) hS.2.2 dX2_mayHaveCorner_33
set_option maxHeartbeats 4000000 in
set_option maxRecDepth 100000 in
theorem k_Feature_bends_f_n (l : Launch) (dC : Nat → ClassId) (dI : Nat → Nat → Nat) (cI cZ cF : ClassId) (sz : Nat) (fe : Nat) (lo : Nat) (rk9 : Int32) (wd9 : Int32) (tw9 : Int32) (pa9 : Int32) (pb9 : Int32) (lk : Nat) (kd9 : Int32) (st9 : Int32) (gb9 : Int32) (jt9 : Int32) (we9 : Int32) (fm : Nat) : Met l yX2_bends (.code yX2_bends cX2_bends 1 (some .boolean) :: ws0) ({ frames := 0, cells := 0, slots := 0, locals := 0 } : Room) (va_Pc [.ref fe] (zPre (dC, dI) classes (zTy cI cZ cF) [(oc1 fe rk9 wd9 tw9 pa9 pb9 (.ref lo) (.ref lk) (.ref fm)), (oc4 lk kd9 st9 .null gb9 jt9 we9)] sz zXN)) (zQ (some (.int (pI (1 ≤ kd9.toInt ∧ kd9.toInt ≤ 5)))) (fun t => va_P (dC, dI) classes [(oc1 fe rk9 wd9 tw9 pa9 pb9 (.ref lo) (.ref lk) (.ref fm)), (oc4 lk kd9 st9 .null gb9 jt9 we9)] t.heap ∧ va_D (va_A [(oc1 fe rk9 wd9 tw9 pa9 pb9 (.ref lo) (.ref lk) (.ref fm)), (oc4 lk kd9 st9 .null gb9 jt9 we9)] sz) [(oc1 fe rk9 wd9 tw9 pa9 pb9 (.ref lo) (.ref lk) (.ref fm)), (oc4 lk kd9 st9 .null gb9 jt9 we9)]) (va_A [(oc1 fe rk9 wd9 tw9 pa9 pb9 (.ref lo) (.ref lk) (.ref fm)), (oc4 lk kd9 st9 .null gb9 jt9 we9)] sz)) 0 0 (va_A [(oc1 fe rk9 wd9 tw9 pa9 pb9 (.ref lo) (.ref lk) (.ref fm)), (oc4 lk kd9 st9 .null gb9 jt9 we9)] sz) := by
  refine Met.ofW (cc := cX2_bends) (maxL := 1) (ret := (some .boolean)) (by decide) rfl ?_
  intro p e s m args below meth c s₁ B hml hv
  obtain ⟨rfl, hsz, hP, hK, hD0, hXN⟩ := hv
  have hx := B.exec
  have hb := B.bytes
  have hr := B.returns
  have hts0 := atoms_spec (ws := .code yX2_bends cX2_bends 1 (some .boolean) :: ws0) B.pre
  have hts : ∀ w9 ∈ ws0, w9.before ([.ref fe] : List Value).toArray s = true := fun w9 h => hts0 w9 (List.mem_cons_of_mem _ h)
  have hown : s.vm.findClass "ScaleShop$Feature" = some m.cls := findClass_of_methodNamed B.named
  have hlocks := B.notSynchronized
  subst hsz
  have hD := hD0.self (sz := s.heap.size)
  clear hD0
  generalize hAe : va_A [(oc1 fe rk9 wd9 tw9 pa9 pb9 (.ref lo) (.ref lk) (.ref fm)), (oc4 lk kd9 st9 .null gb9 jt9 we9)] s.heap.size = A at hD ⊢
  have hA : ∀ q : Nat, s.heap.size ≤ q → A q := fun q h => by rw [← hAe]; exact Or.inr h
  clear hAe
  have hS : va_S A s.heap s.heap [] := va_S.rf
  have hP : va_P (dC, dI) classes [(oc1 fe rk9 wd9 tw9 pa9 pb9 (.ref lo) (.ref lk) (.ref fm)), (oc4 lk kd9 st9 .null gb9 jt9 we9)] s.heap := hP
  obtain ⟨Q9, hQ9⟩ : ∃ Q9 : State → Prop, Q9 = MQ below (zQ (some (.int (pI (1 ≤ kd9.toInt ∧ kd9.toInt ≤ 5)))) (fun t => va_P (dC, dI) classes [(oc1 fe rk9 wd9 tw9 pa9 pb9 (.ref lo) (.ref lk) (.ref fm)), (oc4 lk kd9 st9 .null gb9 jt9 we9)] t.heap ∧ va_D A [(oc1 fe rk9 wd9 tw9 pa9 pb9 (.ref lo) (.ref lk) (.ref fm)), (oc4 lk kd9 st9 .null gb9 jt9 we9)]) A) ([.ref fe] : List Value).toArray s 0 0 A := ⟨_, rfl⟩
  rw [← hQ9]
  have hl := lv_entry ([.ref fe]) (n := 1) (Nat.le_of_ble_eq_true rfl)
  rw [lg_entry_eq]
  generalize (lg_sl ([.ref fe]) ++ List.replicate (1 - (lg_sl ([.ref fe])).length) Slot.unset).toArray = ls at hl ⊢
  have hl : lv_has ls 1 [(0, .ref fe)] := hl
  refine lv_aload_n hx hb dX2_bends_0 rfl (lv_at hl 0 rfl) ?_
  refine va_get (D := (dC, dI)) (ci := 1) (v := .ref lk) (C := RX2) (T := TX2) (N := 8) hx hb hts inX2 hown hK hP 0 rfl rfl 6 (by decide) (hts _ mw_429) (fun _ h9 => h9) rfl dX2_bends_1 ?_
  refine va_get (D := (dC, dI)) (ci := 4) (v := .int kd9) (C := RX5) (T := TX5) (N := 6) hx hb hts inX5 hown hK hP 1 rfl rfl 0 (by decide) (hts _ mw_379) (fun _ h9 => h9) rfl dX2_bends_4 ?_
  refine lv_if_le (tgt := 25) hx hb dX2_bends_7 (by decide) (fun c_1 => ?_) (fun c_1 => ?_)
  · have c_1 : kd9.toInt ≤ 0 := zc_le rfl (by decide) c_1
    refine lv_iconst (v := 0) hx hb dX2_bends_25 (by decide) ?_
    have hP9 := hP.sub (ws' := [(oc1 fe rk9 wd9 tw9 pa9 pb9 (.ref lo) (.ref lk) (.ref fm)), (oc4 lk kd9 st9 .null gb9 jt9 we9)]) [0, 1] rfl
    have hD9 := hD.sub (ws' := [(oc1 fe rk9 wd9 tw9 pa9 pb9 (.ref lo) (.ref lk) (.ref fm)), (oc4 lk kd9 st9 .null gb9 jt9 we9)]) [0, 1] (by decide) rfl
    rw [hQ9]
    exact W.zret (ty := .boolean) (v := 0) hx hb hr (rfl) (fun t ht hW => ⟨⟨congrArg (fun z => Outcome.returned (some (Value.int z))) (show (0 : Int32) = pI (1 ≤ kd9.toInt ∧ kd9.toInt ≤ 5) from (zp_f (by omega)).symm), by rw [ht]; exact hP9, hD9⟩, hS.F ht⟩) hS.2.2 dX2_bends_26
  · have c_1 : 0 < kd9.toInt := zc_nle rfl (by decide) c_1
    refine lv_aload_n hx hb dX2_bends_10 rfl (lv_at hl 0 rfl) ?_
    refine va_get (D := (dC, dI)) (ci := 1) (v := .ref lk) (C := RX2) (T := TX2) (N := 8) hx hb hts inX2 hown hK hP 0 rfl rfl 6 (by decide) (hts _ mw_429) (fun _ h9 => h9) rfl dX2_bends_11 ?_
    refine va_get (D := (dC, dI)) (ci := 4) (v := .int kd9) (C := RX5) (T := TX5) (N := 6) hx hb hts inX5 hown hK hP 1 rfl rfl 0 (by decide) (hts _ mw_379) (fun _ h9 => h9) rfl dX2_bends_14 ?_
    refine lv_iconst (v := 5) hx hb dX2_bends_17 (by decide) ?_
    refine lv_icmp_gt (tgt := 25) hx hb dX2_bends_18 (by decide) (fun c_2 => ?_) (fun c_2 => ?_)
    · have c_2 : 5 < kd9.toInt := zc_lt (by decide) rfl c_2
      refine lv_iconst (v := 0) hx hb dX2_bends_25 (by decide) ?_
      have hP9 := hP.sub (ws' := [(oc1 fe rk9 wd9 tw9 pa9 pb9 (.ref lo) (.ref lk) (.ref fm)), (oc4 lk kd9 st9 .null gb9 jt9 we9)]) [0, 1] rfl
      have hD9 := hD.sub (ws' := [(oc1 fe rk9 wd9 tw9 pa9 pb9 (.ref lo) (.ref lk) (.ref fm)), (oc4 lk kd9 st9 .null gb9 jt9 we9)]) [0, 1] (by decide) rfl
      rw [hQ9]
      exact W.zret (ty := .boolean) (v := 0) hx hb hr (rfl) (fun t ht hW => ⟨⟨congrArg (fun z => Outcome.returned (some (Value.int z))) (show (0 : Int32) = pI (1 ≤ kd9.toInt ∧ kd9.toInt ≤ 5) from (zp_f (by omega)).symm), by rw [ht]; exact hP9, hD9⟩, hS.F ht⟩) hS.2.2 dX2_bends_26
    · have c_2 : kd9.toInt ≤ 5 := zc_nlt (by decide) rfl c_2
      refine lv_iconst (v := 1) hx hb dX2_bends_21 (by decide) ?_
      refine lv_goto (tgt := 26) hx hb dX2_bends_22 (by decide) ?_
      have hP9 := hP.sub (ws' := [(oc1 fe rk9 wd9 tw9 pa9 pb9 (.ref lo) (.ref lk) (.ref fm)), (oc4 lk kd9 st9 .null gb9 jt9 we9)]) [0, 1] rfl
      have hD9 := hD.sub (ws' := [(oc1 fe rk9 wd9 tw9 pa9 pb9 (.ref lo) (.ref lk) (.ref fm)), (oc4 lk kd9 st9 .null gb9 jt9 we9)]) [0, 1] (by decide) rfl
      rw [hQ9]
      exact W.zret (ty := .boolean) (v := 1) hx hb hr (rfl) (fun t ht hW => ⟨⟨congrArg (fun z => Outcome.returned (some (Value.int z))) (show (1 : Int32) = pI (1 ≤ kd9.toInt ∧ kd9.toInt ≤ 5) from (zp_t (by omega)).symm), by rw [ht]; exact hP9, hD9⟩, hS.F ht⟩) hS.2.2 dX2_bends_26
set_option maxHeartbeats 4000000 in
set_option maxRecDepth 100000 in
theorem k_Feature_mayHaveCorner_f_n (l : Launch) (dC : Nat → ClassId) (dI : Nat → Nat → Nat) (cI cZ cF : ClassId) (sz : Nat) (fe : Nat) (lo : Nat) (rk9 : Int32) (wd9 : Int32) (tw9 : Int32) (pa9 : Int32) (pb9 : Int32) (lk : Nat) (kd9 : Int32) (st9 : Int32) (gb9 : Int32) (jt9 : Int32) (we9 : Int32) (fm : Nat) (kv : Int32) : Met l yX2_mayHaveCorner (.code yX2_mayHaveCorner cX2_mayHaveCorner 2 (some .boolean) :: ws0) ({ frames := 0, cells := 0, slots := 0, locals := 0 } : Room) (va_Pc [.ref fe, .int kv] (zPre (dC, dI) classes (zTy cI cZ cF) [(oc1 fe rk9 wd9 tw9 pa9 pb9 (.ref lo) (.ref lk) (.ref fm)), (oc4 lk kd9 st9 .null gb9 jt9 we9)] sz zXN)) (zQ (some (.int (pI (0 ≤ kv.toInt)))) (fun t => va_P (dC, dI) classes [(oc1 fe rk9 wd9 tw9 pa9 pb9 (.ref lo) (.ref lk) (.ref fm)), (oc4 lk kd9 st9 .null gb9 jt9 we9)] t.heap ∧ va_D (va_A [(oc1 fe rk9 wd9 tw9 pa9 pb9 (.ref lo) (.ref lk) (.ref fm)), (oc4 lk kd9 st9 .null gb9 jt9 we9)] sz) [(oc1 fe rk9 wd9 tw9 pa9 pb9 (.ref lo) (.ref lk) (.ref fm)), (oc4 lk kd9 st9 .null gb9 jt9 we9)]) (va_A [(oc1 fe rk9 wd9 tw9 pa9 pb9 (.ref lo) (.ref lk) (.ref fm)), (oc4 lk kd9 st9 .null gb9 jt9 we9)] sz)) 0 0 (va_A [(oc1 fe rk9 wd9 tw9 pa9 pb9 (.ref lo) (.ref lk) (.ref fm)), (oc4 lk kd9 st9 .null gb9 jt9 we9)] sz) := by
  refine Met.ofW (cc := cX2_mayHaveCorner) (maxL := 2) (ret := (some .boolean)) (by decide) rfl ?_
  intro p e s m args below meth c s₁ B hml hv
  obtain ⟨rfl, hsz, hP, hK, hD0, hXN⟩ := hv
  have hx := B.exec
  have hb := B.bytes
  have hr := B.returns
  have hts0 := atoms_spec (ws := .code yX2_mayHaveCorner cX2_mayHaveCorner 2 (some .boolean) :: ws0) B.pre
  have hts : ∀ w9 ∈ ws0, w9.before ([.ref fe, .int kv] : List Value).toArray s = true := fun w9 h => hts0 w9 (List.mem_cons_of_mem _ h)
  have hown : s.vm.findClass "ScaleShop$Feature" = some m.cls := findClass_of_methodNamed B.named
  have hlocks := B.notSynchronized
  subst hsz
  have hD := hD0.self (sz := s.heap.size)
  clear hD0
  generalize hAe : va_A [(oc1 fe rk9 wd9 tw9 pa9 pb9 (.ref lo) (.ref lk) (.ref fm)), (oc4 lk kd9 st9 .null gb9 jt9 we9)] s.heap.size = A at hD ⊢
  have hA : ∀ q : Nat, s.heap.size ≤ q → A q := fun q h => by rw [← hAe]; exact Or.inr h
  clear hAe
  have hS : va_S A s.heap s.heap [] := va_S.rf
  have hP : va_P (dC, dI) classes [(oc1 fe rk9 wd9 tw9 pa9 pb9 (.ref lo) (.ref lk) (.ref fm)), (oc4 lk kd9 st9 .null gb9 jt9 we9)] s.heap := hP
  obtain ⟨Q9, hQ9⟩ : ∃ Q9 : State → Prop, Q9 = MQ below (zQ (some (.int (pI (0 ≤ kv.toInt)))) (fun t => va_P (dC, dI) classes [(oc1 fe rk9 wd9 tw9 pa9 pb9 (.ref lo) (.ref lk) (.ref fm)), (oc4 lk kd9 st9 .null gb9 jt9 we9)] t.heap ∧ va_D A [(oc1 fe rk9 wd9 tw9 pa9 pb9 (.ref lo) (.ref lk) (.ref fm)), (oc4 lk kd9 st9 .null gb9 jt9 we9)]) A) ([.ref fe, .int kv] : List Value).toArray s 0 0 A := ⟨_, rfl⟩
  rw [← hQ9]
  have hl := lv_entry ([.ref fe, .int kv]) (n := 2) (Nat.le_of_ble_eq_true rfl)
  rw [lg_entry_eq]
  generalize (lg_sl ([.ref fe, .int kv]) ++ List.replicate (2 - (lg_sl ([.ref fe, .int kv])).length) Slot.unset).toArray = ls at hl ⊢
  have hl : lv_has ls 2 [(0, .ref fe), (1, .int kv)] := hl
  refine lv_iload_n hx hb dX2_mayHaveCorner_0 rfl (lv_at hl 1 rfl) ?_
  refine lv_if_lt (tgt := 32) hx hb dX2_mayHaveCorner_1 (by decide) (fun c_1 => ?_) (fun c_1 => ?_)
  · have c_1 : kv.toInt < 0 := zc_lt rfl (by decide) c_1
    refine lv_iconst (v := 0) hx hb dX2_mayHaveCorner_32 (by decide) ?_
    have hP9 := hP.sub (ws' := [(oc1 fe rk9 wd9 tw9 pa9 pb9 (.ref lo) (.ref lk) (.ref fm)), (oc4 lk kd9 st9 .null gb9 jt9 we9)]) [0, 1] rfl
    have hD9 := hD.sub (ws' := [(oc1 fe rk9 wd9 tw9 pa9 pb9 (.ref lo) (.ref lk) (.ref fm)), (oc4 lk kd9 st9 .null gb9 jt9 we9)]) [0, 1] (by decide) rfl
    rw [hQ9]
    exact W.zret (ty := .boolean) (v := 0) hx hb hr (rfl) (fun t ht hW => ⟨⟨congrArg (fun z => Outcome.returned (some (Value.int z))) (show (0 : Int32) = pI (0 ≤ kv.toInt) from (zp_f (by omega)).symm), by rw [ht]; exact hP9, hD9⟩, hS.F ht⟩) hS.2.2 dX2_mayHaveCorner_33
  · have c_1 : 0 ≤ kv.toInt := zc_nlt rfl (by decide) c_1
    refine lv_aload_n hx hb dX2_mayHaveCorner_4 rfl (lv_at hl 0 rfl) ?_
    refine va_get (D := (dC, dI)) (ci := 1) (v := .ref lk) (C := RX2) (T := TX2) (N := 8) hx hb hts inX2 hown hK hP 0 rfl rfl 6 (by decide) (hts _ mw_429) (fun _ h9 => h9) rfl dX2_mayHaveCorner_5 ?_
    refine va_get (D := (dC, dI)) (ci := 4) (v := .null) (C := RX5) (T := TX5) (N := 6) hx hb hts inX5 hown hK hP 1 rfl rfl 2 (by decide) (hts _ mw_392) (fun _ h9 => h9) rfl dX2_mayHaveCorner_8 ?_
    refine lv_ifnullN (tgt := 28) hx hb dX2_mayHaveCorner_11 (by decide) ?_
    refine lv_iconst (v := 1) hx hb dX2_mayHaveCorner_28 (by decide) ?_
    refine lv_goto (tgt := 33) hx hb dX2_mayHaveCorner_29 (by decide) ?_
    have hP9 := hP.sub (ws' := [(oc1 fe rk9 wd9 tw9 pa9 pb9 (.ref lo) (.ref lk) (.ref fm)), (oc4 lk kd9 st9 .null gb9 jt9 we9)]) [0, 1] rfl
    have hD9 := hD.sub (ws' := [(oc1 fe rk9 wd9 tw9 pa9 pb9 (.ref lo) (.ref lk) (.ref fm)), (oc4 lk kd9 st9 .null gb9 jt9 we9)]) [0, 1] (by decide) rfl
    rw [hQ9]
    exact W.zret (ty := .boolean) (v := 1) hx hb hr (rfl) (fun t ht hW => ⟨⟨congrArg (fun z => Outcome.returned (some (Value.int z))) (show (1 : Int32) = pI (0 ≤ kv.toInt) from (zp_t (by omega)).symm), by rw [ht]; exact hP9, hD9⟩, hS.F ht⟩) hS.2.2 dX2_mayHaveCorner_33
set_option maxHeartbeats 4000000 in
set_option maxRecDepth 100000 in
theorem k_Feature_keep_r (l : Launch) (dC : Nat → ClassId) (dI : Nat → Nat → Nat) (cI cZ cF : ClassId) (sz : Nat) (fe : Nat) (lo : Nat) (rk9 : Int32) (wd9 : Int32) (tw9 : Int32) (pa9 : Int32) (pb9 : Int32) (lk : Nat) (kd9 : Int32) (st9 : Int32) (gb9 : Int32) (jt9 : Int32) (we9 : Int32) (r : Nat) : Met l yX2_keepFormer (.code yX2_keepFormer cX2_keepFormer 1 none :: ws0) ({ frames := 3, cells := 1, slots := 6, locals := 54 } : Room) (va_Pc [.ref fe] (zPre (dC, dI) classes (zTy cI cZ cF) [(oc1 fe rk9 wd9 tw9 pa9 pb9 (.ref lo) (.ref lk) .null), (oc4 lk kd9 st9 (.ref r) gb9 jt9 we9)] sz zXN)) (zQ none (fun t => ∃ (q : Nat), va_P (dC, dI) classes [(oc1 fe rk9 wd9 tw9 pa9 pb9 (.ref lo) (.ref q) (.ref lk)), (oc4 lk kd9 st9 (.ref r) gb9 jt9 we9), (oc4 q kd9 st9 (.ref r) gb9 jt9 we9)] t.heap ∧ va_D (va_A [(oc1 fe rk9 wd9 tw9 pa9 pb9 (.ref lo) (.ref lk) .null), (oc4 lk kd9 st9 (.ref r) gb9 jt9 we9)] sz) [(oc1 fe rk9 wd9 tw9 pa9 pb9 (.ref lo) (.ref q) (.ref lk)), (oc4 lk kd9 st9 (.ref r) gb9 jt9 we9), (oc4 q kd9 st9 (.ref r) gb9 jt9 we9)]) (va_A [(oc1 fe rk9 wd9 tw9 pa9 pb9 (.ref lo) (.ref lk) .null), (oc4 lk kd9 st9 (.ref r) gb9 jt9 we9)] sz)) 1 6 (va_A [(oc1 fe rk9 wd9 tw9 pa9 pb9 (.ref lo) (.ref lk) .null), (oc4 lk kd9 st9 (.ref r) gb9 jt9 we9)] sz) := by
  refine Met.ofW (cc := cX2_keepFormer) (maxL := 1) (ret := none) (by decide) rfl ?_
  intro p e s m args below meth c s₁ B hml hv
  obtain ⟨rfl, hsz, hP, hK, hD0, hXN⟩ := hv
  have hx := B.exec
  have hb := B.bytes
  have hr := B.returns
  have hts0 := atoms_spec (ws := .code yX2_keepFormer cX2_keepFormer 1 none :: ws0) B.pre
  have hts : ∀ w9 ∈ ws0, w9.before ([.ref fe] : List Value).toArray s = true := fun w9 h => hts0 w9 (List.mem_cons_of_mem _ h)
  have hown : s.vm.findClass "ScaleShop$Feature" = some m.cls := findClass_of_methodNamed B.named
  have hlocks := B.notSynchronized
  subst hsz
  have hD := hD0.self (sz := s.heap.size)
  clear hD0
  generalize hAe : va_A [(oc1 fe rk9 wd9 tw9 pa9 pb9 (.ref lo) (.ref lk) .null), (oc4 lk kd9 st9 (.ref r) gb9 jt9 we9)] s.heap.size = A at hD ⊢
  have hA : ∀ q : Nat, s.heap.size ≤ q → A q := fun q h => by rw [← hAe]; exact Or.inr h
  clear hAe
  have hS : va_S A s.heap s.heap [] := va_S.rf
  have hP : va_P (dC, dI) classes [(oc1 fe rk9 wd9 tw9 pa9 pb9 (.ref lo) (.ref lk) .null), (oc4 lk kd9 st9 (.ref r) gb9 jt9 we9)] s.heap := hP
  obtain ⟨Q9, hQ9⟩ : ∃ Q9 : State → Prop, Q9 = MQ below (zQ none (fun t => ∃ (q : Nat), va_P (dC, dI) classes [(oc1 fe rk9 wd9 tw9 pa9 pb9 (.ref lo) (.ref q) (.ref lk)), (oc4 lk kd9 st9 (.ref r) gb9 jt9 we9), (oc4 q kd9 st9 (.ref r) gb9 jt9 we9)] t.heap ∧ va_D A [(oc1 fe rk9 wd9 tw9 pa9 pb9 (.ref lo) (.ref q) (.ref lk)), (oc4 lk kd9 st9 (.ref r) gb9 jt9 we9), (oc4 q kd9 st9 (.ref r) gb9 jt9 we9)]) A) ([.ref fe] : List Value).toArray s 1 6 A := ⟨_, rfl⟩
  rw [← hQ9]
  have hl := lv_entry ([.ref fe]) (n := 1) (Nat.le_of_ble_eq_true rfl)
  rw [lg_entry_eq]
  generalize (lg_sl ([.ref fe]) ++ List.replicate (1 - (lg_sl ([.ref fe])).length) Slot.unset).toArray = ls at hl ⊢
  have hl : lv_has ls 1 [(0, .ref fe)] := hl
  refine lv_aload_n hx hb dX2_keepFormer_0 rfl (lv_at hl 0 rfl) ?_
  refine va_get (D := (dC, dI)) (ci := 1) (v := .null) (C := RX2) (T := TX2) (N := 8) hx hb hts inX2 hown hK hP 0 rfl rfl 7 (by decide) (hts _ mw_436) (fun _ h9 => h9) rfl dX2_keepFormer_1 ?_
  refine lv_ifnonnullN hx hb dX2_keepFormer_4 ?_
  refine lv_aload_n hx hb dX2_keepFormer_7 rfl (lv_at hl 0 rfl) ?_
  refine lv_aload_n hx hb dX2_keepFormer_8 rfl (lv_at hl 0 rfl) ?_
  refine va_get (D := (dC, dI)) (ci := 1) (v := .ref lk) (C := RX2) (T := TX2) (N := 8) hx hb hts inX2 hown hK hP 0 rfl rfl 6 (by decide) (hts _ mw_429) (fun _ h9 => h9) rfl dX2_keepFormer_9 ?_
  refine va_put (D := (dC, dI)) (ci := 1) (v := .ref lk) (ty := .object "ScaleShop$Look") (C := RX2) (T := TX2) (N := 8) hx hb hts inX2 tyX2 tyX2_ok nmX2 hown hK hP hD hS 0 rfl rfl 7 (by decide) (hts _ mw_436) (fun _ h9 => h9) rfl (by decide +kernel) rfl rfl (Nat.le_of_ble_eq_true rfl) dX2_keepFormer_12 (fun H locs hP hD hS => ?_)
  have hP : va_P (dC, dI) classes [(oc1 fe rk9 wd9 tw9 pa9 pb9 (.ref lo) (.ref lk) (.ref lk)), (oc4 lk kd9 st9 (.ref r) gb9 jt9 we9)] H := hP
  have hD : va_D A [(oc1 fe rk9 wd9 tw9 pa9 pb9 (.ref lo) (.ref lk) (.ref lk)), (oc4 lk kd9 st9 (.ref r) gb9 jt9 we9)] := hD
  refine lv_aload_n hx hb dX2_keepFormer_15 rfl (lv_at hl 0 rfl) ?_
  refine lv_aload_n hx hb dX2_keepFormer_16 rfl (lv_at hl 0 rfl) ?_
  refine va_get (D := (dC, dI)) (ci := 1) (v := .ref lk) (C := RX2) (T := TX2) (N := 8) hx hb hts inX2 hown hK hP 0 rfl rfl 7 (by decide) (hts _ mw_436) (fun _ h9 => h9) rfl dX2_keepFormer_17 ?_
  have hPc := hP.sub (ws' := [(oc4 lk kd9 st9 (.ref r) gb9 jt9 we9)]) [1] rfl
  have hDc := hD.sub (ws' := [(oc4 lk kd9 st9 (.ref r) gb9 jt9 we9)]) [1] (by decide) rfl
  have hFc := va_free (wc := [(oc4 lk kd9 st9 (.ref r) gb9 jt9 we9)]) hD hS hA [1] rfl
  refine zcalle (va_runV (As := []) (rest := [.ref fe]) ⟨hx, hb, hml, hown, hts⟩ (k_Look_copy_r l dC dI cI cZ cF H.size lk kd9 st9 gb9 jt9 we9 r ) (cwV 0 hts (zz_gV mw_738 mw_739 mw_740 mw_112 mc_yX5_copy) rfl rfl rfl (by decide +kernel) ⟨Nat.le_of_ble_eq_true rfl, Nat.le_of_ble_eq_true rfl⟩) (zPV2 (q0 := 0) (ci := 4) hPc hDc hK hXN rfl rfl) rfl rfl hl.1 rfl (lv_room (Nat.le_of_ble_eq_true rfl)) dX2_keepFormer_20 ⟨Nat.le_of_ble_eq_true rfl, Nat.le_of_ble_eq_true rfl⟩) hS hFc hFc (fun v9 t H1 locs ht hB hk1 hS => ?_)
  obtain ⟨q, rfl, hP1, hD1⟩ := hB
  refine W.eq (g2 := F0 m 23 ls [.ref q, .ref fe]) rfl ?_
  rw [ht] at hP1
  obtain ⟨hP, hD⟩ := va_join (wr := [(oc1 fe rk9 wd9 tw9 pa9 pb9 (.ref lo) (.ref lk) (.ref lk))]) (w1 := [(oc4 lk kd9 st9 (.ref r) gb9 jt9 we9), (oc4 q kd9 st9 (.ref r) gb9 jt9 we9)]) hP hD [1] [0] rfl rfl (by decide) (by decide) hk1 hFc hP1 hD1
  clear hk1 hPc hDc hFc hP1 hD1 ht
  generalize H1 = H at hP hS ⊢
  have hP : va_P (dC, dI) classes [(oc1 fe rk9 wd9 tw9 pa9 pb9 (.ref lo) (.ref lk) (.ref lk)), (oc4 lk kd9 st9 (.ref r) gb9 jt9 we9), (oc4 q kd9 st9 (.ref r) gb9 jt9 we9)] H := hP
  have hD : va_D A [(oc1 fe rk9 wd9 tw9 pa9 pb9 (.ref lo) (.ref lk) (.ref lk)), (oc4 lk kd9 st9 (.ref r) gb9 jt9 we9), (oc4 q kd9 st9 (.ref r) gb9 jt9 we9)] := hD
  refine va_put (D := (dC, dI)) (ci := 1) (v := .ref q) (ty := .object "ScaleShop$Look") (C := RX2) (T := TX2) (N := 8) hx hb hts inX2 tyX2 tyX2_ok nmX2 hown hK hP hD hS 0 rfl rfl 6 (by decide) (hts _ mw_429) (fun _ h9 => h9) rfl (by decide +kernel) rfl rfl (Nat.le_of_ble_eq_true rfl) dX2_keepFormer_23 (fun H locs hP hD hS => ?_)
  have hP : va_P (dC, dI) classes [(oc1 fe rk9 wd9 tw9 pa9 pb9 (.ref lo) (.ref q) (.ref lk)), (oc4 lk kd9 st9 (.ref r) gb9 jt9 we9), (oc4 q kd9 st9 (.ref r) gb9 jt9 we9)] H := hP
  have hD : va_D A [(oc1 fe rk9 wd9 tw9 pa9 pb9 (.ref lo) (.ref q) (.ref lk)), (oc4 lk kd9 st9 (.ref r) gb9 jt9 we9), (oc4 q kd9 st9 (.ref r) gb9 jt9 we9)] := hD
  have hP9 := hP.sub (ws' := [(oc1 fe rk9 wd9 tw9 pa9 pb9 (.ref lo) (.ref q) (.ref lk)), (oc4 lk kd9 st9 (.ref r) gb9 jt9 we9), (oc4 q kd9 st9 (.ref r) gb9 jt9 we9)]) [0, 1, 2] rfl
  have hD9 := hD.sub (ws' := [(oc1 fe rk9 wd9 tw9 pa9 pb9 (.ref lo) (.ref q) (.ref lk)), (oc4 lk kd9 st9 (.ref r) gb9 jt9 we9), (oc4 q kd9 st9 (.ref r) gb9 jt9 we9)]) [0, 1, 2] (by decide) rfl
  refine W.widen (k := 1) (n := 6) (by decide) (by decide) ?_
  rw [hQ9]
  exact W.vret hx hb hr (fun t ht hW => ⟨⟨rfl, q, by rw [ht]; exact hP9, hD9⟩, hS.F ht⟩) hS.2.2 dX2_keepFormer_26
set_option maxHeartbeats 4000000 in
set_option maxRecDepth 100000 in
theorem k_Feature_keepf_r (l : Launch) (dC : Nat → ClassId) (dI : Nat → Nat → Nat) (cI cZ cF : ClassId) (sz : Nat) (fe : Nat) (lo : Nat) (rk9 : Int32) (wd9 : Int32) (tw9 : Int32) (pa9 : Int32) (pb9 : Int32) (lk : Nat) (kd9 : Int32) (st9 : Int32) (gb9 : Int32) (jt9 : Int32) (we9 : Int32) (fm : Nat) (r : Nat) : Met l yX2_keepFormer (.code yX2_keepFormer cX2_keepFormer 1 none :: ws0) ({ frames := 0, cells := 0, slots := 0, locals := 0 } : Room) (va_Pc [.ref fe] (zPre (dC, dI) classes (zTy cI cZ cF) [(oc1 fe rk9 wd9 tw9 pa9 pb9 (.ref lo) (.ref lk) (.ref fm)), (oc4 lk kd9 st9 (.ref r) gb9 jt9 we9)] sz zXN)) (zQ none (fun t => va_P (dC, dI) classes [(oc1 fe rk9 wd9 tw9 pa9 pb9 (.ref lo) (.ref lk) (.ref fm)), (oc4 lk kd9 st9 (.ref r) gb9 jt9 we9)] t.heap ∧ va_D (va_A [(oc1 fe rk9 wd9 tw9 pa9 pb9 (.ref lo) (.ref lk) (.ref fm)), (oc4 lk kd9 st9 (.ref r) gb9 jt9 we9)] sz) [(oc1 fe rk9 wd9 tw9 pa9 pb9 (.ref lo) (.ref lk) (.ref fm)), (oc4 lk kd9 st9 (.ref r) gb9 jt9 we9)]) (va_A [(oc1 fe rk9 wd9 tw9 pa9 pb9 (.ref lo) (.ref lk) (.ref fm)), (oc4 lk kd9 st9 (.ref r) gb9 jt9 we9)] sz)) 0 0 (va_A [(oc1 fe rk9 wd9 tw9 pa9 pb9 (.ref lo) (.ref lk) (.ref fm)), (oc4 lk kd9 st9 (.ref r) gb9 jt9 we9)] sz) := by
  refine Met.ofW (cc := cX2_keepFormer) (maxL := 1) (ret := none) (by decide) rfl ?_
  intro p e s m args below meth c s₁ B hml hv
  obtain ⟨rfl, hsz, hP, hK, hD0, hXN⟩ := hv
  have hx := B.exec
  have hb := B.bytes
  have hr := B.returns
  have hts0 := atoms_spec (ws := .code yX2_keepFormer cX2_keepFormer 1 none :: ws0) B.pre
  have hts : ∀ w9 ∈ ws0, w9.before ([.ref fe] : List Value).toArray s = true := fun w9 h => hts0 w9 (List.mem_cons_of_mem _ h)
  have hown : s.vm.findClass "ScaleShop$Feature" = some m.cls := findClass_of_methodNamed B.named
  have hlocks := B.notSynchronized
  subst hsz
  have hD := hD0.self (sz := s.heap.size)
  clear hD0
  generalize hAe : va_A [(oc1 fe rk9 wd9 tw9 pa9 pb9 (.ref lo) (.ref lk) (.ref fm)), (oc4 lk kd9 st9 (.ref r) gb9 jt9 we9)] s.heap.size = A at hD ⊢
  have hA : ∀ q : Nat, s.heap.size ≤ q → A q := fun q h => by rw [← hAe]; exact Or.inr h
  clear hAe
  have hS : va_S A s.heap s.heap [] := va_S.rf
  have hP : va_P (dC, dI) classes [(oc1 fe rk9 wd9 tw9 pa9 pb9 (.ref lo) (.ref lk) (.ref fm)), (oc4 lk kd9 st9 (.ref r) gb9 jt9 we9)] s.heap := hP
  obtain ⟨Q9, hQ9⟩ : ∃ Q9 : State → Prop, Q9 = MQ below (zQ none (fun t => va_P (dC, dI) classes [(oc1 fe rk9 wd9 tw9 pa9 pb9 (.ref lo) (.ref lk) (.ref fm)), (oc4 lk kd9 st9 (.ref r) gb9 jt9 we9)] t.heap ∧ va_D A [(oc1 fe rk9 wd9 tw9 pa9 pb9 (.ref lo) (.ref lk) (.ref fm)), (oc4 lk kd9 st9 (.ref r) gb9 jt9 we9)]) A) ([.ref fe] : List Value).toArray s 0 0 A := ⟨_, rfl⟩
  rw [← hQ9]
  have hl := lv_entry ([.ref fe]) (n := 1) (Nat.le_of_ble_eq_true rfl)
  rw [lg_entry_eq]
  generalize (lg_sl ([.ref fe]) ++ List.replicate (1 - (lg_sl ([.ref fe])).length) Slot.unset).toArray = ls at hl ⊢
  have hl : lv_has ls 1 [(0, .ref fe)] := hl
  refine lv_aload_n hx hb dX2_keepFormer_0 rfl (lv_at hl 0 rfl) ?_
  refine va_get (D := (dC, dI)) (ci := 1) (v := .ref fm) (C := RX2) (T := TX2) (N := 8) hx hb hts inX2 hown hK hP 0 rfl rfl 7 (by decide) (hts _ mw_436) (fun _ h9 => h9) rfl dX2_keepFormer_1 ?_
  refine lv_ifnonnull (tgt := 26) hx hb dX2_keepFormer_4 (by decide) ?_
  have hP9 := hP.sub (ws' := [(oc1 fe rk9 wd9 tw9 pa9 pb9 (.ref lo) (.ref lk) (.ref fm)), (oc4 lk kd9 st9 (.ref r) gb9 jt9 we9)]) [0, 1] rfl
  have hD9 := hD.sub (ws' := [(oc1 fe rk9 wd9 tw9 pa9 pb9 (.ref lo) (.ref lk) (.ref fm)), (oc4 lk kd9 st9 (.ref r) gb9 jt9 we9)]) [0, 1] (by decide) rfl
  rw [hQ9]
  exact W.vret hx hb hr (fun t ht hW => ⟨⟨rfl, by rw [ht]; exact hP9, hD9⟩, hS.F ht⟩) hS.2.2 dX2_keepFormer_26
set_option maxHeartbeats 4000000 in
set_option maxRecDepth 100000 in
theorem k_Feature_leave_r (l : Launch) (dC : Nat → ClassId) (dI : Nat → Nat → Nat) (cI cZ cF : ClassId) (sz : Nat) (fe : Nat) (lo : Nat) (rk9 : Int32) (wd9 : Int32) (tw9 : Int32) (pa9 : Int32) (pb9 : Int32) (lk : Nat) (kd9 : Int32) (st9 : Int32) (gb9 : Int32) (jt9 : Int32) (we9 : Int32) (r : Nat) (sn9 : Int32) : Met l yX2_leave (.code yX2_leave cX2_leave 2 none :: ws0) ({ frames := 4, cells := 1, slots := 6, locals := 74 } : Room) (va_Pc [.ref fe, .int sn9] (zPre (dC, dI) classes (zTy cI cZ cF) [(oc1 fe rk9 wd9 tw9 pa9 pb9 (.ref lo) (.ref lk) .null), (oc4 lk kd9 st9 (.ref r) gb9 jt9 we9)] sz zXN)) (zQ none (fun t => ∃ (q : Nat), va_P (dC, dI) classes [(oc1 fe rk9 wd9 tw9 pa9 pb9 (.ref lo) (.ref q) (.ref lk)), (oc4 lk kd9 st9 (.ref r) gb9 jt9 we9), (oc4 q kd9 2 (.ref r) sn9 jt9 we9)] t.heap ∧ va_D (va_A [(oc1 fe rk9 wd9 tw9 pa9 pb9 (.ref lo) (.ref lk) .null), (oc4 lk kd9 st9 (.ref r) gb9 jt9 we9)] sz) [(oc1 fe rk9 wd9 tw9 pa9 pb9 (.ref lo) (.ref q) (.ref lk)), (oc4 lk kd9 st9 (.ref r) gb9 jt9 we9), (oc4 q kd9 2 (.ref r) sn9 jt9 we9)]) (va_A [(oc1 fe rk9 wd9 tw9 pa9 pb9 (.ref lo) (.ref lk) .null), (oc4 lk kd9 st9 (.ref r) gb9 jt9 we9)] sz)) 1 6 (va_A [(oc1 fe rk9 wd9 tw9 pa9 pb9 (.ref lo) (.ref lk) .null), (oc4 lk kd9 st9 (.ref r) gb9 jt9 we9)] sz) := by
  refine Met.ofW (cc := cX2_leave) (maxL := 2) (ret := none) (by decide) rfl ?_
  intro p e s m args below meth c s₁ B hml hv
  obtain ⟨rfl, hsz, hP, hK, hD0, hXN⟩ := hv
  have hx := B.exec
  have hb := B.bytes
  have hr := B.returns
  have hts0 := atoms_spec (ws := .code yX2_leave cX2_leave 2 none :: ws0) B.pre
  have hts : ∀ w9 ∈ ws0, w9.before ([.ref fe, .int sn9] : List Value).toArray s = true := fun w9 h => hts0 w9 (List.mem_cons_of_mem _ h)
  have hown : s.vm.findClass "ScaleShop$Feature" = some m.cls := findClass_of_methodNamed B.named
  have hlocks := B.notSynchronized
  subst hsz
  have hD := hD0.self (sz := s.heap.size)
  clear hD0
  generalize hAe : va_A [(oc1 fe rk9 wd9 tw9 pa9 pb9 (.ref lo) (.ref lk) .null), (oc4 lk kd9 st9 (.ref r) gb9 jt9 we9)] s.heap.size = A at hD ⊢
  have hA : ∀ q : Nat, s.heap.size ≤ q → A q := fun q h => by rw [← hAe]; exact Or.inr h
  clear hAe
  have hS : va_S A s.heap s.heap [] := va_S.rf
  have hP : va_P (dC, dI) classes [(oc1 fe rk9 wd9 tw9 pa9 pb9 (.ref lo) (.ref lk) .null), (oc4 lk kd9 st9 (.ref r) gb9 jt9 we9)] s.heap := hP
  obtain ⟨Q9, hQ9⟩ : ∃ Q9 : State → Prop, Q9 = MQ below (zQ none (fun t => ∃ (q : Nat), va_P (dC, dI) classes [(oc1 fe rk9 wd9 tw9 pa9 pb9 (.ref lo) (.ref q) (.ref lk)), (oc4 lk kd9 st9 (.ref r) gb9 jt9 we9), (oc4 q kd9 2 (.ref r) sn9 jt9 we9)] t.heap ∧ va_D A [(oc1 fe rk9 wd9 tw9 pa9 pb9 (.ref lo) (.ref q) (.ref lk)), (oc4 lk kd9 st9 (.ref r) gb9 jt9 we9), (oc4 q kd9 2 (.ref r) sn9 jt9 we9)]) A) ([.ref fe, .int sn9] : List Value).toArray s 1 6 A := ⟨_, rfl⟩
  rw [← hQ9]
  have hl := lv_entry ([.ref fe, .int sn9]) (n := 2) (Nat.le_of_ble_eq_true rfl)
  rw [lg_entry_eq]
  generalize (lg_sl ([.ref fe, .int sn9]) ++ List.replicate (2 - (lg_sl ([.ref fe, .int sn9])).length) Slot.unset).toArray = ls at hl ⊢
  have hl : lv_has ls 2 [(0, .ref fe), (1, .int sn9)] := hl
  refine lv_aload_n hx hb dX2_leave_0 rfl (lv_at hl 0 rfl) ?_
  have hPc := hP.sub (ws' := [(oc1 fe rk9 wd9 tw9 pa9 pb9 (.ref lo) (.ref lk) .null), (oc4 lk kd9 st9 (.ref r) gb9 jt9 we9)]) [0, 1] rfl
  have hDc := hD.sub (ws' := [(oc1 fe rk9 wd9 tw9 pa9 pb9 (.ref lo) (.ref lk) .null), (oc4 lk kd9 st9 (.ref r) gb9 jt9 we9)]) [0, 1] (by decide) rfl
  have hFc := va_free (wc := [(oc1 fe rk9 wd9 tw9 pa9 pb9 (.ref lo) (.ref lk) .null), (oc4 lk kd9 st9 (.ref r) gb9 jt9 we9)]) hD hS hA [0, 1] rfl
  refine zcall (st1 := []) (va_runV (As := []) (rest := []) ⟨hx, hb, hml, hown, hts⟩ (k_Feature_keep_r l dC dI cI cZ cF s.heap.size fe lo rk9 wd9 tw9 pa9 pb9 lk kd9 st9 gb9 jt9 we9 r ) (cwV 0 hts (zz_gV mw_734 mw_736 mw_19 mw_111 mc_yX2_keepFormer) rfl rfl rfl (by decide +kernel) ⟨Nat.le_of_ble_eq_true rfl, Nat.le_of_ble_eq_true rfl⟩) (zPV2 (q0 := 0) (ci := 1) hPc hDc hK hXN rfl rfl) rfl rfl hl.1 rfl (lv_room (Nat.le_of_ble_eq_true rfl)) dX2_leave_1 ⟨Nat.le_of_ble_eq_true rfl, Nat.le_of_ble_eq_true rfl⟩) hS hFc hFc rfl (fun t H1 locs ht hB hk1 hS => ?_)
  obtain ⟨q, hP1, hD1⟩ := hB
  rw [ht] at hP1
  obtain ⟨hP, hD⟩ := va_join (wr := []) (w1 := [(oc1 fe rk9 wd9 tw9 pa9 pb9 (.ref lo) (.ref q) (.ref lk)), (oc4 lk kd9 st9 (.ref r) gb9 jt9 we9), (oc4 q kd9 st9 (.ref r) gb9 jt9 we9)]) hP hD [0, 1] [] rfl rfl (by decide) (by decide) hk1 hFc hP1 hD1
  clear hk1 hPc hDc hFc hP1 hD1 ht
  generalize H1 = H at hP hS ⊢
  have hP : va_P (dC, dI) classes [(oc1 fe rk9 wd9 tw9 pa9 pb9 (.ref lo) (.ref q) (.ref lk)), (oc4 lk kd9 st9 (.ref r) gb9 jt9 we9), (oc4 q kd9 st9 (.ref r) gb9 jt9 we9)] H := hP
  have hD : va_D A [(oc1 fe rk9 wd9 tw9 pa9 pb9 (.ref lo) (.ref q) (.ref lk)), (oc4 lk kd9 st9 (.ref r) gb9 jt9 we9), (oc4 q kd9 st9 (.ref r) gb9 jt9 we9)] := hD
  refine lv_aload_n hx hb dX2_leave_4 rfl (lv_at hl 0 rfl) ?_
  refine va_get (D := (dC, dI)) (ci := 1) (v := .ref q) (C := RX2) (T := TX2) (N := 8) hx hb hts inX2 hown hK hP 0 rfl rfl 6 (by decide) (hts _ mw_429) (fun _ h9 => h9) rfl dX2_leave_5 ?_
  refine lv_iconst (v := 2) hx hb dX2_leave_8 (by decide) ?_
  refine va_put (D := (dC, dI)) (ci := 4) (v := .int 2) (ty := .int) (C := RX5) (T := TX5) (N := 6) hx hb hts inX5 tyX5 tyX5_ok nmX5 hown hK hP hD hS 2 rfl rfl 1 (by decide) (hts _ mw_386) (fun _ h9 => h9) rfl (by decide +kernel) rfl rfl (Nat.le_of_ble_eq_true rfl) dX2_leave_9 (fun H locs hP hD hS => ?_)
  have hP : va_P (dC, dI) classes [(oc1 fe rk9 wd9 tw9 pa9 pb9 (.ref lo) (.ref q) (.ref lk)), (oc4 lk kd9 st9 (.ref r) gb9 jt9 we9), (oc4 q kd9 2 (.ref r) gb9 jt9 we9)] H := hP
  have hD : va_D A [(oc1 fe rk9 wd9 tw9 pa9 pb9 (.ref lo) (.ref q) (.ref lk)), (oc4 lk kd9 st9 (.ref r) gb9 jt9 we9), (oc4 q kd9 2 (.ref r) gb9 jt9 we9)] := hD
  refine lv_aload_n hx hb dX2_leave_12 rfl (lv_at hl 0 rfl) ?_
  refine va_get (D := (dC, dI)) (ci := 1) (v := .ref q) (C := RX2) (T := TX2) (N := 8) hx hb hts inX2 hown hK hP 0 rfl rfl 6 (by decide) (hts _ mw_429) (fun _ h9 => h9) rfl dX2_leave_13 ?_
  refine lv_iload_n hx hb dX2_leave_16 rfl (lv_at hl 1 rfl) ?_
  refine va_put (D := (dC, dI)) (ci := 4) (v := .int sn9) (ty := .int) (C := RX5) (T := TX5) (N := 6) hx hb hts inX5 tyX5 tyX5_ok nmX5 hown hK hP hD hS 2 rfl rfl 3 (by decide) (hts _ mw_395) (fun _ h9 => h9) rfl (by decide +kernel) rfl rfl (Nat.le_of_ble_eq_true rfl) dX2_leave_17 (fun H locs hP hD hS => ?_)
  have hP : va_P (dC, dI) classes [(oc1 fe rk9 wd9 tw9 pa9 pb9 (.ref lo) (.ref q) (.ref lk)), (oc4 lk kd9 st9 (.ref r) gb9 jt9 we9), (oc4 q kd9 2 (.ref r) sn9 jt9 we9)] H := hP
  have hD : va_D A [(oc1 fe rk9 wd9 tw9 pa9 pb9 (.ref lo) (.ref q) (.ref lk)), (oc4 lk kd9 st9 (.ref r) gb9 jt9 we9), (oc4 q kd9 2 (.ref r) sn9 jt9 we9)] := hD
  have hP9 := hP.sub (ws' := [(oc1 fe rk9 wd9 tw9 pa9 pb9 (.ref lo) (.ref q) (.ref lk)), (oc4 lk kd9 st9 (.ref r) gb9 jt9 we9), (oc4 q kd9 2 (.ref r) sn9 jt9 we9)]) [0, 1, 2] rfl
  have hD9 := hD.sub (ws' := [(oc1 fe rk9 wd9 tw9 pa9 pb9 (.ref lo) (.ref q) (.ref lk)), (oc4 lk kd9 st9 (.ref r) gb9 jt9 we9), (oc4 q kd9 2 (.ref r) sn9 jt9 we9)]) [0, 1, 2] (by decide) rfl
  refine W.widen (k := 1) (n := 6) (by decide) (by decide) ?_
  rw [hQ9]
  exact W.vret hx hb hr (fun t ht hW => ⟨⟨rfl, q, by rw [ht]; exact hP9, hD9⟩, hS.F ht⟩) hS.2.2 dX2_leave_20
set_option maxHeartbeats 4000000 in
set_option maxRecDepth 100000 in
theorem k_Feature_leavef_r (l : Launch) (dC : Nat → ClassId) (dI : Nat → Nat → Nat) (cI cZ cF : ClassId) (sz : Nat) (fe : Nat) (lo : Nat) (rk9 : Int32) (wd9 : Int32) (tw9 : Int32) (pa9 : Int32) (pb9 : Int32) (lk : Nat) (kd9 : Int32) (st9 : Int32) (gb9 : Int32) (jt9 : Int32) (we9 : Int32) (fm : Nat) (r : Nat) (sn9 : Int32) : Met l yX2_leave (.code yX2_leave cX2_leave 2 none :: ws0) ({ frames := 1, cells := 0, slots := 0, locals := 20 } : Room) (va_Pc [.ref fe, .int sn9] (zPre (dC, dI) classes (zTy cI cZ cF) [(oc1 fe rk9 wd9 tw9 pa9 pb9 (.ref lo) (.ref lk) (.ref fm)), (oc4 lk kd9 st9 (.ref r) gb9 jt9 we9)] sz zXN)) (zQ none (fun t => va_P (dC, dI) classes [(oc1 fe rk9 wd9 tw9 pa9 pb9 (.ref lo) (.ref lk) (.ref fm)), (oc4 lk kd9 2 (.ref r) sn9 jt9 we9)] t.heap ∧ va_D (va_A [(oc1 fe rk9 wd9 tw9 pa9 pb9 (.ref lo) (.ref lk) (.ref fm)), (oc4 lk kd9 st9 (.ref r) gb9 jt9 we9)] sz) [(oc1 fe rk9 wd9 tw9 pa9 pb9 (.ref lo) (.ref lk) (.ref fm)), (oc4 lk kd9 2 (.ref r) sn9 jt9 we9)]) (va_A [(oc1 fe rk9 wd9 tw9 pa9 pb9 (.ref lo) (.ref lk) (.ref fm)), (oc4 lk kd9 st9 (.ref r) gb9 jt9 we9)] sz)) 0 0 (va_A [(oc1 fe rk9 wd9 tw9 pa9 pb9 (.ref lo) (.ref lk) (.ref fm)), (oc4 lk kd9 st9 (.ref r) gb9 jt9 we9)] sz) := by
  refine Met.ofW (cc := cX2_leave) (maxL := 2) (ret := none) (by decide) rfl ?_
  intro p e s m args below meth c s₁ B hml hv
  obtain ⟨rfl, hsz, hP, hK, hD0, hXN⟩ := hv
  have hx := B.exec
  have hb := B.bytes
  have hr := B.returns
  have hts0 := atoms_spec (ws := .code yX2_leave cX2_leave 2 none :: ws0) B.pre
  have hts : ∀ w9 ∈ ws0, w9.before ([.ref fe, .int sn9] : List Value).toArray s = true := fun w9 h => hts0 w9 (List.mem_cons_of_mem _ h)
  have hown : s.vm.findClass "ScaleShop$Feature" = some m.cls := findClass_of_methodNamed B.named
  have hlocks := B.notSynchronized
  subst hsz
  have hD := hD0.self (sz := s.heap.size)
  clear hD0
  generalize hAe : va_A [(oc1 fe rk9 wd9 tw9 pa9 pb9 (.ref lo) (.ref lk) (.ref fm)), (oc4 lk kd9 st9 (.ref r) gb9 jt9 we9)] s.heap.size = A at hD ⊢
  have hA : ∀ q : Nat, s.heap.size ≤ q → A q := fun q h => by rw [← hAe]; exact Or.inr h
  clear hAe
  have hS : va_S A s.heap s.heap [] := va_S.rf
  have hP : va_P (dC, dI) classes [(oc1 fe rk9 wd9 tw9 pa9 pb9 (.ref lo) (.ref lk) (.ref fm)), (oc4 lk kd9 st9 (.ref r) gb9 jt9 we9)] s.heap := hP
  obtain ⟨Q9, hQ9⟩ : ∃ Q9 : State → Prop, Q9 = MQ below (zQ none (fun t => va_P (dC, dI) classes [(oc1 fe rk9 wd9 tw9 pa9 pb9 (.ref lo) (.ref lk) (.ref fm)), (oc4 lk kd9 2 (.ref r) sn9 jt9 we9)] t.heap ∧ va_D A [(oc1 fe rk9 wd9 tw9 pa9 pb9 (.ref lo) (.ref lk) (.ref fm)), (oc4 lk kd9 2 (.ref r) sn9 jt9 we9)]) A) ([.ref fe, .int sn9] : List Value).toArray s 0 0 A := ⟨_, rfl⟩
  rw [← hQ9]
  have hl := lv_entry ([.ref fe, .int sn9]) (n := 2) (Nat.le_of_ble_eq_true rfl)
  rw [lg_entry_eq]
  generalize (lg_sl ([.ref fe, .int sn9]) ++ List.replicate (2 - (lg_sl ([.ref fe, .int sn9])).length) Slot.unset).toArray = ls at hl ⊢
  have hl : lv_has ls 2 [(0, .ref fe), (1, .int sn9)] := hl
  refine lv_aload_n hx hb dX2_leave_0 rfl (lv_at hl 0 rfl) ?_
  have hPc := hP.sub (ws' := [(oc1 fe rk9 wd9 tw9 pa9 pb9 (.ref lo) (.ref lk) (.ref fm)), (oc4 lk kd9 st9 (.ref r) gb9 jt9 we9)]) [0, 1] rfl
  have hDc := hD.sub (ws' := [(oc1 fe rk9 wd9 tw9 pa9 pb9 (.ref lo) (.ref lk) (.ref fm)), (oc4 lk kd9 st9 (.ref r) gb9 jt9 we9)]) [0, 1] (by decide) rfl
  have hFc := va_free (wc := [(oc1 fe rk9 wd9 tw9 pa9 pb9 (.ref lo) (.ref lk) (.ref fm)), (oc4 lk kd9 st9 (.ref r) gb9 jt9 we9)]) hD hS hA [0, 1] rfl
  refine zcall (st1 := []) (va_runV (As := []) (rest := []) ⟨hx, hb, hml, hown, hts⟩ (k_Feature_keepf_r l dC dI cI cZ cF s.heap.size fe lo rk9 wd9 tw9 pa9 pb9 lk kd9 st9 gb9 jt9 we9 fm r ) (cwV 0 hts (zz_gV mw_734 mw_736 mw_19 mw_111 mc_yX2_keepFormer) rfl rfl rfl (by decide +kernel) ⟨Nat.le_of_ble_eq_true rfl, Nat.le_of_ble_eq_true rfl⟩) (zPV2 (q0 := 0) (ci := 1) hPc hDc hK hXN rfl rfl) rfl rfl hl.1 rfl (lv_room (Nat.le_of_ble_eq_true rfl)) dX2_leave_1 ⟨Nat.le_of_ble_eq_true rfl, Nat.le_of_ble_eq_true rfl⟩) hS hFc hFc rfl (fun t H1 locs ht hB hk1 hS => ?_)
  obtain ⟨hP1, hD1⟩ := hB
  rw [ht] at hP1
  obtain ⟨hP, hD⟩ := va_join (wr := []) (w1 := [(oc1 fe rk9 wd9 tw9 pa9 pb9 (.ref lo) (.ref lk) (.ref fm)), (oc4 lk kd9 st9 (.ref r) gb9 jt9 we9)]) hP hD [0, 1] [] rfl rfl (by decide) (by decide) hk1 hFc hP1 hD1
  clear hk1 hPc hDc hFc hP1 hD1 ht
  generalize H1 = H at hP hS ⊢
  have hP : va_P (dC, dI) classes [(oc1 fe rk9 wd9 tw9 pa9 pb9 (.ref lo) (.ref lk) (.ref fm)), (oc4 lk kd9 st9 (.ref r) gb9 jt9 we9)] H := hP
  have hD : va_D A [(oc1 fe rk9 wd9 tw9 pa9 pb9 (.ref lo) (.ref lk) (.ref fm)), (oc4 lk kd9 st9 (.ref r) gb9 jt9 we9)] := hD
  refine lv_aload_n hx hb dX2_leave_4 rfl (lv_at hl 0 rfl) ?_
  refine va_get (D := (dC, dI)) (ci := 1) (v := .ref lk) (C := RX2) (T := TX2) (N := 8) hx hb hts inX2 hown hK hP 0 rfl rfl 6 (by decide) (hts _ mw_429) (fun _ h9 => h9) rfl dX2_leave_5 ?_
  refine lv_iconst (v := 2) hx hb dX2_leave_8 (by decide) ?_
  refine va_put (D := (dC, dI)) (ci := 4) (v := .int 2) (ty := .int) (C := RX5) (T := TX5) (N := 6) hx hb hts inX5 tyX5 tyX5_ok nmX5 hown hK hP hD hS 1 rfl rfl 1 (by decide) (hts _ mw_386) (fun _ h9 => h9) rfl (by decide +kernel) rfl rfl (Nat.le_of_ble_eq_true rfl) dX2_leave_9 (fun H locs hP hD hS => ?_)
  have hP : va_P (dC, dI) classes [(oc1 fe rk9 wd9 tw9 pa9 pb9 (.ref lo) (.ref lk) (.ref fm)), (oc4 lk kd9 2 (.ref r) gb9 jt9 we9)] H := hP
  have hD : va_D A [(oc1 fe rk9 wd9 tw9 pa9 pb9 (.ref lo) (.ref lk) (.ref fm)), (oc4 lk kd9 2 (.ref r) gb9 jt9 we9)] := hD
  refine lv_aload_n hx hb dX2_leave_12 rfl (lv_at hl 0 rfl) ?_
  refine va_get (D := (dC, dI)) (ci := 1) (v := .ref lk) (C := RX2) (T := TX2) (N := 8) hx hb hts inX2 hown hK hP 0 rfl rfl 6 (by decide) (hts _ mw_429) (fun _ h9 => h9) rfl dX2_leave_13 ?_
  refine lv_iload_n hx hb dX2_leave_16 rfl (lv_at hl 1 rfl) ?_
  refine va_put (D := (dC, dI)) (ci := 4) (v := .int sn9) (ty := .int) (C := RX5) (T := TX5) (N := 6) hx hb hts inX5 tyX5 tyX5_ok nmX5 hown hK hP hD hS 1 rfl rfl 3 (by decide) (hts _ mw_395) (fun _ h9 => h9) rfl (by decide +kernel) rfl rfl (Nat.le_of_ble_eq_true rfl) dX2_leave_17 (fun H locs hP hD hS => ?_)
  have hP : va_P (dC, dI) classes [(oc1 fe rk9 wd9 tw9 pa9 pb9 (.ref lo) (.ref lk) (.ref fm)), (oc4 lk kd9 2 (.ref r) sn9 jt9 we9)] H := hP
  have hD : va_D A [(oc1 fe rk9 wd9 tw9 pa9 pb9 (.ref lo) (.ref lk) (.ref fm)), (oc4 lk kd9 2 (.ref r) sn9 jt9 we9)] := hD
  have hP9 := hP.sub (ws' := [(oc1 fe rk9 wd9 tw9 pa9 pb9 (.ref lo) (.ref lk) (.ref fm)), (oc4 lk kd9 2 (.ref r) sn9 jt9 we9)]) [0, 1] rfl
  have hD9 := hD.sub (ws' := [(oc1 fe rk9 wd9 tw9 pa9 pb9 (.ref lo) (.ref lk) (.ref fm)), (oc4 lk kd9 2 (.ref r) sn9 jt9 we9)]) [0, 1] (by decide) rfl
  rw [hQ9]
  exact W.vret hx hb hr (fun t ht hW => ⟨⟨rfl, by rw [ht]; exact hP9, hD9⟩, hS.F ht⟩) hS.2.2 dX2_leave_20
set_option maxHeartbeats 4000000 in
set_option maxRecDepth 100000 in
theorem k_Feature_keep_n (l : Launch) (dC : Nat → ClassId) (dI : Nat → Nat → Nat) (cI cZ cF : ClassId) (sz : Nat) (fe : Nat) (lo : Nat) (rk9 : Int32) (wd9 : Int32) (tw9 : Int32) (pa9 : Int32) (pb9 : Int32) (lk : Nat) (kd9 : Int32) (st9 : Int32) (gb9 : Int32) (jt9 : Int32) (we9 : Int32) : Met l yX2_keepFormer (.code yX2_keepFormer cX2_keepFormer 1 none :: ws0) ({ frames := 3, cells := 1, slots := 6, locals := 54 } : Room) (va_Pc [.ref fe] (zPre (dC, dI) classes (zTy cI cZ cF) [(oc1 fe rk9 wd9 tw9 pa9 pb9 (.ref lo) (.ref lk) .null), (oc4 lk kd9 st9 .null gb9 jt9 we9)] sz zXN)) (zQ none (fun t => ∃ (q : Nat), va_P (dC, dI) classes [(oc1 fe rk9 wd9 tw9 pa9 pb9 (.ref lo) (.ref q) (.ref lk)), (oc4 lk kd9 st9 .null gb9 jt9 we9), (oc4 q kd9 st9 .null gb9 jt9 we9)] t.heap ∧ va_D (va_A [(oc1 fe rk9 wd9 tw9 pa9 pb9 (.ref lo) (.ref lk) .null), (oc4 lk kd9 st9 .null gb9 jt9 we9)] sz) [(oc1 fe rk9 wd9 tw9 pa9 pb9 (.ref lo) (.ref q) (.ref lk)), (oc4 lk kd9 st9 .null gb9 jt9 we9), (oc4 q kd9 st9 .null gb9 jt9 we9)]) (va_A [(oc1 fe rk9 wd9 tw9 pa9 pb9 (.ref lo) (.ref lk) .null), (oc4 lk kd9 st9 .null gb9 jt9 we9)] sz)) 1 6 (va_A [(oc1 fe rk9 wd9 tw9 pa9 pb9 (.ref lo) (.ref lk) .null), (oc4 lk kd9 st9 .null gb9 jt9 we9)] sz) := by
  refine Met.ofW (cc := cX2_keepFormer) (maxL := 1) (ret := none) (by decide) rfl ?_
  intro p e s m args below meth c s₁ B hml hv
  obtain ⟨rfl, hsz, hP, hK, hD0, hXN⟩ := hv
  have hx := B.exec
  have hb := B.bytes
  have hr := B.returns
  have hts0 := atoms_spec (ws := .code yX2_keepFormer cX2_keepFormer 1 none :: ws0) B.pre
  have hts : ∀ w9 ∈ ws0, w9.before ([.ref fe] : List Value).toArray s = true := fun w9 h => hts0 w9 (List.mem_cons_of_mem _ h)
  have hown : s.vm.findClass "ScaleShop$Feature" = some m.cls := findClass_of_methodNamed B.named
  have hlocks := B.notSynchronized
  subst hsz
  have hD := hD0.self (sz := s.heap.size)
  clear hD0
  generalize hAe : va_A [(oc1 fe rk9 wd9 tw9 pa9 pb9 (.ref lo) (.ref lk) .null), (oc4 lk kd9 st9 .null gb9 jt9 we9)] s.heap.size = A at hD ⊢
  have hA : ∀ q : Nat, s.heap.size ≤ q → A q := fun q h => by rw [← hAe]; exact Or.inr h
  clear hAe
  have hS : va_S A s.heap s.heap [] := va_S.rf
  have hP : va_P (dC, dI) classes [(oc1 fe rk9 wd9 tw9 pa9 pb9 (.ref lo) (.ref lk) .null), (oc4 lk kd9 st9 .null gb9 jt9 we9)] s.heap := hP
  obtain ⟨Q9, hQ9⟩ : ∃ Q9 : State → Prop, Q9 = MQ below (zQ none (fun t => ∃ (q : Nat), va_P (dC, dI) classes [(oc1 fe rk9 wd9 tw9 pa9 pb9 (.ref lo) (.ref q) (.ref lk)), (oc4 lk kd9 st9 .null gb9 jt9 we9), (oc4 q kd9 st9 .null gb9 jt9 we9)] t.heap ∧ va_D A [(oc1 fe rk9 wd9 tw9 pa9 pb9 (.ref lo) (.ref q) (.ref lk)), (oc4 lk kd9 st9 .null gb9 jt9 we9), (oc4 q kd9 st9 .null gb9 jt9 we9)]) A) ([.ref fe] : List Value).toArray s 1 6 A := ⟨_, rfl⟩
  rw [← hQ9]
  have hl := lv_entry ([.ref fe]) (n := 1) (Nat.le_of_ble_eq_true rfl)
  rw [lg_entry_eq]
  generalize (lg_sl ([.ref fe]) ++ List.replicate (1 - (lg_sl ([.ref fe])).length) Slot.unset).toArray = ls at hl ⊢
  have hl : lv_has ls 1 [(0, .ref fe)] := hl
  refine lv_aload_n hx hb dX2_keepFormer_0 rfl (lv_at hl 0 rfl) ?_
  refine va_get (D := (dC, dI)) (ci := 1) (v := .null) (C := RX2) (T := TX2) (N := 8) hx hb hts inX2 hown hK hP 0 rfl rfl 7 (by decide) (hts _ mw_436) (fun _ h9 => h9) rfl dX2_keepFormer_1 ?_
  refine lv_ifnonnullN hx hb dX2_keepFormer_4 ?_
  refine lv_aload_n hx hb dX2_keepFormer_7 rfl (lv_at hl 0 rfl) ?_
  refine lv_aload_n hx hb dX2_keepFormer_8 rfl (lv_at hl 0 rfl) ?_
  refine va_get (D := (dC, dI)) (ci := 1) (v := .ref lk) (C := RX2) (T := TX2) (N := 8) hx hb hts inX2 hown hK hP 0 rfl rfl 6 (by decide) (hts _ mw_429) (fun _ h9 => h9) rfl dX2_keepFormer_9 ?_
  refine va_put (D := (dC, dI)) (ci := 1) (v := .ref lk) (ty := .object "ScaleShop$Look") (C := RX2) (T := TX2) (N := 8) hx hb hts inX2 tyX2 tyX2_ok nmX2 hown hK hP hD hS 0 rfl rfl 7 (by decide) (hts _ mw_436) (fun _ h9 => h9) rfl (by decide +kernel) rfl rfl (Nat.le_of_ble_eq_true rfl) dX2_keepFormer_12 (fun H locs hP hD hS => ?_)
  have hP : va_P (dC, dI) classes [(oc1 fe rk9 wd9 tw9 pa9 pb9 (.ref lo) (.ref lk) (.ref lk)), (oc4 lk kd9 st9 .null gb9 jt9 we9)] H := hP
  have hD : va_D A [(oc1 fe rk9 wd9 tw9 pa9 pb9 (.ref lo) (.ref lk) (.ref lk)), (oc4 lk kd9 st9 .null gb9 jt9 we9)] := hD
  refine lv_aload_n hx hb dX2_keepFormer_15 rfl (lv_at hl 0 rfl) ?_
  refine lv_aload_n hx hb dX2_keepFormer_16 rfl (lv_at hl 0 rfl) ?_
  refine va_get (D := (dC, dI)) (ci := 1) (v := .ref lk) (C := RX2) (T := TX2) (N := 8) hx hb hts inX2 hown hK hP 0 rfl rfl 7 (by decide) (hts _ mw_436) (fun _ h9 => h9) rfl dX2_keepFormer_17 ?_
  have hPc := hP.sub (ws' := [(oc4 lk kd9 st9 .null gb9 jt9 we9)]) [1] rfl
  have hDc := hD.sub (ws' := [(oc4 lk kd9 st9 .null gb9 jt9 we9)]) [1] (by decide) rfl
  have hFc := va_free (wc := [(oc4 lk kd9 st9 .null gb9 jt9 we9)]) hD hS hA [1] rfl
  refine zcalle (va_runV (As := []) (rest := [.ref fe]) ⟨hx, hb, hml, hown, hts⟩ (k_Look_copy_n l dC dI cI cZ cF H.size lk kd9 st9 gb9 jt9 we9 ) (cwV 0 hts (zz_gV mw_738 mw_739 mw_740 mw_112 mc_yX5_copy) rfl rfl rfl (by decide +kernel) ⟨Nat.le_of_ble_eq_true rfl, Nat.le_of_ble_eq_true rfl⟩) (zPV2 (q0 := 0) (ci := 4) hPc hDc hK hXN rfl rfl) rfl rfl hl.1 rfl (lv_room (Nat.le_of_ble_eq_true rfl)) dX2_keepFormer_20 ⟨Nat.le_of_ble_eq_true rfl, Nat.le_of_ble_eq_true rfl⟩) hS hFc hFc (fun v9 t H1 locs ht hB hk1 hS => ?_)
  obtain ⟨q, rfl, hP1, hD1⟩ := hB
  refine W.eq (g2 := F0 m 23 ls [.ref q, .ref fe]) rfl ?_
  rw [ht] at hP1
  obtain ⟨hP, hD⟩ := va_join (wr := [(oc1 fe rk9 wd9 tw9 pa9 pb9 (.ref lo) (.ref lk) (.ref lk))]) (w1 := [(oc4 lk kd9 st9 .null gb9 jt9 we9), (oc4 q kd9 st9 .null gb9 jt9 we9)]) hP hD [1] [0] rfl rfl (by decide) (by decide) hk1 hFc hP1 hD1
  clear hk1 hPc hDc hFc hP1 hD1 ht
  generalize H1 = H at hP hS ⊢
  have hP : va_P (dC, dI) classes [(oc1 fe rk9 wd9 tw9 pa9 pb9 (.ref lo) (.ref lk) (.ref lk)), (oc4 lk kd9 st9 .null gb9 jt9 we9), (oc4 q kd9 st9 .null gb9 jt9 we9)] H := hP
  have hD : va_D A [(oc1 fe rk9 wd9 tw9 pa9 pb9 (.ref lo) (.ref lk) (.ref lk)), (oc4 lk kd9 st9 .null gb9 jt9 we9), (oc4 q kd9 st9 .null gb9 jt9 we9)] := hD
  refine va_put (D := (dC, dI)) (ci := 1) (v := .ref q) (ty := .object "ScaleShop$Look") (C := RX2) (T := TX2) (N := 8) hx hb hts inX2 tyX2 tyX2_ok nmX2 hown hK hP hD hS 0 rfl rfl 6 (by decide) (hts _ mw_429) (fun _ h9 => h9) rfl (by decide +kernel) rfl rfl (Nat.le_of_ble_eq_true rfl) dX2_keepFormer_23 (fun H locs hP hD hS => ?_)
  have hP : va_P (dC, dI) classes [(oc1 fe rk9 wd9 tw9 pa9 pb9 (.ref lo) (.ref q) (.ref lk)), (oc4 lk kd9 st9 .null gb9 jt9 we9), (oc4 q kd9 st9 .null gb9 jt9 we9)] H := hP
  have hD : va_D A [(oc1 fe rk9 wd9 tw9 pa9 pb9 (.ref lo) (.ref q) (.ref lk)), (oc4 lk kd9 st9 .null gb9 jt9 we9), (oc4 q kd9 st9 .null gb9 jt9 we9)] := hD
  have hP9 := hP.sub (ws' := [(oc1 fe rk9 wd9 tw9 pa9 pb9 (.ref lo) (.ref q) (.ref lk)), (oc4 lk kd9 st9 .null gb9 jt9 we9), (oc4 q kd9 st9 .null gb9 jt9 we9)]) [0, 1, 2] rfl
  have hD9 := hD.sub (ws' := [(oc1 fe rk9 wd9 tw9 pa9 pb9 (.ref lo) (.ref q) (.ref lk)), (oc4 lk kd9 st9 .null gb9 jt9 we9), (oc4 q kd9 st9 .null gb9 jt9 we9)]) [0, 1, 2] (by decide) rfl
  refine W.widen (k := 1) (n := 6) (by decide) (by decide) ?_
  rw [hQ9]
  exact W.vret hx hb hr (fun t ht hW => ⟨⟨rfl, q, by rw [ht]; exact hP9, hD9⟩, hS.F ht⟩) hS.2.2 dX2_keepFormer_26
set_option maxHeartbeats 4000000 in
set_option maxRecDepth 100000 in
theorem k_Feature_keepf_n (l : Launch) (dC : Nat → ClassId) (dI : Nat → Nat → Nat) (cI cZ cF : ClassId) (sz : Nat) (fe : Nat) (lo : Nat) (rk9 : Int32) (wd9 : Int32) (tw9 : Int32) (pa9 : Int32) (pb9 : Int32) (lk : Nat) (kd9 : Int32) (st9 : Int32) (gb9 : Int32) (jt9 : Int32) (we9 : Int32) (fm : Nat) : Met l yX2_keepFormer (.code yX2_keepFormer cX2_keepFormer 1 none :: ws0) ({ frames := 0, cells := 0, slots := 0, locals := 0 } : Room) (va_Pc [.ref fe] (zPre (dC, dI) classes (zTy cI cZ cF) [(oc1 fe rk9 wd9 tw9 pa9 pb9 (.ref lo) (.ref lk) (.ref fm)), (oc4 lk kd9 st9 .null gb9 jt9 we9)] sz zXN)) (zQ none (fun t => va_P (dC, dI) classes [(oc1 fe rk9 wd9 tw9 pa9 pb9 (.ref lo) (.ref lk) (.ref fm)), (oc4 lk kd9 st9 .null gb9 jt9 we9)] t.heap ∧ va_D (va_A [(oc1 fe rk9 wd9 tw9 pa9 pb9 (.ref lo) (.ref lk) (.ref fm)), (oc4 lk kd9 st9 .null gb9 jt9 we9)] sz) [(oc1 fe rk9 wd9 tw9 pa9 pb9 (.ref lo) (.ref lk) (.ref fm)), (oc4 lk kd9 st9 .null gb9 jt9 we9)]) (va_A [(oc1 fe rk9 wd9 tw9 pa9 pb9 (.ref lo) (.ref lk) (.ref fm)), (oc4 lk kd9 st9 .null gb9 jt9 we9)] sz)) 0 0 (va_A [(oc1 fe rk9 wd9 tw9 pa9 pb9 (.ref lo) (.ref lk) (.ref fm)), (oc4 lk kd9 st9 .null gb9 jt9 we9)] sz) := by
  refine Met.ofW (cc := cX2_keepFormer) (maxL := 1) (ret := none) (by decide) rfl ?_
  intro p e s m args below meth c s₁ B hml hv
  obtain ⟨rfl, hsz, hP, hK, hD0, hXN⟩ := hv
  have hx := B.exec
  have hb := B.bytes
  have hr := B.returns
  have hts0 := atoms_spec (ws := .code yX2_keepFormer cX2_keepFormer 1 none :: ws0) B.pre
  have hts : ∀ w9 ∈ ws0, w9.before ([.ref fe] : List Value).toArray s = true := fun w9 h => hts0 w9 (List.mem_cons_of_mem _ h)
  have hown : s.vm.findClass "ScaleShop$Feature" = some m.cls := findClass_of_methodNamed B.named
  have hlocks := B.notSynchronized
  subst hsz
  have hD := hD0.self (sz := s.heap.size)
  clear hD0
  generalize hAe : va_A [(oc1 fe rk9 wd9 tw9 pa9 pb9 (.ref lo) (.ref lk) (.ref fm)), (oc4 lk kd9 st9 .null gb9 jt9 we9)] s.heap.size = A at hD ⊢
  have hA : ∀ q : Nat, s.heap.size ≤ q → A q := fun q h => by rw [← hAe]; exact Or.inr h
  clear hAe
  have hS : va_S A s.heap s.heap [] := va_S.rf
  have hP : va_P (dC, dI) classes [(oc1 fe rk9 wd9 tw9 pa9 pb9 (.ref lo) (.ref lk) (.ref fm)), (oc4 lk kd9 st9 .null gb9 jt9 we9)] s.heap := hP
  obtain ⟨Q9, hQ9⟩ : ∃ Q9 : State → Prop, Q9 = MQ below (zQ none (fun t => va_P (dC, dI) classes [(oc1 fe rk9 wd9 tw9 pa9 pb9 (.ref lo) (.ref lk) (.ref fm)), (oc4 lk kd9 st9 .null gb9 jt9 we9)] t.heap ∧ va_D A [(oc1 fe rk9 wd9 tw9 pa9 pb9 (.ref lo) (.ref lk) (.ref fm)), (oc4 lk kd9 st9 .null gb9 jt9 we9)]) A) ([.ref fe] : List Value).toArray s 0 0 A := ⟨_, rfl⟩
  rw [← hQ9]
  have hl := lv_entry ([.ref fe]) (n := 1) (Nat.le_of_ble_eq_true rfl)
  rw [lg_entry_eq]
  generalize (lg_sl ([.ref fe]) ++ List.replicate (1 - (lg_sl ([.ref fe])).length) Slot.unset).toArray = ls at hl ⊢
  have hl : lv_has ls 1 [(0, .ref fe)] := hl
  refine lv_aload_n hx hb dX2_keepFormer_0 rfl (lv_at hl 0 rfl) ?_
  refine va_get (D := (dC, dI)) (ci := 1) (v := .ref fm) (C := RX2) (T := TX2) (N := 8) hx hb hts inX2 hown hK hP 0 rfl rfl 7 (by decide) (hts _ mw_436) (fun _ h9 => h9) rfl dX2_keepFormer_1 ?_
  refine lv_ifnonnull (tgt := 26) hx hb dX2_keepFormer_4 (by decide) ?_
  have hP9 := hP.sub (ws' := [(oc1 fe rk9 wd9 tw9 pa9 pb9 (.ref lo) (.ref lk) (.ref fm)), (oc4 lk kd9 st9 .null gb9 jt9 we9)]) [0, 1] rfl
  have hD9 := hD.sub (ws' := [(oc1 fe rk9 wd9 tw9 pa9 pb9 (.ref lo) (.ref lk) (.ref fm)), (oc4 lk kd9 st9 .null gb9 jt9 we9)]) [0, 1] (by decide) rfl
  rw [hQ9]
  exact W.vret hx hb hr (fun t ht hW => ⟨⟨rfl, by rw [ht]; exact hP9, hD9⟩, hS.F ht⟩) hS.2.2 dX2_keepFormer_26
set_option maxHeartbeats 4000000 in
set_option maxRecDepth 100000 in
theorem k_Feature_leave_n (l : Launch) (dC : Nat → ClassId) (dI : Nat → Nat → Nat) (cI cZ cF : ClassId) (sz : Nat) (fe : Nat) (lo : Nat) (rk9 : Int32) (wd9 : Int32) (tw9 : Int32) (pa9 : Int32) (pb9 : Int32) (lk : Nat) (kd9 : Int32) (st9 : Int32) (gb9 : Int32) (jt9 : Int32) (we9 : Int32) (sn9 : Int32) : Met l yX2_leave (.code yX2_leave cX2_leave 2 none :: ws0) ({ frames := 4, cells := 1, slots := 6, locals := 74 } : Room) (va_Pc [.ref fe, .int sn9] (zPre (dC, dI) classes (zTy cI cZ cF) [(oc1 fe rk9 wd9 tw9 pa9 pb9 (.ref lo) (.ref lk) .null), (oc4 lk kd9 st9 .null gb9 jt9 we9)] sz zXN)) (zQ none (fun t => ∃ (q : Nat), va_P (dC, dI) classes [(oc1 fe rk9 wd9 tw9 pa9 pb9 (.ref lo) (.ref q) (.ref lk)), (oc4 lk kd9 st9 .null gb9 jt9 we9), (oc4 q kd9 2 .null sn9 jt9 we9)] t.heap ∧ va_D (va_A [(oc1 fe rk9 wd9 tw9 pa9 pb9 (.ref lo) (.ref lk) .null), (oc4 lk kd9 st9 .null gb9 jt9 we9)] sz) [(oc1 fe rk9 wd9 tw9 pa9 pb9 (.ref lo) (.ref q) (.ref lk)), (oc4 lk kd9 st9 .null gb9 jt9 we9), (oc4 q kd9 2 .null sn9 jt9 we9)]) (va_A [(oc1 fe rk9 wd9 tw9 pa9 pb9 (.ref lo) (.ref lk) .null), (oc4 lk kd9 st9 .null gb9 jt9 we9)] sz)) 1 6 (va_A [(oc1 fe rk9 wd9 tw9 pa9 pb9 (.ref lo) (.ref lk) .null), (oc4 lk kd9 st9 .null gb9 jt9 we9)] sz) := by
  refine Met.ofW (cc := cX2_leave) (maxL := 2) (ret := none) (by decide) rfl ?_
  intro p e s m args below meth c s₁ B hml hv
  obtain ⟨rfl, hsz, hP, hK, hD0, hXN⟩ := hv
  have hx := B.exec
  have hb := B.bytes
  have hr := B.returns
  have hts0 := atoms_spec (ws := .code yX2_leave cX2_leave 2 none :: ws0) B.pre
  have hts : ∀ w9 ∈ ws0, w9.before ([.ref fe, .int sn9] : List Value).toArray s = true := fun w9 h => hts0 w9 (List.mem_cons_of_mem _ h)
  have hown : s.vm.findClass "ScaleShop$Feature" = some m.cls := findClass_of_methodNamed B.named
  have hlocks := B.notSynchronized
  subst hsz
  have hD := hD0.self (sz := s.heap.size)
  clear hD0
  generalize hAe : va_A [(oc1 fe rk9 wd9 tw9 pa9 pb9 (.ref lo) (.ref lk) .null), (oc4 lk kd9 st9 .null gb9 jt9 we9)] s.heap.size = A at hD ⊢
  have hA : ∀ q : Nat, s.heap.size ≤ q → A q := fun q h => by rw [← hAe]; exact Or.inr h
  clear hAe
  have hS : va_S A s.heap s.heap [] := va_S.rf
  have hP : va_P (dC, dI) classes [(oc1 fe rk9 wd9 tw9 pa9 pb9 (.ref lo) (.ref lk) .null), (oc4 lk kd9 st9 .null gb9 jt9 we9)] s.heap := hP
  obtain ⟨Q9, hQ9⟩ : ∃ Q9 : State → Prop, Q9 = MQ below (zQ none (fun t => ∃ (q : Nat), va_P (dC, dI) classes [(oc1 fe rk9 wd9 tw9 pa9 pb9 (.ref lo) (.ref q) (.ref lk)), (oc4 lk kd9 st9 .null gb9 jt9 we9), (oc4 q kd9 2 .null sn9 jt9 we9)] t.heap ∧ va_D A [(oc1 fe rk9 wd9 tw9 pa9 pb9 (.ref lo) (.ref q) (.ref lk)), (oc4 lk kd9 st9 .null gb9 jt9 we9), (oc4 q kd9 2 .null sn9 jt9 we9)]) A) ([.ref fe, .int sn9] : List Value).toArray s 1 6 A := ⟨_, rfl⟩
  rw [← hQ9]
  have hl := lv_entry ([.ref fe, .int sn9]) (n := 2) (Nat.le_of_ble_eq_true rfl)
  rw [lg_entry_eq]
  generalize (lg_sl ([.ref fe, .int sn9]) ++ List.replicate (2 - (lg_sl ([.ref fe, .int sn9])).length) Slot.unset).toArray = ls at hl ⊢
  have hl : lv_has ls 2 [(0, .ref fe), (1, .int sn9)] := hl
  refine lv_aload_n hx hb dX2_leave_0 rfl (lv_at hl 0 rfl) ?_
  have hPc := hP.sub (ws' := [(oc1 fe rk9 wd9 tw9 pa9 pb9 (.ref lo) (.ref lk) .null), (oc4 lk kd9 st9 .null gb9 jt9 we9)]) [0, 1] rfl
  have hDc := hD.sub (ws' := [(oc1 fe rk9 wd9 tw9 pa9 pb9 (.ref lo) (.ref lk) .null), (oc4 lk kd9 st9 .null gb9 jt9 we9)]) [0, 1] (by decide) rfl
  have hFc := va_free (wc := [(oc1 fe rk9 wd9 tw9 pa9 pb9 (.ref lo) (.ref lk) .null), (oc4 lk kd9 st9 .null gb9 jt9 we9)]) hD hS hA [0, 1] rfl
  refine zcall (st1 := []) (va_runV (As := []) (rest := []) ⟨hx, hb, hml, hown, hts⟩ (k_Feature_keep_n l dC dI cI cZ cF s.heap.size fe lo rk9 wd9 tw9 pa9 pb9 lk kd9 st9 gb9 jt9 we9 ) (cwV 0 hts (zz_gV mw_734 mw_736 mw_19 mw_111 mc_yX2_keepFormer) rfl rfl rfl (by decide +kernel) ⟨Nat.le_of_ble_eq_true rfl, Nat.le_of_ble_eq_true rfl⟩) (zPV2 (q0 := 0) (ci := 1) hPc hDc hK hXN rfl rfl) rfl rfl hl.1 rfl (lv_room (Nat.le_of_ble_eq_true rfl)) dX2_leave_1 ⟨Nat.le_of_ble_eq_true rfl, Nat.le_of_ble_eq_true rfl⟩) hS hFc hFc rfl (fun t H1 locs ht hB hk1 hS => ?_)
  obtain ⟨q, hP1, hD1⟩ := hB
  rw [ht] at hP1
  obtain ⟨hP, hD⟩ := va_join (wr := []) (w1 := [(oc1 fe rk9 wd9 tw9 pa9 pb9 (.ref lo) (.ref q) (.ref lk)), (oc4 lk kd9 st9 .null gb9 jt9 we9), (oc4 q kd9 st9 .null gb9 jt9 we9)]) hP hD [0, 1] [] rfl rfl (by decide) (by decide) hk1 hFc hP1 hD1
  clear hk1 hPc hDc hFc hP1 hD1 ht
  generalize H1 = H at hP hS ⊢
  have hP : va_P (dC, dI) classes [(oc1 fe rk9 wd9 tw9 pa9 pb9 (.ref lo) (.ref q) (.ref lk)), (oc4 lk kd9 st9 .null gb9 jt9 we9), (oc4 q kd9 st9 .null gb9 jt9 we9)] H := hP
  have hD : va_D A [(oc1 fe rk9 wd9 tw9 pa9 pb9 (.ref lo) (.ref q) (.ref lk)), (oc4 lk kd9 st9 .null gb9 jt9 we9), (oc4 q kd9 st9 .null gb9 jt9 we9)] := hD
  refine lv_aload_n hx hb dX2_leave_4 rfl (lv_at hl 0 rfl) ?_
  refine va_get (D := (dC, dI)) (ci := 1) (v := .ref q) (C := RX2) (T := TX2) (N := 8) hx hb hts inX2 hown hK hP 0 rfl rfl 6 (by decide) (hts _ mw_429) (fun _ h9 => h9) rfl dX2_leave_5 ?_
  refine lv_iconst (v := 2) hx hb dX2_leave_8 (by decide) ?_
  refine va_put (D := (dC, dI)) (ci := 4) (v := .int 2) (ty := .int) (C := RX5) (T := TX5) (N := 6) hx hb hts inX5 tyX5 tyX5_ok nmX5 hown hK hP hD hS 2 rfl rfl 1 (by decide) (hts _ mw_386) (fun _ h9 => h9) rfl (by decide +kernel) rfl rfl (Nat.le_of_ble_eq_true rfl) dX2_leave_9 (fun H locs hP hD hS => ?_)
  have hP : va_P (dC, dI) classes [(oc1 fe rk9 wd9 tw9 pa9 pb9 (.ref lo) (.ref q) (.ref lk)), (oc4 lk kd9 st9 .null gb9 jt9 we9), (oc4 q kd9 2 .null gb9 jt9 we9)] H := hP
  have hD : va_D A [(oc1 fe rk9 wd9 tw9 pa9 pb9 (.ref lo) (.ref q) (.ref lk)), (oc4 lk kd9 st9 .null gb9 jt9 we9), (oc4 q kd9 2 .null gb9 jt9 we9)] := hD
  refine lv_aload_n hx hb dX2_leave_12 rfl (lv_at hl 0 rfl) ?_
  refine va_get (D := (dC, dI)) (ci := 1) (v := .ref q) (C := RX2) (T := TX2) (N := 8) hx hb hts inX2 hown hK hP 0 rfl rfl 6 (by decide) (hts _ mw_429) (fun _ h9 => h9) rfl dX2_leave_13 ?_
  refine lv_iload_n hx hb dX2_leave_16 rfl (lv_at hl 1 rfl) ?_
  refine va_put (D := (dC, dI)) (ci := 4) (v := .int sn9) (ty := .int) (C := RX5) (T := TX5) (N := 6) hx hb hts inX5 tyX5 tyX5_ok nmX5 hown hK hP hD hS 2 rfl rfl 3 (by decide) (hts _ mw_395) (fun _ h9 => h9) rfl (by decide +kernel) rfl rfl (Nat.le_of_ble_eq_true rfl) dX2_leave_17 (fun H locs hP hD hS => ?_)
  have hP : va_P (dC, dI) classes [(oc1 fe rk9 wd9 tw9 pa9 pb9 (.ref lo) (.ref q) (.ref lk)), (oc4 lk kd9 st9 .null gb9 jt9 we9), (oc4 q kd9 2 .null sn9 jt9 we9)] H := hP
  have hD : va_D A [(oc1 fe rk9 wd9 tw9 pa9 pb9 (.ref lo) (.ref q) (.ref lk)), (oc4 lk kd9 st9 .null gb9 jt9 we9), (oc4 q kd9 2 .null sn9 jt9 we9)] := hD
  have hP9 := hP.sub (ws' := [(oc1 fe rk9 wd9 tw9 pa9 pb9 (.ref lo) (.ref q) (.ref lk)), (oc4 lk kd9 st9 .null gb9 jt9 we9), (oc4 q kd9 2 .null sn9 jt9 we9)]) [0, 1, 2] rfl
  have hD9 := hD.sub (ws' := [(oc1 fe rk9 wd9 tw9 pa9 pb9 (.ref lo) (.ref q) (.ref lk)), (oc4 lk kd9 st9 .null gb9 jt9 we9), (oc4 q kd9 2 .null sn9 jt9 we9)]) [0, 1, 2] (by decide) rfl
  refine W.widen (k := 1) (n := 6) (by decide) (by decide) ?_
  rw [hQ9]
  exact W.vret hx hb hr (fun t ht hW => ⟨⟨rfl, q, by rw [ht]; exact hP9, hD9⟩, hS.F ht⟩) hS.2.2 dX2_leave_20
set_option maxHeartbeats 4000000 in
set_option maxRecDepth 100000 in
theorem k_Feature_leavef_n (l : Launch) (dC : Nat → ClassId) (dI : Nat → Nat → Nat) (cI cZ cF : ClassId) (sz : Nat) (fe : Nat) (lo : Nat) (rk9 : Int32) (wd9 : Int32) (tw9 : Int32) (pa9 : Int32) (pb9 : Int32) (lk : Nat) (kd9 : Int32) (st9 : Int32) (gb9 : Int32) (jt9 : Int32) (we9 : Int32) (fm : Nat) (sn9 : Int32) : Met l yX2_leave (.code yX2_leave cX2_leave 2 none :: ws0) ({ frames := 1, cells := 0, slots := 0, locals := 20 } : Room) (va_Pc [.ref fe, .int sn9] (zPre (dC, dI) classes (zTy cI cZ cF) [(oc1 fe rk9 wd9 tw9 pa9 pb9 (.ref lo) (.ref lk) (.ref fm)), (oc4 lk kd9 st9 .null gb9 jt9 we9)] sz zXN)) (zQ none (fun t => va_P (dC, dI) classes [(oc1 fe rk9 wd9 tw9 pa9 pb9 (.ref lo) (.ref lk) (.ref fm)), (oc4 lk kd9 2 .null sn9 jt9 we9)] t.heap ∧ va_D (va_A [(oc1 fe rk9 wd9 tw9 pa9 pb9 (.ref lo) (.ref lk) (.ref fm)), (oc4 lk kd9 st9 .null gb9 jt9 we9)] sz) [(oc1 fe rk9 wd9 tw9 pa9 pb9 (.ref lo) (.ref lk) (.ref fm)), (oc4 lk kd9 2 .null sn9 jt9 we9)]) (va_A [(oc1 fe rk9 wd9 tw9 pa9 pb9 (.ref lo) (.ref lk) (.ref fm)), (oc4 lk kd9 st9 .null gb9 jt9 we9)] sz)) 0 0 (va_A [(oc1 fe rk9 wd9 tw9 pa9 pb9 (.ref lo) (.ref lk) (.ref fm)), (oc4 lk kd9 st9 .null gb9 jt9 we9)] sz) := by
  refine Met.ofW (cc := cX2_leave) (maxL := 2) (ret := none) (by decide) rfl ?_
  intro p e s m args below meth c s₁ B hml hv
  obtain ⟨rfl, hsz, hP, hK, hD0, hXN⟩ := hv
  have hx := B.exec
  have hb := B.bytes
  have hr := B.returns
  have hts0 := atoms_spec (ws := .code yX2_leave cX2_leave 2 none :: ws0) B.pre
  have hts : ∀ w9 ∈ ws0, w9.before ([.ref fe, .int sn9] : List Value).toArray s = true := fun w9 h => hts0 w9 (List.mem_cons_of_mem _ h)
  have hown : s.vm.findClass "ScaleShop$Feature" = some m.cls := findClass_of_methodNamed B.named
  have hlocks := B.notSynchronized
  subst hsz
  have hD := hD0.self (sz := s.heap.size)
  clear hD0
  generalize hAe : va_A [(oc1 fe rk9 wd9 tw9 pa9 pb9 (.ref lo) (.ref lk) (.ref fm)), (oc4 lk kd9 st9 .null gb9 jt9 we9)] s.heap.size = A at hD ⊢
  have hA : ∀ q : Nat, s.heap.size ≤ q → A q := fun q h => by rw [← hAe]; exact Or.inr h
  clear hAe
  have hS : va_S A s.heap s.heap [] := va_S.rf
  have hP : va_P (dC, dI) classes [(oc1 fe rk9 wd9 tw9 pa9 pb9 (.ref lo) (.ref lk) (.ref fm)), (oc4 lk kd9 st9 .null gb9 jt9 we9)] s.heap := hP
  obtain ⟨Q9, hQ9⟩ : ∃ Q9 : State → Prop, Q9 = MQ below (zQ none (fun t => va_P (dC, dI) classes [(oc1 fe rk9 wd9 tw9 pa9 pb9 (.ref lo) (.ref lk) (.ref fm)), (oc4 lk kd9 2 .null sn9 jt9 we9)] t.heap ∧ va_D A [(oc1 fe rk9 wd9 tw9 pa9 pb9 (.ref lo) (.ref lk) (.ref fm)), (oc4 lk kd9 2 .null sn9 jt9 we9)]) A) ([.ref fe, .int sn9] : List Value).toArray s 0 0 A := ⟨_, rfl⟩
  rw [← hQ9]
  have hl := lv_entry ([.ref fe, .int sn9]) (n := 2) (Nat.le_of_ble_eq_true rfl)
  rw [lg_entry_eq]
  generalize (lg_sl ([.ref fe, .int sn9]) ++ List.replicate (2 - (lg_sl ([.ref fe, .int sn9])).length) Slot.unset).toArray = ls at hl ⊢
  have hl : lv_has ls 2 [(0, .ref fe), (1, .int sn9)] := hl
  refine lv_aload_n hx hb dX2_leave_0 rfl (lv_at hl 0 rfl) ?_
  have hPc := hP.sub (ws' := [(oc1 fe rk9 wd9 tw9 pa9 pb9 (.ref lo) (.ref lk) (.ref fm)), (oc4 lk kd9 st9 .null gb9 jt9 we9)]) [0, 1] rfl
  have hDc := hD.sub (ws' := [(oc1 fe rk9 wd9 tw9 pa9 pb9 (.ref lo) (.ref lk) (.ref fm)), (oc4 lk kd9 st9 .null gb9 jt9 we9)]) [0, 1] (by decide) rfl
  have hFc := va_free (wc := [(oc1 fe rk9 wd9 tw9 pa9 pb9 (.ref lo) (.ref lk) (.ref fm)), (oc4 lk kd9 st9 .null gb9 jt9 we9)]) hD hS hA [0, 1] rfl
  refine zcall (st1 := []) (va_runV (As := []) (rest := []) ⟨hx, hb, hml, hown, hts⟩ (k_Feature_keepf_n l dC dI cI cZ cF s.heap.size fe lo rk9 wd9 tw9 pa9 pb9 lk kd9 st9 gb9 jt9 we9 fm ) (cwV 0 hts (zz_gV mw_734 mw_736 mw_19 mw_111 mc_yX2_keepFormer) rfl rfl rfl (by decide +kernel) ⟨Nat.le_of_ble_eq_true rfl, Nat.le_of_ble_eq_true rfl⟩) (zPV2 (q0 := 0) (ci := 1) hPc hDc hK hXN rfl rfl) rfl rfl hl.1 rfl (lv_room (Nat.le_of_ble_eq_true rfl)) dX2_leave_1 ⟨Nat.le_of_ble_eq_true rfl, Nat.le_of_ble_eq_true rfl⟩) hS hFc hFc rfl (fun t H1 locs ht hB hk1 hS => ?_)
  obtain ⟨hP1, hD1⟩ := hB
  rw [ht] at hP1
  obtain ⟨hP, hD⟩ := va_join (wr := []) (w1 := [(oc1 fe rk9 wd9 tw9 pa9 pb9 (.ref lo) (.ref lk) (.ref fm)), (oc4 lk kd9 st9 .null gb9 jt9 we9)]) hP hD [0, 1] [] rfl rfl (by decide) (by decide) hk1 hFc hP1 hD1
  clear hk1 hPc hDc hFc hP1 hD1 ht
  generalize H1 = H at hP hS ⊢
  have hP : va_P (dC, dI) classes [(oc1 fe rk9 wd9 tw9 pa9 pb9 (.ref lo) (.ref lk) (.ref fm)), (oc4 lk kd9 st9 .null gb9 jt9 we9)] H := hP
  have hD : va_D A [(oc1 fe rk9 wd9 tw9 pa9 pb9 (.ref lo) (.ref lk) (.ref fm)), (oc4 lk kd9 st9 .null gb9 jt9 we9)] := hD
  refine lv_aload_n hx hb dX2_leave_4 rfl (lv_at hl 0 rfl) ?_
  refine va_get (D := (dC, dI)) (ci := 1) (v := .ref lk) (C := RX2) (T := TX2) (N := 8) hx hb hts inX2 hown hK hP 0 rfl rfl 6 (by decide) (hts _ mw_429) (fun _ h9 => h9) rfl dX2_leave_5 ?_
  refine lv_iconst (v := 2) hx hb dX2_leave_8 (by decide) ?_
  refine va_put (D := (dC, dI)) (ci := 4) (v := .int 2) (ty := .int) (C := RX5) (T := TX5) (N := 6) hx hb hts inX5 tyX5 tyX5_ok nmX5 hown hK hP hD hS 1 rfl rfl 1 (by decide) (hts _ mw_386) (fun _ h9 => h9) rfl (by decide +kernel) rfl rfl (Nat.le_of_ble_eq_true rfl) dX2_leave_9 (fun H locs hP hD hS => ?_)
  have hP : va_P (dC, dI) classes [(oc1 fe rk9 wd9 tw9 pa9 pb9 (.ref lo) (.ref lk) (.ref fm)), (oc4 lk kd9 2 .null gb9 jt9 we9)] H := hP
  have hD : va_D A [(oc1 fe rk9 wd9 tw9 pa9 pb9 (.ref lo) (.ref lk) (.ref fm)), (oc4 lk kd9 2 .null gb9 jt9 we9)] := hD
  refine lv_aload_n hx hb dX2_leave_12 rfl (lv_at hl 0 rfl) ?_
  refine va_get (D := (dC, dI)) (ci := 1) (v := .ref lk) (C := RX2) (T := TX2) (N := 8) hx hb hts inX2 hown hK hP 0 rfl rfl 6 (by decide) (hts _ mw_429) (fun _ h9 => h9) rfl dX2_leave_13 ?_
  refine lv_iload_n hx hb dX2_leave_16 rfl (lv_at hl 1 rfl) ?_
  refine va_put (D := (dC, dI)) (ci := 4) (v := .int sn9) (ty := .int) (C := RX5) (T := TX5) (N := 6) hx hb hts inX5 tyX5 tyX5_ok nmX5 hown hK hP hD hS 1 rfl rfl 3 (by decide) (hts _ mw_395) (fun _ h9 => h9) rfl (by decide +kernel) rfl rfl (Nat.le_of_ble_eq_true rfl) dX2_leave_17 (fun H locs hP hD hS => ?_)
  have hP : va_P (dC, dI) classes [(oc1 fe rk9 wd9 tw9 pa9 pb9 (.ref lo) (.ref lk) (.ref fm)), (oc4 lk kd9 2 .null sn9 jt9 we9)] H := hP
  have hD : va_D A [(oc1 fe rk9 wd9 tw9 pa9 pb9 (.ref lo) (.ref lk) (.ref fm)), (oc4 lk kd9 2 .null sn9 jt9 we9)] := hD
  have hP9 := hP.sub (ws' := [(oc1 fe rk9 wd9 tw9 pa9 pb9 (.ref lo) (.ref lk) (.ref fm)), (oc4 lk kd9 2 .null sn9 jt9 we9)]) [0, 1] rfl
  have hD9 := hD.sub (ws' := [(oc1 fe rk9 wd9 tw9 pa9 pb9 (.ref lo) (.ref lk) (.ref fm)), (oc4 lk kd9 2 .null sn9 jt9 we9)]) [0, 1] (by decide) rfl
  rw [hQ9]
  exact W.vret hx hb hr (fun t ht hW => ⟨⟨rfl, by rw [ht]; exact hP9, hD9⟩, hS.F ht⟩) hS.2.2 dX2_leave_20
set_option maxHeartbeats 4000000 in
set_option maxRecDepth 100000 in
theorem k_Feature_reshape (l : Launch) (dC : Nat → ClassId) (dI : Nat → Nat → Nat) (cI cZ cF : ClassId) (sz : Nat) (fe : Nat) (lo : Nat) (rk9 : Int32) (wd9 : Int32) (tw9 : Int32) (pa9 : Int32) (pb9 : Int32) (lk : Nat) (kd9 : Int32) (st9 : Int32) (gb9 : Int32) (jt9 : Int32) (we9 : Int32) (r0 : Nat) (r : Nat) (rx : Nat) (ry : Nat) (n : Nat) (cap : Nat) (X : Nat → Int32) (Y : Nat → Int32) (rg : Int32) (hn : 1 ≤ n ∧ n ≤ cap) (hcap : cap ≤ 1000) (hrg : rg = 0 ∨ rg = 1) : Met l yX2_reshape (.code yX2_reshape cX2_reshape 2 none :: ws0) ({ frames := 4, cells := 4, slots := 2 * n + 10, locals := 74 } : Room) (va_Pc [.ref fe, .ref r] (zPre (dC, dI) classes (zTy cI cZ cF) [(oc1 fe rk9 wd9 tw9 pa9 pb9 (.ref lo) (.ref lk) .null), (oc4 lk kd9 st9 (.ref r0) gb9 jt9 we9), (oc6 r (.ref rx) (.ref ry) (nI n) rg), (oa rx cI cap X), (oa ry cI cap Y)] sz zXN)) (zQ none (fun t => ∃ (q : Nat), ∃ (w : Nat), ∃ (wx : Nat), ∃ (wy : Nat), ∃ (X1 : Nat → Int32), ∃ (Y1 : Nat → Int32), (∀ k, k < n → X1 k = X k ∧ Y1 k = Y k) ∧ va_P (dC, dI) classes [(oc1 fe rk9 wd9 tw9 pa9 pb9 (.ref lo) (.ref q) (.ref lk)), (oc4 lk kd9 st9 (.ref r0) gb9 jt9 we9), (oc4 q kd9 st9 (.ref w) gb9 jt9 we9), (oc6 r (.ref rx) (.ref ry) (nI n) rg), (oa rx cI cap X), (oa ry cI cap Y), (oc6 w (.ref wx) (.ref wy) (nI n) rg), (oa wx cI n X1), (oa wy cI n Y1)] t.heap ∧ va_D (va_A [(oc1 fe rk9 wd9 tw9 pa9 pb9 (.ref lo) (.ref lk) .null), (oc4 lk kd9 st9 (.ref r0) gb9 jt9 we9), (oc6 r (.ref rx) (.ref ry) (nI n) rg), (oa rx cI cap X), (oa ry cI cap Y)] sz) [(oc1 fe rk9 wd9 tw9 pa9 pb9 (.ref lo) (.ref q) (.ref lk)), (oc4 lk kd9 st9 (.ref r0) gb9 jt9 we9), (oc4 q kd9 st9 (.ref w) gb9 jt9 we9), (oc6 r (.ref rx) (.ref ry) (nI n) rg), (oa rx cI cap X), (oa ry cI cap Y), (oc6 w (.ref wx) (.ref wy) (nI n) rg), (oa wx cI n X1), (oa wy cI n Y1)]) (va_A [(oc1 fe rk9 wd9 tw9 pa9 pb9 (.ref lo) (.ref lk) .null), (oc4 lk kd9 st9 (.ref r0) gb9 jt9 we9), (oc6 r (.ref rx) (.ref ry) (nI n) rg), (oa rx cI cap X), (oa ry cI cap Y)] sz)) 4 (2 * n + 10) (va_A [(oc1 fe rk9 wd9 tw9 pa9 pb9 (.ref lo) (.ref lk) .null), (oc4 lk kd9 st9 (.ref r0) gb9 jt9 we9), (oc6 r (.ref rx) (.ref ry) (nI n) rg), (oa rx cI cap X), (oa ry cI cap Y)] sz) := by
  refine Met.ofW (cc := cX2_reshape) (maxL := 2) (ret := none) (by decide) rfl ?_
  intro p e s m args below meth c s₁ B hml hv
  obtain ⟨rfl, hsz, hP, hK, hD0, hXN⟩ := hv
  have hx := B.exec
  have hb := B.bytes
  have hr := B.returns
  have hts0 := atoms_spec (ws := .code yX2_reshape cX2_reshape 2 none :: ws0) B.pre
  have hts : ∀ w9 ∈ ws0, w9.before ([.ref fe, .ref r] : List Value).toArray s = true := fun w9 h => hts0 w9 (List.mem_cons_of_mem _ h)
  have hown : s.vm.findClass "ScaleShop$Feature" = some m.cls := findClass_of_methodNamed B.named
  have hlocks := B.notSynchronized
  subst hsz
  have hD := hD0.self (sz := s.heap.size)
  clear hD0
  generalize hAe : va_A [(oc1 fe rk9 wd9 tw9 pa9 pb9 (.ref lo) (.ref lk) .null), (oc4 lk kd9 st9 (.ref r0) gb9 jt9 we9), (oc6 r (.ref rx) (.ref ry) (nI n) rg), (oa rx cI cap X), (oa ry cI cap Y)] s.heap.size = A at hD ⊢
  have hA : ∀ q : Nat, s.heap.size ≤ q → A q := fun q h => by rw [← hAe]; exact Or.inr h
  clear hAe
  have hS : va_S A s.heap s.heap [] := va_S.rf
  have hP : va_P (dC, dI) classes [(oc1 fe rk9 wd9 tw9 pa9 pb9 (.ref lo) (.ref lk) .null), (oc4 lk kd9 st9 (.ref r0) gb9 jt9 we9), (oc6 r (.ref rx) (.ref ry) (nI n) rg), (oa rx cI cap X), (oa ry cI cap Y)] s.heap := hP
  obtain ⟨Q9, hQ9⟩ : ∃ Q9 : State → Prop, Q9 = MQ below (zQ none (fun t => ∃ (q : Nat), ∃ (w : Nat), ∃ (wx : Nat), ∃ (wy : Nat), ∃ (X1 : Nat → Int32), ∃ (Y1 : Nat → Int32), (∀ k, k < n → X1 k = X k ∧ Y1 k = Y k) ∧ va_P (dC, dI) classes [(oc1 fe rk9 wd9 tw9 pa9 pb9 (.ref lo) (.ref q) (.ref lk)), (oc4 lk kd9 st9 (.ref r0) gb9 jt9 we9), (oc4 q kd9 st9 (.ref w) gb9 jt9 we9), (oc6 r (.ref rx) (.ref ry) (nI n) rg), (oa rx cI cap X), (oa ry cI cap Y), (oc6 w (.ref wx) (.ref wy) (nI n) rg), (oa wx cI n X1), (oa wy cI n Y1)] t.heap ∧ va_D A [(oc1 fe rk9 wd9 tw9 pa9 pb9 (.ref lo) (.ref q) (.ref lk)), (oc4 lk kd9 st9 (.ref r0) gb9 jt9 we9), (oc4 q kd9 st9 (.ref w) gb9 jt9 we9), (oc6 r (.ref rx) (.ref ry) (nI n) rg), (oa rx cI cap X), (oa ry cI cap Y), (oc6 w (.ref wx) (.ref wy) (nI n) rg), (oa wx cI n X1), (oa wy cI n Y1)]) A) ([.ref fe, .ref r] : List Value).toArray s 4 (2 * n + 10) A := ⟨_, rfl⟩
  rw [← hQ9]
  have hl := lv_entry ([.ref fe, .ref r]) (n := 2) (Nat.le_of_ble_eq_true rfl)
  rw [lg_entry_eq]
  generalize (lg_sl ([.ref fe, .ref r]) ++ List.replicate (2 - (lg_sl ([.ref fe, .ref r])).length) Slot.unset).toArray = ls at hl ⊢
  have hl : lv_has ls 2 [(0, .ref fe), (1, .ref r)] := hl
  refine lv_aload_n hx hb dX2_reshape_0 rfl (lv_at hl 0 rfl) ?_
  have hPc := hP.sub (ws' := [(oc1 fe rk9 wd9 tw9 pa9 pb9 (.ref lo) (.ref lk) .null), (oc4 lk kd9 st9 (.ref r0) gb9 jt9 we9)]) [0, 1] rfl
  have hDc := hD.sub (ws' := [(oc1 fe rk9 wd9 tw9 pa9 pb9 (.ref lo) (.ref lk) .null), (oc4 lk kd9 st9 (.ref r0) gb9 jt9 we9)]) [0, 1] (by decide) rfl
  have hFc := va_free (wc := [(oc1 fe rk9 wd9 tw9 pa9 pb9 (.ref lo) (.ref lk) .null), (oc4 lk kd9 st9 (.ref r0) gb9 jt9 we9)]) hD hS hA [0, 1] rfl
  refine zcall (st1 := []) (va_runV (As := []) (rest := []) ⟨hx, hb, hml, hown, hts⟩ (k_Feature_keep_r l dC dI cI cZ cF s.heap.size fe lo rk9 wd9 tw9 pa9 pb9 lk kd9 st9 gb9 jt9 we9 r0 ) (cwV 0 hts (zz_gV mw_734 mw_736 mw_19 mw_111 mc_yX2_keepFormer) rfl rfl rfl (by decide +kernel) ⟨Nat.le_of_ble_eq_true rfl, Nat.le_of_ble_eq_true rfl⟩) (zPV2 (q0 := 0) (ci := 1) hPc hDc hK hXN rfl rfl) rfl rfl hl.1 rfl (lv_room (Nat.le_of_ble_eq_true rfl)) dX2_reshape_1 ⟨show 1 ≤ 4 by omega, show 6 ≤ 2 * n + 10 by omega⟩) hS hFc hFc rfl (fun t H1 locs ht hB hk1 hS => ?_)
  obtain ⟨q, hP1, hD1⟩ := hB
  rw [ht] at hP1
  obtain ⟨hP, hD⟩ := va_join (wr := [(oc6 r (.ref rx) (.ref ry) (nI n) rg), (oa rx cI cap X), (oa ry cI cap Y)]) (w1 := [(oc1 fe rk9 wd9 tw9 pa9 pb9 (.ref lo) (.ref q) (.ref lk)), (oc4 lk kd9 st9 (.ref r0) gb9 jt9 we9), (oc4 q kd9 st9 (.ref r0) gb9 jt9 we9)]) hP hD [0, 1] [2, 3, 4] rfl rfl (by decide) (by decide) hk1 hFc hP1 hD1
  clear hk1 hPc hDc hFc hP1 hD1 ht
  generalize H1 = H at hP hS ⊢
  have hP : va_P (dC, dI) classes [(oc6 r (.ref rx) (.ref ry) (nI n) rg), (oa rx cI cap X), (oa ry cI cap Y), (oc1 fe rk9 wd9 tw9 pa9 pb9 (.ref lo) (.ref q) (.ref lk)), (oc4 lk kd9 st9 (.ref r0) gb9 jt9 we9), (oc4 q kd9 st9 (.ref r0) gb9 jt9 we9)] H := hP
  have hD : va_D A [(oc6 r (.ref rx) (.ref ry) (nI n) rg), (oa rx cI cap X), (oa ry cI cap Y), (oc1 fe rk9 wd9 tw9 pa9 pb9 (.ref lo) (.ref q) (.ref lk)), (oc4 lk kd9 st9 (.ref r0) gb9 jt9 we9), (oc4 q kd9 st9 (.ref r0) gb9 jt9 we9)] := hD
  refine lv_aload_n hx hb dX2_reshape_4 rfl (lv_at hl 0 rfl) ?_
  refine va_get (D := (dC, dI)) (ci := 1) (v := .ref q) (C := RX2) (T := TX2) (N := 8) hx hb hts inX2 hown hK hP 3 rfl rfl 6 (by decide) (hts _ mw_429) (fun _ h9 => h9) rfl dX2_reshape_5 ?_
  refine lv_aload_n hx hb dX2_reshape_8 rfl (lv_at hl 1 rfl) ?_
  have hPc := hP.sub (ws' := [(oc6 r (.ref rx) (.ref ry) (nI n) rg), (oa rx cI cap X), (oa ry cI cap Y)]) [0, 1, 2] rfl
  have hDc := hD.sub (ws' := [(oc6 r (.ref rx) (.ref ry) (nI n) rg), (oa rx cI cap X), (oa ry cI cap Y)]) [0, 1, 2] (by decide) rfl
  have hFc := va_free (wc := [(oc6 r (.ref rx) (.ref ry) (nI n) rg), (oa rx cI cap X), (oa ry cI cap Y)]) hD hS hA [0, 1, 2] rfl
  refine zcalle (va_runV (As := []) (rest := [.ref q]) ⟨hx, hb, hml, hown, hts⟩ (k_Row_copy l dC dI cI cZ cF H.size r rx ry n cap X Y rg (by omega) (by omega) (by assumption)) (cwV 0 hts (zz_gV mw_744 mw_745 mw_746 mw_102 mc_yX7_copy) rfl rfl rfl (by decide +kernel) ⟨Nat.le_of_ble_eq_true rfl, Nat.le_of_ble_eq_true rfl⟩) (zPV2 (q0 := 0) (ci := 6) hPc hDc hK hXN rfl rfl) rfl rfl hl.1 rfl (lv_room (Nat.le_of_ble_eq_true rfl)) dX2_reshape_9 ⟨show (1 + 3) ≤ 4 by omega, show (6 + (2 * n + 4)) ≤ 2 * n + 10 by omega⟩) hS hFc hFc (fun v9 t H1 locs ht hB hk1 hS => ?_)
  obtain ⟨w, wx, wy, X1, Y1, rfl, hall, hP1, hD1⟩ := hB
  refine W.eq (g2 := F0 m 12 ls [.ref w, .ref q]) rfl ?_
  rw [ht] at hP1
  obtain ⟨hP, hD⟩ := va_join (wr := [(oc1 fe rk9 wd9 tw9 pa9 pb9 (.ref lo) (.ref q) (.ref lk)), (oc4 lk kd9 st9 (.ref r0) gb9 jt9 we9), (oc4 q kd9 st9 (.ref r0) gb9 jt9 we9)]) (w1 := [(oc6 r (.ref rx) (.ref ry) (nI n) rg), (oa rx cI cap X), (oa ry cI cap Y), (oc6 w (.ref wx) (.ref wy) (nI n) rg), (oa wx cI n X1), (oa wy cI n Y1)]) hP hD [0, 1, 2] [3, 4, 5] rfl rfl (by decide) (by decide) hk1 hFc hP1 hD1
  clear hk1 hPc hDc hFc hP1 hD1 ht
  generalize H1 = H at hP hS ⊢
  have hP : va_P (dC, dI) classes [(oc1 fe rk9 wd9 tw9 pa9 pb9 (.ref lo) (.ref q) (.ref lk)), (oc4 lk kd9 st9 (.ref r0) gb9 jt9 we9), (oc4 q kd9 st9 (.ref r0) gb9 jt9 we9), (oc6 r (.ref rx) (.ref ry) (nI n) rg), (oa rx cI cap X), (oa ry cI cap Y), (oc6 w (.ref wx) (.ref wy) (nI n) rg), (oa wx cI n X1), (oa wy cI n Y1)] H := hP
  have hD : va_D A [(oc1 fe rk9 wd9 tw9 pa9 pb9 (.ref lo) (.ref q) (.ref lk)), (oc4 lk kd9 st9 (.ref r0) gb9 jt9 we9), (oc4 q kd9 st9 (.ref r0) gb9 jt9 we9), (oc6 r (.ref rx) (.ref ry) (nI n) rg), (oa rx cI cap X), (oa ry cI cap Y), (oc6 w (.ref wx) (.ref wy) (nI n) rg), (oa wx cI n X1), (oa wy cI n Y1)] := hD
  refine va_put (D := (dC, dI)) (ci := 4) (v := .ref w) (ty := .object "ScaleShop$Row") (C := RX5) (T := TX5) (N := 6) hx hb hts inX5 tyX5 tyX5_ok nmX5 hown hK hP hD hS 2 rfl rfl 2 (by decide) (hts _ mw_392) (fun _ h9 => h9) rfl (by decide +kernel) rfl rfl (Nat.le_of_ble_eq_true rfl) dX2_reshape_12 (fun H locs hP hD hS => ?_)
  have hP : va_P (dC, dI) classes [(oc1 fe rk9 wd9 tw9 pa9 pb9 (.ref lo) (.ref q) (.ref lk)), (oc4 lk kd9 st9 (.ref r0) gb9 jt9 we9), (oc4 q kd9 st9 (.ref w) gb9 jt9 we9), (oc6 r (.ref rx) (.ref ry) (nI n) rg), (oa rx cI cap X), (oa ry cI cap Y), (oc6 w (.ref wx) (.ref wy) (nI n) rg), (oa wx cI n X1), (oa wy cI n Y1)] H := hP
  have hD : va_D A [(oc1 fe rk9 wd9 tw9 pa9 pb9 (.ref lo) (.ref q) (.ref lk)), (oc4 lk kd9 st9 (.ref r0) gb9 jt9 we9), (oc4 q kd9 st9 (.ref w) gb9 jt9 we9), (oc6 r (.ref rx) (.ref ry) (nI n) rg), (oa rx cI cap X), (oa ry cI cap Y), (oc6 w (.ref wx) (.ref wy) (nI n) rg), (oa wx cI n X1), (oa wy cI n Y1)] := hD
  have hP9 := hP.sub (ws' := [(oc1 fe rk9 wd9 tw9 pa9 pb9 (.ref lo) (.ref q) (.ref lk)), (oc4 lk kd9 st9 (.ref r0) gb9 jt9 we9), (oc4 q kd9 st9 (.ref w) gb9 jt9 we9), (oc6 r (.ref rx) (.ref ry) (nI n) rg), (oa rx cI cap X), (oa ry cI cap Y), (oc6 w (.ref wx) (.ref wy) (nI n) rg), (oa wx cI n X1), (oa wy cI n Y1)]) [0, 1, 2, 3, 4, 5, 6, 7, 8] rfl
  have hD9 := hD.sub (ws' := [(oc1 fe rk9 wd9 tw9 pa9 pb9 (.ref lo) (.ref q) (.ref lk)), (oc4 lk kd9 st9 (.ref r0) gb9 jt9 we9), (oc4 q kd9 st9 (.ref w) gb9 jt9 we9), (oc6 r (.ref rx) (.ref ry) (nI n) rg), (oa rx cI cap X), (oa ry cI cap Y), (oc6 w (.ref wx) (.ref wy) (nI n) rg), (oa wx cI n X1), (oa wy cI n Y1)]) [0, 1, 2, 3, 4, 5, 6, 7, 8] (by decide) rfl
  refine W.widen (k := 4) (n := 2 * n + 10) (by omega) (by omega) ?_
  rw [hQ9]
  exact W.vret hx hb hr (fun t ht hW => ⟨⟨rfl, q, w, wx, wy, X1, Y1, (hall), by rw [ht]; exact hP9, hD9⟩, hS.F ht⟩) hS.2.2 dX2_reshape_15
set_option maxHeartbeats 4000000 in
set_option maxRecDepth 100000 in
theorem k_Feature_reshape_o (l : Launch) (dC : Nat → ClassId) (dI : Nat → Nat → Nat) (cI cZ cF : ClassId) (sz : Nat) (fe : Nat) (lo : Nat) (rk9 : Int32) (wd9 : Int32) (tw9 : Int32) (pa9 : Int32) (pb9 : Int32) (lk : Nat) (kd9 : Int32) (st9 : Int32) (gb9 : Int32) (jt9 : Int32) (we9 : Int32) (r : Nat) (rx : Nat) (ry : Nat) (n : Nat) (cap : Nat) (X : Nat → Int32) (Y : Nat → Int32) (rg : Int32) (hn : 1 ≤ n ∧ n ≤ cap) (hcap : cap ≤ 1000) (hrg : rg = 0 ∨ rg = 1) : Met l yX2_reshape (.code yX2_reshape cX2_reshape 2 none :: ws0) ({ frames := 4, cells := 4, slots := 2 * n + 10, locals := 74 } : Room) (va_Pc [.ref fe, .ref r] (zPre (dC, dI) classes (zTy cI cZ cF) [(oc1 fe rk9 wd9 tw9 pa9 pb9 (.ref lo) (.ref lk) .null), (oc4 lk kd9 st9 (.ref r) gb9 jt9 we9), (oc6 r (.ref rx) (.ref ry) (nI n) rg), (oa rx cI cap X), (oa ry cI cap Y)] sz zXN)) (zQ none (fun t => ∃ (q : Nat), ∃ (w : Nat), ∃ (wx : Nat), ∃ (wy : Nat), ∃ (X1 : Nat → Int32), ∃ (Y1 : Nat → Int32), (∀ k, k < n → X1 k = X k ∧ Y1 k = Y k) ∧ va_P (dC, dI) classes [(oc1 fe rk9 wd9 tw9 pa9 pb9 (.ref lo) (.ref q) (.ref lk)), (oc4 lk kd9 st9 (.ref r) gb9 jt9 we9), (oc4 q kd9 st9 (.ref w) gb9 jt9 we9), (oc6 r (.ref rx) (.ref ry) (nI n) rg), (oa rx cI cap X), (oa ry cI cap Y), (oc6 w (.ref wx) (.ref wy) (nI n) rg), (oa wx cI n X1), (oa wy cI n Y1)] t.heap ∧ va_D (va_A [(oc1 fe rk9 wd9 tw9 pa9 pb9 (.ref lo) (.ref lk) .null), (oc4 lk kd9 st9 (.ref r) gb9 jt9 we9), (oc6 r (.ref rx) (.ref ry) (nI n) rg), (oa rx cI cap X), (oa ry cI cap Y)] sz) [(oc1 fe rk9 wd9 tw9 pa9 pb9 (.ref lo) (.ref q) (.ref lk)), (oc4 lk kd9 st9 (.ref r) gb9 jt9 we9), (oc4 q kd9 st9 (.ref w) gb9 jt9 we9), (oc6 r (.ref rx) (.ref ry) (nI n) rg), (oa rx cI cap X), (oa ry cI cap Y), (oc6 w (.ref wx) (.ref wy) (nI n) rg), (oa wx cI n X1), (oa wy cI n Y1)]) (va_A [(oc1 fe rk9 wd9 tw9 pa9 pb9 (.ref lo) (.ref lk) .null), (oc4 lk kd9 st9 (.ref r) gb9 jt9 we9), (oc6 r (.ref rx) (.ref ry) (nI n) rg), (oa rx cI cap X), (oa ry cI cap Y)] sz)) 4 (2 * n + 10) (va_A [(oc1 fe rk9 wd9 tw9 pa9 pb9 (.ref lo) (.ref lk) .null), (oc4 lk kd9 st9 (.ref r) gb9 jt9 we9), (oc6 r (.ref rx) (.ref ry) (nI n) rg), (oa rx cI cap X), (oa ry cI cap Y)] sz) := by
  refine Met.ofW (cc := cX2_reshape) (maxL := 2) (ret := none) (by decide) rfl ?_
  intro p e s m args below meth c s₁ B hml hv
  obtain ⟨rfl, hsz, hP, hK, hD0, hXN⟩ := hv
  have hx := B.exec
  have hb := B.bytes
  have hr := B.returns
  have hts0 := atoms_spec (ws := .code yX2_reshape cX2_reshape 2 none :: ws0) B.pre
  have hts : ∀ w9 ∈ ws0, w9.before ([.ref fe, .ref r] : List Value).toArray s = true := fun w9 h => hts0 w9 (List.mem_cons_of_mem _ h)
  have hown : s.vm.findClass "ScaleShop$Feature" = some m.cls := findClass_of_methodNamed B.named
  have hlocks := B.notSynchronized
  subst hsz
  have hD := hD0.self (sz := s.heap.size)
  clear hD0
  generalize hAe : va_A [(oc1 fe rk9 wd9 tw9 pa9 pb9 (.ref lo) (.ref lk) .null), (oc4 lk kd9 st9 (.ref r) gb9 jt9 we9), (oc6 r (.ref rx) (.ref ry) (nI n) rg), (oa rx cI cap X), (oa ry cI cap Y)] s.heap.size = A at hD ⊢
  have hA : ∀ q : Nat, s.heap.size ≤ q → A q := fun q h => by rw [← hAe]; exact Or.inr h
  clear hAe
  have hS : va_S A s.heap s.heap [] := va_S.rf
  have hP : va_P (dC, dI) classes [(oc1 fe rk9 wd9 tw9 pa9 pb9 (.ref lo) (.ref lk) .null), (oc4 lk kd9 st9 (.ref r) gb9 jt9 we9), (oc6 r (.ref rx) (.ref ry) (nI n) rg), (oa rx cI cap X), (oa ry cI cap Y)] s.heap := hP
  obtain ⟨Q9, hQ9⟩ : ∃ Q9 : State → Prop, Q9 = MQ below (zQ none (fun t => ∃ (q : Nat), ∃ (w : Nat), ∃ (wx : Nat), ∃ (wy : Nat), ∃ (X1 : Nat → Int32), ∃ (Y1 : Nat → Int32), (∀ k, k < n → X1 k = X k ∧ Y1 k = Y k) ∧ va_P (dC, dI) classes [(oc1 fe rk9 wd9 tw9 pa9 pb9 (.ref lo) (.ref q) (.ref lk)), (oc4 lk kd9 st9 (.ref r) gb9 jt9 we9), (oc4 q kd9 st9 (.ref w) gb9 jt9 we9), (oc6 r (.ref rx) (.ref ry) (nI n) rg), (oa rx cI cap X), (oa ry cI cap Y), (oc6 w (.ref wx) (.ref wy) (nI n) rg), (oa wx cI n X1), (oa wy cI n Y1)] t.heap ∧ va_D A [(oc1 fe rk9 wd9 tw9 pa9 pb9 (.ref lo) (.ref q) (.ref lk)), (oc4 lk kd9 st9 (.ref r) gb9 jt9 we9), (oc4 q kd9 st9 (.ref w) gb9 jt9 we9), (oc6 r (.ref rx) (.ref ry) (nI n) rg), (oa rx cI cap X), (oa ry cI cap Y), (oc6 w (.ref wx) (.ref wy) (nI n) rg), (oa wx cI n X1), (oa wy cI n Y1)]) A) ([.ref fe, .ref r] : List Value).toArray s 4 (2 * n + 10) A := ⟨_, rfl⟩
  rw [← hQ9]
  have hl := lv_entry ([.ref fe, .ref r]) (n := 2) (Nat.le_of_ble_eq_true rfl)
  rw [lg_entry_eq]
  generalize (lg_sl ([.ref fe, .ref r]) ++ List.replicate (2 - (lg_sl ([.ref fe, .ref r])).length) Slot.unset).toArray = ls at hl ⊢
  have hl : lv_has ls 2 [(0, .ref fe), (1, .ref r)] := hl
  refine lv_aload_n hx hb dX2_reshape_0 rfl (lv_at hl 0 rfl) ?_
  have hPc := hP.sub (ws' := [(oc1 fe rk9 wd9 tw9 pa9 pb9 (.ref lo) (.ref lk) .null), (oc4 lk kd9 st9 (.ref r) gb9 jt9 we9)]) [0, 1] rfl
  have hDc := hD.sub (ws' := [(oc1 fe rk9 wd9 tw9 pa9 pb9 (.ref lo) (.ref lk) .null), (oc4 lk kd9 st9 (.ref r) gb9 jt9 we9)]) [0, 1] (by decide) rfl
  have hFc := va_free (wc := [(oc1 fe rk9 wd9 tw9 pa9 pb9 (.ref lo) (.ref lk) .null), (oc4 lk kd9 st9 (.ref r) gb9 jt9 we9)]) hD hS hA [0, 1] rfl
  refine zcall (st1 := []) (va_runV (As := []) (rest := []) ⟨hx, hb, hml, hown, hts⟩ (k_Feature_keep_r l dC dI cI cZ cF s.heap.size fe lo rk9 wd9 tw9 pa9 pb9 lk kd9 st9 gb9 jt9 we9 r ) (cwV 0 hts (zz_gV mw_734 mw_736 mw_19 mw_111 mc_yX2_keepFormer) rfl rfl rfl (by decide +kernel) ⟨Nat.le_of_ble_eq_true rfl, Nat.le_of_ble_eq_true rfl⟩) (zPV2 (q0 := 0) (ci := 1) hPc hDc hK hXN rfl rfl) rfl rfl hl.1 rfl (lv_room (Nat.le_of_ble_eq_true rfl)) dX2_reshape_1 ⟨show 1 ≤ 4 by omega, show 6 ≤ 2 * n + 10 by omega⟩) hS hFc hFc rfl (fun t H1 locs ht hB hk1 hS => ?_)
  obtain ⟨q, hP1, hD1⟩ := hB
  rw [ht] at hP1
  obtain ⟨hP, hD⟩ := va_join (wr := [(oc6 r (.ref rx) (.ref ry) (nI n) rg), (oa rx cI cap X), (oa ry cI cap Y)]) (w1 := [(oc1 fe rk9 wd9 tw9 pa9 pb9 (.ref lo) (.ref q) (.ref lk)), (oc4 lk kd9 st9 (.ref r) gb9 jt9 we9), (oc4 q kd9 st9 (.ref r) gb9 jt9 we9)]) hP hD [0, 1] [2, 3, 4] rfl rfl (by decide) (by decide) hk1 hFc hP1 hD1
  clear hk1 hPc hDc hFc hP1 hD1 ht
  generalize H1 = H at hP hS ⊢
  have hP : va_P (dC, dI) classes [(oc6 r (.ref rx) (.ref ry) (nI n) rg), (oa rx cI cap X), (oa ry cI cap Y), (oc1 fe rk9 wd9 tw9 pa9 pb9 (.ref lo) (.ref q) (.ref lk)), (oc4 lk kd9 st9 (.ref r) gb9 jt9 we9), (oc4 q kd9 st9 (.ref r) gb9 jt9 we9)] H := hP
  have hD : va_D A [(oc6 r (.ref rx) (.ref ry) (nI n) rg), (oa rx cI cap X), (oa ry cI cap Y), (oc1 fe rk9 wd9 tw9 pa9 pb9 (.ref lo) (.ref q) (.ref lk)), (oc4 lk kd9 st9 (.ref r) gb9 jt9 we9), (oc4 q kd9 st9 (.ref r) gb9 jt9 we9)] := hD
  refine lv_aload_n hx hb dX2_reshape_4 rfl (lv_at hl 0 rfl) ?_
  refine va_get (D := (dC, dI)) (ci := 1) (v := .ref q) (C := RX2) (T := TX2) (N := 8) hx hb hts inX2 hown hK hP 3 rfl rfl 6 (by decide) (hts _ mw_429) (fun _ h9 => h9) rfl dX2_reshape_5 ?_
  refine lv_aload_n hx hb dX2_reshape_8 rfl (lv_at hl 1 rfl) ?_
  have hPc := hP.sub (ws' := [(oc6 r (.ref rx) (.ref ry) (nI n) rg), (oa rx cI cap X), (oa ry cI cap Y)]) [0, 1, 2] rfl
  have hDc := hD.sub (ws' := [(oc6 r (.ref rx) (.ref ry) (nI n) rg), (oa rx cI cap X), (oa ry cI cap Y)]) [0, 1, 2] (by decide) rfl
  have hFc := va_free (wc := [(oc6 r (.ref rx) (.ref ry) (nI n) rg), (oa rx cI cap X), (oa ry cI cap Y)]) hD hS hA [0, 1, 2] rfl
  refine zcalle (va_runV (As := []) (rest := [.ref q]) ⟨hx, hb, hml, hown, hts⟩ (k_Row_copy l dC dI cI cZ cF H.size r rx ry n cap X Y rg (by omega) (by omega) (by assumption)) (cwV 0 hts (zz_gV mw_744 mw_745 mw_746 mw_102 mc_yX7_copy) rfl rfl rfl (by decide +kernel) ⟨Nat.le_of_ble_eq_true rfl, Nat.le_of_ble_eq_true rfl⟩) (zPV2 (q0 := 0) (ci := 6) hPc hDc hK hXN rfl rfl) rfl rfl hl.1 rfl (lv_room (Nat.le_of_ble_eq_true rfl)) dX2_reshape_9 ⟨show (1 + 3) ≤ 4 by omega, show (6 + (2 * n + 4)) ≤ 2 * n + 10 by omega⟩) hS hFc hFc (fun v9 t H1 locs ht hB hk1 hS => ?_)
  obtain ⟨w, wx, wy, X1, Y1, rfl, hall, hP1, hD1⟩ := hB
  refine W.eq (g2 := F0 m 12 ls [.ref w, .ref q]) rfl ?_
  rw [ht] at hP1
  obtain ⟨hP, hD⟩ := va_join (wr := [(oc1 fe rk9 wd9 tw9 pa9 pb9 (.ref lo) (.ref q) (.ref lk)), (oc4 lk kd9 st9 (.ref r) gb9 jt9 we9), (oc4 q kd9 st9 (.ref r) gb9 jt9 we9)]) (w1 := [(oc6 r (.ref rx) (.ref ry) (nI n) rg), (oa rx cI cap X), (oa ry cI cap Y), (oc6 w (.ref wx) (.ref wy) (nI n) rg), (oa wx cI n X1), (oa wy cI n Y1)]) hP hD [0, 1, 2] [3, 4, 5] rfl rfl (by decide) (by decide) hk1 hFc hP1 hD1
  clear hk1 hPc hDc hFc hP1 hD1 ht
  generalize H1 = H at hP hS ⊢
  have hP : va_P (dC, dI) classes [(oc1 fe rk9 wd9 tw9 pa9 pb9 (.ref lo) (.ref q) (.ref lk)), (oc4 lk kd9 st9 (.ref r) gb9 jt9 we9), (oc4 q kd9 st9 (.ref r) gb9 jt9 we9), (oc6 r (.ref rx) (.ref ry) (nI n) rg), (oa rx cI cap X), (oa ry cI cap Y), (oc6 w (.ref wx) (.ref wy) (nI n) rg), (oa wx cI n X1), (oa wy cI n Y1)] H := hP
  have hD : va_D A [(oc1 fe rk9 wd9 tw9 pa9 pb9 (.ref lo) (.ref q) (.ref lk)), (oc4 lk kd9 st9 (.ref r) gb9 jt9 we9), (oc4 q kd9 st9 (.ref r) gb9 jt9 we9), (oc6 r (.ref rx) (.ref ry) (nI n) rg), (oa rx cI cap X), (oa ry cI cap Y), (oc6 w (.ref wx) (.ref wy) (nI n) rg), (oa wx cI n X1), (oa wy cI n Y1)] := hD
  refine va_put (D := (dC, dI)) (ci := 4) (v := .ref w) (ty := .object "ScaleShop$Row") (C := RX5) (T := TX5) (N := 6) hx hb hts inX5 tyX5 tyX5_ok nmX5 hown hK hP hD hS 2 rfl rfl 2 (by decide) (hts _ mw_392) (fun _ h9 => h9) rfl (by decide +kernel) rfl rfl (Nat.le_of_ble_eq_true rfl) dX2_reshape_12 (fun H locs hP hD hS => ?_)
  have hP : va_P (dC, dI) classes [(oc1 fe rk9 wd9 tw9 pa9 pb9 (.ref lo) (.ref q) (.ref lk)), (oc4 lk kd9 st9 (.ref r) gb9 jt9 we9), (oc4 q kd9 st9 (.ref w) gb9 jt9 we9), (oc6 r (.ref rx) (.ref ry) (nI n) rg), (oa rx cI cap X), (oa ry cI cap Y), (oc6 w (.ref wx) (.ref wy) (nI n) rg), (oa wx cI n X1), (oa wy cI n Y1)] H := hP
  have hD : va_D A [(oc1 fe rk9 wd9 tw9 pa9 pb9 (.ref lo) (.ref q) (.ref lk)), (oc4 lk kd9 st9 (.ref r) gb9 jt9 we9), (oc4 q kd9 st9 (.ref w) gb9 jt9 we9), (oc6 r (.ref rx) (.ref ry) (nI n) rg), (oa rx cI cap X), (oa ry cI cap Y), (oc6 w (.ref wx) (.ref wy) (nI n) rg), (oa wx cI n X1), (oa wy cI n Y1)] := hD
  have hP9 := hP.sub (ws' := [(oc1 fe rk9 wd9 tw9 pa9 pb9 (.ref lo) (.ref q) (.ref lk)), (oc4 lk kd9 st9 (.ref r) gb9 jt9 we9), (oc4 q kd9 st9 (.ref w) gb9 jt9 we9), (oc6 r (.ref rx) (.ref ry) (nI n) rg), (oa rx cI cap X), (oa ry cI cap Y), (oc6 w (.ref wx) (.ref wy) (nI n) rg), (oa wx cI n X1), (oa wy cI n Y1)]) [0, 1, 2, 3, 4, 5, 6, 7, 8] rfl
  have hD9 := hD.sub (ws' := [(oc1 fe rk9 wd9 tw9 pa9 pb9 (.ref lo) (.ref q) (.ref lk)), (oc4 lk kd9 st9 (.ref r) gb9 jt9 we9), (oc4 q kd9 st9 (.ref w) gb9 jt9 we9), (oc6 r (.ref rx) (.ref ry) (nI n) rg), (oa rx cI cap X), (oa ry cI cap Y), (oc6 w (.ref wx) (.ref wy) (nI n) rg), (oa wx cI n X1), (oa wy cI n Y1)]) [0, 1, 2, 3, 4, 5, 6, 7, 8] (by decide) rfl
  refine W.widen (k := 4) (n := 2 * n + 10) (by omega) (by omega) ?_
  rw [hQ9]
  exact W.vret hx hb hr (fun t ht hW => ⟨⟨rfl, q, w, wx, wy, X1, Y1, (hall), by rw [ht]; exact hP9, hD9⟩, hS.F ht⟩) hS.2.2 dX2_reshape_15
set_option maxHeartbeats 4000000 in
set_option maxRecDepth 100000 in
theorem k_Feature_losef (l : Launch) (dC : Nat → ClassId) (dI : Nat → Nat → Nat) (cI cZ cF : ClassId) (sz : Nat) (fe : Nat) (lo : Nat) (rk9 : Int32) (wd9 : Int32) (tw9 : Int32) (pa9 : Int32) (pb9 : Int32) (lk : Nat) (kd9 : Int32) (st9 : Int32) (gb9 : Int32) (jt9 : Int32) (fm : Nat) (k : Nat) (wn : Nat) (r : Nat) (rx : Nat) (ry : Nat) (n : Nat) (cap : Nat) (X : Nat → Int32) (Y : Nat → Int32) (rg : Int32) (lx : Nat) (ly : Nat) (ln9 : Nat) (cl9 : Nat) (LX : Nat → Int32) (LY : Nat → Int32) (hkn : k < n) (hn : n ≤ cap) (hcap : cap ≤ 1000) (hwn : wn < cl9) (hcl : cl9 ≤ 1000) (hrg : rg = 0 ∨ rg = 1) : Met l yX2_lose (.code yX2_lose cX2_lose 2 none :: ws0) ({ frames := 2, cells := 0, slots := 0, locals := 36 } : Room) (va_Pc [.ref fe, .int (nI k)] (zPre (dC, dI) classes (zTy cI cZ cF) [(oc1 fe rk9 wd9 tw9 pa9 pb9 (.ref lo) (.ref lk) (.ref fm)), (oc4 lk kd9 st9 (.ref r) gb9 jt9 (nI wn)), (oc6 r (.ref rx) (.ref ry) (nI n) rg), (oa rx cI cap X), (oa ry cI cap Y), (oc6 lo (.ref lx) (.ref ly) (nI ln9) 0), (oa lx cI cl9 LX), (oa ly cI cl9 LY)] sz zXN)) (zQ none (fun t => ∃ (X1 : Nat → Int32), ∃ (Y1 : Nat → Int32), (∀ j, j < k → X1 j = X j ∧ Y1 j = Y j) ∧ (∀ j, k ≤ j → j < n - 1 → X1 j = X (j + 1) ∧ Y1 j = Y (j + 1)) ∧ va_P (dC, dI) classes [(oc1 fe rk9 wd9 tw9 pa9 pb9 (.ref lo) (.ref lk) (.ref fm)), (oc4 lk kd9 st9 (.ref r) gb9 jt9 (nI (wn + 1))), (oc6 r (.ref rx) (.ref ry) (nI (n - 1)) rg), (oa rx cI cap X1), (oa ry cI cap Y1), (oc6 lo (.ref lx) (.ref ly) (nI (wn + 1)) 0), (oa lx cI cl9 (upd LX wn (X k))), (oa ly cI cl9 (upd LY wn (Y k)))] t.heap ∧ va_D (va_A [(oc1 fe rk9 wd9 tw9 pa9 pb9 (.ref lo) (.ref lk) (.ref fm)), (oc4 lk kd9 st9 (.ref r) gb9 jt9 (nI wn)), (oc6 r (.ref rx) (.ref ry) (nI n) rg), (oa rx cI cap X), (oa ry cI cap Y), (oc6 lo (.ref lx) (.ref ly) (nI ln9) 0), (oa lx cI cl9 LX), (oa ly cI cl9 LY)] sz) [(oc1 fe rk9 wd9 tw9 pa9 pb9 (.ref lo) (.ref lk) (.ref fm)), (oc4 lk kd9 st9 (.ref r) gb9 jt9 (nI (wn + 1))), (oc6 r (.ref rx) (.ref ry) (nI (n - 1)) rg), (oa rx cI cap X1), (oa ry cI cap Y1), (oc6 lo (.ref lx) (.ref ly) (nI (wn + 1)) 0), (oa lx cI cl9 (upd LX wn (X k))), (oa ly cI cl9 (upd LY wn (Y k)))]) (va_A [(oc1 fe rk9 wd9 tw9 pa9 pb9 (.ref lo) (.ref lk) (.ref fm)), (oc4 lk kd9 st9 (.ref r) gb9 jt9 (nI wn)), (oc6 r (.ref rx) (.ref ry) (nI n) rg), (oa rx cI cap X), (oa ry cI cap Y), (oc6 lo (.ref lx) (.ref ly) (nI ln9) 0), (oa lx cI cl9 LX), (oa ly cI cl9 LY)] sz)) 0 0 (va_A [(oc1 fe rk9 wd9 tw9 pa9 pb9 (.ref lo) (.ref lk) (.ref fm)), (oc4 lk kd9 st9 (.ref r) gb9 jt9 (nI wn)), (oc6 r (.ref rx) (.ref ry) (nI n) rg), (oa rx cI cap X), (oa ry cI cap Y), (oc6 lo (.ref lx) (.ref ly) (nI ln9) 0), (oa lx cI cl9 LX), (oa ly cI cl9 LY)] sz) := by
  refine Met.ofW (cc := cX2_lose) (maxL := 2) (ret := none) (by decide) rfl ?_
  intro p e s m args below meth c s₁ B hml hv
  obtain ⟨rfl, hsz, hP, hK, hD0, hXN⟩ := hv
  have hx := B.exec
  have hb := B.bytes
  have hr := B.returns
  have hts0 := atoms_spec (ws := .code yX2_lose cX2_lose 2 none :: ws0) B.pre
  have hts : ∀ w9 ∈ ws0, w9.before ([.ref fe, .int (nI k)] : List Value).toArray s = true := fun w9 h => hts0 w9 (List.mem_cons_of_mem _ h)
  have hown : s.vm.findClass "ScaleShop$Feature" = some m.cls := findClass_of_methodNamed B.named
  have hlocks := B.notSynchronized
  subst hsz
  have hD := hD0.self (sz := s.heap.size)
  clear hD0
  generalize hAe : va_A [(oc1 fe rk9 wd9 tw9 pa9 pb9 (.ref lo) (.ref lk) (.ref fm)), (oc4 lk kd9 st9 (.ref r) gb9 jt9 (nI wn)), (oc6 r (.ref rx) (.ref ry) (nI n) rg), (oa rx cI cap X), (oa ry cI cap Y), (oc6 lo (.ref lx) (.ref ly) (nI ln9) 0), (oa lx cI cl9 LX), (oa ly cI cl9 LY)] s.heap.size = A at hD ⊢
  have hA : ∀ q : Nat, s.heap.size ≤ q → A q := fun q h => by rw [← hAe]; exact Or.inr h
  clear hAe
  have hS : va_S A s.heap s.heap [] := va_S.rf
  have hP : va_P (dC, dI) classes [(oc1 fe rk9 wd9 tw9 pa9 pb9 (.ref lo) (.ref lk) (.ref fm)), (oc4 lk kd9 st9 (.ref r) gb9 jt9 (nI wn)), (oc6 r (.ref rx) (.ref ry) (nI n) rg), (oa rx cI cap X), (oa ry cI cap Y), (oc6 lo (.ref lx) (.ref ly) (nI ln9) 0), (oa lx cI cl9 LX), (oa ly cI cl9 LY)] s.heap := hP
  obtain ⟨Q9, hQ9⟩ : ∃ Q9 : State → Prop, Q9 = MQ below (zQ none (fun t => ∃ (X1 : Nat → Int32), ∃ (Y1 : Nat → Int32), (∀ j, j < k → X1 j = X j ∧ Y1 j = Y j) ∧ (∀ j, k ≤ j → j < n - 1 → X1 j = X (j + 1) ∧ Y1 j = Y (j + 1)) ∧ va_P (dC, dI) classes [(oc1 fe rk9 wd9 tw9 pa9 pb9 (.ref lo) (.ref lk) (.ref fm)), (oc4 lk kd9 st9 (.ref r) gb9 jt9 (nI (wn + 1))), (oc6 r (.ref rx) (.ref ry) (nI (n - 1)) rg), (oa rx cI cap X1), (oa ry cI cap Y1), (oc6 lo (.ref lx) (.ref ly) (nI (wn + 1)) 0), (oa lx cI cl9 (upd LX wn (X k))), (oa ly cI cl9 (upd LY wn (Y k)))] t.heap ∧ va_D A [(oc1 fe rk9 wd9 tw9 pa9 pb9 (.ref lo) (.ref lk) (.ref fm)), (oc4 lk kd9 st9 (.ref r) gb9 jt9 (nI (wn + 1))), (oc6 r (.ref rx) (.ref ry) (nI (n - 1)) rg), (oa rx cI cap X1), (oa ry cI cap Y1), (oc6 lo (.ref lx) (.ref ly) (nI (wn + 1)) 0), (oa lx cI cl9 (upd LX wn (X k))), (oa ly cI cl9 (upd LY wn (Y k)))]) A) ([.ref fe, .int (nI k)] : List Value).toArray s 0 0 A := ⟨_, rfl⟩
  rw [← hQ9]
  have hl := lv_entry ([.ref fe, .int (nI k)]) (n := 2) (Nat.le_of_ble_eq_true rfl)
  rw [lg_entry_eq]
  generalize (lg_sl ([.ref fe, .int (nI k)]) ++ List.replicate (2 - (lg_sl ([.ref fe, .int (nI k)])).length) Slot.unset).toArray = ls at hl ⊢
  have hl : lv_has ls 2 [(0, .ref fe), (1, .int (nI k))] := hl
  refine lv_aload_n hx hb dX2_lose_0 rfl (lv_at hl 0 rfl) ?_
  refine va_get (D := (dC, dI)) (ci := 1) (v := .ref lk) (C := RX2) (T := TX2) (N := 8) hx hb hts inX2 hown hK hP 0 rfl rfl 6 (by decide) (hts _ mw_429) (fun _ h9 => h9) rfl dX2_lose_1 ?_
  refine va_get (D := (dC, dI)) (ci := 4) (v := .ref r) (C := RX5) (T := TX5) (N := 6) hx hb hts inX5 hown hK hP 1 rfl rfl 2 (by decide) (hts _ mw_392) (fun _ h9 => h9) rfl dX2_lose_4 ?_
  refine lv_ifnull hx hb dX2_lose_7 ?_
  refine lv_iload_n hx hb dX2_lose_10 rfl (lv_at hl 1 rfl) ?_
  refine lv_if_lt (tgt := 28) hx hb dX2_lose_11 (by decide) (fun c_1 => ?_) (fun c_1 => ?_)
  · have c_1 : ((k : Nat) : Int) < 0 := zc_lt (nI_toInt (by omega)) (by decide) c_1
    exfalso; omega
  · have c_1 : 0 ≤ ((k : Nat) : Int) := zc_nlt (nI_toInt (by omega)) (by decide) c_1
    refine lv_iload_n hx hb dX2_lose_14 rfl (lv_at hl 1 rfl) ?_
    refine lv_aload_n hx hb dX2_lose_15 rfl (lv_at hl 0 rfl) ?_
    refine va_get (D := (dC, dI)) (ci := 1) (v := .ref lk) (C := RX2) (T := TX2) (N := 8) hx hb hts inX2 hown hK hP 0 rfl rfl 6 (by decide) (hts _ mw_429) (fun _ h9 => h9) rfl dX2_lose_16 ?_
    refine va_get (D := (dC, dI)) (ci := 4) (v := .ref r) (C := RX5) (T := TX5) (N := 6) hx hb hts inX5 hown hK hP 1 rfl rfl 2 (by decide) (hts _ mw_392) (fun _ h9 => h9) rfl dX2_lose_19 ?_
    refine va_get (D := (dC, dI)) (ci := 6) (v := .int (nI n)) (C := RX7) (T := TX7) (N := 4) hx hb hts inX7 hown hK hP 2 rfl rfl 2 (by decide) (hts _ mw_178) (fun _ h9 => h9) rfl dX2_lose_22 ?_
    refine lv_icmp_lt (tgt := 29) hx hb dX2_lose_25 (by decide) (fun c_2 => ?_) (fun c_2 => ?_)
    · have c_2 : ((k : Nat) : Int) < ((n : Nat) : Int) := zc_lt (nI_toInt (by omega)) (nI_toInt (by omega)) c_2
      refine lv_aload_n hx hb dX2_lose_29 rfl (lv_at hl 0 rfl) ?_
      refine va_get (D := (dC, dI)) (ci := 1) (v := .ref fm) (C := RX2) (T := TX2) (N := 8) hx hb hts inX2 hown hK hP 0 rfl rfl 7 (by decide) (hts _ mw_436) (fun _ h9 => h9) rfl dX2_lose_30 ?_
      refine lv_ifnonnull (tgt := 47) hx hb dX2_lose_33 (by decide) ?_
      refine lv_aload_n hx hb dX2_lose_47 rfl (lv_at hl 0 rfl) ?_
      refine va_get (D := (dC, dI)) (ci := 1) (v := .ref lo) (C := RX2) (T := TX2) (N := 8) hx hb hts inX2 hown hK hP 0 rfl rfl 5 (by decide) (hts _ mw_426) (fun _ h9 => h9) rfl dX2_lose_48 ?_
      refine lv_aload_n hx hb dX2_lose_51 rfl (lv_at hl 0 rfl) ?_
      refine va_get (D := (dC, dI)) (ci := 1) (v := .ref lk) (C := RX2) (T := TX2) (N := 8) hx hb hts inX2 hown hK hP 0 rfl rfl 6 (by decide) (hts _ mw_429) (fun _ h9 => h9) rfl dX2_lose_52 ?_
      refine va_get (D := (dC, dI)) (ci := 4) (v := .int (nI wn)) (C := RX5) (T := TX5) (N := 6) hx hb hts inX5 hown hK hP 1 rfl rfl 5 (by decide) (hts _ mw_400) (fun _ h9 => h9) rfl dX2_lose_55 ?_
      refine va_put (D := (dC, dI)) (ci := 6) (v := .int (nI wn)) (ty := .int) (C := RX7) (T := TX7) (N := 4) hx hb hts inX7 tyX7 tyX7_ok nmX7 hown hK hP hD hS 5 rfl rfl 2 (by decide) (hts _ mw_178) (fun _ h9 => h9) rfl (by decide +kernel) rfl rfl (Nat.le_of_ble_eq_true rfl) dX2_lose_58 (fun H locs hP hD hS => ?_)
      have hP : va_P (dC, dI) classes [(oc1 fe rk9 wd9 tw9 pa9 pb9 (.ref lo) (.ref lk) (.ref fm)), (oc4 lk kd9 st9 (.ref r) gb9 jt9 (nI wn)), (oc6 r (.ref rx) (.ref ry) (nI n) rg), (oa rx cI cap X), (oa ry cI cap Y), (oc6 lo (.ref lx) (.ref ly) (nI wn) 0), (oa lx cI cl9 LX), (oa ly cI cl9 LY)] H := hP
      have hD : va_D A [(oc1 fe rk9 wd9 tw9 pa9 pb9 (.ref lo) (.ref lk) (.ref fm)), (oc4 lk kd9 st9 (.ref r) gb9 jt9 (nI wn)), (oc6 r (.ref rx) (.ref ry) (nI n) rg), (oa rx cI cap X), (oa ry cI cap Y), (oc6 lo (.ref lx) (.ref ly) (nI wn) 0), (oa lx cI cl9 LX), (oa ly cI cl9 LY)] := hD
      refine lv_aload_n hx hb dX2_lose_61 rfl (lv_at hl 0 rfl) ?_
      refine va_get (D := (dC, dI)) (ci := 1) (v := .ref lo) (C := RX2) (T := TX2) (N := 8) hx hb hts inX2 hown hK hP 0 rfl rfl 5 (by decide) (hts _ mw_426) (fun _ h9 => h9) rfl dX2_lose_62 ?_
      refine lv_aload_n hx hb dX2_lose_65 rfl (lv_at hl 0 rfl) ?_
      refine va_get (D := (dC, dI)) (ci := 1) (v := .ref lk) (C := RX2) (T := TX2) (N := 8) hx hb hts inX2 hown hK hP 0 rfl rfl 6 (by decide) (hts _ mw_429) (fun _ h9 => h9) rfl dX2_lose_66 ?_
      refine va_get (D := (dC, dI)) (ci := 4) (v := .ref r) (C := RX5) (T := TX5) (N := 6) hx hb hts inX5 hown hK hP 1 rfl rfl 2 (by decide) (hts _ mw_392) (fun _ h9 => h9) rfl dX2_lose_69 ?_
      refine va_get (D := (dC, dI)) (ci := 6) (v := .ref rx) (C := RX7) (T := TX7) (N := 4) hx hb hts inX7 hown hK hP 2 rfl rfl 0 (by decide) (hts _ mw_165) (fun _ h9 => h9) rfl dX2_lose_72 ?_
      refine lv_iload_n hx hb dX2_lose_75 rfl (lv_at hl 1 rfl) ?_
      refine z_iald hx hb hK hP 3 0 rfl rfl (e := k) rfl (by omega) (by omega) dX2_lose_76 ?_
      refine lv_aload_n hx hb dX2_lose_77 rfl (lv_at hl 0 rfl) ?_
      refine va_get (D := (dC, dI)) (ci := 1) (v := .ref lk) (C := RX2) (T := TX2) (N := 8) hx hb hts inX2 hown hK hP 0 rfl rfl 6 (by decide) (hts _ mw_429) (fun _ h9 => h9) rfl dX2_lose_78 ?_
      refine va_get (D := (dC, dI)) (ci := 4) (v := .ref r) (C := RX5) (T := TX5) (N := 6) hx hb hts inX5 hown hK hP 1 rfl rfl 2 (by decide) (hts _ mw_392) (fun _ h9 => h9) rfl dX2_lose_81 ?_
      refine va_get (D := (dC, dI)) (ci := 6) (v := .ref ry) (C := RX7) (T := TX7) (N := 4) hx hb hts inX7 hown hK hP 2 rfl rfl 1 (by decide) (hts _ mw_172) (fun _ h9 => h9) rfl dX2_lose_84 ?_
      refine lv_iload_n hx hb dX2_lose_87 rfl (lv_at hl 1 rfl) ?_
      refine z_iald hx hb hK hP 4 0 rfl rfl (e := k) rfl (by omega) (by omega) dX2_lose_88 ?_
      have hPc := hP.sub (ws' := [(oc6 lo (.ref lx) (.ref ly) (nI wn) 0), (oa lx cI cl9 LX), (oa ly cI cl9 LY)]) [5, 6, 7] rfl
      have hDc := hD.sub (ws' := [(oc6 lo (.ref lx) (.ref ly) (nI wn) 0), (oa lx cI cl9 LX), (oa ly cI cl9 LY)]) [5, 6, 7] (by decide) rfl
      have hFc := va_free (wc := [(oc6 lo (.ref lx) (.ref ly) (nI wn) 0), (oa lx cI cl9 LX), (oa ly cI cl9 LY)]) hD hS hA [5, 6, 7] rfl
      refine zcall (st1 := []) (va_runV (As := [.int (X k), .int (Y k)]) (rest := []) ⟨hx, hb, hml, hown, hts⟩ (k_Row_put l dC dI cI cZ cF H.size lo lx ly wn cl9 LX LY 0 (X k) (Y k) (by omega) (by omega)) (cwV 2 hts (zz_gV mw_751 mw_506 mw_507 mw_102 mc_yX7_put) rfl rfl rfl (by decide +kernel) ⟨Nat.le_of_ble_eq_true rfl, Nat.le_of_ble_eq_true rfl⟩) (zPV2 (q0 := 0) (ci := 6) hPc hDc hK hXN rfl rfl) rfl rfl hl.1 rfl (lv_room (Nat.le_of_ble_eq_true rfl)) dX2_lose_89 ⟨Nat.le_of_ble_eq_true rfl, Nat.le_of_ble_eq_true rfl⟩) hS hFc hFc rfl (fun t H1 locs ht hB hk1 hS => ?_)
      obtain ⟨hP1, hD1⟩ := hB
      rw [ht] at hP1
      obtain ⟨hP, hD⟩ := va_join (wr := [(oc1 fe rk9 wd9 tw9 pa9 pb9 (.ref lo) (.ref lk) (.ref fm)), (oc4 lk kd9 st9 (.ref r) gb9 jt9 (nI wn)), (oc6 r (.ref rx) (.ref ry) (nI n) rg), (oa rx cI cap X), (oa ry cI cap Y)]) (w1 := [(oc6 lo (.ref lx) (.ref ly) (nI (wn + 1)) 0), (oa lx cI cl9 (upd LX wn (X k))), (oa ly cI cl9 (upd LY wn (Y k)))]) hP hD [5, 6, 7] [0, 1, 2, 3, 4] rfl rfl (by decide) (by decide) hk1 hFc hP1 hD1
      clear hk1 hPc hDc hFc hP1 hD1 ht
      generalize H1 = H at hP hS ⊢
      have hP : va_P (dC, dI) classes [(oc1 fe rk9 wd9 tw9 pa9 pb9 (.ref lo) (.ref lk) (.ref fm)), (oc4 lk kd9 st9 (.ref r) gb9 jt9 (nI wn)), (oc6 r (.ref rx) (.ref ry) (nI n) rg), (oa rx cI cap X), (oa ry cI cap Y), (oc6 lo (.ref lx) (.ref ly) (nI (wn + 1)) 0), (oa lx cI cl9 (upd LX wn (X k))), (oa ly cI cl9 (upd LY wn (Y k)))] H := hP
      have hD : va_D A [(oc1 fe rk9 wd9 tw9 pa9 pb9 (.ref lo) (.ref lk) (.ref fm)), (oc4 lk kd9 st9 (.ref r) gb9 jt9 (nI wn)), (oc6 r (.ref rx) (.ref ry) (nI n) rg), (oa rx cI cap X), (oa ry cI cap Y), (oc6 lo (.ref lx) (.ref ly) (nI (wn + 1)) 0), (oa lx cI cl9 (upd LX wn (X k))), (oa ly cI cl9 (upd LY wn (Y k)))] := hD
      refine lv_aload_n hx hb dX2_lose_92 rfl (lv_at hl 0 rfl) ?_
      refine va_get (D := (dC, dI)) (ci := 1) (v := .ref lk) (C := RX2) (T := TX2) (N := 8) hx hb hts inX2 hown hK hP 0 rfl rfl 6 (by decide) (hts _ mw_429) (fun _ h9 => h9) rfl dX2_lose_93 ?_
      refine lv_aload_n hx hb dX2_lose_96 rfl (lv_at hl 0 rfl) ?_
      refine va_get (D := (dC, dI)) (ci := 1) (v := .ref lo) (C := RX2) (T := TX2) (N := 8) hx hb hts inX2 hown hK hP 0 rfl rfl 5 (by decide) (hts _ mw_426) (fun _ h9 => h9) rfl dX2_lose_97 ?_
      refine va_get (D := (dC, dI)) (ci := 6) (v := .int (nI (wn + 1))) (C := RX7) (T := TX7) (N := 4) hx hb hts inX7 hown hK hP 5 rfl rfl 2 (by decide) (hts _ mw_178) (fun _ h9 => h9) rfl dX2_lose_100 ?_
      refine va_put (D := (dC, dI)) (ci := 4) (v := .int (nI (wn + 1))) (ty := .int) (C := RX5) (T := TX5) (N := 6) hx hb hts inX5 tyX5 tyX5_ok nmX5 hown hK hP hD hS 1 rfl rfl 5 (by decide) (hts _ mw_400) (fun _ h9 => h9) rfl (by decide +kernel) rfl rfl (Nat.le_of_ble_eq_true rfl) dX2_lose_103 (fun H locs hP hD hS => ?_)
      have hP : va_P (dC, dI) classes [(oc1 fe rk9 wd9 tw9 pa9 pb9 (.ref lo) (.ref lk) (.ref fm)), (oc4 lk kd9 st9 (.ref r) gb9 jt9 (nI (wn + 1))), (oc6 r (.ref rx) (.ref ry) (nI n) rg), (oa rx cI cap X), (oa ry cI cap Y), (oc6 lo (.ref lx) (.ref ly) (nI (wn + 1)) 0), (oa lx cI cl9 (upd LX wn (X k))), (oa ly cI cl9 (upd LY wn (Y k)))] H := hP
      have hD : va_D A [(oc1 fe rk9 wd9 tw9 pa9 pb9 (.ref lo) (.ref lk) (.ref fm)), (oc4 lk kd9 st9 (.ref r) gb9 jt9 (nI (wn + 1))), (oc6 r (.ref rx) (.ref ry) (nI n) rg), (oa rx cI cap X), (oa ry cI cap Y), (oc6 lo (.ref lx) (.ref ly) (nI (wn + 1)) 0), (oa lx cI cl9 (upd LX wn (X k))), (oa ly cI cl9 (upd LY wn (Y k)))] := hD
      refine lv_aload_n hx hb dX2_lose_106 rfl (lv_at hl 0 rfl) ?_
      refine va_get (D := (dC, dI)) (ci := 1) (v := .ref lk) (C := RX2) (T := TX2) (N := 8) hx hb hts inX2 hown hK hP 0 rfl rfl 6 (by decide) (hts _ mw_429) (fun _ h9 => h9) rfl dX2_lose_107 ?_
      refine va_get (D := (dC, dI)) (ci := 4) (v := .ref r) (C := RX5) (T := TX5) (N := 6) hx hb hts inX5 hown hK hP 1 rfl rfl 2 (by decide) (hts _ mw_392) (fun _ h9 => h9) rfl dX2_lose_110 ?_
      refine lv_iload_n hx hb dX2_lose_113 rfl (lv_at hl 1 rfl) ?_
      have hPc := hP.sub (ws' := [(oc6 r (.ref rx) (.ref ry) (nI n) rg), (oa rx cI cap X), (oa ry cI cap Y)]) [2, 3, 4] rfl
      have hDc := hD.sub (ws' := [(oc6 r (.ref rx) (.ref ry) (nI n) rg), (oa rx cI cap X), (oa ry cI cap Y)]) [2, 3, 4] (by decide) rfl
      have hFc := va_free (wc := [(oc6 r (.ref rx) (.ref ry) (nI n) rg), (oa rx cI cap X), (oa ry cI cap Y)]) hD hS hA [2, 3, 4] rfl
      refine zcall (st1 := []) (va_runV (As := [.int (nI k)]) (rest := []) ⟨hx, hb, hml, hown, hts⟩ (k_Row_cut l dC dI cI cZ cF H.size r rx ry n cap X Y rg k (by omega) (by omega) (by omega)) (cwV 1 hts (zz_gV mw_752 mw_605 mw_606 mw_102 mc_yX7_cut) rfl rfl rfl (by decide +kernel) ⟨Nat.le_of_ble_eq_true rfl, Nat.le_of_ble_eq_true rfl⟩) (zPV2 (q0 := 0) (ci := 6) hPc hDc hK hXN rfl rfl) rfl rfl hl.1 rfl (lv_room (Nat.le_of_ble_eq_true rfl)) dX2_lose_114 ⟨Nat.le_of_ble_eq_true rfl, Nat.le_of_ble_eq_true rfl⟩) hS hFc hFc rfl (fun t H1 locs ht hB hk1 hS => ?_)
      obtain ⟨X1, Y1, hlo9, hhi9, hP1, hD1⟩ := hB
      rw [ht] at hP1
      obtain ⟨hP, hD⟩ := va_join (wr := [(oc1 fe rk9 wd9 tw9 pa9 pb9 (.ref lo) (.ref lk) (.ref fm)), (oc4 lk kd9 st9 (.ref r) gb9 jt9 (nI (wn + 1))), (oc6 lo (.ref lx) (.ref ly) (nI (wn + 1)) 0), (oa lx cI cl9 (upd LX wn (X k))), (oa ly cI cl9 (upd LY wn (Y k)))]) (w1 := [(oc6 r (.ref rx) (.ref ry) (nI (n - 1)) rg), (oa rx cI cap X1), (oa ry cI cap Y1)]) hP hD [2, 3, 4] [0, 1, 5, 6, 7] rfl rfl (by decide) (by decide) hk1 hFc hP1 hD1
      clear hk1 hPc hDc hFc hP1 hD1 ht
      generalize H1 = H at hP hS ⊢
      have hP := hP.sub (ws' := [(oc1 fe rk9 wd9 tw9 pa9 pb9 (.ref lo) (.ref lk) (.ref fm)), (oc4 lk kd9 st9 (.ref r) gb9 jt9 (nI (wn + 1))), (oc6 r (.ref rx) (.ref ry) (nI (n - 1)) rg), (oa rx cI cap X1), (oa ry cI cap Y1), (oc6 lo (.ref lx) (.ref ly) (nI (wn + 1)) 0), (oa lx cI cl9 (upd LX wn (X k))), (oa ly cI cl9 (upd LY wn (Y k)))]) [0, 1, 5, 6, 7, 2, 3, 4] rfl
      have hD := hD.sub (ws' := [(oc1 fe rk9 wd9 tw9 pa9 pb9 (.ref lo) (.ref lk) (.ref fm)), (oc4 lk kd9 st9 (.ref r) gb9 jt9 (nI (wn + 1))), (oc6 r (.ref rx) (.ref ry) (nI (n - 1)) rg), (oa rx cI cap X1), (oa ry cI cap Y1), (oc6 lo (.ref lx) (.ref ly) (nI (wn + 1)) 0), (oa lx cI cl9 (upd LX wn (X k))), (oa ly cI cl9 (upd LY wn (Y k)))]) [0, 1, 5, 6, 7, 2, 3, 4] (by decide) rfl
      have hP : va_P (dC, dI) classes [(oc1 fe rk9 wd9 tw9 pa9 pb9 (.ref lo) (.ref lk) (.ref fm)), (oc4 lk kd9 st9 (.ref r) gb9 jt9 (nI (wn + 1))), (oc6 r (.ref rx) (.ref ry) (nI (n - 1)) rg), (oa rx cI cap X1), (oa ry cI cap Y1), (oc6 lo (.ref lx) (.ref ly) (nI (wn + 1)) 0), (oa lx cI cl9 (upd LX wn (X k))), (oa ly cI cl9 (upd LY wn (Y k)))] H := hP
      have hD : va_D A [(oc1 fe rk9 wd9 tw9 pa9 pb9 (.ref lo) (.ref lk) (.ref fm)), (oc4 lk kd9 st9 (.ref r) gb9 jt9 (nI (wn + 1))), (oc6 r (.ref rx) (.ref ry) (nI (n - 1)) rg), (oa rx cI cap X1), (oa ry cI cap Y1), (oc6 lo (.ref lx) (.ref ly) (nI (wn + 1)) 0), (oa lx cI cl9 (upd LX wn (X k))), (oa ly cI cl9 (upd LY wn (Y k)))] := hD
      have hP9 := hP.sub (ws' := [(oc1 fe rk9 wd9 tw9 pa9 pb9 (.ref lo) (.ref lk) (.ref fm)), (oc4 lk kd9 st9 (.ref r) gb9 jt9 (nI (wn + 1))), (oc6 r (.ref rx) (.ref ry) (nI (n - 1)) rg), (oa rx cI cap X1), (oa ry cI cap Y1), (oc6 lo (.ref lx) (.ref ly) (nI (wn + 1)) 0), (oa lx cI cl9 (upd LX wn (X k))), (oa ly cI cl9 (upd LY wn (Y k)))]) [0, 1, 2, 3, 4, 5, 6, 7] rfl
      have hD9 := hD.sub (ws' := [(oc1 fe rk9 wd9 tw9 pa9 pb9 (.ref lo) (.ref lk) (.ref fm)), (oc4 lk kd9 st9 (.ref r) gb9 jt9 (nI (wn + 1))), (oc6 r (.ref rx) (.ref ry) (nI (n - 1)) rg), (oa rx cI cap X1), (oa ry cI cap Y1), (oc6 lo (.ref lx) (.ref ly) (nI (wn + 1)) 0), (oa lx cI cl9 (upd LX wn (X k))), (oa ly cI cl9 (upd LY wn (Y k)))]) [0, 1, 2, 3, 4, 5, 6, 7] (by decide) rfl
      rw [hQ9]
      exact W.vret hx hb hr (fun t ht hW => ⟨⟨rfl, X1, Y1, (hlo9), (hhi9), by rw [ht]; exact hP9, hD9⟩, hS.F ht⟩) hS.2.2 dX2_lose_117
    · have c_2 : ((n : Nat) : Int) ≤ ((k : Nat) : Int) := zc_nlt (nI_toInt (by omega)) (nI_toInt (by omega)) c_2
      exfalso; omega
set_option maxHeartbeats 4000000 in
set_option maxRecDepth 100000 in
theorem k_Feature_lose (l : Launch) (dC : Nat → ClassId) (dI : Nat → Nat → Nat) (cI cZ cF : ClassId) (sz : Nat) (fe : Nat) (lo : Nat) (rk9 : Int32) (wd9 : Int32) (tw9 : Int32) (pa9 : Int32) (pb9 : Int32) (lk : Nat) (kd9 : Int32) (st9 : Int32) (gb9 : Int32) (jt9 : Int32) (k : Nat) (wn : Nat) (r : Nat) (rx : Nat) (ry : Nat) (n : Nat) (cap : Nat) (X : Nat → Int32) (Y : Nat → Int32) (rg : Int32) (lx : Nat) (ly : Nat) (ln9 : Nat) (cl9 : Nat) (LX : Nat → Int32) (LY : Nat → Int32) (hkn : k < n) (hn : n ≤ cap) (hcap : cap ≤ 1000) (hwn : wn < cl9) (hcl : cl9 ≤ 1000) (hrg : rg = 0 ∨ rg = 1) : Met l yX2_lose (.code yX2_lose cX2_lose 2 none :: ws0) ({ frames := 5, cells := 4, slots := 2 * n + 10, locals := 95 } : Room) (va_Pc [.ref fe, .int (nI k)] (zPre (dC, dI) classes (zTy cI cZ cF) [(oc1 fe rk9 wd9 tw9 pa9 pb9 (.ref lo) (.ref lk) .null), (oc4 lk kd9 st9 (.ref r) gb9 jt9 (nI wn)), (oc6 r (.ref rx) (.ref ry) (nI n) rg), (oa rx cI cap X), (oa ry cI cap Y), (oc6 lo (.ref lx) (.ref ly) (nI ln9) 0), (oa lx cI cl9 LX), (oa ly cI cl9 LY)] sz zXN)) (zQ none (fun t => ∃ (q : Nat), ∃ (w : Nat), ∃ (wx : Nat), ∃ (wy : Nat), ∃ (X2 : Nat → Int32), ∃ (Y2 : Nat → Int32), (∀ j, j < k → X2 j = X j ∧ Y2 j = Y j) ∧ (∀ j, k ≤ j → j < n - 1 → X2 j = X (j + 1) ∧ Y2 j = Y (j + 1)) ∧ va_P (dC, dI) classes [(oc1 fe rk9 wd9 tw9 pa9 pb9 (.ref lo) (.ref q) (.ref lk)), (oc4 lk kd9 st9 (.ref r) gb9 jt9 (nI wn)), (oc4 q kd9 st9 (.ref w) gb9 jt9 (nI (wn + 1))), (oc6 r (.ref rx) (.ref ry) (nI n) rg), (oa rx cI cap X), (oa ry cI cap Y), (oc6 w (.ref wx) (.ref wy) (nI (n - 1)) rg), (oa wx cI n X2), (oa wy cI n Y2), (oc6 lo (.ref lx) (.ref ly) (nI (wn + 1)) 0), (oa lx cI cl9 (upd LX wn (X k))), (oa ly cI cl9 (upd LY wn (Y k)))] t.heap ∧ va_D (va_A [(oc1 fe rk9 wd9 tw9 pa9 pb9 (.ref lo) (.ref lk) .null), (oc4 lk kd9 st9 (.ref r) gb9 jt9 (nI wn)), (oc6 r (.ref rx) (.ref ry) (nI n) rg), (oa rx cI cap X), (oa ry cI cap Y), (oc6 lo (.ref lx) (.ref ly) (nI ln9) 0), (oa lx cI cl9 LX), (oa ly cI cl9 LY)] sz) [(oc1 fe rk9 wd9 tw9 pa9 pb9 (.ref lo) (.ref q) (.ref lk)), (oc4 lk kd9 st9 (.ref r) gb9 jt9 (nI wn)), (oc4 q kd9 st9 (.ref w) gb9 jt9 (nI (wn + 1))), (oc6 r (.ref rx) (.ref ry) (nI n) rg), (oa rx cI cap X), (oa ry cI cap Y), (oc6 w (.ref wx) (.ref wy) (nI (n - 1)) rg), (oa wx cI n X2), (oa wy cI n Y2), (oc6 lo (.ref lx) (.ref ly) (nI (wn + 1)) 0), (oa lx cI cl9 (upd LX wn (X k))), (oa ly cI cl9 (upd LY wn (Y k)))]) (va_A [(oc1 fe rk9 wd9 tw9 pa9 pb9 (.ref lo) (.ref lk) .null), (oc4 lk kd9 st9 (.ref r) gb9 jt9 (nI wn)), (oc6 r (.ref rx) (.ref ry) (nI n) rg), (oa rx cI cap X), (oa ry cI cap Y), (oc6 lo (.ref lx) (.ref ly) (nI ln9) 0), (oa lx cI cl9 LX), (oa ly cI cl9 LY)] sz)) 4 (2 * n + 10) (va_A [(oc1 fe rk9 wd9 tw9 pa9 pb9 (.ref lo) (.ref lk) .null), (oc4 lk kd9 st9 (.ref r) gb9 jt9 (nI wn)), (oc6 r (.ref rx) (.ref ry) (nI n) rg), (oa rx cI cap X), (oa ry cI cap Y), (oc6 lo (.ref lx) (.ref ly) (nI ln9) 0), (oa lx cI cl9 LX), (oa ly cI cl9 LY)] sz) := by
  refine Met.ofW (cc := cX2_lose) (maxL := 2) (ret := none) (by decide) rfl ?_
  intro p e s m args below meth c s₁ B hml hv
  obtain ⟨rfl, hsz, hP, hK, hD0, hXN⟩ := hv
  have hx := B.exec
  have hb := B.bytes
  have hr := B.returns
  have hts0 := atoms_spec (ws := .code yX2_lose cX2_lose 2 none :: ws0) B.pre
  have hts : ∀ w9 ∈ ws0, w9.before ([.ref fe, .int (nI k)] : List Value).toArray s = true := fun w9 h => hts0 w9 (List.mem_cons_of_mem _ h)
  have hown : s.vm.findClass "ScaleShop$Feature" = some m.cls := findClass_of_methodNamed B.named
  have hlocks := B.notSynchronized
  subst hsz
  have hD := hD0.self (sz := s.heap.size)
  clear hD0
  generalize hAe : va_A [(oc1 fe rk9 wd9 tw9 pa9 pb9 (.ref lo) (.ref lk) .null), (oc4 lk kd9 st9 (.ref r) gb9 jt9 (nI wn)), (oc6 r (.ref rx) (.ref ry) (nI n) rg), (oa rx cI cap X), (oa ry cI cap Y), (oc6 lo (.ref lx) (.ref ly) (nI ln9) 0), (oa lx cI cl9 LX), (oa ly cI cl9 LY)] s.heap.size = A at hD ⊢
  have hA : ∀ q : Nat, s.heap.size ≤ q → A q := fun q h => by rw [← hAe]; exact Or.inr h
  clear hAe
  have hS : va_S A s.heap s.heap [] := va_S.rf
  have hP : va_P (dC, dI) classes [(oc1 fe rk9 wd9 tw9 pa9 pb9 (.ref lo) (.ref lk) .null), (oc4 lk kd9 st9 (.ref r) gb9 jt9 (nI wn)), (oc6 r (.ref rx) (.ref ry) (nI n) rg), (oa rx cI cap X), (oa ry cI cap Y), (oc6 lo (.ref lx) (.ref ly) (nI ln9) 0), (oa lx cI cl9 LX), (oa ly cI cl9 LY)] s.heap := hP
  obtain ⟨Q9, hQ9⟩ : ∃ Q9 : State → Prop, Q9 = MQ below (zQ none (fun t => ∃ (q : Nat), ∃ (w : Nat), ∃ (wx : Nat), ∃ (wy : Nat), ∃ (X2 : Nat → Int32), ∃ (Y2 : Nat → Int32), (∀ j, j < k → X2 j = X j ∧ Y2 j = Y j) ∧ (∀ j, k ≤ j → j < n - 1 → X2 j = X (j + 1) ∧ Y2 j = Y (j + 1)) ∧ va_P (dC, dI) classes [(oc1 fe rk9 wd9 tw9 pa9 pb9 (.ref lo) (.ref q) (.ref lk)), (oc4 lk kd9 st9 (.ref r) gb9 jt9 (nI wn)), (oc4 q kd9 st9 (.ref w) gb9 jt9 (nI (wn + 1))), (oc6 r (.ref rx) (.ref ry) (nI n) rg), (oa rx cI cap X), (oa ry cI cap Y), (oc6 w (.ref wx) (.ref wy) (nI (n - 1)) rg), (oa wx cI n X2), (oa wy cI n Y2), (oc6 lo (.ref lx) (.ref ly) (nI (wn + 1)) 0), (oa lx cI cl9 (upd LX wn (X k))), (oa ly cI cl9 (upd LY wn (Y k)))] t.heap ∧ va_D A [(oc1 fe rk9 wd9 tw9 pa9 pb9 (.ref lo) (.ref q) (.ref lk)), (oc4 lk kd9 st9 (.ref r) gb9 jt9 (nI wn)), (oc4 q kd9 st9 (.ref w) gb9 jt9 (nI (wn + 1))), (oc6 r (.ref rx) (.ref ry) (nI n) rg), (oa rx cI cap X), (oa ry cI cap Y), (oc6 w (.ref wx) (.ref wy) (nI (n - 1)) rg), (oa wx cI n X2), (oa wy cI n Y2), (oc6 lo (.ref lx) (.ref ly) (nI (wn + 1)) 0), (oa lx cI cl9 (upd LX wn (X k))), (oa ly cI cl9 (upd LY wn (Y k)))]) A) ([.ref fe, .int (nI k)] : List Value).toArray s 4 (2 * n + 10) A := ⟨_, rfl⟩
  rw [← hQ9]
  have hl := lv_entry ([.ref fe, .int (nI k)]) (n := 2) (Nat.le_of_ble_eq_true rfl)
  rw [lg_entry_eq]
  generalize (lg_sl ([.ref fe, .int (nI k)]) ++ List.replicate (2 - (lg_sl ([.ref fe, .int (nI k)])).length) Slot.unset).toArray = ls at hl ⊢
  have hl : lv_has ls 2 [(0, .ref fe), (1, .int (nI k))] := hl
  refine lv_aload_n hx hb dX2_lose_0 rfl (lv_at hl 0 rfl) ?_
  refine va_get (D := (dC, dI)) (ci := 1) (v := .ref lk) (C := RX2) (T := TX2) (N := 8) hx hb hts inX2 hown hK hP 0 rfl rfl 6 (by decide) (hts _ mw_429) (fun _ h9 => h9) rfl dX2_lose_1 ?_
  refine va_get (D := (dC, dI)) (ci := 4) (v := .ref r) (C := RX5) (T := TX5) (N := 6) hx hb hts inX5 hown hK hP 1 rfl rfl 2 (by decide) (hts _ mw_392) (fun _ h9 => h9) rfl dX2_lose_4 ?_
  refine lv_ifnull hx hb dX2_lose_7 ?_
  refine lv_iload_n hx hb dX2_lose_10 rfl (lv_at hl 1 rfl) ?_
  refine lv_if_lt (tgt := 28) hx hb dX2_lose_11 (by decide) (fun c_1 => ?_) (fun c_1 => ?_)
  · have c_1 : ((k : Nat) : Int) < 0 := zc_lt (nI_toInt (by omega)) (by decide) c_1
    exfalso; omega
  · have c_1 : 0 ≤ ((k : Nat) : Int) := zc_nlt (nI_toInt (by omega)) (by decide) c_1
    refine lv_iload_n hx hb dX2_lose_14 rfl (lv_at hl 1 rfl) ?_
    refine lv_aload_n hx hb dX2_lose_15 rfl (lv_at hl 0 rfl) ?_
    refine va_get (D := (dC, dI)) (ci := 1) (v := .ref lk) (C := RX2) (T := TX2) (N := 8) hx hb hts inX2 hown hK hP 0 rfl rfl 6 (by decide) (hts _ mw_429) (fun _ h9 => h9) rfl dX2_lose_16 ?_
    refine va_get (D := (dC, dI)) (ci := 4) (v := .ref r) (C := RX5) (T := TX5) (N := 6) hx hb hts inX5 hown hK hP 1 rfl rfl 2 (by decide) (hts _ mw_392) (fun _ h9 => h9) rfl dX2_lose_19 ?_
    refine va_get (D := (dC, dI)) (ci := 6) (v := .int (nI n)) (C := RX7) (T := TX7) (N := 4) hx hb hts inX7 hown hK hP 2 rfl rfl 2 (by decide) (hts _ mw_178) (fun _ h9 => h9) rfl dX2_lose_22 ?_
    refine lv_icmp_lt (tgt := 29) hx hb dX2_lose_25 (by decide) (fun c_2 => ?_) (fun c_2 => ?_)
    · have c_2 : ((k : Nat) : Int) < ((n : Nat) : Int) := zc_lt (nI_toInt (by omega)) (nI_toInt (by omega)) c_2
      refine lv_aload_n hx hb dX2_lose_29 rfl (lv_at hl 0 rfl) ?_
      refine va_get (D := (dC, dI)) (ci := 1) (v := .null) (C := RX2) (T := TX2) (N := 8) hx hb hts inX2 hown hK hP 0 rfl rfl 7 (by decide) (hts _ mw_436) (fun _ h9 => h9) rfl dX2_lose_30 ?_
      refine lv_ifnonnullN hx hb dX2_lose_33 ?_
      refine lv_aload_n hx hb dX2_lose_36 rfl (lv_at hl 0 rfl) ?_
      refine lv_aload_n hx hb dX2_lose_37 rfl (lv_at hl 0 rfl) ?_
      refine va_get (D := (dC, dI)) (ci := 1) (v := .ref lk) (C := RX2) (T := TX2) (N := 8) hx hb hts inX2 hown hK hP 0 rfl rfl 6 (by decide) (hts _ mw_429) (fun _ h9 => h9) rfl dX2_lose_38 ?_
      refine va_get (D := (dC, dI)) (ci := 4) (v := .ref r) (C := RX5) (T := TX5) (N := 6) hx hb hts inX5 hown hK hP 1 rfl rfl 2 (by decide) (hts _ mw_392) (fun _ h9 => h9) rfl dX2_lose_41 ?_
      have hPc := hP.sub (ws' := [(oc1 fe rk9 wd9 tw9 pa9 pb9 (.ref lo) (.ref lk) .null), (oc4 lk kd9 st9 (.ref r) gb9 jt9 (nI wn)), (oc6 r (.ref rx) (.ref ry) (nI n) rg), (oa rx cI cap X), (oa ry cI cap Y)]) [0, 1, 2, 3, 4] rfl
      have hDc := hD.sub (ws' := [(oc1 fe rk9 wd9 tw9 pa9 pb9 (.ref lo) (.ref lk) .null), (oc4 lk kd9 st9 (.ref r) gb9 jt9 (nI wn)), (oc6 r (.ref rx) (.ref ry) (nI n) rg), (oa rx cI cap X), (oa ry cI cap Y)]) [0, 1, 2, 3, 4] (by decide) rfl
      have hFc := va_free (wc := [(oc1 fe rk9 wd9 tw9 pa9 pb9 (.ref lo) (.ref lk) .null), (oc4 lk kd9 st9 (.ref r) gb9 jt9 (nI wn)), (oc6 r (.ref rx) (.ref ry) (nI n) rg), (oa rx cI cap X), (oa ry cI cap Y)]) hD hS hA [0, 1, 2, 3, 4] rfl
      refine zcall (st1 := []) (va_runV (As := [.ref r]) (rest := []) ⟨hx, hb, hml, hown, hts⟩ (k_Feature_reshape_o l dC dI cI cZ cF s.heap.size fe lo rk9 wd9 tw9 pa9 pb9 lk kd9 st9 gb9 jt9 (nI wn) r rx ry n cap X Y rg (by omega) (by omega) (by assumption)) (cwV 1 hts (zz_gV mw_730 mw_731 mw_732 mw_111 mc_yX2_reshape) rfl rfl rfl (by decide +kernel) ⟨Nat.le_of_ble_eq_true rfl, Nat.le_of_ble_eq_true rfl⟩) (zPV2 (q0 := 0) (ci := 1) hPc hDc hK hXN rfl rfl) rfl rfl hl.1 rfl (lv_room (Nat.le_of_ble_eq_true rfl)) dX2_lose_44 ⟨show (0 + 4) ≤ 4 by omega, show (0 + (2 * n + 10)) ≤ 2 * n + 10 by omega⟩) hS hFc hFc rfl (fun t H1 locs ht hB hk1 hS => ?_)
      obtain ⟨q, w, wx, wy, X1, Y1, hall, hP1, hD1⟩ := hB
      rw [ht] at hP1
      obtain ⟨hP, hD⟩ := va_join (wr := [(oc6 lo (.ref lx) (.ref ly) (nI ln9) 0), (oa lx cI cl9 LX), (oa ly cI cl9 LY)]) (w1 := [(oc1 fe rk9 wd9 tw9 pa9 pb9 (.ref lo) (.ref q) (.ref lk)), (oc4 lk kd9 st9 (.ref r) gb9 jt9 (nI wn)), (oc4 q kd9 st9 (.ref w) gb9 jt9 (nI wn)), (oc6 r (.ref rx) (.ref ry) (nI n) rg), (oa rx cI cap X), (oa ry cI cap Y), (oc6 w (.ref wx) (.ref wy) (nI n) rg), (oa wx cI n X1), (oa wy cI n Y1)]) hP hD [0, 1, 2, 3, 4] [5, 6, 7] rfl rfl (by decide) (by decide) hk1 hFc hP1 hD1
      clear hk1 hPc hDc hFc hP1 hD1 ht
      generalize H1 = H at hP hS ⊢
      have hP : va_P (dC, dI) classes [(oc6 lo (.ref lx) (.ref ly) (nI ln9) 0), (oa lx cI cl9 LX), (oa ly cI cl9 LY), (oc1 fe rk9 wd9 tw9 pa9 pb9 (.ref lo) (.ref q) (.ref lk)), (oc4 lk kd9 st9 (.ref r) gb9 jt9 (nI wn)), (oc4 q kd9 st9 (.ref w) gb9 jt9 (nI wn)), (oc6 r (.ref rx) (.ref ry) (nI n) rg), (oa rx cI cap X), (oa ry cI cap Y), (oc6 w (.ref wx) (.ref wy) (nI n) rg), (oa wx cI n X1), (oa wy cI n Y1)] H := hP
      have hD : va_D A [(oc6 lo (.ref lx) (.ref ly) (nI ln9) 0), (oa lx cI cl9 LX), (oa ly cI cl9 LY), (oc1 fe rk9 wd9 tw9 pa9 pb9 (.ref lo) (.ref q) (.ref lk)), (oc4 lk kd9 st9 (.ref r) gb9 jt9 (nI wn)), (oc4 q kd9 st9 (.ref w) gb9 jt9 (nI wn)), (oc6 r (.ref rx) (.ref ry) (nI n) rg), (oa rx cI cap X), (oa ry cI cap Y), (oc6 w (.ref wx) (.ref wy) (nI n) rg), (oa wx cI n X1), (oa wy cI n Y1)] := hD
      refine lv_aload_n hx hb dX2_lose_47 rfl (lv_at hl 0 rfl) ?_
      refine va_get (D := (dC, dI)) (ci := 1) (v := .ref lo) (C := RX2) (T := TX2) (N := 8) hx hb hts inX2 hown hK hP 3 rfl rfl 5 (by decide) (hts _ mw_426) (fun _ h9 => h9) rfl dX2_lose_48 ?_
      refine lv_aload_n hx hb dX2_lose_51 rfl (lv_at hl 0 rfl) ?_
      refine va_get (D := (dC, dI)) (ci := 1) (v := .ref q) (C := RX2) (T := TX2) (N := 8) hx hb hts inX2 hown hK hP 3 rfl rfl 6 (by decide) (hts _ mw_429) (fun _ h9 => h9) rfl dX2_lose_52 ?_
      refine va_get (D := (dC, dI)) (ci := 4) (v := .int (nI wn)) (C := RX5) (T := TX5) (N := 6) hx hb hts inX5 hown hK hP 5 rfl rfl 5 (by decide) (hts _ mw_400) (fun _ h9 => h9) rfl dX2_lose_55 ?_
      refine va_put (D := (dC, dI)) (ci := 6) (v := .int (nI wn)) (ty := .int) (C := RX7) (T := TX7) (N := 4) hx hb hts inX7 tyX7 tyX7_ok nmX7 hown hK hP hD hS 0 rfl rfl 2 (by decide) (hts _ mw_178) (fun _ h9 => h9) rfl (by decide +kernel) rfl rfl (Nat.le_of_ble_eq_true rfl) dX2_lose_58 (fun H locs hP hD hS => ?_)
      have hP : va_P (dC, dI) classes [(oc6 lo (.ref lx) (.ref ly) (nI wn) 0), (oa lx cI cl9 LX), (oa ly cI cl9 LY), (oc1 fe rk9 wd9 tw9 pa9 pb9 (.ref lo) (.ref q) (.ref lk)), (oc4 lk kd9 st9 (.ref r) gb9 jt9 (nI wn)), (oc4 q kd9 st9 (.ref w) gb9 jt9 (nI wn)), (oc6 r (.ref rx) (.ref ry) (nI n) rg), (oa rx cI cap X), (oa ry cI cap Y), (oc6 w (.ref wx) (.ref wy) (nI n) rg), (oa wx cI n X1), (oa wy cI n Y1)] H := hP
      have hD : va_D A [(oc6 lo (.ref lx) (.ref ly) (nI wn) 0), (oa lx cI cl9 LX), (oa ly cI cl9 LY), (oc1 fe rk9 wd9 tw9 pa9 pb9 (.ref lo) (.ref q) (.ref lk)), (oc4 lk kd9 st9 (.ref r) gb9 jt9 (nI wn)), (oc4 q kd9 st9 (.ref w) gb9 jt9 (nI wn)), (oc6 r (.ref rx) (.ref ry) (nI n) rg), (oa rx cI cap X), (oa ry cI cap Y), (oc6 w (.ref wx) (.ref wy) (nI n) rg), (oa wx cI n X1), (oa wy cI n Y1)] := hD
      refine lv_aload_n hx hb dX2_lose_61 rfl (lv_at hl 0 rfl) ?_
      refine va_get (D := (dC, dI)) (ci := 1) (v := .ref lo) (C := RX2) (T := TX2) (N := 8) hx hb hts inX2 hown hK hP 3 rfl rfl 5 (by decide) (hts _ mw_426) (fun _ h9 => h9) rfl dX2_lose_62 ?_
      refine lv_aload_n hx hb dX2_lose_65 rfl (lv_at hl 0 rfl) ?_
      refine va_get (D := (dC, dI)) (ci := 1) (v := .ref q) (C := RX2) (T := TX2) (N := 8) hx hb hts inX2 hown hK hP 3 rfl rfl 6 (by decide) (hts _ mw_429) (fun _ h9 => h9) rfl dX2_lose_66 ?_
      refine va_get (D := (dC, dI)) (ci := 4) (v := .ref w) (C := RX5) (T := TX5) (N := 6) hx hb hts inX5 hown hK hP 5 rfl rfl 2 (by decide) (hts _ mw_392) (fun _ h9 => h9) rfl dX2_lose_69 ?_
      refine va_get (D := (dC, dI)) (ci := 6) (v := .ref wx) (C := RX7) (T := TX7) (N := 4) hx hb hts inX7 hown hK hP 9 rfl rfl 0 (by decide) (hts _ mw_165) (fun _ h9 => h9) rfl dX2_lose_72 ?_
      refine lv_iload_n hx hb dX2_lose_75 rfl (lv_at hl 1 rfl) ?_
      refine z_iald hx hb hK hP 10 0 rfl rfl (e := k) rfl (by omega) (by omega) dX2_lose_76 ?_
      refine zz_i (v := X k) ((hall k (by omega)).1) ?_
      refine lv_aload_n hx hb dX2_lose_77 rfl (lv_at hl 0 rfl) ?_
      refine va_get (D := (dC, dI)) (ci := 1) (v := .ref q) (C := RX2) (T := TX2) (N := 8) hx hb hts inX2 hown hK hP 3 rfl rfl 6 (by decide) (hts _ mw_429) (fun _ h9 => h9) rfl dX2_lose_78 ?_
      refine va_get (D := (dC, dI)) (ci := 4) (v := .ref w) (C := RX5) (T := TX5) (N := 6) hx hb hts inX5 hown hK hP 5 rfl rfl 2 (by decide) (hts _ mw_392) (fun _ h9 => h9) rfl dX2_lose_81 ?_
      refine va_get (D := (dC, dI)) (ci := 6) (v := .ref wy) (C := RX7) (T := TX7) (N := 4) hx hb hts inX7 hown hK hP 9 rfl rfl 1 (by decide) (hts _ mw_172) (fun _ h9 => h9) rfl dX2_lose_84 ?_
      refine lv_iload_n hx hb dX2_lose_87 rfl (lv_at hl 1 rfl) ?_
      refine z_iald hx hb hK hP 11 0 rfl rfl (e := k) rfl (by omega) (by omega) dX2_lose_88 ?_
      refine zz_i (v := Y k) ((hall k (by omega)).2) ?_
      have hPc := hP.sub (ws' := [(oc6 lo (.ref lx) (.ref ly) (nI wn) 0), (oa lx cI cl9 LX), (oa ly cI cl9 LY)]) [0, 1, 2] rfl
      have hDc := hD.sub (ws' := [(oc6 lo (.ref lx) (.ref ly) (nI wn) 0), (oa lx cI cl9 LX), (oa ly cI cl9 LY)]) [0, 1, 2] (by decide) rfl
      have hFc := va_free (wc := [(oc6 lo (.ref lx) (.ref ly) (nI wn) 0), (oa lx cI cl9 LX), (oa ly cI cl9 LY)]) hD hS hA [0, 1, 2] rfl
      refine zcall (st1 := []) (va_runV (As := [.int (X k), .int (Y k)]) (rest := []) ⟨hx, hb, hml, hown, hts⟩ (k_Row_put l dC dI cI cZ cF H.size lo lx ly wn cl9 LX LY 0 (X k) (Y k) (by omega) (by omega)) (cwV 2 hts (zz_gV mw_751 mw_506 mw_507 mw_102 mc_yX7_put) rfl rfl rfl (by decide +kernel) ⟨Nat.le_of_ble_eq_true rfl, Nat.le_of_ble_eq_true rfl⟩) (zPV2 (q0 := 0) (ci := 6) hPc hDc hK hXN rfl rfl) rfl rfl hl.1 rfl (lv_room (Nat.le_of_ble_eq_true rfl)) dX2_lose_89 ⟨show (0 + 4) ≤ 4 by omega, show (0 + (2 * n + 10)) ≤ 2 * n + 10 by omega⟩) hS hFc hFc rfl (fun t H1 locs ht hB hk1 hS => ?_)
      obtain ⟨hP1, hD1⟩ := hB
      rw [ht] at hP1
      obtain ⟨hP, hD⟩ := va_join (wr := [(oc1 fe rk9 wd9 tw9 pa9 pb9 (.ref lo) (.ref q) (.ref lk)), (oc4 lk kd9 st9 (.ref r) gb9 jt9 (nI wn)), (oc4 q kd9 st9 (.ref w) gb9 jt9 (nI wn)), (oc6 r (.ref rx) (.ref ry) (nI n) rg), (oa rx cI cap X), (oa ry cI cap Y), (oc6 w (.ref wx) (.ref wy) (nI n) rg), (oa wx cI n X1), (oa wy cI n Y1)]) (w1 := [(oc6 lo (.ref lx) (.ref ly) (nI (wn + 1)) 0), (oa lx cI cl9 (upd LX wn (X k))), (oa ly cI cl9 (upd LY wn (Y k)))]) hP hD [0, 1, 2] [3, 4, 5, 6, 7, 8, 9, 10, 11] rfl rfl (by decide) (by decide) hk1 hFc hP1 hD1
      clear hk1 hPc hDc hFc hP1 hD1 ht
      generalize H1 = H at hP hS ⊢
      have hP := hP.sub (ws' := [(oc6 lo (.ref lx) (.ref ly) (nI (wn + 1)) 0), (oa lx cI cl9 (upd LX wn (X k))), (oa ly cI cl9 (upd LY wn (Y k))), (oc1 fe rk9 wd9 tw9 pa9 pb9 (.ref lo) (.ref q) (.ref lk)), (oc4 lk kd9 st9 (.ref r) gb9 jt9 (nI wn)), (oc4 q kd9 st9 (.ref w) gb9 jt9 (nI wn)), (oc6 r (.ref rx) (.ref ry) (nI n) rg), (oa rx cI cap X), (oa ry cI cap Y), (oc6 w (.ref wx) (.ref wy) (nI n) rg), (oa wx cI n X1), (oa wy cI n Y1)]) [9, 10, 11, 0, 1, 2, 3, 4, 5, 6, 7, 8] rfl
      have hD := hD.sub (ws' := [(oc6 lo (.ref lx) (.ref ly) (nI (wn + 1)) 0), (oa lx cI cl9 (upd LX wn (X k))), (oa ly cI cl9 (upd LY wn (Y k))), (oc1 fe rk9 wd9 tw9 pa9 pb9 (.ref lo) (.ref q) (.ref lk)), (oc4 lk kd9 st9 (.ref r) gb9 jt9 (nI wn)), (oc4 q kd9 st9 (.ref w) gb9 jt9 (nI wn)), (oc6 r (.ref rx) (.ref ry) (nI n) rg), (oa rx cI cap X), (oa ry cI cap Y), (oc6 w (.ref wx) (.ref wy) (nI n) rg), (oa wx cI n X1), (oa wy cI n Y1)]) [9, 10, 11, 0, 1, 2, 3, 4, 5, 6, 7, 8] (by decide) rfl
      have hP : va_P (dC, dI) classes [(oc6 lo (.ref lx) (.ref ly) (nI (wn + 1)) 0), (oa lx cI cl9 (upd LX wn (X k))), (oa ly cI cl9 (upd LY wn (Y k))), (oc1 fe rk9 wd9 tw9 pa9 pb9 (.ref lo) (.ref q) (.ref lk)), (oc4 lk kd9 st9 (.ref r) gb9 jt9 (nI wn)), (oc4 q kd9 st9 (.ref w) gb9 jt9 (nI wn)), (oc6 r (.ref rx) (.ref ry) (nI n) rg), (oa rx cI cap X), (oa ry cI cap Y), (oc6 w (.ref wx) (.ref wy) (nI n) rg), (oa wx cI n X1), (oa wy cI n Y1)] H := hP
      have hD : va_D A [(oc6 lo (.ref lx) (.ref ly) (nI (wn + 1)) 0), (oa lx cI cl9 (upd LX wn (X k))), (oa ly cI cl9 (upd LY wn (Y k))), (oc1 fe rk9 wd9 tw9 pa9 pb9 (.ref lo) (.ref q) (.ref lk)), (oc4 lk kd9 st9 (.ref r) gb9 jt9 (nI wn)), (oc4 q kd9 st9 (.ref w) gb9 jt9 (nI wn)), (oc6 r (.ref rx) (.ref ry) (nI n) rg), (oa rx cI cap X), (oa ry cI cap Y), (oc6 w (.ref wx) (.ref wy) (nI n) rg), (oa wx cI n X1), (oa wy cI n Y1)] := hD
      refine lv_aload_n hx hb dX2_lose_92 rfl (lv_at hl 0 rfl) ?_
      refine va_get (D := (dC, dI)) (ci := 1) (v := .ref q) (C := RX2) (T := TX2) (N := 8) hx hb hts inX2 hown hK hP 3 rfl rfl 6 (by decide) (hts _ mw_429) (fun _ h9 => h9) rfl dX2_lose_93 ?_
      refine lv_aload_n hx hb dX2_lose_96 rfl (lv_at hl 0 rfl) ?_
      refine va_get (D := (dC, dI)) (ci := 1) (v := .ref lo) (C := RX2) (T := TX2) (N := 8) hx hb hts inX2 hown hK hP 3 rfl rfl 5 (by decide) (hts _ mw_426) (fun _ h9 => h9) rfl dX2_lose_97 ?_
      refine va_get (D := (dC, dI)) (ci := 6) (v := .int (nI (wn + 1))) (C := RX7) (T := TX7) (N := 4) hx hb hts inX7 hown hK hP 0 rfl rfl 2 (by decide) (hts _ mw_178) (fun _ h9 => h9) rfl dX2_lose_100 ?_
      refine va_put (D := (dC, dI)) (ci := 4) (v := .int (nI (wn + 1))) (ty := .int) (C := RX5) (T := TX5) (N := 6) hx hb hts inX5 tyX5 tyX5_ok nmX5 hown hK hP hD hS 5 rfl rfl 5 (by decide) (hts _ mw_400) (fun _ h9 => h9) rfl (by decide +kernel) rfl rfl (Nat.le_of_ble_eq_true rfl) dX2_lose_103 (fun H locs hP hD hS => ?_)
      have hP : va_P (dC, dI) classes [(oc6 lo (.ref lx) (.ref ly) (nI (wn + 1)) 0), (oa lx cI cl9 (upd LX wn (X k))), (oa ly cI cl9 (upd LY wn (Y k))), (oc1 fe rk9 wd9 tw9 pa9 pb9 (.ref lo) (.ref q) (.ref lk)), (oc4 lk kd9 st9 (.ref r) gb9 jt9 (nI wn)), (oc4 q kd9 st9 (.ref w) gb9 jt9 (nI (wn + 1))), (oc6 r (.ref rx) (.ref ry) (nI n) rg), (oa rx cI cap X), (oa ry cI cap Y), (oc6 w (.ref wx) (.ref wy) (nI n) rg), (oa wx cI n X1), (oa wy cI n Y1)] H := hP
      have hD : va_D A [(oc6 lo (.ref lx) (.ref ly) (nI (wn + 1)) 0), (oa lx cI cl9 (upd LX wn (X k))), (oa ly cI cl9 (upd LY wn (Y k))), (oc1 fe rk9 wd9 tw9 pa9 pb9 (.ref lo) (.ref q) (.ref lk)), (oc4 lk kd9 st9 (.ref r) gb9 jt9 (nI wn)), (oc4 q kd9 st9 (.ref w) gb9 jt9 (nI (wn + 1))), (oc6 r (.ref rx) (.ref ry) (nI n) rg), (oa rx cI cap X), (oa ry cI cap Y), (oc6 w (.ref wx) (.ref wy) (nI n) rg), (oa wx cI n X1), (oa wy cI n Y1)] := hD
      refine lv_aload_n hx hb dX2_lose_106 rfl (lv_at hl 0 rfl) ?_
      refine va_get (D := (dC, dI)) (ci := 1) (v := .ref q) (C := RX2) (T := TX2) (N := 8) hx hb hts inX2 hown hK hP 3 rfl rfl 6 (by decide) (hts _ mw_429) (fun _ h9 => h9) rfl dX2_lose_107 ?_
      refine va_get (D := (dC, dI)) (ci := 4) (v := .ref w) (C := RX5) (T := TX5) (N := 6) hx hb hts inX5 hown hK hP 5 rfl rfl 2 (by decide) (hts _ mw_392) (fun _ h9 => h9) rfl dX2_lose_110 ?_
      refine lv_iload_n hx hb dX2_lose_113 rfl (lv_at hl 1 rfl) ?_
      have hPc := hP.sub (ws' := [(oc6 w (.ref wx) (.ref wy) (nI n) rg), (oa wx cI n X1), (oa wy cI n Y1)]) [9, 10, 11] rfl
      have hDc := hD.sub (ws' := [(oc6 w (.ref wx) (.ref wy) (nI n) rg), (oa wx cI n X1), (oa wy cI n Y1)]) [9, 10, 11] (by decide) rfl
      have hFc := va_free (wc := [(oc6 w (.ref wx) (.ref wy) (nI n) rg), (oa wx cI n X1), (oa wy cI n Y1)]) hD hS hA [9, 10, 11] rfl
      refine zcall (st1 := []) (va_runV (As := [.int (nI k)]) (rest := []) ⟨hx, hb, hml, hown, hts⟩ (k_Row_cut l dC dI cI cZ cF H.size w wx wy n n X1 Y1 rg k (by omega) (by omega) (by omega)) (cwV 1 hts (zz_gV mw_752 mw_605 mw_606 mw_102 mc_yX7_cut) rfl rfl rfl (by decide +kernel) ⟨Nat.le_of_ble_eq_true rfl, Nat.le_of_ble_eq_true rfl⟩) (zPV2 (q0 := 0) (ci := 6) hPc hDc hK hXN rfl rfl) rfl rfl hl.1 rfl (lv_room (Nat.le_of_ble_eq_true rfl)) dX2_lose_114 ⟨show (0 + 4) ≤ 4 by omega, show (0 + (2 * n + 10)) ≤ 2 * n + 10 by omega⟩) hS hFc hFc rfl (fun t H1 locs ht hB hk1 hS => ?_)
      obtain ⟨X2, Y2, h1, h2, hP1, hD1⟩ := hB
      rw [ht] at hP1
      obtain ⟨hP, hD⟩ := va_join (wr := [(oc6 lo (.ref lx) (.ref ly) (nI (wn + 1)) 0), (oa lx cI cl9 (upd LX wn (X k))), (oa ly cI cl9 (upd LY wn (Y k))), (oc1 fe rk9 wd9 tw9 pa9 pb9 (.ref lo) (.ref q) (.ref lk)), (oc4 lk kd9 st9 (.ref r) gb9 jt9 (nI wn)), (oc4 q kd9 st9 (.ref w) gb9 jt9 (nI (wn + 1))), (oc6 r (.ref rx) (.ref ry) (nI n) rg), (oa rx cI cap X), (oa ry cI cap Y)]) (w1 := [(oc6 w (.ref wx) (.ref wy) (nI (n - 1)) rg), (oa wx cI n X2), (oa wy cI n Y2)]) hP hD [9, 10, 11] [0, 1, 2, 3, 4, 5, 6, 7, 8] rfl rfl (by decide) (by decide) hk1 hFc hP1 hD1
      clear hk1 hPc hDc hFc hP1 hD1 ht
      generalize H1 = H at hP hS ⊢
      have hP : va_P (dC, dI) classes [(oc6 lo (.ref lx) (.ref ly) (nI (wn + 1)) 0), (oa lx cI cl9 (upd LX wn (X k))), (oa ly cI cl9 (upd LY wn (Y k))), (oc1 fe rk9 wd9 tw9 pa9 pb9 (.ref lo) (.ref q) (.ref lk)), (oc4 lk kd9 st9 (.ref r) gb9 jt9 (nI wn)), (oc4 q kd9 st9 (.ref w) gb9 jt9 (nI (wn + 1))), (oc6 r (.ref rx) (.ref ry) (nI n) rg), (oa rx cI cap X), (oa ry cI cap Y), (oc6 w (.ref wx) (.ref wy) (nI (n - 1)) rg), (oa wx cI n X2), (oa wy cI n Y2)] H := hP
      have hD : va_D A [(oc6 lo (.ref lx) (.ref ly) (nI (wn + 1)) 0), (oa lx cI cl9 (upd LX wn (X k))), (oa ly cI cl9 (upd LY wn (Y k))), (oc1 fe rk9 wd9 tw9 pa9 pb9 (.ref lo) (.ref q) (.ref lk)), (oc4 lk kd9 st9 (.ref r) gb9 jt9 (nI wn)), (oc4 q kd9 st9 (.ref w) gb9 jt9 (nI (wn + 1))), (oc6 r (.ref rx) (.ref ry) (nI n) rg), (oa rx cI cap X), (oa ry cI cap Y), (oc6 w (.ref wx) (.ref wy) (nI (n - 1)) rg), (oa wx cI n X2), (oa wy cI n Y2)] := hD
      have hP9 := hP.sub (ws' := [(oc1 fe rk9 wd9 tw9 pa9 pb9 (.ref lo) (.ref q) (.ref lk)), (oc4 lk kd9 st9 (.ref r) gb9 jt9 (nI wn)), (oc4 q kd9 st9 (.ref w) gb9 jt9 (nI (wn + 1))), (oc6 r (.ref rx) (.ref ry) (nI n) rg), (oa rx cI cap X), (oa ry cI cap Y), (oc6 w (.ref wx) (.ref wy) (nI (n - 1)) rg), (oa wx cI n X2), (oa wy cI n Y2), (oc6 lo (.ref lx) (.ref ly) (nI (wn + 1)) 0), (oa lx cI cl9 (upd LX wn (X k))), (oa ly cI cl9 (upd LY wn (Y k)))]) [3, 4, 5, 6, 7, 8, 9, 10, 11, 0, 1, 2] rfl
      have hD9 := hD.sub (ws' := [(oc1 fe rk9 wd9 tw9 pa9 pb9 (.ref lo) (.ref q) (.ref lk)), (oc4 lk kd9 st9 (.ref r) gb9 jt9 (nI wn)), (oc4 q kd9 st9 (.ref w) gb9 jt9 (nI (wn + 1))), (oc6 r (.ref rx) (.ref ry) (nI n) rg), (oa rx cI cap X), (oa ry cI cap Y), (oc6 w (.ref wx) (.ref wy) (nI (n - 1)) rg), (oa wx cI n X2), (oa wy cI n Y2), (oc6 lo (.ref lx) (.ref ly) (nI (wn + 1)) 0), (oa lx cI cl9 (upd LX wn (X k))), (oa ly cI cl9 (upd LY wn (Y k)))]) [3, 4, 5, 6, 7, 8, 9, 10, 11, 0, 1, 2] (by decide) rfl
      refine W.widen (k := 4) (n := 2 * n + 10) (by omega) (by omega) ?_
      rw [hQ9]
      exact W.vret hx hb hr (fun t ht hW => ⟨⟨rfl, q, w, wx, wy, X2, Y2, (fun j hj => by rw [(h1 j hj).1, (h1 j hj).2]; exact hall j (by omega)), (fun j h3 h4 => by rw [(h2 j h3 h4).1, (h2 j h3 h4).2]; exact hall (j + 1) (by omega)), by rw [ht]; exact hP9, hD9⟩, hS.F ht⟩) hS.2.2 dX2_lose_117
    · have c_2 : ((n : Nat) : Int) ≤ ((k : Nat) : Int) := zc_nlt (nI_toInt (by omega)) (nI_toInt (by omega)) c_2
      exfalso; omega
set_option maxHeartbeats 4000000 in
set_option maxRecDepth 100000 in
theorem k_Change_init_n (l : Launch) (dC : Nat → ClassId) (dI : Nat → Nat → Nat) (cI cZ cF : ClassId) (sz : Nat) (ch : Nat) (lk : Nat) (fm : Nat) (fe : Nat) (lo : Nat) (rk9 : Int32) (wd9 : Int32) (tw9 : Int32) (pa9 : Int32) (pb9 : Int32) : Met l yX1_init (.code yX1_init cX1_init 3 none :: ws0) ({ frames := 1, cells := 0, slots := 0, locals := 12 } : Room) (va_Pc [.ref ch, .ref fe, .null] (zPre (dC, dI) classes (zTy cI cZ cF) [(oc12 ch .null .null .null .null), (oc1 fe rk9 wd9 tw9 pa9 pb9 (.ref lo) (.ref lk) (.ref fm))] sz zXN)) (zQ none (fun t => va_P (dC, dI) classes [(oc12 ch (.ref fe) (.ref fm) (.ref lk) .null), (oc1 fe rk9 wd9 tw9 pa9 pb9 (.ref lo) (.ref lk) (.ref fm))] t.heap ∧ va_D (va_A [(oc12 ch .null .null .null .null), (oc1 fe rk9 wd9 tw9 pa9 pb9 (.ref lo) (.ref lk) (.ref fm))] sz) [(oc12 ch (.ref fe) (.ref fm) (.ref lk) .null), (oc1 fe rk9 wd9 tw9 pa9 pb9 (.ref lo) (.ref lk) (.ref fm))]) (va_A [(oc12 ch .null .null .null .null), (oc1 fe rk9 wd9 tw9 pa9 pb9 (.ref lo) (.ref lk) (.ref fm))] sz)) 0 0 (va_A [(oc12 ch .null .null .null .null), (oc1 fe rk9 wd9 tw9 pa9 pb9 (.ref lo) (.ref lk) (.ref fm))] sz) := by
  refine Met.ofW (cc := cX1_init) (maxL := 3) (ret := none) (by decide) rfl ?_
  intro p e s m args below meth c s₁ B hml hv
  obtain ⟨rfl, hsz, hP, hK, hD0, hXN⟩ := hv
  have hx := B.exec
  have hb := B.bytes
  have hr := B.returns
  have hts0 := atoms_spec (ws := .code yX1_init cX1_init 3 none :: ws0) B.pre
  have hts : ∀ w9 ∈ ws0, w9.before ([.ref ch, .ref fe, .null] : List Value).toArray s = true := fun w9 h => hts0 w9 (List.mem_cons_of_mem _ h)
  have hown : s.vm.findClass "ScaleShop$Change" = some m.cls := findClass_of_methodNamed B.named
  have hlocks := B.notSynchronized
  have hin : meth.name = "<init>" := (name_of_methodNamed B.named B.method).1
  subst hsz
  have hD := hD0.self (sz := s.heap.size)
  clear hD0
  generalize hAe : va_A [(oc12 ch .null .null .null .null), (oc1 fe rk9 wd9 tw9 pa9 pb9 (.ref lo) (.ref lk) (.ref fm))] s.heap.size = A at hD ⊢
  have hA : ∀ q : Nat, s.heap.size ≤ q → A q := fun q h => by rw [← hAe]; exact Or.inr h
  clear hAe
  have hS : va_S A s.heap s.heap [] := va_S.rf
  have hP : va_P (dC, dI) classes [(oc12 ch .null .null .null .null), (oc1 fe rk9 wd9 tw9 pa9 pb9 (.ref lo) (.ref lk) (.ref fm))] s.heap := hP
  obtain ⟨Q9, hQ9⟩ : ∃ Q9 : State → Prop, Q9 = MQ below (zQ none (fun t => va_P (dC, dI) classes [(oc12 ch (.ref fe) (.ref fm) (.ref lk) .null), (oc1 fe rk9 wd9 tw9 pa9 pb9 (.ref lo) (.ref lk) (.ref fm))] t.heap ∧ va_D A [(oc12 ch (.ref fe) (.ref fm) (.ref lk) .null), (oc1 fe rk9 wd9 tw9 pa9 pb9 (.ref lo) (.ref lk) (.ref fm))]) A) ([.ref ch, .ref fe, .null] : List Value).toArray s 0 0 A := ⟨_, rfl⟩
  rw [← hQ9]
  have hl := lv_entry ([.ref ch, .ref fe, .null]) (n := 3) (Nat.le_of_ble_eq_true rfl)
  rw [lg_entry_eq]
  generalize (lg_sl ([.ref ch, .ref fe, .null]) ++ List.replicate (3 - (lg_sl ([.ref ch, .ref fe, .null])).length) Slot.unset).toArray = ls at hl ⊢
  have hl : lv_has ls 3 [(0, .ref ch), (1, .ref fe), (2, .null)] := hl
  refine lv_aload_n hx hb dX1_init_0 rfl (lv_at hl 0 rfl) ?_
  refine W.objInit hx hb hown (hts _ mw_789) (hts _ mw_126) (hts _ mw_objcode) rfl (by rw [hml]; exact hl.1) rfl dX1_init_1 (Nat.le_of_ble_eq_true rfl) (Nat.le_of_ble_eq_true rfl) ?_
  refine W.eq (g2 := F0 m 4 ls []) rfl ?_
  refine lv_aload_n hx hb dX1_init_4 rfl (lv_at hl 0 rfl) ?_
  refine lv_aload_n hx hb dX1_init_5 rfl (lv_at hl 1 rfl) ?_
  refine va_putF (D := (dC, dI)) (ci := 12) (v := .ref fe) (ty := .object "ScaleShop$Feature") (C := RX1) (T := TX1) (N := 4) hx hb hts inX1 tyX1 tyX1_ok nmX1 hown hK hP hD hS 0 rfl rfl 0 (by decide) (hts _ mw_790) (fun _ h9 => h9) rfl hin rfl (by decide +kernel) rfl rfl (Nat.le_of_ble_eq_true rfl) dX1_init_6 (fun H locs hP hD hS => ?_)
  have hP : va_P (dC, dI) classes [(oc12 ch (.ref fe) .null .null .null), (oc1 fe rk9 wd9 tw9 pa9 pb9 (.ref lo) (.ref lk) (.ref fm))] H := hP
  have hD : va_D A [(oc12 ch (.ref fe) .null .null .null), (oc1 fe rk9 wd9 tw9 pa9 pb9 (.ref lo) (.ref lk) (.ref fm))] := hD
  refine lv_aload_n hx hb dX1_init_9 rfl (lv_at hl 0 rfl) ?_
  refine lv_aload_n hx hb dX1_init_10 rfl (lv_at hl 1 rfl) ?_
  refine va_get (D := (dC, dI)) (ci := 1) (v := .ref fm) (C := RX2) (T := TX2) (N := 8) hx hb hts inX2 hown hK hP 1 rfl rfl 7 (by decide) (hts _ mw_435) (fun _ h9 => h9) rfl dX1_init_11 ?_
  refine va_putF (D := (dC, dI)) (ci := 12) (v := .ref fm) (ty := .object "ScaleShop$Look") (C := RX1) (T := TX1) (N := 4) hx hb hts inX1 tyX1 tyX1_ok nmX1 hown hK hP hD hS 0 rfl rfl 1 (by decide) (hts _ mw_792) (fun _ h9 => h9) rfl hin rfl (by decide +kernel) rfl rfl (Nat.le_of_ble_eq_true rfl) dX1_init_14 (fun H locs hP hD hS => ?_)
  have hP : va_P (dC, dI) classes [(oc12 ch (.ref fe) (.ref fm) .null .null), (oc1 fe rk9 wd9 tw9 pa9 pb9 (.ref lo) (.ref lk) (.ref fm))] H := hP
  have hD : va_D A [(oc12 ch (.ref fe) (.ref fm) .null .null), (oc1 fe rk9 wd9 tw9 pa9 pb9 (.ref lo) (.ref lk) (.ref fm))] := hD
  refine lv_aload_n hx hb dX1_init_17 rfl (lv_at hl 0 rfl) ?_
  refine lv_aload_n hx hb dX1_init_18 rfl (lv_at hl 1 rfl) ?_
  refine va_get (D := (dC, dI)) (ci := 1) (v := .ref lk) (C := RX2) (T := TX2) (N := 8) hx hb hts inX2 hown hK hP 1 rfl rfl 6 (by decide) (hts _ mw_428) (fun _ h9 => h9) rfl dX1_init_19 ?_
  refine va_putF (D := (dC, dI)) (ci := 12) (v := .ref lk) (ty := .object "ScaleShop$Look") (C := RX1) (T := TX1) (N := 4) hx hb hts inX1 tyX1 tyX1_ok nmX1 hown hK hP hD hS 0 rfl rfl 2 (by decide) (hts _ mw_794) (fun _ h9 => h9) rfl hin rfl (by decide +kernel) rfl rfl (Nat.le_of_ble_eq_true rfl) dX1_init_22 (fun H locs hP hD hS => ?_)
  have hP : va_P (dC, dI) classes [(oc12 ch (.ref fe) (.ref fm) (.ref lk) .null), (oc1 fe rk9 wd9 tw9 pa9 pb9 (.ref lo) (.ref lk) (.ref fm))] H := hP
  have hD : va_D A [(oc12 ch (.ref fe) (.ref fm) (.ref lk) .null), (oc1 fe rk9 wd9 tw9 pa9 pb9 (.ref lo) (.ref lk) (.ref fm))] := hD
  refine lv_aload_n hx hb dX1_init_25 rfl (lv_at hl 0 rfl) ?_
  refine lv_aload_nN hx hb dX1_init_26 rfl (lv_at hl 2 rfl) ?_
  refine va_putF (D := (dC, dI)) (ci := 12) (v := .null) (ty := .object "ScaleShop$Change") (C := RX1) (T := TX1) (N := 4) hx hb hts inX1 tyX1 tyX1_ok nmX1 hown hK hP hD hS 0 rfl rfl 3 (by decide) (hts _ mw_796) (fun _ h9 => h9) rfl hin rfl (by decide +kernel) rfl rfl (Nat.le_of_ble_eq_true rfl) dX1_init_27 (fun H locs hP hD hS => ?_)
  have hP : va_P (dC, dI) classes [(oc12 ch (.ref fe) (.ref fm) (.ref lk) .null), (oc1 fe rk9 wd9 tw9 pa9 pb9 (.ref lo) (.ref lk) (.ref fm))] H := hP
  have hD : va_D A [(oc12 ch (.ref fe) (.ref fm) (.ref lk) .null), (oc1 fe rk9 wd9 tw9 pa9 pb9 (.ref lo) (.ref lk) (.ref fm))] := hD
  have hP9 := hP.sub (ws' := [(oc12 ch (.ref fe) (.ref fm) (.ref lk) .null), (oc1 fe rk9 wd9 tw9 pa9 pb9 (.ref lo) (.ref lk) (.ref fm))]) [0, 1] rfl
  have hD9 := hD.sub (ws' := [(oc12 ch (.ref fe) (.ref fm) (.ref lk) .null), (oc1 fe rk9 wd9 tw9 pa9 pb9 (.ref lo) (.ref lk) (.ref fm))]) [0, 1] (by decide) rfl
  rw [hQ9]
  exact W.vret hx hb hr (fun t ht hW => ⟨⟨rfl, by rw [ht]; exact hP9, hD9⟩, hS.F ht⟩) hS.2.2 dX1_init_30
set_option maxHeartbeats 4000000 in
set_option maxRecDepth 100000 in
theorem k_Change_init (l : Launch) (dC : Nat → ClassId) (dI : Nat → Nat → Nat) (cI cZ cF : ClassId) (sz : Nat) (ch : Nat) (nx : Nat) (lk : Nat) (fm : Nat) (fe : Nat) (lo : Nat) (rk9 : Int32) (wd9 : Int32) (tw9 : Int32) (pa9 : Int32) (pb9 : Int32) : Met l yX1_init (.code yX1_init cX1_init 3 none :: ws0) ({ frames := 1, cells := 0, slots := 0, locals := 12 } : Room) (va_Pc [.ref ch, .ref fe, .ref nx] (zPre (dC, dI) classes (zTy cI cZ cF) [(oc12 ch .null .null .null .null), (oc1 fe rk9 wd9 tw9 pa9 pb9 (.ref lo) (.ref lk) (.ref fm))] sz zXN)) (zQ none (fun t => va_P (dC, dI) classes [(oc12 ch (.ref fe) (.ref fm) (.ref lk) (.ref nx)), (oc1 fe rk9 wd9 tw9 pa9 pb9 (.ref lo) (.ref lk) (.ref fm))] t.heap ∧ va_D (va_A [(oc12 ch .null .null .null .null), (oc1 fe rk9 wd9 tw9 pa9 pb9 (.ref lo) (.ref lk) (.ref fm))] sz) [(oc12 ch (.ref fe) (.ref fm) (.ref lk) (.ref nx)), (oc1 fe rk9 wd9 tw9 pa9 pb9 (.ref lo) (.ref lk) (.ref fm))]) (va_A [(oc12 ch .null .null .null .null), (oc1 fe rk9 wd9 tw9 pa9 pb9 (.ref lo) (.ref lk) (.ref fm))] sz)) 0 0 (va_A [(oc12 ch .null .null .null .null), (oc1 fe rk9 wd9 tw9 pa9 pb9 (.ref lo) (.ref lk) (.ref fm))] sz) := by
  refine Met.ofW (cc := cX1_init) (maxL := 3) (ret := none) (by decide) rfl ?_
  intro p e s m args below meth c s₁ B hml hv
  obtain ⟨rfl, hsz, hP, hK, hD0, hXN⟩ := hv
  have hx := B.exec
  have hb := B.bytes
  have hr := B.returns
  have hts0 := atoms_spec (ws := .code yX1_init cX1_init 3 none :: ws0) B.pre
  have hts : ∀ w9 ∈ ws0, w9.before ([.ref ch, .ref fe, .ref nx] : List Value).toArray s = true := fun w9 h => hts0 w9 (List.mem_cons_of_mem _ h)
  have hown : s.vm.findClass "ScaleShop$Change" = some m.cls := findClass_of_methodNamed B.named
  have hlocks := B.notSynchronized
  have hin : meth.name = "<init>" := (name_of_methodNamed B.named B.method).1
  subst hsz
  have hD := hD0.self (sz := s.heap.size)
  clear hD0
  generalize hAe : va_A [(oc12 ch .null .null .null .null), (oc1 fe rk9 wd9 tw9 pa9 pb9 (.ref lo) (.ref lk) (.ref fm))] s.heap.size = A at hD ⊢
  have hA : ∀ q : Nat, s.heap.size ≤ q → A q := fun q h => by rw [← hAe]; exact Or.inr h
  clear hAe
  have hS : va_S A s.heap s.heap [] := va_S.rf
  have hP : va_P (dC, dI) classes [(oc12 ch .null .null .null .null), (oc1 fe rk9 wd9 tw9 pa9 pb9 (.ref lo) (.ref lk) (.ref fm))] s.heap := hP
  obtain ⟨Q9, hQ9⟩ : ∃ Q9 : State → Prop, Q9 = MQ below (zQ none (fun t => va_P (dC, dI) classes [(oc12 ch (.ref fe) (.ref fm) (.ref lk) (.ref nx)), (oc1 fe rk9 wd9 tw9 pa9 pb9 (.ref lo) (.ref lk) (.ref fm))] t.heap ∧ va_D A [(oc12 ch (.ref fe) (.ref fm) (.ref lk) (.ref nx)), (oc1 fe rk9 wd9 tw9 pa9 pb9 (.ref lo) (.ref lk) (.ref fm))]) A) ([.ref ch, .ref fe, .ref nx] : List Value).toArray s 0 0 A := ⟨_, rfl⟩
  rw [← hQ9]
  have hl := lv_entry ([.ref ch, .ref fe, .ref nx]) (n := 3) (Nat.le_of_ble_eq_true rfl)
  rw [lg_entry_eq]
  generalize (lg_sl ([.ref ch, .ref fe, .ref nx]) ++ List.replicate (3 - (lg_sl ([.ref ch, .ref fe, .ref nx])).length) Slot.unset).toArray = ls at hl ⊢
  have hl : lv_has ls 3 [(0, .ref ch), (1, .ref fe), (2, .ref nx)] := hl
  refine lv_aload_n hx hb dX1_init_0 rfl (lv_at hl 0 rfl) ?_
  refine W.objInit hx hb hown (hts _ mw_789) (hts _ mw_126) (hts _ mw_objcode) rfl (by rw [hml]; exact hl.1) rfl dX1_init_1 (Nat.le_of_ble_eq_true rfl) (Nat.le_of_ble_eq_true rfl) ?_
  refine W.eq (g2 := F0 m 4 ls []) rfl ?_
  refine lv_aload_n hx hb dX1_init_4 rfl (lv_at hl 0 rfl) ?_
  refine lv_aload_n hx hb dX1_init_5 rfl (lv_at hl 1 rfl) ?_
  refine va_putF (D := (dC, dI)) (ci := 12) (v := .ref fe) (ty := .object "ScaleShop$Feature") (C := RX1) (T := TX1) (N := 4) hx hb hts inX1 tyX1 tyX1_ok nmX1 hown hK hP hD hS 0 rfl rfl 0 (by decide) (hts _ mw_790) (fun _ h9 => h9) rfl hin rfl (by decide +kernel) rfl rfl (Nat.le_of_ble_eq_true rfl) dX1_init_6 (fun H locs hP hD hS => ?_)
  have hP : va_P (dC, dI) classes [(oc12 ch (.ref fe) .null .null .null), (oc1 fe rk9 wd9 tw9 pa9 pb9 (.ref lo) (.ref lk) (.ref fm))] H := hP
  have hD : va_D A [(oc12 ch (.ref fe) .null .null .null), (oc1 fe rk9 wd9 tw9 pa9 pb9 (.ref lo) (.ref lk) (.ref fm))] := hD
  refine lv_aload_n hx hb dX1_init_9 rfl (lv_at hl 0 rfl) ?_
  refine lv_aload_n hx hb dX1_init_10 rfl (lv_at hl 1 rfl) ?_
  refine va_get (D := (dC, dI)) (ci := 1) (v := .ref fm) (C := RX2) (T := TX2) (N := 8) hx hb hts inX2 hown hK hP 1 rfl rfl 7 (by decide) (hts _ mw_435) (fun _ h9 => h9) rfl dX1_init_11 ?_
  refine va_putF (D := (dC, dI)) (ci := 12) (v := .ref fm) (ty := .object "ScaleShop$Look") (C := RX1) (T := TX1) (N := 4) hx hb hts inX1 tyX1 tyX1_ok nmX1 hown hK hP hD hS 0 rfl rfl 1 (by decide) (hts _ mw_792) (fun _ h9 => h9) rfl hin rfl (by decide +kernel) rfl rfl (Nat.le_of_ble_eq_true rfl) dX1_init_14 (fun H locs hP hD hS => ?_)
  have hP : va_P (dC, dI) classes [(oc12 ch (.ref fe) (.ref fm) .null .null), (oc1 fe rk9 wd9 tw9 pa9 pb9 (.ref lo) (.ref lk) (.ref fm))] H := hP
  have hD : va_D A [(oc12 ch (.ref fe) (.ref fm) .null .null), (oc1 fe rk9 wd9 tw9 pa9 pb9 (.ref lo) (.ref lk) (.ref fm))] := hD
  refine lv_aload_n hx hb dX1_init_17 rfl (lv_at hl 0 rfl) ?_
  refine lv_aload_n hx hb dX1_init_18 rfl (lv_at hl 1 rfl) ?_
  refine va_get (D := (dC, dI)) (ci := 1) (v := .ref lk) (C := RX2) (T := TX2) (N := 8) hx hb hts inX2 hown hK hP 1 rfl rfl 6 (by decide) (hts _ mw_428) (fun _ h9 => h9) rfl dX1_init_19 ?_
  refine va_putF (D := (dC, dI)) (ci := 12) (v := .ref lk) (ty := .object "ScaleShop$Look") (C := RX1) (T := TX1) (N := 4) hx hb hts inX1 tyX1 tyX1_ok nmX1 hown hK hP hD hS 0 rfl rfl 2 (by decide) (hts _ mw_794) (fun _ h9 => h9) rfl hin rfl (by decide +kernel) rfl rfl (Nat.le_of_ble_eq_true rfl) dX1_init_22 (fun H locs hP hD hS => ?_)
  have hP : va_P (dC, dI) classes [(oc12 ch (.ref fe) (.ref fm) (.ref lk) .null), (oc1 fe rk9 wd9 tw9 pa9 pb9 (.ref lo) (.ref lk) (.ref fm))] H := hP
  have hD : va_D A [(oc12 ch (.ref fe) (.ref fm) (.ref lk) .null), (oc1 fe rk9 wd9 tw9 pa9 pb9 (.ref lo) (.ref lk) (.ref fm))] := hD
  refine lv_aload_n hx hb dX1_init_25 rfl (lv_at hl 0 rfl) ?_
  refine lv_aload_n hx hb dX1_init_26 rfl (lv_at hl 2 rfl) ?_
  refine va_putF (D := (dC, dI)) (ci := 12) (v := .ref nx) (ty := .object "ScaleShop$Change") (C := RX1) (T := TX1) (N := 4) hx hb hts inX1 tyX1 tyX1_ok nmX1 hown hK hP hD hS 0 rfl rfl 3 (by decide) (hts _ mw_796) (fun _ h9 => h9) rfl hin rfl (by decide +kernel) rfl rfl (Nat.le_of_ble_eq_true rfl) dX1_init_27 (fun H locs hP hD hS => ?_)
  have hP : va_P (dC, dI) classes [(oc12 ch (.ref fe) (.ref fm) (.ref lk) (.ref nx)), (oc1 fe rk9 wd9 tw9 pa9 pb9 (.ref lo) (.ref lk) (.ref fm))] H := hP
  have hD : va_D A [(oc12 ch (.ref fe) (.ref fm) (.ref lk) (.ref nx)), (oc1 fe rk9 wd9 tw9 pa9 pb9 (.ref lo) (.ref lk) (.ref fm))] := hD
  have hP9 := hP.sub (ws' := [(oc12 ch (.ref fe) (.ref fm) (.ref lk) (.ref nx)), (oc1 fe rk9 wd9 tw9 pa9 pb9 (.ref lo) (.ref lk) (.ref fm))]) [0, 1] rfl
  have hD9 := hD.sub (ws' := [(oc12 ch (.ref fe) (.ref fm) (.ref lk) (.ref nx)), (oc1 fe rk9 wd9 tw9 pa9 pb9 (.ref lo) (.ref lk) (.ref fm))]) [0, 1] (by decide) rfl
  rw [hQ9]
  exact W.vret hx hb hr (fun t ht hW => ⟨⟨rfl, by rw [ht]; exact hP9, hD9⟩, hS.F ht⟩) hS.2.2 dX1_init_30
set_option maxHeartbeats 4000000 in
set_option maxRecDepth 100000 in
theorem k_Step_init_n (l : Launch) (dC : Nat → ClassId) (dI : Nat → Nat → Nat) (cI cZ cF : ClassId) (sz : Nat) (sp : Nat) (e1 : Int32) (e2 : Int32) (e3 : Int32) : Met l yX9_init (.code yX9_init cX9_init 5 none :: ws0) ({ frames := 1, cells := 0, slots := 0, locals := 12 } : Room) (va_Pc [.ref sp, .int e1, .int e2, .int e3, .null] (zPre (dC, dI) classes (zTy cI cZ cF) [(oc11 sp 0 0 0 .null .null)] sz zXN)) (zQ none (fun t => va_P (dC, dI) classes [(oc11 sp e1 e2 e3 .null .null)] t.heap ∧ va_D (va_A [(oc11 sp 0 0 0 .null .null)] sz) [(oc11 sp e1 e2 e3 .null .null)]) (va_A [(oc11 sp 0 0 0 .null .null)] sz)) 0 0 (va_A [(oc11 sp 0 0 0 .null .null)] sz) := by
  refine Met.ofW (cc := cX9_init) (maxL := 5) (ret := none) (by decide) rfl ?_
  intro p e s m args below meth c s₁ B hml hv
  obtain ⟨rfl, hsz, hP, hK, hD0, hXN⟩ := hv
  have hx := B.exec
  have hb := B.bytes
  have hr := B.returns
  have hts0 := atoms_spec (ws := .code yX9_init cX9_init 5 none :: ws0) B.pre
  have hts : ∀ w9 ∈ ws0, w9.before ([.ref sp, .int e1, .int e2, .int e3, .null] : List Value).toArray s = true := fun w9 h => hts0 w9 (List.mem_cons_of_mem _ h)
  have hown : s.vm.findClass "ScaleShop$Step" = some m.cls := findClass_of_methodNamed B.named
  have hlocks := B.notSynchronized
  have hin : meth.name = "<init>" := (name_of_methodNamed B.named B.method).1
  subst hsz
  have hD := hD0.self (sz := s.heap.size)
  clear hD0
  generalize hAe : va_A [(oc11 sp 0 0 0 .null .null)] s.heap.size = A at hD ⊢
  have hA : ∀ q : Nat, s.heap.size ≤ q → A q := fun q h => by rw [← hAe]; exact Or.inr h
  clear hAe
  have hS : va_S A s.heap s.heap [] := va_S.rf
  have hP : va_P (dC, dI) classes [(oc11 sp 0 0 0 .null .null)] s.heap := hP
  obtain ⟨Q9, hQ9⟩ : ∃ Q9 : State → Prop, Q9 = MQ below (zQ none (fun t => va_P (dC, dI) classes [(oc11 sp e1 e2 e3 .null .null)] t.heap ∧ va_D A [(oc11 sp e1 e2 e3 .null .null)]) A) ([.ref sp, .int e1, .int e2, .int e3, .null] : List Value).toArray s 0 0 A := ⟨_, rfl⟩
  rw [← hQ9]
  have hl := lv_entry ([.ref sp, .int e1, .int e2, .int e3, .null]) (n := 5) (Nat.le_of_ble_eq_true rfl)
  rw [lg_entry_eq]
  generalize (lg_sl ([.ref sp, .int e1, .int e2, .int e3, .null]) ++ List.replicate (5 - (lg_sl ([.ref sp, .int e1, .int e2, .int e3, .null])).length) Slot.unset).toArray = ls at hl ⊢
  have hl : lv_has ls 5 [(0, .ref sp), (1, .int e1), (2, .int e2), (3, .int e3), (4, .null)] := hl
  refine lv_aload_n hx hb dX9_init_0 rfl (lv_at hl 0 rfl) ?_
  refine W.objInit hx hb hown (hts _ mw_762) (hts _ mw_126) (hts _ mw_objcode) rfl (by rw [hml]; exact hl.1) rfl dX9_init_1 (Nat.le_of_ble_eq_true rfl) (Nat.le_of_ble_eq_true rfl) ?_
  refine W.eq (g2 := F0 m 4 ls []) rfl ?_
  refine lv_aload_n hx hb dX9_init_4 rfl (lv_at hl 0 rfl) ?_
  refine lv_null hx hb dX9_init_5 ?_
  refine va_put (D := (dC, dI)) (ci := 11) (v := .null) (ty := .object "ScaleShop$Change") (C := RX9) (T := TX9) (N := 5) hx hb hts inX9 tyX9 tyX9_ok nmX9 hown hK hP hD hS 0 rfl rfl 4 (by decide) (hts _ mw_771) (fun _ h9 => h9) rfl (by decide +kernel) rfl rfl (Nat.le_of_ble_eq_true rfl) dX9_init_6 (fun H locs hP hD hS => ?_)
  have hP : va_P (dC, dI) classes [(oc11 sp 0 0 0 .null .null)] H := hP
  have hD : va_D A [(oc11 sp 0 0 0 .null .null)] := hD
  refine lv_aload_n hx hb dX9_init_9 rfl (lv_at hl 0 rfl) ?_
  refine lv_iload_n hx hb dX9_init_10 rfl (lv_at hl 1 rfl) ?_
  refine va_putF (D := (dC, dI)) (ci := 11) (v := .int e1) (ty := .int) (C := RX9) (T := TX9) (N := 5) hx hb hts inX9 tyX9 tyX9_ok nmX9 hown hK hP hD hS 0 rfl rfl 0 (by decide) (hts _ mw_763) (fun _ h9 => h9) rfl hin rfl (by decide +kernel) rfl rfl (Nat.le_of_ble_eq_true rfl) dX9_init_11 (fun H locs hP hD hS => ?_)
  have hP : va_P (dC, dI) classes [(oc11 sp e1 0 0 .null .null)] H := hP
  have hD : va_D A [(oc11 sp e1 0 0 .null .null)] := hD
  refine lv_aload_n hx hb dX9_init_14 rfl (lv_at hl 0 rfl) ?_
  refine lv_iload_n hx hb dX9_init_15 rfl (lv_at hl 2 rfl) ?_
  refine va_putF (D := (dC, dI)) (ci := 11) (v := .int e2) (ty := .int) (C := RX9) (T := TX9) (N := 5) hx hb hts inX9 tyX9 tyX9_ok nmX9 hown hK hP hD hS 0 rfl rfl 1 (by decide) (hts _ mw_765) (fun _ h9 => h9) rfl hin rfl (by decide +kernel) rfl rfl (Nat.le_of_ble_eq_true rfl) dX9_init_16 (fun H locs hP hD hS => ?_)
  have hP : va_P (dC, dI) classes [(oc11 sp e1 e2 0 .null .null)] H := hP
  have hD : va_D A [(oc11 sp e1 e2 0 .null .null)] := hD
  refine lv_aload_n hx hb dX9_init_19 rfl (lv_at hl 0 rfl) ?_
  refine lv_iload_n hx hb dX9_init_20 rfl (lv_at hl 3 rfl) ?_
  refine va_putF (D := (dC, dI)) (ci := 11) (v := .int e3) (ty := .int) (C := RX9) (T := TX9) (N := 5) hx hb hts inX9 tyX9 tyX9_ok nmX9 hown hK hP hD hS 0 rfl rfl 2 (by decide) (hts _ mw_767) (fun _ h9 => h9) rfl hin rfl (by decide +kernel) rfl rfl (Nat.le_of_ble_eq_true rfl) dX9_init_21 (fun H locs hP hD hS => ?_)
  have hP : va_P (dC, dI) classes [(oc11 sp e1 e2 e3 .null .null)] H := hP
  have hD : va_D A [(oc11 sp e1 e2 e3 .null .null)] := hD
  refine lv_aload_n hx hb dX9_init_24 rfl (lv_at hl 0 rfl) ?_
  refine lv_aloadN hx hb dX9_init_25 (lv_at hl 4 rfl) ?_
  refine va_putF (D := (dC, dI)) (ci := 11) (v := .null) (ty := .object "ScaleShop$Feature") (C := RX9) (T := TX9) (N := 5) hx hb hts inX9 tyX9 tyX9_ok nmX9 hown hK hP hD hS 0 rfl rfl 3 (by decide) (hts _ mw_769) (fun _ h9 => h9) rfl hin rfl (by decide +kernel) rfl rfl (Nat.le_of_ble_eq_true rfl) dX9_init_27 (fun H locs hP hD hS => ?_)
  have hP : va_P (dC, dI) classes [(oc11 sp e1 e2 e3 .null .null)] H := hP
  have hD : va_D A [(oc11 sp e1 e2 e3 .null .null)] := hD
  have hP9 := hP.sub (ws' := [(oc11 sp e1 e2 e3 .null .null)]) [0] rfl
  have hD9 := hD.sub (ws' := [(oc11 sp e1 e2 e3 .null .null)]) [0] (by decide) rfl
  rw [hQ9]
  exact W.vret hx hb hr (fun t ht hW => ⟨⟨rfl, by rw [ht]; exact hP9, hD9⟩, hS.F ht⟩) hS.2.2 dX9_init_30
set_option maxHeartbeats 4000000 in
set_option maxRecDepth 100000 in
theorem k_Step_init (l : Launch) (dC : Nat → ClassId) (dI : Nat → Nat → Nat) (cI cZ cF : ClassId) (sz : Nat) (sp : Nat) (e1 : Int32) (e2 : Int32) (e3 : Int32) (md : Nat) : Met l yX9_init (.code yX9_init cX9_init 5 none :: ws0) ({ frames := 1, cells := 0, slots := 0, locals := 12 } : Room) (va_Pc [.ref sp, .int e1, .int e2, .int e3, .ref md] (zPre (dC, dI) classes (zTy cI cZ cF) [(oc11 sp 0 0 0 .null .null)] sz zXN)) (zQ none (fun t => va_P (dC, dI) classes [(oc11 sp e1 e2 e3 (.ref md) .null)] t.heap ∧ va_D (va_A [(oc11 sp 0 0 0 .null .null)] sz) [(oc11 sp e1 e2 e3 (.ref md) .null)]) (va_A [(oc11 sp 0 0 0 .null .null)] sz)) 0 0 (va_A [(oc11 sp 0 0 0 .null .null)] sz) := by
  refine Met.ofW (cc := cX9_init) (maxL := 5) (ret := none) (by decide) rfl ?_
  intro p e s m args below meth c s₁ B hml hv
  obtain ⟨rfl, hsz, hP, hK, hD0, hXN⟩ := hv
  have hx := B.exec
  have hb := B.bytes
  have hr := B.returns
  have hts0 := atoms_spec (ws := .code yX9_init cX9_init 5 none :: ws0) B.pre
  have hts : ∀ w9 ∈ ws0, w9.before ([.ref sp, .int e1, .int e2, .int e3, .ref md] : List Value).toArray s = true := fun w9 h => hts0 w9 (List.mem_cons_of_mem _ h)
  have hown : s.vm.findClass "ScaleShop$Step" = some m.cls := findClass_of_methodNamed B.named
  have hlocks := B.notSynchronized
  have hin : meth.name = "<init>" := (name_of_methodNamed B.named B.method).1
  subst hsz
  have hD := hD0.self (sz := s.heap.size)
  clear hD0
  generalize hAe : va_A [(oc11 sp 0 0 0 .null .null)] s.heap.size = A at hD ⊢
  have hA : ∀ q : Nat, s.heap.size ≤ q → A q := fun q h => by rw [← hAe]; exact Or.inr h
  clear hAe
  have hS : va_S A s.heap s.heap [] := va_S.rf
  have hP : va_P (dC, dI) classes [(oc11 sp 0 0 0 .null .null)] s.heap := hP
  obtain ⟨Q9, hQ9⟩ : ∃ Q9 : State → Prop, Q9 = MQ below (zQ none (fun t => va_P (dC, dI) classes [(oc11 sp e1 e2 e3 (.ref md) .null)] t.heap ∧ va_D A [(oc11 sp e1 e2 e3 (.ref md) .null)]) A) ([.ref sp, .int e1, .int e2, .int e3, .ref md] : List Value).toArray s 0 0 A := ⟨_, rfl⟩
  rw [← hQ9]
  have hl := lv_entry ([.ref sp, .int e1, .int e2, .int e3, .ref md]) (n := 5) (Nat.le_of_ble_eq_true rfl)
  rw [lg_entry_eq]
  generalize (lg_sl ([.ref sp, .int e1, .int e2, .int e3, .ref md]) ++ List.replicate (5 - (lg_sl ([.ref sp, .int e1, .int e2, .int e3, .ref md])).length) Slot.unset).toArray = ls at hl ⊢
  have hl : lv_has ls 5 [(0, .ref sp), (1, .int e1), (2, .int e2), (3, .int e3), (4, .ref md)] := hl
  refine lv_aload_n hx hb dX9_init_0 rfl (lv_at hl 0 rfl) ?_
  refine W.objInit hx hb hown (hts _ mw_762) (hts _ mw_126) (hts _ mw_objcode) rfl (by rw [hml]; exact hl.1) rfl dX9_init_1 (Nat.le_of_ble_eq_true rfl) (Nat.le_of_ble_eq_true rfl) ?_
  refine W.eq (g2 := F0 m 4 ls []) rfl ?_
  refine lv_aload_n hx hb dX9_init_4 rfl (lv_at hl 0 rfl) ?_
  refine lv_null hx hb dX9_init_5 ?_
  refine va_put (D := (dC, dI)) (ci := 11) (v := .null) (ty := .object "ScaleShop$Change") (C := RX9) (T := TX9) (N := 5) hx hb hts inX9 tyX9 tyX9_ok nmX9 hown hK hP hD hS 0 rfl rfl 4 (by decide) (hts _ mw_771) (fun _ h9 => h9) rfl (by decide +kernel) rfl rfl (Nat.le_of_ble_eq_true rfl) dX9_init_6 (fun H locs hP hD hS => ?_)
  have hP : va_P (dC, dI) classes [(oc11 sp 0 0 0 .null .null)] H := hP
  have hD : va_D A [(oc11 sp 0 0 0 .null .null)] := hD
  refine lv_aload_n hx hb dX9_init_9 rfl (lv_at hl 0 rfl) ?_
  refine lv_iload_n hx hb dX9_init_10 rfl (lv_at hl 1 rfl) ?_
  refine va_putF (D := (dC, dI)) (ci := 11) (v := .int e1) (ty := .int) (C := RX9) (T := TX9) (N := 5) hx hb hts inX9 tyX9 tyX9_ok nmX9 hown hK hP hD hS 0 rfl rfl 0 (by decide) (hts _ mw_763) (fun _ h9 => h9) rfl hin rfl (by decide +kernel) rfl rfl (Nat.le_of_ble_eq_true rfl) dX9_init_11 (fun H locs hP hD hS => ?_)
  have hP : va_P (dC, dI) classes [(oc11 sp e1 0 0 .null .null)] H := hP
  have hD : va_D A [(oc11 sp e1 0 0 .null .null)] := hD
  refine lv_aload_n hx hb dX9_init_14 rfl (lv_at hl 0 rfl) ?_
  refine lv_iload_n hx hb dX9_init_15 rfl (lv_at hl 2 rfl) ?_
  refine va_putF (D := (dC, dI)) (ci := 11) (v := .int e2) (ty := .int) (C := RX9) (T := TX9) (N := 5) hx hb hts inX9 tyX9 tyX9_ok nmX9 hown hK hP hD hS 0 rfl rfl 1 (by decide) (hts _ mw_765) (fun _ h9 => h9) rfl hin rfl (by decide +kernel) rfl rfl (Nat.le_of_ble_eq_true rfl) dX9_init_16 (fun H locs hP hD hS => ?_)
  have hP : va_P (dC, dI) classes [(oc11 sp e1 e2 0 .null .null)] H := hP
  have hD : va_D A [(oc11 sp e1 e2 0 .null .null)] := hD
  refine lv_aload_n hx hb dX9_init_19 rfl (lv_at hl 0 rfl) ?_
  refine lv_iload_n hx hb dX9_init_20 rfl (lv_at hl 3 rfl) ?_
  refine va_putF (D := (dC, dI)) (ci := 11) (v := .int e3) (ty := .int) (C := RX9) (T := TX9) (N := 5) hx hb hts inX9 tyX9 tyX9_ok nmX9 hown hK hP hD hS 0 rfl rfl 2 (by decide) (hts _ mw_767) (fun _ h9 => h9) rfl hin rfl (by decide +kernel) rfl rfl (Nat.le_of_ble_eq_true rfl) dX9_init_21 (fun H locs hP hD hS => ?_)
  have hP : va_P (dC, dI) classes [(oc11 sp e1 e2 e3 .null .null)] H := hP
  have hD : va_D A [(oc11 sp e1 e2 e3 .null .null)] := hD
  refine lv_aload_n hx hb dX9_init_24 rfl (lv_at hl 0 rfl) ?_
  refine lv_aload hx hb dX9_init_25 (lv_at hl 4 rfl) ?_
  refine va_putF (D := (dC, dI)) (ci := 11) (v := .ref md) (ty := .object "ScaleShop$Feature") (C := RX9) (T := TX9) (N := 5) hx hb hts inX9 tyX9 tyX9_ok nmX9 hown hK hP hD hS 0 rfl rfl 3 (by decide) (hts _ mw_769) (fun _ h9 => h9) rfl hin rfl (by decide +kernel) rfl rfl (Nat.le_of_ble_eq_true rfl) dX9_init_27 (fun H locs hP hD hS => ?_)
  have hP : va_P (dC, dI) classes [(oc11 sp e1 e2 e3 (.ref md) .null)] H := hP
  have hD : va_D A [(oc11 sp e1 e2 e3 (.ref md) .null)] := hD
  have hP9 := hP.sub (ws' := [(oc11 sp e1 e2 e3 (.ref md) .null)]) [0] rfl
  have hD9 := hD.sub (ws' := [(oc11 sp e1 e2 e3 (.ref md) .null)]) [0] (by decide) rfl
  rw [hQ9]
  exact W.vret hx hb hr (fun t ht hW => ⟨⟨rfl, by rw [ht]; exact hP9, hD9⟩, hS.F ht⟩) hS.2.2 dX9_init_30
set_option maxHeartbeats 4000000 in
set_option maxRecDepth 100000 in
theorem k_Sheet_isFull (l : Launch) (dC : Nat → ClassId) (dI : Nat → Nat → Nat) (cI cZ cF : ClassId) (sz : Nat) (sh : Nat) (fa : Nat) (ft : Nat) (FA : Nat → Option Nat) (h200 : ft ≤ 200) : Met l yX8_isFull (.code yX8_isFull cX8_isFull 1 (some .boolean) :: ws0) ({ frames := 0, cells := 0, slots := 0, locals := 0 } : Room) (va_Pc [.ref sh] (zPre (dC, dI) classes (zTy cI cZ cF) [(oc7 sh (.ref fa) (nI ft)), (oq fa cF 200 FA)] sz zXN)) (zQ (some (.int (pI (ft = 200)))) (fun t => va_P (dC, dI) classes [(oc7 sh (.ref fa) (nI ft)), (oq fa cF 200 FA)] t.heap ∧ va_D (va_A [(oc7 sh (.ref fa) (nI ft)), (oq fa cF 200 FA)] sz) [(oc7 sh (.ref fa) (nI ft)), (oq fa cF 200 FA)]) (va_A [(oc7 sh (.ref fa) (nI ft)), (oq fa cF 200 FA)] sz)) 0 0 (va_A [(oc7 sh (.ref fa) (nI ft)), (oq fa cF 200 FA)] sz) := by
  refine Met.ofW (cc := cX8_isFull) (maxL := 1) (ret := (some .boolean)) (by decide) rfl ?_
  intro p e s m args below meth c s₁ B hml hv
  obtain ⟨rfl, hsz, hP, hK, hD0, hXN⟩ := hv
  have hx := B.exec
  have hb := B.bytes
  have hr := B.returns
  have hts0 := atoms_spec (ws := .code yX8_isFull cX8_isFull 1 (some .boolean) :: ws0) B.pre
  have hts : ∀ w9 ∈ ws0, w9.before ([.ref sh] : List Value).toArray s = true := fun w9 h => hts0 w9 (List.mem_cons_of_mem _ h)
  have hown : s.vm.findClass "ScaleShop$Sheet" = some m.cls := findClass_of_methodNamed B.named
  have hlocks := B.notSynchronized
  subst hsz
  have hD := hD0.self (sz := s.heap.size)
  clear hD0
  generalize hAe : va_A [(oc7 sh (.ref fa) (nI ft)), (oq fa cF 200 FA)] s.heap.size = A at hD ⊢
  have hA : ∀ q : Nat, s.heap.size ≤ q → A q := fun q h => by rw [← hAe]; exact Or.inr h
  clear hAe
  have hS : va_S A s.heap s.heap [] := va_S.rf
  have hP : va_P (dC, dI) classes [(oc7 sh (.ref fa) (nI ft)), (oq fa cF 200 FA)] s.heap := hP
  obtain ⟨Q9, hQ9⟩ : ∃ Q9 : State → Prop, Q9 = MQ below (zQ (some (.int (pI (ft = 200)))) (fun t => va_P (dC, dI) classes [(oc7 sh (.ref fa) (nI ft)), (oq fa cF 200 FA)] t.heap ∧ va_D A [(oc7 sh (.ref fa) (nI ft)), (oq fa cF 200 FA)]) A) ([.ref sh] : List Value).toArray s 0 0 A := ⟨_, rfl⟩
  rw [← hQ9]
  have hl := lv_entry ([.ref sh]) (n := 1) (Nat.le_of_ble_eq_true rfl)
  rw [lg_entry_eq]
  generalize (lg_sl ([.ref sh]) ++ List.replicate (1 - (lg_sl ([.ref sh])).length) Slot.unset).toArray = ls at hl ⊢
  have hl : lv_has ls 1 [(0, .ref sh)] := hl
  refine lv_aload_n hx hb dX8_isFull_0 rfl (lv_at hl 0 rfl) ?_
  refine va_get (D := (dC, dI)) (ci := 7) (v := .int (nI ft)) (C := RX8) (T := TX8) (N := 2) hx hb hts inX8 hown hK hP 0 rfl rfl 1 (by decide) (hts _ mw_137) (fun _ h9 => h9) rfl dX8_isFull_1 ?_
  refine lv_aload_n hx hb dX8_isFull_4 rfl (lv_at hl 0 rfl) ?_
  refine va_get (D := (dC, dI)) (ci := 7) (v := .ref fa) (C := RX8) (T := TX8) (N := 2) hx hb hts inX8 hown hK hP 0 rfl rfl 0 (by decide) (hts _ mw_136) (fun _ h9 => h9) rfl dX8_isFull_5 ?_
  refine va_alen (v := 200) hx hb hK hP 1 2 rfl rfl (rfl) dX8_isFull_8 ?_
  refine lv_icmp_lt (tgt := 16) hx hb dX8_isFull_9 (by decide) (fun c_1 => ?_) (fun c_1 => ?_)
  · have c_1 : ((ft : Nat) : Int) < 200 := zc_lt (nI_toInt (by omega)) (by decide) c_1
    refine lv_iconst (v := 0) hx hb dX8_isFull_16 (by decide) ?_
    have hP9 := hP.sub (ws' := [(oc7 sh (.ref fa) (nI ft)), (oq fa cF 200 FA)]) [0, 1] rfl
    have hD9 := hD.sub (ws' := [(oc7 sh (.ref fa) (nI ft)), (oq fa cF 200 FA)]) [0, 1] (by decide) rfl
    rw [hQ9]
    exact W.zret (ty := .boolean) (v := 0) hx hb hr (rfl) (fun t ht hW => ⟨⟨congrArg (fun z => Outcome.returned (some (Value.int z))) (show (0 : Int32) = pI (ft = 200) from (zp_f (by omega)).symm), by rw [ht]; exact hP9, hD9⟩, hS.F ht⟩) hS.2.2 dX8_isFull_17
  · have c_1 : 200 ≤ ((ft : Nat) : Int) := zc_nlt (nI_toInt (by omega)) (by decide) c_1
    refine lv_iconst (v := 1) hx hb dX8_isFull_12 (by decide) ?_
    refine lv_goto (tgt := 17) hx hb dX8_isFull_13 (by decide) ?_
    have hP9 := hP.sub (ws' := [(oc7 sh (.ref fa) (nI ft)), (oq fa cF 200 FA)]) [0, 1] rfl
    have hD9 := hD.sub (ws' := [(oc7 sh (.ref fa) (nI ft)), (oq fa cF 200 FA)]) [0, 1] (by decide) rfl
    rw [hQ9]
    exact W.zret (ty := .boolean) (v := 1) hx hb hr (rfl) (fun t ht hW => ⟨⟨congrArg (fun z => Outcome.returned (some (Value.int z))) (show (1 : Int32) = pI (ft = 200) from (zp_t (by omega)).symm), by rw [ht]; exact hP9, hD9⟩, hS.F ht⟩) hS.2.2 dX8_isFull_17
set_option maxHeartbeats 4000000 in
set_option maxRecDepth 100000 in
theorem k_Sheet_add (l : Launch) (dC : Nat → ClassId) (dI : Nat → Nat → Nat) (cI cZ cF : ClassId) (sz : Nat) (sh : Nat) (fa : Nat) (ft : Nat) (FA : Nat → Option Nat) (fe : Nat) (lo : Nat) (rk9 : Int32) (wd9 : Int32) (tw9 : Int32) (pa9 : Int32) (pb9 : Int32) (lk : Nat) (h200 : ft < 200) : Met l yX8_add (.code yX8_add cX8_add 2 (some .int) :: ws0) ({ frames := 1, cells := 0, slots := 0, locals := 20 } : Room) (va_Pc [.ref sh, .ref fe] (zPre (dC, dI) classes (zTy cI cZ cF) [(oc7 sh (.ref fa) (nI ft)), (oq fa cF 200 FA), (oc1 fe rk9 wd9 tw9 pa9 pb9 (.ref lo) (.ref lk) .null)] sz zXN)) (zQ (some (.int (nI ft))) (fun t => va_P (dC, dI) classes [(oc7 sh (.ref fa) (nI (ft + 1))), (oq fa cF 200 (va_up FA ft (some fe))), (oc1 fe rk9 wd9 tw9 pa9 pb9 (.ref lo) (.ref lk) .null)] t.heap ∧ va_D (va_A [(oc7 sh (.ref fa) (nI ft)), (oq fa cF 200 FA), (oc1 fe rk9 wd9 tw9 pa9 pb9 (.ref lo) (.ref lk) .null)] sz) [(oc7 sh (.ref fa) (nI (ft + 1))), (oq fa cF 200 (va_up FA ft (some fe))), (oc1 fe rk9 wd9 tw9 pa9 pb9 (.ref lo) (.ref lk) .null)]) (va_A [(oc7 sh (.ref fa) (nI ft)), (oq fa cF 200 FA), (oc1 fe rk9 wd9 tw9 pa9 pb9 (.ref lo) (.ref lk) .null)] sz)) 0 0 (va_A [(oc7 sh (.ref fa) (nI ft)), (oq fa cF 200 FA), (oc1 fe rk9 wd9 tw9 pa9 pb9 (.ref lo) (.ref lk) .null)] sz) := by
  refine Met.ofW (cc := cX8_add) (maxL := 2) (ret := (some .int)) (by decide) rfl ?_
  intro p e s m args below meth c s₁ B hml hv
  obtain ⟨rfl, hsz, hP, hK, hD0, hXN⟩ := hv
  have hx := B.exec
  have hb := B.bytes
  have hr := B.returns
  have hts0 := atoms_spec (ws := .code yX8_add cX8_add 2 (some .int) :: ws0) B.pre
  have hts : ∀ w9 ∈ ws0, w9.before ([.ref sh, .ref fe] : List Value).toArray s = true := fun w9 h => hts0 w9 (List.mem_cons_of_mem _ h)
  have hown : s.vm.findClass "ScaleShop$Sheet" = some m.cls := findClass_of_methodNamed B.named
  have hlocks := B.notSynchronized
  subst hsz
  have hD := hD0.self (sz := s.heap.size)
  clear hD0
  generalize hAe : va_A [(oc7 sh (.ref fa) (nI ft)), (oq fa cF 200 FA), (oc1 fe rk9 wd9 tw9 pa9 pb9 (.ref lo) (.ref lk) .null)] s.heap.size = A at hD ⊢
  have hA : ∀ q : Nat, s.heap.size ≤ q → A q := fun q h => by rw [← hAe]; exact Or.inr h
  clear hAe
  have hS : va_S A s.heap s.heap [] := va_S.rf
  have hP : va_P (dC, dI) classes [(oc7 sh (.ref fa) (nI ft)), (oq fa cF 200 FA), (oc1 fe rk9 wd9 tw9 pa9 pb9 (.ref lo) (.ref lk) .null)] s.heap := hP
  obtain ⟨Q9, hQ9⟩ : ∃ Q9 : State → Prop, Q9 = MQ below (zQ (some (.int (nI ft))) (fun t => va_P (dC, dI) classes [(oc7 sh (.ref fa) (nI (ft + 1))), (oq fa cF 200 (va_up FA ft (some fe))), (oc1 fe rk9 wd9 tw9 pa9 pb9 (.ref lo) (.ref lk) .null)] t.heap ∧ va_D A [(oc7 sh (.ref fa) (nI (ft + 1))), (oq fa cF 200 (va_up FA ft (some fe))), (oc1 fe rk9 wd9 tw9 pa9 pb9 (.ref lo) (.ref lk) .null)]) A) ([.ref sh, .ref fe] : List Value).toArray s 0 0 A := ⟨_, rfl⟩
  rw [← hQ9]
  have hl := lv_entry ([.ref sh, .ref fe]) (n := 2) (Nat.le_of_ble_eq_true rfl)
  rw [lg_entry_eq]
  generalize (lg_sl ([.ref sh, .ref fe]) ++ List.replicate (2 - (lg_sl ([.ref sh, .ref fe])).length) Slot.unset).toArray = ls at hl ⊢
  have hl : lv_has ls 2 [(0, .ref sh), (1, .ref fe)] := hl
  refine lv_aload_n hx hb dX8_add_0 rfl (lv_at hl 0 rfl) ?_
  have hPc := hP.sub (ws' := [(oc7 sh (.ref fa) (nI ft)), (oq fa cF 200 FA)]) [0, 1] rfl
  have hDc := hD.sub (ws' := [(oc7 sh (.ref fa) (nI ft)), (oq fa cF 200 FA)]) [0, 1] (by decide) rfl
  have hFc := va_free (wc := [(oc7 sh (.ref fa) (nI ft)), (oq fa cF 200 FA)]) hD hS hA [0, 1] rfl
  refine zcall (st1 := [.int (pI (ft = 200))]) (va_runV (As := []) (rest := []) ⟨hx, hb, hml, hown, hts⟩ (k_Sheet_isFull l dC dI cI cZ cF s.heap.size sh fa ft FA (by omega)) (cwV 0 hts (zz_gV mw_493 mw_361 mw_362 mw_100 mc_yX8_isFull) rfl rfl rfl (by decide +kernel) ⟨Nat.le_of_ble_eq_true rfl, Nat.le_of_ble_eq_true rfl⟩) (zPV2 (q0 := 0) (ci := 7) hPc hDc hK hXN rfl rfl) rfl rfl hl.1 rfl (lv_room (Nat.le_of_ble_eq_true rfl)) dX8_add_1 ⟨Nat.le_of_ble_eq_true rfl, Nat.le_of_ble_eq_true rfl⟩) hS hFc hFc rfl (fun t H1 locs ht hB hk1 hS => ?_)
  obtain ⟨hP1, hD1⟩ := hB
  rw [ht] at hP1
  obtain ⟨hP, hD⟩ := va_join (wr := [(oc1 fe rk9 wd9 tw9 pa9 pb9 (.ref lo) (.ref lk) .null)]) (w1 := [(oc7 sh (.ref fa) (nI ft)), (oq fa cF 200 FA)]) hP hD [0, 1] [2] rfl rfl (by decide) (by decide) hk1 hFc hP1 hD1
  clear hk1 hPc hDc hFc hP1 hD1 ht
  generalize H1 = H at hP hS ⊢
  have hP := hP.sub (ws' := [(oc7 sh (.ref fa) (nI ft)), (oq fa cF 200 FA), (oc1 fe rk9 wd9 tw9 pa9 pb9 (.ref lo) (.ref lk) .null)]) [1, 2, 0] rfl
  have hD := hD.sub (ws' := [(oc7 sh (.ref fa) (nI ft)), (oq fa cF 200 FA), (oc1 fe rk9 wd9 tw9 pa9 pb9 (.ref lo) (.ref lk) .null)]) [1, 2, 0] (by decide) rfl
  have hP : va_P (dC, dI) classes [(oc7 sh (.ref fa) (nI ft)), (oq fa cF 200 FA), (oc1 fe rk9 wd9 tw9 pa9 pb9 (.ref lo) (.ref lk) .null)] H := hP
  have hD : va_D A [(oc7 sh (.ref fa) (nI ft)), (oq fa cF 200 FA), (oc1 fe rk9 wd9 tw9 pa9 pb9 (.ref lo) (.ref lk) .null)] := hD
  refine lv_if_eq (tgt := 9) hx hb dX8_add_4 (by decide) (fun c_1 => ?_) (fun c_1 => ?_)
  · have c_1 : ¬ (ft = 200) := zp_0 c_1
    refine lv_aload_n hx hb dX8_add_9 rfl (lv_at hl 0 rfl) ?_
    refine va_get (D := (dC, dI)) (ci := 7) (v := .ref fa) (C := RX8) (T := TX8) (N := 2) hx hb hts inX8 hown hK hP 0 rfl rfl 0 (by decide) (hts _ mw_136) (fun _ h9 => h9) rfl dX8_add_10 ?_
    refine lv_aload_n hx hb dX8_add_13 rfl (lv_at hl 0 rfl) ?_
    refine va_get (D := (dC, dI)) (ci := 7) (v := .int (nI ft)) (C := RX8) (T := TX8) (N := 2) hx hb hts inX8 hown hK hP 0 rfl rfl 1 (by decide) (hts _ mw_137) (fun _ h9 => h9) rfl dX8_add_14 ?_
    refine lv_aload_n hx hb dX8_add_17 rfl (lv_at hl 1 rfl) ?_
    refine z_aast hx hb hK hP hD hS 1 2 2 1 rfl rfl rfl rfl (e := ft) rfl (by omega) (by omega) dX8_add_18 (fun H locs hP hD hS => ?_)
    have hP : va_P (dC, dI) classes [(oc7 sh (.ref fa) (nI ft)), (oq fa cF 200 (va_up FA ft (some fe))), (oc1 fe rk9 wd9 tw9 pa9 pb9 (.ref lo) (.ref lk) .null)] H := hP
    have hD : va_D A [(oc7 sh (.ref fa) (nI ft)), (oq fa cF 200 (va_up FA ft (some fe))), (oc1 fe rk9 wd9 tw9 pa9 pb9 (.ref lo) (.ref lk) .null)] := hD
    refine lv_aload_n hx hb dX8_add_19 rfl (lv_at hl 0 rfl) ?_
    refine lv_dup hx hb dX8_add_20 rfl ?_
    refine va_get (D := (dC, dI)) (ci := 7) (v := .int (nI ft)) (C := RX8) (T := TX8) (N := 2) hx hb hts inX8 hown hK hP 0 rfl rfl 1 (by decide) (hts _ mw_137) (fun _ h9 => h9) rfl dX8_add_21 ?_
    refine lv_iconst (v := 1) hx hb dX8_add_24 (by decide) ?_
    refine lv_iadd hx hb dX8_add_25 ?_
    refine zz_i (v := nI (ft + 1)) (nI_add ft 1) ?_
    refine va_put (D := (dC, dI)) (ci := 7) (v := .int (nI (ft + 1))) (ty := .int) (C := RX8) (T := TX8) (N := 2) hx hb hts inX8 tyX8 tyX8_ok nmX8 hown hK hP hD hS 0 rfl rfl 1 (by decide) (hts _ mw_137) (fun _ h9 => h9) rfl (by decide +kernel) rfl rfl (Nat.le_of_ble_eq_true rfl) dX8_add_26 (fun H locs hP hD hS => ?_)
    have hP : va_P (dC, dI) classes [(oc7 sh (.ref fa) (nI (ft + 1))), (oq fa cF 200 (va_up FA ft (some fe))), (oc1 fe rk9 wd9 tw9 pa9 pb9 (.ref lo) (.ref lk) .null)] H := hP
    have hD : va_D A [(oc7 sh (.ref fa) (nI (ft + 1))), (oq fa cF 200 (va_up FA ft (some fe))), (oc1 fe rk9 wd9 tw9 pa9 pb9 (.ref lo) (.ref lk) .null)] := hD
    refine lv_aload_n hx hb dX8_add_29 rfl (lv_at hl 0 rfl) ?_
    refine va_get (D := (dC, dI)) (ci := 7) (v := .int (nI (ft + 1))) (C := RX8) (T := TX8) (N := 2) hx hb hts inX8 hown hK hP 0 rfl rfl 1 (by decide) (hts _ mw_137) (fun _ h9 => h9) rfl dX8_add_30 ?_
    refine lv_iconst (v := 1) hx hb dX8_add_33 (by decide) ?_
    refine lv_isub hx hb dX8_add_34 ?_
    refine zz_i (v := nI ((ft + 1) - 1)) (pk_sub (a := ft + 1) (b := 1) (by omega)) ?_
    have hP9 := hP.sub (ws' := [(oc7 sh (.ref fa) (nI (ft + 1))), (oq fa cF 200 (va_up FA ft (some fe))), (oc1 fe rk9 wd9 tw9 pa9 pb9 (.ref lo) (.ref lk) .null)]) [0, 1, 2] rfl
    have hD9 := hD.sub (ws' := [(oc7 sh (.ref fa) (nI (ft + 1))), (oq fa cF 200 (va_up FA ft (some fe))), (oc1 fe rk9 wd9 tw9 pa9 pb9 (.ref lo) (.ref lk) .null)]) [0, 1, 2] (by decide) rfl
    rw [hQ9]
    exact W.iret (v := nI ((ft + 1) - 1)) hx hb hr (fun t ht hW => ⟨⟨congrArg (fun z => Outcome.returned (some (Value.int z))) (show (nI ((ft + 1) - 1) : Int32) = nI ft from zn_eq (by omega)), by rw [ht]; exact hP9, hD9⟩, hS.F ht⟩) hS.2.2 dX8_add_35
  · have c_1 : ft = 200 := zp_1 c_1
    exfalso; omega
set_option maxHeartbeats 4000000 in
set_option maxRecDepth 100000 in
theorem k_Sheet_removeLast (l : Launch) (dC : Nat → ClassId) (dI : Nat → Nat → Nat) (cI cZ cF : ClassId) (sz : Nat) (sh : Nat) (fa : Nat) (ft : Nat) (FA : Nat → Option Nat) (h200 : ft ≤ 200) (h1f : 1 ≤ ft) : Met l yX8_removeLast (.code yX8_removeLast cX8_removeLast 1 none :: ws0) ({ frames := 1, cells := 0, slots := 0, locals := 14 } : Room) (va_Pc [.ref sh] (zPre (dC, dI) classes (zTy cI cZ cF) [(oc7 sh (.ref fa) (nI ft)), (oq fa cF 200 FA)] sz zXN)) (zQ none (fun t => va_P (dC, dI) classes [(oc7 sh (.ref fa) (nI (ft - 1))), (oq fa cF 200 FA)] t.heap ∧ va_D (va_A [(oc7 sh (.ref fa) (nI ft)), (oq fa cF 200 FA)] sz) [(oc7 sh (.ref fa) (nI (ft - 1))), (oq fa cF 200 FA)]) (va_A [(oc7 sh (.ref fa) (nI ft)), (oq fa cF 200 FA)] sz)) 0 0 (va_A [(oc7 sh (.ref fa) (nI ft)), (oq fa cF 200 FA)] sz) := by
  refine Met.ofW (cc := cX8_removeLast) (maxL := 1) (ret := none) (by decide) rfl ?_
  intro p e s m args below meth c s₁ B hml hv
  obtain ⟨rfl, hsz, hP, hK, hD0, hXN⟩ := hv
  have hx := B.exec
  have hb := B.bytes
  have hr := B.returns
  have hts0 := atoms_spec (ws := .code yX8_removeLast cX8_removeLast 1 none :: ws0) B.pre
  have hts : ∀ w9 ∈ ws0, w9.before ([.ref sh] : List Value).toArray s = true := fun w9 h => hts0 w9 (List.mem_cons_of_mem _ h)
  have hown : s.vm.findClass "ScaleShop$Sheet" = some m.cls := findClass_of_methodNamed B.named
  have hlocks := B.notSynchronized
  subst hsz
  have hD := hD0.self (sz := s.heap.size)
  clear hD0
  generalize hAe : va_A [(oc7 sh (.ref fa) (nI ft)), (oq fa cF 200 FA)] s.heap.size = A at hD ⊢
  have hA : ∀ q : Nat, s.heap.size ≤ q → A q := fun q h => by rw [← hAe]; exact Or.inr h
  clear hAe
  have hS : va_S A s.heap s.heap [] := va_S.rf
  have hP : va_P (dC, dI) classes [(oc7 sh (.ref fa) (nI ft)), (oq fa cF 200 FA)] s.heap := hP
  obtain ⟨Q9, hQ9⟩ : ∃ Q9 : State → Prop, Q9 = MQ below (zQ none (fun t => va_P (dC, dI) classes [(oc7 sh (.ref fa) (nI (ft - 1))), (oq fa cF 200 FA)] t.heap ∧ va_D A [(oc7 sh (.ref fa) (nI (ft - 1))), (oq fa cF 200 FA)]) A) ([.ref sh] : List Value).toArray s 0 0 A := ⟨_, rfl⟩
  rw [← hQ9]
  have hl := lv_entry ([.ref sh]) (n := 1) (Nat.le_of_ble_eq_true rfl)
  rw [lg_entry_eq]
  generalize (lg_sl ([.ref sh]) ++ List.replicate (1 - (lg_sl ([.ref sh])).length) Slot.unset).toArray = ls at hl ⊢
  have hl : lv_has ls 1 [(0, .ref sh)] := hl
  refine lv_aload_n hx hb dX8_removeLast_0 rfl (lv_at hl 0 rfl) ?_
  refine lv_aload_n hx hb dX8_removeLast_1 rfl (lv_at hl 0 rfl) ?_
  refine va_get (D := (dC, dI)) (ci := 7) (v := .int (nI ft)) (C := RX8) (T := TX8) (N := 2) hx hb hts inX8 hown hK hP 0 rfl rfl 1 (by decide) (hts _ mw_137) (fun _ h9 => h9) rfl dX8_removeLast_2 ?_
  refine lv_iconst (v := 1) hx hb dX8_removeLast_5 (by decide) ?_
  refine lv_isub hx hb dX8_removeLast_6 ?_
  refine zz_i (v := nI (ft - 1)) (pk_sub (a := ft) (b := 1) (by omega)) ?_
  refine lv_iconst (v := 0) hx hb dX8_removeLast_7 (by decide) ?_
  refine va_mmax hx hb (by rw [hml]; exact hl.1.symm) hown (hts _ mw_1048) (hts _ mw_159) (hts _ mw_103) (hts _ mw_maxcode) (Nat.le_of_ble_eq_true rfl) (Nat.le_of_ble_eq_true rfl) (Nat.le_of_ble_eq_true rfl) (Nat.le_of_ble_eq_true rfl) dX8_removeLast_8 ?_
  refine lv_topi (fun v_1 ev_1 => ?_)
  have hv_1 : v_1.toInt = max ((ft - 1 : Nat) : Int) 0 := zmax (nI_toInt (by omega)) (by decide) ev_1
  refine zz_i (v := nI (ft - 1)) (Int32.toInt_inj.mp (by rw [hv_1, nI_toInt (by omega)]; omega)) ?_
  refine va_put (D := (dC, dI)) (ci := 7) (v := .int (nI (ft - 1))) (ty := .int) (C := RX8) (T := TX8) (N := 2) hx hb hts inX8 tyX8 tyX8_ok nmX8 hown hK hP hD hS 0 rfl rfl 1 (by decide) (hts _ mw_137) (fun _ h9 => h9) rfl (by decide +kernel) rfl rfl (Nat.le_of_ble_eq_true rfl) dX8_removeLast_11 (fun H locs hP hD hS => ?_)
  have hP : va_P (dC, dI) classes [(oc7 sh (.ref fa) (nI (ft - 1))), (oq fa cF 200 FA)] H := hP
  have hD : va_D A [(oc7 sh (.ref fa) (nI (ft - 1))), (oq fa cF 200 FA)] := hD
  have hP9 := hP.sub (ws' := [(oc7 sh (.ref fa) (nI (ft - 1))), (oq fa cF 200 FA)]) [0, 1] rfl
  have hD9 := hD.sub (ws' := [(oc7 sh (.ref fa) (nI (ft - 1))), (oq fa cF 200 FA)]) [0, 1] (by decide) rfl
  rw [hQ9]
  exact W.vret hx hb hr (fun t ht hW => ⟨⟨rfl, by rw [ht]; exact hP9, hD9⟩, hS.F ht⟩) hS.2.2 dX8_removeLast_14
set_option maxHeartbeats 4000000 in
set_option maxRecDepth 100000 in
theorem k_Sheet_find_n (l : Launch) (dC : Nat → ClassId) (dI : Nat → Nat → Nat) (cI cZ cF : ClassId) (sz : Nat) (sh : Nat) (fa : Nat) (ft : Nat) (FA : Nat → Option Nat) (v : Int32) (h200 : ft ≤ 200) (hv : ¬ (0 ≤ v.toInt ∧ v.toInt < ((ft : Nat) : Int))) : Met l yX8_find (.code yX8_find cX8_find 2 (some (.object "ScaleShop$Feature")) :: ws0) ({ frames := 0, cells := 0, slots := 0, locals := 0 } : Room) (va_Pc [.ref sh, .int v] (zPre (dC, dI) classes (zTy cI cZ cF) [(oc7 sh (.ref fa) (nI ft)), (oq fa cF 200 FA)] sz zXN)) (zQ (some (.null)) (fun t => va_P (dC, dI) classes [(oc7 sh (.ref fa) (nI ft)), (oq fa cF 200 FA)] t.heap ∧ va_D (va_A [(oc7 sh (.ref fa) (nI ft)), (oq fa cF 200 FA)] sz) [(oc7 sh (.ref fa) (nI ft)), (oq fa cF 200 FA)]) (va_A [(oc7 sh (.ref fa) (nI ft)), (oq fa cF 200 FA)] sz)) 0 0 (va_A [(oc7 sh (.ref fa) (nI ft)), (oq fa cF 200 FA)] sz) := by
  refine Met.ofW (cc := cX8_find) (maxL := 2) (ret := (some (.object "ScaleShop$Feature"))) (by decide) rfl ?_
  intro p e s m args below meth c s₁ B hml hv
  obtain ⟨rfl, hsz, hP, hK, hD0, hXN⟩ := hv
  have hx := B.exec
  have hb := B.bytes
  have hr := B.returns
  have hts0 := atoms_spec (ws := .code yX8_find cX8_find 2 (some (.object "ScaleShop$Feature")) :: ws0) B.pre
  have hts : ∀ w9 ∈ ws0, w9.before ([.ref sh, .int v] : List Value).toArray s = true := fun w9 h => hts0 w9 (List.mem_cons_of_mem _ h)
  have hown : s.vm.findClass "ScaleShop$Sheet" = some m.cls := findClass_of_methodNamed B.named
  have hlocks := B.notSynchronized
  subst hsz
  have hD := hD0.self (sz := s.heap.size)
  clear hD0
  generalize hAe : va_A [(oc7 sh (.ref fa) (nI ft)), (oq fa cF 200 FA)] s.heap.size = A at hD ⊢
  have hA : ∀ q : Nat, s.heap.size ≤ q → A q := fun q h => by rw [← hAe]; exact Or.inr h
  clear hAe
  have hS : va_S A s.heap s.heap [] := va_S.rf
  have hP : va_P (dC, dI) classes [(oc7 sh (.ref fa) (nI ft)), (oq fa cF 200 FA)] s.heap := hP
  obtain ⟨Q9, hQ9⟩ : ∃ Q9 : State → Prop, Q9 = MQ below (zQ (some (.null)) (fun t => va_P (dC, dI) classes [(oc7 sh (.ref fa) (nI ft)), (oq fa cF 200 FA)] t.heap ∧ va_D A [(oc7 sh (.ref fa) (nI ft)), (oq fa cF 200 FA)]) A) ([.ref sh, .int v] : List Value).toArray s 0 0 A := ⟨_, rfl⟩
  rw [← hQ9]
  have hl := lv_entry ([.ref sh, .int v]) (n := 2) (Nat.le_of_ble_eq_true rfl)
  rw [lg_entry_eq]
  generalize (lg_sl ([.ref sh, .int v]) ++ List.replicate (2 - (lg_sl ([.ref sh, .int v])).length) Slot.unset).toArray = ls at hl ⊢
  have hl : lv_has ls 2 [(0, .ref sh), (1, .int v)] := hl
  refine lv_iload_n hx hb dX8_find_0 rfl (lv_at hl 1 rfl) ?_
  refine lv_if_lt (tgt := 21) hx hb dX8_find_1 (by decide) (fun c_1 => ?_) (fun c_1 => ?_)
  · have c_1 : v.toInt < 0 := zc_lt rfl (by decide) c_1
    refine lv_null hx hb dX8_find_21 ?_
    have hP9 := hP.sub (ws' := [(oc7 sh (.ref fa) (nI ft)), (oq fa cF 200 FA)]) [0, 1] rfl
    have hD9 := hD.sub (ws' := [(oc7 sh (.ref fa) (nI ft)), (oq fa cF 200 FA)]) [0, 1] (by decide) rfl
    rw [hQ9]
    exact W.aret hx hb hr (Or.inl ⟨_, rfl⟩) (Or.inl rfl) (fun t ht hW => ⟨⟨rfl, by rw [ht]; exact hP9, hD9⟩, hS.F ht⟩) hS.2.2 dX8_find_22
  · have c_1 : 0 ≤ v.toInt := zc_nlt rfl (by decide) c_1
    refine lv_iload_n hx hb dX8_find_4 rfl (lv_at hl 1 rfl) ?_
    refine lv_aload_n hx hb dX8_find_5 rfl (lv_at hl 0 rfl) ?_
    refine va_get (D := (dC, dI)) (ci := 7) (v := .int (nI ft)) (C := RX8) (T := TX8) (N := 2) hx hb hts inX8 hown hK hP 0 rfl rfl 1 (by decide) (hts _ mw_137) (fun _ h9 => h9) rfl dX8_find_6 ?_
    refine lv_icmp_ge (tgt := 21) hx hb dX8_find_9 (by decide) (fun c_2 => ?_) (fun c_2 => ?_)
    · have c_2 : ((ft : Nat) : Int) ≤ v.toInt := zc_le (nI_toInt (by omega)) rfl c_2
      refine lv_null hx hb dX8_find_21 ?_
      have hP9 := hP.sub (ws' := [(oc7 sh (.ref fa) (nI ft)), (oq fa cF 200 FA)]) [0, 1] rfl
      have hD9 := hD.sub (ws' := [(oc7 sh (.ref fa) (nI ft)), (oq fa cF 200 FA)]) [0, 1] (by decide) rfl
      rw [hQ9]
      exact W.aret hx hb hr (Or.inl ⟨_, rfl⟩) (Or.inl rfl) (fun t ht hW => ⟨⟨rfl, by rw [ht]; exact hP9, hD9⟩, hS.F ht⟩) hS.2.2 dX8_find_22
    · have c_2 : v.toInt < ((ft : Nat) : Int) := zc_nle (nI_toInt (by omega)) rfl c_2
      exfalso; omega
set_option maxHeartbeats 4000000 in
set_option maxRecDepth 100000 in
theorem k_Sheet_find (l : Launch) (dC : Nat → ClassId) (dI : Nat → Nat → Nat) (cI cZ cF : ClassId) (sz : Nat) (sh : Nat) (fa : Nat) (ft : Nat) (FA : Nat → Option Nat) (i : Nat) (fe : Nat) (h200 : ft ≤ 200) (hi : i < ft) (hFA : FA i = some fe) : Met l yX8_find (.code yX8_find cX8_find 2 (some (.object "ScaleShop$Feature")) :: ws0) ({ frames := 0, cells := 0, slots := 0, locals := 0 } : Room) (va_Pc [.ref sh, .int (nI i)] (zPre (dC, dI) classes (zTy cI cZ cF) [(oc7 sh (.ref fa) (nI ft)), (oq fa cF 200 FA)] sz zXN)) (zQ (some (.ref fe)) (fun t => va_P (dC, dI) classes [(oc7 sh (.ref fa) (nI ft)), (oq fa cF 200 FA)] t.heap ∧ va_D (va_A [(oc7 sh (.ref fa) (nI ft)), (oq fa cF 200 FA)] sz) [(oc7 sh (.ref fa) (nI ft)), (oq fa cF 200 FA)]) (va_A [(oc7 sh (.ref fa) (nI ft)), (oq fa cF 200 FA)] sz)) 0 0 (va_A [(oc7 sh (.ref fa) (nI ft)), (oq fa cF 200 FA)] sz) := by
  refine Met.ofW (cc := cX8_find) (maxL := 2) (ret := (some (.object "ScaleShop$Feature"))) (by decide) rfl ?_
  intro p e s m args below meth c s₁ B hml hv
  obtain ⟨rfl, hsz, hP, hK, hD0, hXN⟩ := hv
  have hx := B.exec
  have hb := B.bytes
  have hr := B.returns
  have hts0 := atoms_spec (ws := .code yX8_find cX8_find 2 (some (.object "ScaleShop$Feature")) :: ws0) B.pre
  have hts : ∀ w9 ∈ ws0, w9.before ([.ref sh, .int (nI i)] : List Value).toArray s = true := fun w9 h => hts0 w9 (List.mem_cons_of_mem _ h)
  have hown : s.vm.findClass "ScaleShop$Sheet" = some m.cls := findClass_of_methodNamed B.named
  have hlocks := B.notSynchronized
  subst hsz
  have hD := hD0.self (sz := s.heap.size)
  clear hD0
  generalize hAe : va_A [(oc7 sh (.ref fa) (nI ft)), (oq fa cF 200 FA)] s.heap.size = A at hD ⊢
  have hA : ∀ q : Nat, s.heap.size ≤ q → A q := fun q h => by rw [← hAe]; exact Or.inr h
  clear hAe
  have hS : va_S A s.heap s.heap [] := va_S.rf
  have hP : va_P (dC, dI) classes [(oc7 sh (.ref fa) (nI ft)), (oq fa cF 200 FA)] s.heap := hP
  obtain ⟨Q9, hQ9⟩ : ∃ Q9 : State → Prop, Q9 = MQ below (zQ (some (.ref fe)) (fun t => va_P (dC, dI) classes [(oc7 sh (.ref fa) (nI ft)), (oq fa cF 200 FA)] t.heap ∧ va_D A [(oc7 sh (.ref fa) (nI ft)), (oq fa cF 200 FA)]) A) ([.ref sh, .int (nI i)] : List Value).toArray s 0 0 A := ⟨_, rfl⟩
  rw [← hQ9]
  have hl := lv_entry ([.ref sh, .int (nI i)]) (n := 2) (Nat.le_of_ble_eq_true rfl)
  rw [lg_entry_eq]
  generalize (lg_sl ([.ref sh, .int (nI i)]) ++ List.replicate (2 - (lg_sl ([.ref sh, .int (nI i)])).length) Slot.unset).toArray = ls at hl ⊢
  have hl : lv_has ls 2 [(0, .ref sh), (1, .int (nI i))] := hl
  refine lv_iload_n hx hb dX8_find_0 rfl (lv_at hl 1 rfl) ?_
  refine lv_if_lt (tgt := 21) hx hb dX8_find_1 (by decide) (fun c_1 => ?_) (fun c_1 => ?_)
  · have c_1 : ((i : Nat) : Int) < 0 := zc_lt (nI_toInt (by omega)) (by decide) c_1
    exfalso; omega
  · have c_1 : 0 ≤ ((i : Nat) : Int) := zc_nlt (nI_toInt (by omega)) (by decide) c_1
    refine lv_iload_n hx hb dX8_find_4 rfl (lv_at hl 1 rfl) ?_
    refine lv_aload_n hx hb dX8_find_5 rfl (lv_at hl 0 rfl) ?_
    refine va_get (D := (dC, dI)) (ci := 7) (v := .int (nI ft)) (C := RX8) (T := TX8) (N := 2) hx hb hts inX8 hown hK hP 0 rfl rfl 1 (by decide) (hts _ mw_137) (fun _ h9 => h9) rfl dX8_find_6 ?_
    refine lv_icmp_ge (tgt := 21) hx hb dX8_find_9 (by decide) (fun c_2 => ?_) (fun c_2 => ?_)
    · have c_2 : ((ft : Nat) : Int) ≤ ((i : Nat) : Int) := zc_le (nI_toInt (by omega)) (nI_toInt (by omega)) c_2
      exfalso; omega
    · have c_2 : ((i : Nat) : Int) < ((ft : Nat) : Int) := zc_nle (nI_toInt (by omega)) (nI_toInt (by omega)) c_2
      refine lv_aload_n hx hb dX8_find_12 rfl (lv_at hl 0 rfl) ?_
      refine va_get (D := (dC, dI)) (ci := 7) (v := .ref fa) (C := RX8) (T := TX8) (N := 2) hx hb hts inX8 hown hK hP 0 rfl rfl 0 (by decide) (hts _ mw_136) (fun _ h9 => h9) rfl dX8_find_13 ?_
      refine lv_iload_n hx hb dX8_find_16 rfl (lv_at hl 1 rfl) ?_
      refine z_aald hx hb hK hP 1 2 rfl rfl (e := i) rfl (by omega) (by omega) (v := .ref fe) (by rw [hFA]; rfl) dX8_find_17 ?_
      refine lv_goto (tgt := 22) hx hb dX8_find_18 (by decide) ?_
      have hP9 := hP.sub (ws' := [(oc7 sh (.ref fa) (nI ft)), (oq fa cF 200 FA)]) [0, 1] rfl
      have hD9 := hD.sub (ws' := [(oc7 sh (.ref fa) (nI ft)), (oq fa cF 200 FA)]) [0, 1] (by decide) rfl
      rw [hQ9]
      exact W.aret hx hb hr (Or.inl ⟨_, rfl⟩) (Or.inr ⟨_, rfl⟩) (fun t ht hW => ⟨⟨rfl, by rw [ht]; exact hP9, hD9⟩, hS.F ht⟩) hS.2.2 dX8_find_22
set_option maxHeartbeats 4000000 in
set_option maxRecDepth 100000 in
theorem k_Sheet_rowThere_x (l : Launch) (dC : Nat → ClassId) (dI : Nat → Nat → Nat) (cI cZ cF : ClassId) (sz : Nat) (sh : Nat) (fa : Nat) (ft : Nat) (FA : Nat → Option Nat) (v : Int32) (h200 : ft ≤ 200) (hv : ¬ (0 ≤ v.toInt ∧ v.toInt < ((ft : Nat) : Int))) : Met l yX8_rowThere (.code yX8_rowThere cX8_rowThere 3 (some (.object "ScaleShop$Row")) :: ws0) ({ frames := 1, cells := 0, slots := 0, locals := 21 } : Room) (va_Pc [.ref sh, .int v] (zPre (dC, dI) classes (zTy cI cZ cF) [(oc7 sh (.ref fa) (nI ft)), (oq fa cF 200 FA)] sz zXN)) (zQ (some (.null)) (fun t => va_P (dC, dI) classes [(oc7 sh (.ref fa) (nI ft)), (oq fa cF 200 FA)] t.heap ∧ va_D (va_A [(oc7 sh (.ref fa) (nI ft)), (oq fa cF 200 FA)] sz) [(oc7 sh (.ref fa) (nI ft)), (oq fa cF 200 FA)]) (va_A [(oc7 sh (.ref fa) (nI ft)), (oq fa cF 200 FA)] sz)) 0 0 (va_A [(oc7 sh (.ref fa) (nI ft)), (oq fa cF 200 FA)] sz) := by
  refine Met.ofW (cc := cX8_rowThere) (maxL := 3) (ret := (some (.object "ScaleShop$Row"))) (by decide) rfl ?_
  intro p e s m args below meth c s₁ B hml hv
  obtain ⟨rfl, hsz, hP, hK, hD0, hXN⟩ := hv
  have hx := B.exec
  have hb := B.bytes
  have hr := B.returns
  have hts0 := atoms_spec (ws := .code yX8_rowThere cX8_rowThere 3 (some (.object "ScaleShop$Row")) :: ws0) B.pre
  have hts : ∀ w9 ∈ ws0, w9.before ([.ref sh, .int v] : List Value).toArray s = true := fun w9 h => hts0 w9 (List.mem_cons_of_mem _ h)
  have hown : s.vm.findClass "ScaleShop$Sheet" = some m.cls := findClass_of_methodNamed B.named
  have hlocks := B.notSynchronized
  subst hsz
  have hD := hD0.self (sz := s.heap.size)
  clear hD0
  generalize hAe : va_A [(oc7 sh (.ref fa) (nI ft)), (oq fa cF 200 FA)] s.heap.size = A at hD ⊢
  have hA : ∀ q : Nat, s.heap.size ≤ q → A q := fun q h => by rw [← hAe]; exact Or.inr h
  clear hAe
  have hS : va_S A s.heap s.heap [] := va_S.rf
  have hP : va_P (dC, dI) classes [(oc7 sh (.ref fa) (nI ft)), (oq fa cF 200 FA)] s.heap := hP
  obtain ⟨Q9, hQ9⟩ : ∃ Q9 : State → Prop, Q9 = MQ below (zQ (some (.null)) (fun t => va_P (dC, dI) classes [(oc7 sh (.ref fa) (nI ft)), (oq fa cF 200 FA)] t.heap ∧ va_D A [(oc7 sh (.ref fa) (nI ft)), (oq fa cF 200 FA)]) A) ([.ref sh, .int v] : List Value).toArray s 0 0 A := ⟨_, rfl⟩
  rw [← hQ9]
  have hl := lv_entry ([.ref sh, .int v]) (n := 3) (Nat.le_of_ble_eq_true rfl)
  rw [lg_entry_eq]
  generalize (lg_sl ([.ref sh, .int v]) ++ List.replicate (3 - (lg_sl ([.ref sh, .int v])).length) Slot.unset).toArray = ls at hl ⊢
  have hl : lv_has ls 3 [(0, .ref sh), (1, .int v)] := hl
  refine lv_aload_n hx hb dX8_rowThere_0 rfl (lv_at hl 0 rfl) ?_
  refine lv_iload_n hx hb dX8_rowThere_1 rfl (lv_at hl 1 rfl) ?_
  have hPc := hP.sub (ws' := [(oc7 sh (.ref fa) (nI ft)), (oq fa cF 200 FA)]) [0, 1] rfl
  have hDc := hD.sub (ws' := [(oc7 sh (.ref fa) (nI ft)), (oq fa cF 200 FA)]) [0, 1] (by decide) rfl
  have hFc := va_free (wc := [(oc7 sh (.ref fa) (nI ft)), (oq fa cF 200 FA)]) hD hS hA [0, 1] rfl
  refine zcall (st1 := [.null]) (va_runV (As := [.int v]) (rest := []) ⟨hx, hb, hml, hown, hts⟩ (k_Sheet_find_n l dC dI cI cZ cF s.heap.size sh fa ft FA v (by omega) (by assumption)) (cwV 1 hts (zz_gV mw_616 mw_499 mw_500 mw_100 mc_yX8_find) rfl rfl rfl (by decide +kernel) ⟨Nat.le_of_ble_eq_true rfl, Nat.le_of_ble_eq_true rfl⟩) (zPV2 (q0 := 0) (ci := 7) hPc hDc hK hXN rfl rfl) rfl rfl hl.1 rfl (lv_room (Nat.le_of_ble_eq_true rfl)) dX8_rowThere_2 ⟨Nat.le_of_ble_eq_true rfl, Nat.le_of_ble_eq_true rfl⟩) hS hFc hFc rfl (fun t H1 locs ht hB hk1 hS => ?_)
  obtain ⟨hP1, hD1⟩ := hB
  rw [ht] at hP1
  obtain ⟨hP, hD⟩ := va_join (wr := []) (w1 := [(oc7 sh (.ref fa) (nI ft)), (oq fa cF 200 FA)]) hP hD [0, 1] [] rfl rfl (by decide) (by decide) hk1 hFc hP1 hD1
  clear hk1 hPc hDc hFc hP1 hD1 ht
  generalize H1 = H at hP hS ⊢
  have hP : va_P (dC, dI) classes [(oc7 sh (.ref fa) (nI ft)), (oq fa cF 200 FA)] H := hP
  have hD : va_D A [(oc7 sh (.ref fa) (nI ft)), (oq fa cF 200 FA)] := hD
  refine lv_astore_nN (lv' := [(2, .null), (0, .ref sh), (1, .int v)]) hx hb dX8_rowThere_5 rfl hl (by decide) rfl (fun ls hl => ?_)
  refine lv_aload_nN hx hb dX8_rowThere_6 rfl (lv_at hl 0 rfl) ?_
  refine lv_ifnullN (tgt := 31) hx hb dX8_rowThere_7 (by decide) ?_
  refine lv_null hx hb dX8_rowThere_31 ?_
  have hP9 := hP.sub (ws' := [(oc7 sh (.ref fa) (nI ft)), (oq fa cF 200 FA)]) [0, 1] rfl
  have hD9 := hD.sub (ws' := [(oc7 sh (.ref fa) (nI ft)), (oq fa cF 200 FA)]) [0, 1] (by decide) rfl
  rw [hQ9]
  exact W.aret hx hb hr (Or.inl ⟨_, rfl⟩) (Or.inl rfl) (fun t ht hW => ⟨⟨rfl, by rw [ht]; exact hP9, hD9⟩, hS.F ht⟩) hS.2.2 dX8_rowThere_32
set_option maxHeartbeats 4000000 in
set_option maxRecDepth 100000 in
theorem k_Sheet_rowThere_y (l : Launch) (dC : Nat → ClassId) (dI : Nat → Nat → Nat) (cI cZ cF : ClassId) (sz : Nat) (sh : Nat) (fa : Nat) (ft : Nat) (FA : Nat → Option Nat) (i : Nat) (fe : Nat) (lo : Nat) (rk9 : Int32) (wd9 : Int32) (tw9 : Int32) (pa9 : Int32) (pb9 : Int32) (lk : Nat) (kd9 : Int32) (st9 : Int32) (gb9 : Int32) (jt9 : Int32) (we9 : Int32) (r : Nat) (h200 : ft ≤ 200) (hi : i < ft) (hFA : FA i = some fe) (hs1 : st9.toInt = 1) : Met l yX8_rowThere (.code yX8_rowThere cX8_rowThere 3 (some (.object "ScaleShop$Row")) :: ws0) ({ frames := 1, cells := 0, slots := 0, locals := 21 } : Room) (va_Pc [.ref sh, .int (nI i)] (zPre (dC, dI) classes (zTy cI cZ cF) [(oc7 sh (.ref fa) (nI ft)), (oq fa cF 200 FA), (oc1 fe rk9 wd9 tw9 pa9 pb9 (.ref lo) (.ref lk) .null), (oc4 lk kd9 st9 (.ref r) gb9 jt9 we9)] sz zXN)) (zQ (some (.ref r)) (fun t => va_P (dC, dI) classes [(oc7 sh (.ref fa) (nI ft)), (oq fa cF 200 FA), (oc1 fe rk9 wd9 tw9 pa9 pb9 (.ref lo) (.ref lk) .null), (oc4 lk kd9 st9 (.ref r) gb9 jt9 we9)] t.heap ∧ va_D (va_A [(oc7 sh (.ref fa) (nI ft)), (oq fa cF 200 FA), (oc1 fe rk9 wd9 tw9 pa9 pb9 (.ref lo) (.ref lk) .null), (oc4 lk kd9 st9 (.ref r) gb9 jt9 we9)] sz) [(oc7 sh (.ref fa) (nI ft)), (oq fa cF 200 FA), (oc1 fe rk9 wd9 tw9 pa9 pb9 (.ref lo) (.ref lk) .null), (oc4 lk kd9 st9 (.ref r) gb9 jt9 we9)]) (va_A [(oc7 sh (.ref fa) (nI ft)), (oq fa cF 200 FA), (oc1 fe rk9 wd9 tw9 pa9 pb9 (.ref lo) (.ref lk) .null), (oc4 lk kd9 st9 (.ref r) gb9 jt9 we9)] sz)) 0 0 (va_A [(oc7 sh (.ref fa) (nI ft)), (oq fa cF 200 FA), (oc1 fe rk9 wd9 tw9 pa9 pb9 (.ref lo) (.ref lk) .null), (oc4 lk kd9 st9 (.ref r) gb9 jt9 we9)] sz) := by
  refine Met.ofW (cc := cX8_rowThere) (maxL := 3) (ret := (some (.object "ScaleShop$Row"))) (by decide) rfl ?_
  intro p e s m args below meth c s₁ B hml hv
  obtain ⟨rfl, hsz, hP, hK, hD0, hXN⟩ := hv
  have hx := B.exec
  have hb := B.bytes
  have hr := B.returns
  have hts0 := atoms_spec (ws := .code yX8_rowThere cX8_rowThere 3 (some (.object "ScaleShop$Row")) :: ws0) B.pre
  have hts : ∀ w9 ∈ ws0, w9.before ([.ref sh, .int (nI i)] : List Value).toArray s = true := fun w9 h => hts0 w9 (List.mem_cons_of_mem _ h)
  have hown : s.vm.findClass "ScaleShop$Sheet" = some m.cls := findClass_of_methodNamed B.named
  have hlocks := B.notSynchronized
  subst hsz
  have hD := hD0.self (sz := s.heap.size)
  clear hD0
  generalize hAe : va_A [(oc7 sh (.ref fa) (nI ft)), (oq fa cF 200 FA), (oc1 fe rk9 wd9 tw9 pa9 pb9 (.ref lo) (.ref lk) .null), (oc4 lk kd9 st9 (.ref r) gb9 jt9 we9)] s.heap.size = A at hD ⊢
  have hA : ∀ q : Nat, s.heap.size ≤ q → A q := fun q h => by rw [← hAe]; exact Or.inr h
  clear hAe
  have hS : va_S A s.heap s.heap [] := va_S.rf
  have hP : va_P (dC, dI) classes [(oc7 sh (.ref fa) (nI ft)), (oq fa cF 200 FA), (oc1 fe rk9 wd9 tw9 pa9 pb9 (.ref lo) (.ref lk) .null), (oc4 lk kd9 st9 (.ref r) gb9 jt9 we9)] s.heap := hP
  obtain ⟨Q9, hQ9⟩ : ∃ Q9 : State → Prop, Q9 = MQ below (zQ (some (.ref r)) (fun t => va_P (dC, dI) classes [(oc7 sh (.ref fa) (nI ft)), (oq fa cF 200 FA), (oc1 fe rk9 wd9 tw9 pa9 pb9 (.ref lo) (.ref lk) .null), (oc4 lk kd9 st9 (.ref r) gb9 jt9 we9)] t.heap ∧ va_D A [(oc7 sh (.ref fa) (nI ft)), (oq fa cF 200 FA), (oc1 fe rk9 wd9 tw9 pa9 pb9 (.ref lo) (.ref lk) .null), (oc4 lk kd9 st9 (.ref r) gb9 jt9 we9)]) A) ([.ref sh, .int (nI i)] : List Value).toArray s 0 0 A := ⟨_, rfl⟩
  rw [← hQ9]
  have hl := lv_entry ([.ref sh, .int (nI i)]) (n := 3) (Nat.le_of_ble_eq_true rfl)
  rw [lg_entry_eq]
  generalize (lg_sl ([.ref sh, .int (nI i)]) ++ List.replicate (3 - (lg_sl ([.ref sh, .int (nI i)])).length) Slot.unset).toArray = ls at hl ⊢
  have hl : lv_has ls 3 [(0, .ref sh), (1, .int (nI i))] := hl
  refine lv_aload_n hx hb dX8_rowThere_0 rfl (lv_at hl 0 rfl) ?_
  refine lv_iload_n hx hb dX8_rowThere_1 rfl (lv_at hl 1 rfl) ?_
  have hPc := hP.sub (ws' := [(oc7 sh (.ref fa) (nI ft)), (oq fa cF 200 FA)]) [0, 1] rfl
  have hDc := hD.sub (ws' := [(oc7 sh (.ref fa) (nI ft)), (oq fa cF 200 FA)]) [0, 1] (by decide) rfl
  have hFc := va_free (wc := [(oc7 sh (.ref fa) (nI ft)), (oq fa cF 200 FA)]) hD hS hA [0, 1] rfl
  refine zcall (st1 := [.ref fe]) (va_runV (As := [.int (nI i)]) (rest := []) ⟨hx, hb, hml, hown, hts⟩ (k_Sheet_find l dC dI cI cZ cF s.heap.size sh fa ft FA i fe (by omega) (by omega) (hFA)) (cwV 1 hts (zz_gV mw_616 mw_499 mw_500 mw_100 mc_yX8_find) rfl rfl rfl (by decide +kernel) ⟨Nat.le_of_ble_eq_true rfl, Nat.le_of_ble_eq_true rfl⟩) (zPV2 (q0 := 0) (ci := 7) hPc hDc hK hXN rfl rfl) rfl rfl hl.1 rfl (lv_room (Nat.le_of_ble_eq_true rfl)) dX8_rowThere_2 ⟨Nat.le_of_ble_eq_true rfl, Nat.le_of_ble_eq_true rfl⟩) hS hFc hFc rfl (fun t H1 locs ht hB hk1 hS => ?_)
  obtain ⟨hP1, hD1⟩ := hB
  rw [ht] at hP1
  obtain ⟨hP, hD⟩ := va_join (wr := [(oc1 fe rk9 wd9 tw9 pa9 pb9 (.ref lo) (.ref lk) .null), (oc4 lk kd9 st9 (.ref r) gb9 jt9 we9)]) (w1 := [(oc7 sh (.ref fa) (nI ft)), (oq fa cF 200 FA)]) hP hD [0, 1] [2, 3] rfl rfl (by decide) (by decide) hk1 hFc hP1 hD1
  clear hk1 hPc hDc hFc hP1 hD1 ht
  generalize H1 = H at hP hS ⊢
  have hP := hP.sub (ws' := [(oc7 sh (.ref fa) (nI ft)), (oq fa cF 200 FA), (oc1 fe rk9 wd9 tw9 pa9 pb9 (.ref lo) (.ref lk) .null), (oc4 lk kd9 st9 (.ref r) gb9 jt9 we9)]) [2, 3, 0, 1] rfl
  have hD := hD.sub (ws' := [(oc7 sh (.ref fa) (nI ft)), (oq fa cF 200 FA), (oc1 fe rk9 wd9 tw9 pa9 pb9 (.ref lo) (.ref lk) .null), (oc4 lk kd9 st9 (.ref r) gb9 jt9 we9)]) [2, 3, 0, 1] (by decide) rfl
  have hP : va_P (dC, dI) classes [(oc7 sh (.ref fa) (nI ft)), (oq fa cF 200 FA), (oc1 fe rk9 wd9 tw9 pa9 pb9 (.ref lo) (.ref lk) .null), (oc4 lk kd9 st9 (.ref r) gb9 jt9 we9)] H := hP
  have hD : va_D A [(oc7 sh (.ref fa) (nI ft)), (oq fa cF 200 FA), (oc1 fe rk9 wd9 tw9 pa9 pb9 (.ref lo) (.ref lk) .null), (oc4 lk kd9 st9 (.ref r) gb9 jt9 we9)] := hD
  refine lv_astore_n (lv' := [(2, .ref fe), (0, .ref sh), (1, .int (nI i))]) hx hb dX8_rowThere_5 rfl hl (by decide) rfl (fun ls hl => ?_)
  refine lv_aload_n hx hb dX8_rowThere_6 rfl (lv_at hl 0 rfl) ?_
  refine lv_ifnull hx hb dX8_rowThere_7 ?_
  refine lv_aload_n hx hb dX8_rowThere_10 rfl (lv_at hl 0 rfl) ?_
  refine va_get (D := (dC, dI)) (ci := 1) (v := .ref lk) (C := RX2) (T := TX2) (N := 8) hx hb hts inX2 hown hK hP 2 rfl rfl 6 (by decide) (hts _ mw_434) (fun _ h9 => h9) rfl dX8_rowThere_11 ?_
  refine va_get (D := (dC, dI)) (ci := 4) (v := .int st9) (C := RX5) (T := TX5) (N := 6) hx hb hts inX5 hown hK hP 3 rfl rfl 1 (by decide) (hts _ mw_387) (fun _ h9 => h9) rfl dX8_rowThere_14 ?_
  refine lv_iconst (v := 1) hx hb dX8_rowThere_17 (by decide) ?_
  refine lv_icmp_ne (tgt := 31) hx hb dX8_rowThere_18 (by decide) (fun c_1 => ?_) (fun c_1 => ?_)
  · have c_1 : ¬ st9.toInt = 1 := zc_ne rfl (by decide) c_1
    exfalso; omega
  · have c_1 : st9.toInt = 1 := zc_eq rfl (by decide) c_1
    refine lv_aload_n hx hb dX8_rowThere_21 rfl (lv_at hl 0 rfl) ?_
    refine va_get (D := (dC, dI)) (ci := 1) (v := .ref lk) (C := RX2) (T := TX2) (N := 8) hx hb hts inX2 hown hK hP 2 rfl rfl 6 (by decide) (hts _ mw_434) (fun _ h9 => h9) rfl dX8_rowThere_22 ?_
    refine va_get (D := (dC, dI)) (ci := 4) (v := .ref r) (C := RX5) (T := TX5) (N := 6) hx hb hts inX5 hown hK hP 3 rfl rfl 2 (by decide) (hts _ mw_393) (fun _ h9 => h9) rfl dX8_rowThere_25 ?_
    refine lv_goto (tgt := 32) hx hb dX8_rowThere_28 (by decide) ?_
    have hP9 := hP.sub (ws' := [(oc7 sh (.ref fa) (nI ft)), (oq fa cF 200 FA), (oc1 fe rk9 wd9 tw9 pa9 pb9 (.ref lo) (.ref lk) .null), (oc4 lk kd9 st9 (.ref r) gb9 jt9 we9)]) [0, 1, 2, 3] rfl
    have hD9 := hD.sub (ws' := [(oc7 sh (.ref fa) (nI ft)), (oq fa cF 200 FA), (oc1 fe rk9 wd9 tw9 pa9 pb9 (.ref lo) (.ref lk) .null), (oc4 lk kd9 st9 (.ref r) gb9 jt9 we9)]) [0, 1, 2, 3] (by decide) rfl
    rw [hQ9]
    exact W.aret hx hb hr (Or.inl ⟨_, rfl⟩) (Or.inr ⟨_, rfl⟩) (fun t ht hW => ⟨⟨rfl, by rw [ht]; exact hP9, hD9⟩, hS.F ht⟩) hS.2.2 dX8_rowThere_32
set_option maxHeartbeats 4000000 in
set_option maxRecDepth 100000 in
theorem k_Sheet_rowThere_s (l : Launch) (dC : Nat → ClassId) (dI : Nat → Nat → Nat) (cI cZ cF : ClassId) (sz : Nat) (sh : Nat) (fa : Nat) (ft : Nat) (FA : Nat → Option Nat) (i : Nat) (fe : Nat) (lo : Nat) (rk9 : Int32) (wd9 : Int32) (tw9 : Int32) (pa9 : Int32) (pb9 : Int32) (lk : Nat) (kd9 : Int32) (st9 : Int32) (gb9 : Int32) (jt9 : Int32) (we9 : Int32) (r : Nat) (h200 : ft ≤ 200) (hi : i < ft) (hFA : FA i = some fe) (hs1 : ¬ st9.toInt = 1) : Met l yX8_rowThere (.code yX8_rowThere cX8_rowThere 3 (some (.object "ScaleShop$Row")) :: ws0) ({ frames := 1, cells := 0, slots := 0, locals := 21 } : Room) (va_Pc [.ref sh, .int (nI i)] (zPre (dC, dI) classes (zTy cI cZ cF) [(oc7 sh (.ref fa) (nI ft)), (oq fa cF 200 FA), (oc1 fe rk9 wd9 tw9 pa9 pb9 (.ref lo) (.ref lk) .null), (oc4 lk kd9 st9 (.ref r) gb9 jt9 we9)] sz zXN)) (zQ (some (.null)) (fun t => va_P (dC, dI) classes [(oc7 sh (.ref fa) (nI ft)), (oq fa cF 200 FA), (oc1 fe rk9 wd9 tw9 pa9 pb9 (.ref lo) (.ref lk) .null), (oc4 lk kd9 st9 (.ref r) gb9 jt9 we9)] t.heap ∧ va_D (va_A [(oc7 sh (.ref fa) (nI ft)), (oq fa cF 200 FA), (oc1 fe rk9 wd9 tw9 pa9 pb9 (.ref lo) (.ref lk) .null), (oc4 lk kd9 st9 (.ref r) gb9 jt9 we9)] sz) [(oc7 sh (.ref fa) (nI ft)), (oq fa cF 200 FA), (oc1 fe rk9 wd9 tw9 pa9 pb9 (.ref lo) (.ref lk) .null), (oc4 lk kd9 st9 (.ref r) gb9 jt9 we9)]) (va_A [(oc7 sh (.ref fa) (nI ft)), (oq fa cF 200 FA), (oc1 fe rk9 wd9 tw9 pa9 pb9 (.ref lo) (.ref lk) .null), (oc4 lk kd9 st9 (.ref r) gb9 jt9 we9)] sz)) 0 0 (va_A [(oc7 sh (.ref fa) (nI ft)), (oq fa cF 200 FA), (oc1 fe rk9 wd9 tw9 pa9 pb9 (.ref lo) (.ref lk) .null), (oc4 lk kd9 st9 (.ref r) gb9 jt9 we9)] sz) := by
  refine Met.ofW (cc := cX8_rowThere) (maxL := 3) (ret := (some (.object "ScaleShop$Row"))) (by decide) rfl ?_
  intro p e s m args below meth c s₁ B hml hv
  obtain ⟨rfl, hsz, hP, hK, hD0, hXN⟩ := hv
  have hx := B.exec
  have hb := B.bytes
  have hr := B.returns
  have hts0 := atoms_spec (ws := .code yX8_rowThere cX8_rowThere 3 (some (.object "ScaleShop$Row")) :: ws0) B.pre
  have hts : ∀ w9 ∈ ws0, w9.before ([.ref sh, .int (nI i)] : List Value).toArray s = true := fun w9 h => hts0 w9 (List.mem_cons_of_mem _ h)
  have hown : s.vm.findClass "ScaleShop$Sheet" = some m.cls := findClass_of_methodNamed B.named
  have hlocks := B.notSynchronized
  subst hsz
  have hD := hD0.self (sz := s.heap.size)
  clear hD0
  generalize hAe : va_A [(oc7 sh (.ref fa) (nI ft)), (oq fa cF 200 FA), (oc1 fe rk9 wd9 tw9 pa9 pb9 (.ref lo) (.ref lk) .null), (oc4 lk kd9 st9 (.ref r) gb9 jt9 we9)] s.heap.size = A at hD ⊢
  have hA : ∀ q : Nat, s.heap.size ≤ q → A q := fun q h => by rw [← hAe]; exact Or.inr h
  clear hAe
  have hS : va_S A s.heap s.heap [] := va_S.rf
  have hP : va_P (dC, dI) classes [(oc7 sh (.ref fa) (nI ft)), (oq fa cF 200 FA), (oc1 fe rk9 wd9 tw9 pa9 pb9 (.ref lo) (.ref lk) .null), (oc4 lk kd9 st9 (.ref r) gb9 jt9 we9)] s.heap := hP
  obtain ⟨Q9, hQ9⟩ : ∃ Q9 : State → Prop, Q9 = MQ below (zQ (some (.null)) (fun t => va_P (dC, dI) classes [(oc7 sh (.ref fa) (nI ft)), (oq fa cF 200 FA), (oc1 fe rk9 wd9 tw9 pa9 pb9 (.ref lo) (.ref lk) .null), (oc4 lk kd9 st9 (.ref r) gb9 jt9 we9)] t.heap ∧ va_D A [(oc7 sh (.ref fa) (nI ft)), (oq fa cF 200 FA), (oc1 fe rk9 wd9 tw9 pa9 pb9 (.ref lo) (.ref lk) .null), (oc4 lk kd9 st9 (.ref r) gb9 jt9 we9)]) A) ([.ref sh, .int (nI i)] : List Value).toArray s 0 0 A := ⟨_, rfl⟩
  rw [← hQ9]
  have hl := lv_entry ([.ref sh, .int (nI i)]) (n := 3) (Nat.le_of_ble_eq_true rfl)
  rw [lg_entry_eq]
  generalize (lg_sl ([.ref sh, .int (nI i)]) ++ List.replicate (3 - (lg_sl ([.ref sh, .int (nI i)])).length) Slot.unset).toArray = ls at hl ⊢
  have hl : lv_has ls 3 [(0, .ref sh), (1, .int (nI i))] := hl
  refine lv_aload_n hx hb dX8_rowThere_0 rfl (lv_at hl 0 rfl) ?_
  refine lv_iload_n hx hb dX8_rowThere_1 rfl (lv_at hl 1 rfl) ?_
  have hPc := hP.sub (ws' := [(oc7 sh (.ref fa) (nI ft)), (oq fa cF 200 FA)]) [0, 1] rfl
  have hDc := hD.sub (ws' := [(oc7 sh (.ref fa) (nI ft)), (oq fa cF 200 FA)]) [0, 1] (by decide) rfl
  have hFc := va_free (wc := [(oc7 sh (.ref fa) (nI ft)), (oq fa cF 200 FA)]) hD hS hA [0, 1] rfl
  refine zcall (st1 := [.ref fe]) (va_runV (As := [.int (nI i)]) (rest := []) ⟨hx, hb, hml, hown, hts⟩ (k_Sheet_find l dC dI cI cZ cF s.heap.size sh fa ft FA i fe (by omega) (by omega) (hFA)) (cwV 1 hts (zz_gV mw_616 mw_499 mw_500 mw_100 mc_yX8_find) rfl rfl rfl (by decide +kernel) ⟨Nat.le_of_ble_eq_true rfl, Nat.le_of_ble_eq_true rfl⟩) (zPV2 (q0 := 0) (ci := 7) hPc hDc hK hXN rfl rfl) rfl rfl hl.1 rfl (lv_room (Nat.le_of_ble_eq_true rfl)) dX8_rowThere_2 ⟨Nat.le_of_ble_eq_true rfl, Nat.le_of_ble_eq_true rfl⟩) hS hFc hFc rfl (fun t H1 locs ht hB hk1 hS => ?_)
  obtain ⟨hP1, hD1⟩ := hB
  rw [ht] at hP1
  obtain ⟨hP, hD⟩ := va_join (wr := [(oc1 fe rk9 wd9 tw9 pa9 pb9 (.ref lo) (.ref lk) .null), (oc4 lk kd9 st9 (.ref r) gb9 jt9 we9)]) (w1 := [(oc7 sh (.ref fa) (nI ft)), (oq fa cF 200 FA)]) hP hD [0, 1] [2, 3] rfl rfl (by decide) (by decide) hk1 hFc hP1 hD1
  clear hk1 hPc hDc hFc hP1 hD1 ht
  generalize H1 = H at hP hS ⊢
  have hP := hP.sub (ws' := [(oc7 sh (.ref fa) (nI ft)), (oq fa cF 200 FA), (oc1 fe rk9 wd9 tw9 pa9 pb9 (.ref lo) (.ref lk) .null), (oc4 lk kd9 st9 (.ref r) gb9 jt9 we9)]) [2, 3, 0, 1] rfl
  have hD := hD.sub (ws' := [(oc7 sh (.ref fa) (nI ft)), (oq fa cF 200 FA), (oc1 fe rk9 wd9 tw9 pa9 pb9 (.ref lo) (.ref lk) .null), (oc4 lk kd9 st9 (.ref r) gb9 jt9 we9)]) [2, 3, 0, 1] (by decide) rfl
  have hP : va_P (dC, dI) classes [(oc7 sh (.ref fa) (nI ft)), (oq fa cF 200 FA), (oc1 fe rk9 wd9 tw9 pa9 pb9 (.ref lo) (.ref lk) .null), (oc4 lk kd9 st9 (.ref r) gb9 jt9 we9)] H := hP
  have hD : va_D A [(oc7 sh (.ref fa) (nI ft)), (oq fa cF 200 FA), (oc1 fe rk9 wd9 tw9 pa9 pb9 (.ref lo) (.ref lk) .null), (oc4 lk kd9 st9 (.ref r) gb9 jt9 we9)] := hD
  refine lv_astore_n (lv' := [(2, .ref fe), (0, .ref sh), (1, .int (nI i))]) hx hb dX8_rowThere_5 rfl hl (by decide) rfl (fun ls hl => ?_)
  refine lv_aload_n hx hb dX8_rowThere_6 rfl (lv_at hl 0 rfl) ?_
  refine lv_ifnull hx hb dX8_rowThere_7 ?_
  refine lv_aload_n hx hb dX8_rowThere_10 rfl (lv_at hl 0 rfl) ?_
  refine va_get (D := (dC, dI)) (ci := 1) (v := .ref lk) (C := RX2) (T := TX2) (N := 8) hx hb hts inX2 hown hK hP 2 rfl rfl 6 (by decide) (hts _ mw_434) (fun _ h9 => h9) rfl dX8_rowThere_11 ?_
  refine va_get (D := (dC, dI)) (ci := 4) (v := .int st9) (C := RX5) (T := TX5) (N := 6) hx hb hts inX5 hown hK hP 3 rfl rfl 1 (by decide) (hts _ mw_387) (fun _ h9 => h9) rfl dX8_rowThere_14 ?_
  refine lv_iconst (v := 1) hx hb dX8_rowThere_17 (by decide) ?_
  refine lv_icmp_ne (tgt := 31) hx hb dX8_rowThere_18 (by decide) (fun c_1 => ?_) (fun c_1 => ?_)
  · have c_1 : ¬ st9.toInt = 1 := zc_ne rfl (by decide) c_1
    refine lv_null hx hb dX8_rowThere_31 ?_
    have hP9 := hP.sub (ws' := [(oc7 sh (.ref fa) (nI ft)), (oq fa cF 200 FA), (oc1 fe rk9 wd9 tw9 pa9 pb9 (.ref lo) (.ref lk) .null), (oc4 lk kd9 st9 (.ref r) gb9 jt9 we9)]) [0, 1, 2, 3] rfl
    have hD9 := hD.sub (ws' := [(oc7 sh (.ref fa) (nI ft)), (oq fa cF 200 FA), (oc1 fe rk9 wd9 tw9 pa9 pb9 (.ref lo) (.ref lk) .null), (oc4 lk kd9 st9 (.ref r) gb9 jt9 we9)]) [0, 1, 2, 3] (by decide) rfl
    rw [hQ9]
    exact W.aret hx hb hr (Or.inl ⟨_, rfl⟩) (Or.inl rfl) (fun t ht hW => ⟨⟨rfl, by rw [ht]; exact hP9, hD9⟩, hS.F ht⟩) hS.2.2 dX8_rowThere_32
  · have c_1 : st9.toInt = 1 := zc_eq rfl (by decide) c_1
    exfalso; omega
set_option maxHeartbeats 4000000 in
set_option maxRecDepth 100000 in
theorem k_Sheet_rowThere_t (l : Launch) (dC : Nat → ClassId) (dI : Nat → Nat → Nat) (cI cZ cF : ClassId) (sz : Nat) (sh : Nat) (fa : Nat) (ft : Nat) (FA : Nat → Option Nat) (i : Nat) (fe : Nat) (lo : Nat) (rk9 : Int32) (wd9 : Int32) (tw9 : Int32) (pa9 : Int32) (pb9 : Int32) (lk : Nat) (kd9 : Int32) (st9 : Int32) (gb9 : Int32) (jt9 : Int32) (we9 : Int32) (h200 : ft ≤ 200) (hi : i < ft) (hFA : FA i = some fe) : Met l yX8_rowThere (.code yX8_rowThere cX8_rowThere 3 (some (.object "ScaleShop$Row")) :: ws0) ({ frames := 1, cells := 0, slots := 0, locals := 21 } : Room) (va_Pc [.ref sh, .int (nI i)] (zPre (dC, dI) classes (zTy cI cZ cF) [(oc7 sh (.ref fa) (nI ft)), (oq fa cF 200 FA), (oc1 fe rk9 wd9 tw9 pa9 pb9 (.ref lo) (.ref lk) .null), (oc4 lk kd9 st9 .null gb9 jt9 we9)] sz zXN)) (zQ (some (.null)) (fun t => va_P (dC, dI) classes [(oc7 sh (.ref fa) (nI ft)), (oq fa cF 200 FA), (oc1 fe rk9 wd9 tw9 pa9 pb9 (.ref lo) (.ref lk) .null), (oc4 lk kd9 st9 .null gb9 jt9 we9)] t.heap ∧ va_D (va_A [(oc7 sh (.ref fa) (nI ft)), (oq fa cF 200 FA), (oc1 fe rk9 wd9 tw9 pa9 pb9 (.ref lo) (.ref lk) .null), (oc4 lk kd9 st9 .null gb9 jt9 we9)] sz) [(oc7 sh (.ref fa) (nI ft)), (oq fa cF 200 FA), (oc1 fe rk9 wd9 tw9 pa9 pb9 (.ref lo) (.ref lk) .null), (oc4 lk kd9 st9 .null gb9 jt9 we9)]) (va_A [(oc7 sh (.ref fa) (nI ft)), (oq fa cF 200 FA), (oc1 fe rk9 wd9 tw9 pa9 pb9 (.ref lo) (.ref lk) .null), (oc4 lk kd9 st9 .null gb9 jt9 we9)] sz)) 0 0 (va_A [(oc7 sh (.ref fa) (nI ft)), (oq fa cF 200 FA), (oc1 fe rk9 wd9 tw9 pa9 pb9 (.ref lo) (.ref lk) .null), (oc4 lk kd9 st9 .null gb9 jt9 we9)] sz) := by
  refine Met.ofW (cc := cX8_rowThere) (maxL := 3) (ret := (some (.object "ScaleShop$Row"))) (by decide) rfl ?_
  intro p e s m args below meth c s₁ B hml hv
  obtain ⟨rfl, hsz, hP, hK, hD0, hXN⟩ := hv
  have hx := B.exec
  have hb := B.bytes
  have hr := B.returns
  have hts0 := atoms_spec (ws := .code yX8_rowThere cX8_rowThere 3 (some (.object "ScaleShop$Row")) :: ws0) B.pre
  have hts : ∀ w9 ∈ ws0, w9.before ([.ref sh, .int (nI i)] : List Value).toArray s = true := fun w9 h => hts0 w9 (List.mem_cons_of_mem _ h)
  have hown : s.vm.findClass "ScaleShop$Sheet" = some m.cls := findClass_of_methodNamed B.named
  have hlocks := B.notSynchronized
  subst hsz
  have hD := hD0.self (sz := s.heap.size)
  clear hD0
  generalize hAe : va_A [(oc7 sh (.ref fa) (nI ft)), (oq fa cF 200 FA), (oc1 fe rk9 wd9 tw9 pa9 pb9 (.ref lo) (.ref lk) .null), (oc4 lk kd9 st9 .null gb9 jt9 we9)] s.heap.size = A at hD ⊢
  have hA : ∀ q : Nat, s.heap.size ≤ q → A q := fun q h => by rw [← hAe]; exact Or.inr h
  clear hAe
  have hS : va_S A s.heap s.heap [] := va_S.rf
  have hP : va_P (dC, dI) classes [(oc7 sh (.ref fa) (nI ft)), (oq fa cF 200 FA), (oc1 fe rk9 wd9 tw9 pa9 pb9 (.ref lo) (.ref lk) .null), (oc4 lk kd9 st9 .null gb9 jt9 we9)] s.heap := hP
  obtain ⟨Q9, hQ9⟩ : ∃ Q9 : State → Prop, Q9 = MQ below (zQ (some (.null)) (fun t => va_P (dC, dI) classes [(oc7 sh (.ref fa) (nI ft)), (oq fa cF 200 FA), (oc1 fe rk9 wd9 tw9 pa9 pb9 (.ref lo) (.ref lk) .null), (oc4 lk kd9 st9 .null gb9 jt9 we9)] t.heap ∧ va_D A [(oc7 sh (.ref fa) (nI ft)), (oq fa cF 200 FA), (oc1 fe rk9 wd9 tw9 pa9 pb9 (.ref lo) (.ref lk) .null), (oc4 lk kd9 st9 .null gb9 jt9 we9)]) A) ([.ref sh, .int (nI i)] : List Value).toArray s 0 0 A := ⟨_, rfl⟩
  rw [← hQ9]
  have hl := lv_entry ([.ref sh, .int (nI i)]) (n := 3) (Nat.le_of_ble_eq_true rfl)
  rw [lg_entry_eq]
  generalize (lg_sl ([.ref sh, .int (nI i)]) ++ List.replicate (3 - (lg_sl ([.ref sh, .int (nI i)])).length) Slot.unset).toArray = ls at hl ⊢
  have hl : lv_has ls 3 [(0, .ref sh), (1, .int (nI i))] := hl
  refine lv_aload_n hx hb dX8_rowThere_0 rfl (lv_at hl 0 rfl) ?_
  refine lv_iload_n hx hb dX8_rowThere_1 rfl (lv_at hl 1 rfl) ?_
  have hPc := hP.sub (ws' := [(oc7 sh (.ref fa) (nI ft)), (oq fa cF 200 FA)]) [0, 1] rfl
  have hDc := hD.sub (ws' := [(oc7 sh (.ref fa) (nI ft)), (oq fa cF 200 FA)]) [0, 1] (by decide) rfl
  have hFc := va_free (wc := [(oc7 sh (.ref fa) (nI ft)), (oq fa cF 200 FA)]) hD hS hA [0, 1] rfl
  refine zcall (st1 := [.ref fe]) (va_runV (As := [.int (nI i)]) (rest := []) ⟨hx, hb, hml, hown, hts⟩ (k_Sheet_find l dC dI cI cZ cF s.heap.size sh fa ft FA i fe (by omega) (by omega) (hFA)) (cwV 1 hts (zz_gV mw_616 mw_499 mw_500 mw_100 mc_yX8_find) rfl rfl rfl (by decide +kernel) ⟨Nat.le_of_ble_eq_true rfl, Nat.le_of_ble_eq_true rfl⟩) (zPV2 (q0 := 0) (ci := 7) hPc hDc hK hXN rfl rfl) rfl rfl hl.1 rfl (lv_room (Nat.le_of_ble_eq_true rfl)) dX8_rowThere_2 ⟨Nat.le_of_ble_eq_true rfl, Nat.le_of_ble_eq_true rfl⟩) hS hFc hFc rfl (fun t H1 locs ht hB hk1 hS => ?_)
  obtain ⟨hP1, hD1⟩ := hB
  rw [ht] at hP1
  obtain ⟨hP, hD⟩ := va_join (wr := [(oc1 fe rk9 wd9 tw9 pa9 pb9 (.ref lo) (.ref lk) .null), (oc4 lk kd9 st9 .null gb9 jt9 we9)]) (w1 := [(oc7 sh (.ref fa) (nI ft)), (oq fa cF 200 FA)]) hP hD [0, 1] [2, 3] rfl rfl (by decide) (by decide) hk1 hFc hP1 hD1
  clear hk1 hPc hDc hFc hP1 hD1 ht
  generalize H1 = H at hP hS ⊢
  have hP := hP.sub (ws' := [(oc7 sh (.ref fa) (nI ft)), (oq fa cF 200 FA), (oc1 fe rk9 wd9 tw9 pa9 pb9 (.ref lo) (.ref lk) .null), (oc4 lk kd9 st9 .null gb9 jt9 we9)]) [2, 3, 0, 1] rfl
  have hD := hD.sub (ws' := [(oc7 sh (.ref fa) (nI ft)), (oq fa cF 200 FA), (oc1 fe rk9 wd9 tw9 pa9 pb9 (.ref lo) (.ref lk) .null), (oc4 lk kd9 st9 .null gb9 jt9 we9)]) [2, 3, 0, 1] (by decide) rfl
  have hP : va_P (dC, dI) classes [(oc7 sh (.ref fa) (nI ft)), (oq fa cF 200 FA), (oc1 fe rk9 wd9 tw9 pa9 pb9 (.ref lo) (.ref lk) .null), (oc4 lk kd9 st9 .null gb9 jt9 we9)] H := hP
  have hD : va_D A [(oc7 sh (.ref fa) (nI ft)), (oq fa cF 200 FA), (oc1 fe rk9 wd9 tw9 pa9 pb9 (.ref lo) (.ref lk) .null), (oc4 lk kd9 st9 .null gb9 jt9 we9)] := hD
  refine lv_astore_n (lv' := [(2, .ref fe), (0, .ref sh), (1, .int (nI i))]) hx hb dX8_rowThere_5 rfl hl (by decide) rfl (fun ls hl => ?_)
  refine lv_aload_n hx hb dX8_rowThere_6 rfl (lv_at hl 0 rfl) ?_
  refine lv_ifnull hx hb dX8_rowThere_7 ?_
  refine lv_aload_n hx hb dX8_rowThere_10 rfl (lv_at hl 0 rfl) ?_
  refine va_get (D := (dC, dI)) (ci := 1) (v := .ref lk) (C := RX2) (T := TX2) (N := 8) hx hb hts inX2 hown hK hP 2 rfl rfl 6 (by decide) (hts _ mw_434) (fun _ h9 => h9) rfl dX8_rowThere_11 ?_
  refine va_get (D := (dC, dI)) (ci := 4) (v := .int st9) (C := RX5) (T := TX5) (N := 6) hx hb hts inX5 hown hK hP 3 rfl rfl 1 (by decide) (hts _ mw_387) (fun _ h9 => h9) rfl dX8_rowThere_14 ?_
  refine lv_iconst (v := 1) hx hb dX8_rowThere_17 (by decide) ?_
  refine lv_icmp_ne (tgt := 31) hx hb dX8_rowThere_18 (by decide) (fun c_1 => ?_) (fun c_1 => ?_)
  · have c_1 : ¬ st9.toInt = 1 := zc_ne rfl (by decide) c_1
    refine lv_null hx hb dX8_rowThere_31 ?_
    have hP9 := hP.sub (ws' := [(oc7 sh (.ref fa) (nI ft)), (oq fa cF 200 FA), (oc1 fe rk9 wd9 tw9 pa9 pb9 (.ref lo) (.ref lk) .null), (oc4 lk kd9 st9 .null gb9 jt9 we9)]) [0, 1, 2, 3] rfl
    have hD9 := hD.sub (ws' := [(oc7 sh (.ref fa) (nI ft)), (oq fa cF 200 FA), (oc1 fe rk9 wd9 tw9 pa9 pb9 (.ref lo) (.ref lk) .null), (oc4 lk kd9 st9 .null gb9 jt9 we9)]) [0, 1, 2, 3] (by decide) rfl
    rw [hQ9]
    exact W.aret hx hb hr (Or.inl ⟨_, rfl⟩) (Or.inl rfl) (fun t ht hW => ⟨⟨rfl, by rw [ht]; exact hP9, hD9⟩, hS.F ht⟩) hS.2.2 dX8_rowThere_32
  · have c_1 : st9.toInt = 1 := zc_eq rfl (by decide) c_1
    refine lv_aload_n hx hb dX8_rowThere_21 rfl (lv_at hl 0 rfl) ?_
    refine va_get (D := (dC, dI)) (ci := 1) (v := .ref lk) (C := RX2) (T := TX2) (N := 8) hx hb hts inX2 hown hK hP 2 rfl rfl 6 (by decide) (hts _ mw_434) (fun _ h9 => h9) rfl dX8_rowThere_22 ?_
    refine va_get (D := (dC, dI)) (ci := 4) (v := .null) (C := RX5) (T := TX5) (N := 6) hx hb hts inX5 hown hK hP 3 rfl rfl 2 (by decide) (hts _ mw_393) (fun _ h9 => h9) rfl dX8_rowThere_25 ?_
    refine lv_goto (tgt := 32) hx hb dX8_rowThere_28 (by decide) ?_
    have hP9 := hP.sub (ws' := [(oc7 sh (.ref fa) (nI ft)), (oq fa cF 200 FA), (oc1 fe rk9 wd9 tw9 pa9 pb9 (.ref lo) (.ref lk) .null), (oc4 lk kd9 st9 .null gb9 jt9 we9)]) [0, 1, 2, 3] rfl
    have hD9 := hD.sub (ws' := [(oc7 sh (.ref fa) (nI ft)), (oq fa cF 200 FA), (oc1 fe rk9 wd9 tw9 pa9 pb9 (.ref lo) (.ref lk) .null), (oc4 lk kd9 st9 .null gb9 jt9 we9)]) [0, 1, 2, 3] (by decide) rfl
    rw [hQ9]
    exact W.aret hx hb hr (Or.inl ⟨_, rfl⟩) (Or.inl rfl) (fun t ht hW => ⟨⟨rfl, by rw [ht]; exact hP9, hD9⟩, hS.F ht⟩) hS.2.2 dX8_rowThere_32
set_option maxHeartbeats 4000000 in
set_option maxRecDepth 100000 in
theorem k_Sheet_rowThere_yf (l : Launch) (dC : Nat → ClassId) (dI : Nat → Nat → Nat) (cI cZ cF : ClassId) (sz : Nat) (sh : Nat) (fa : Nat) (ft : Nat) (FA : Nat → Option Nat) (i : Nat) (fe : Nat) (lo : Nat) (rk9 : Int32) (wd9 : Int32) (tw9 : Int32) (pa9 : Int32) (pb9 : Int32) (lk : Nat) (kd9 : Int32) (st9 : Int32) (gb9 : Int32) (jt9 : Int32) (we9 : Int32) (r : Nat) (fm : Nat) (h200 : ft ≤ 200) (hi : i < ft) (hFA : FA i = some fe) (hs1 : st9.toInt = 1) : Met l yX8_rowThere (.code yX8_rowThere cX8_rowThere 3 (some (.object "ScaleShop$Row")) :: ws0) ({ frames := 1, cells := 0, slots := 0, locals := 21 } : Room) (va_Pc [.ref sh, .int (nI i)] (zPre (dC, dI) classes (zTy cI cZ cF) [(oc7 sh (.ref fa) (nI ft)), (oq fa cF 200 FA), (oc1 fe rk9 wd9 tw9 pa9 pb9 (.ref lo) (.ref lk) (.ref fm)), (oc4 lk kd9 st9 (.ref r) gb9 jt9 we9)] sz zXN)) (zQ (some (.ref r)) (fun t => va_P (dC, dI) classes [(oc7 sh (.ref fa) (nI ft)), (oq fa cF 200 FA), (oc1 fe rk9 wd9 tw9 pa9 pb9 (.ref lo) (.ref lk) (.ref fm)), (oc4 lk kd9 st9 (.ref r) gb9 jt9 we9)] t.heap ∧ va_D (va_A [(oc7 sh (.ref fa) (nI ft)), (oq fa cF 200 FA), (oc1 fe rk9 wd9 tw9 pa9 pb9 (.ref lo) (.ref lk) (.ref fm)), (oc4 lk kd9 st9 (.ref r) gb9 jt9 we9)] sz) [(oc7 sh (.ref fa) (nI ft)), (oq fa cF 200 FA), (oc1 fe rk9 wd9 tw9 pa9 pb9 (.ref lo) (.ref lk) (.ref fm)), (oc4 lk kd9 st9 (.ref r) gb9 jt9 we9)]) (va_A [(oc7 sh (.ref fa) (nI ft)), (oq fa cF 200 FA), (oc1 fe rk9 wd9 tw9 pa9 pb9 (.ref lo) (.ref lk) (.ref fm)), (oc4 lk kd9 st9 (.ref r) gb9 jt9 we9)] sz)) 0 0 (va_A [(oc7 sh (.ref fa) (nI ft)), (oq fa cF 200 FA), (oc1 fe rk9 wd9 tw9 pa9 pb9 (.ref lo) (.ref lk) (.ref fm)), (oc4 lk kd9 st9 (.ref r) gb9 jt9 we9)] sz) := by
  refine Met.ofW (cc := cX8_rowThere) (maxL := 3) (ret := (some (.object "ScaleShop$Row"))) (by decide) rfl ?_
  intro p e s m args below meth c s₁ B hml hv
  obtain ⟨rfl, hsz, hP, hK, hD0, hXN⟩ := hv
  have hx := B.exec
  have hb := B.bytes
  have hr := B.returns
  have hts0 := atoms_spec (ws := .code yX8_rowThere cX8_rowThere 3 (some (.object "ScaleShop$Row")) :: ws0) B.pre
  have hts : ∀ w9 ∈ ws0, w9.before ([.ref sh, .int (nI i)] : List Value).toArray s = true := fun w9 h => hts0 w9 (List.mem_cons_of_mem _ h)
  have hown : s.vm.findClass "ScaleShop$Sheet" = some m.cls := findClass_of_methodNamed B.named
  have hlocks := B.notSynchronized
  subst hsz
  have hD := hD0.self (sz := s.heap.size)
  clear hD0
  generalize hAe : va_A [(oc7 sh (.ref fa) (nI ft)), (oq fa cF 200 FA), (oc1 fe rk9 wd9 tw9 pa9 pb9 (.ref lo) (.ref lk) (.ref fm)), (oc4 lk kd9 st9 (.ref r) gb9 jt9 we9)] s.heap.size = A at hD ⊢
  have hA : ∀ q : Nat, s.heap.size ≤ q → A q := fun q h => by rw [← hAe]; exact Or.inr h
  clear hAe
  have hS : va_S A s.heap s.heap [] := va_S.rf
  have hP : va_P (dC, dI) classes [(oc7 sh (.ref fa) (nI ft)), (oq fa cF 200 FA), (oc1 fe rk9 wd9 tw9 pa9 pb9 (.ref lo) (.ref lk) (.ref fm)), (oc4 lk kd9 st9 (.ref r) gb9 jt9 we9)] s.heap := hP
  obtain ⟨Q9, hQ9⟩ : ∃ Q9 : State → Prop, Q9 = MQ below (zQ (some (.ref r)) (fun t => va_P (dC, dI) classes [(oc7 sh (.ref fa) (nI ft)), (oq fa cF 200 FA), (oc1 fe rk9 wd9 tw9 pa9 pb9 (.ref lo) (.ref lk) (.ref fm)), (oc4 lk kd9 st9 (.ref r) gb9 jt9 we9)] t.heap ∧ va_D A [(oc7 sh (.ref fa) (nI ft)), (oq fa cF 200 FA), (oc1 fe rk9 wd9 tw9 pa9 pb9 (.ref lo) (.ref lk) (.ref fm)), (oc4 lk kd9 st9 (.ref r) gb9 jt9 we9)]) A) ([.ref sh, .int (nI i)] : List Value).toArray s 0 0 A := ⟨_, rfl⟩
  rw [← hQ9]
  have hl := lv_entry ([.ref sh, .int (nI i)]) (n := 3) (Nat.le_of_ble_eq_true rfl)
  rw [lg_entry_eq]
  generalize (lg_sl ([.ref sh, .int (nI i)]) ++ List.replicate (3 - (lg_sl ([.ref sh, .int (nI i)])).length) Slot.unset).toArray = ls at hl ⊢
  have hl : lv_has ls 3 [(0, .ref sh), (1, .int (nI i))] := hl
  refine lv_aload_n hx hb dX8_rowThere_0 rfl (lv_at hl 0 rfl) ?_
  refine lv_iload_n hx hb dX8_rowThere_1 rfl (lv_at hl 1 rfl) ?_
  have hPc := hP.sub (ws' := [(oc7 sh (.ref fa) (nI ft)), (oq fa cF 200 FA)]) [0, 1] rfl
  have hDc := hD.sub (ws' := [(oc7 sh (.ref fa) (nI ft)), (oq fa cF 200 FA)]) [0, 1] (by decide) rfl
  have hFc := va_free (wc := [(oc7 sh (.ref fa) (nI ft)), (oq fa cF 200 FA)]) hD hS hA [0, 1] rfl
  refine zcall (st1 := [.ref fe]) (va_runV (As := [.int (nI i)]) (rest := []) ⟨hx, hb, hml, hown, hts⟩ (k_Sheet_find l dC dI cI cZ cF s.heap.size sh fa ft FA i fe (by omega) (by omega) (hFA)) (cwV 1 hts (zz_gV mw_616 mw_499 mw_500 mw_100 mc_yX8_find) rfl rfl rfl (by decide +kernel) ⟨Nat.le_of_ble_eq_true rfl, Nat.le_of_ble_eq_true rfl⟩) (zPV2 (q0 := 0) (ci := 7) hPc hDc hK hXN rfl rfl) rfl rfl hl.1 rfl (lv_room (Nat.le_of_ble_eq_true rfl)) dX8_rowThere_2 ⟨Nat.le_of_ble_eq_true rfl, Nat.le_of_ble_eq_true rfl⟩) hS hFc hFc rfl (fun t H1 locs ht hB hk1 hS => ?_)
  obtain ⟨hP1, hD1⟩ := hB
  rw [ht] at hP1
  obtain ⟨hP, hD⟩ := va_join (wr := [(oc1 fe rk9 wd9 tw9 pa9 pb9 (.ref lo) (.ref lk) (.ref fm)), (oc4 lk kd9 st9 (.ref r) gb9 jt9 we9)]) (w1 := [(oc7 sh (.ref fa) (nI ft)), (oq fa cF 200 FA)]) hP hD [0, 1] [2, 3] rfl rfl (by decide) (by decide) hk1 hFc hP1 hD1
  clear hk1 hPc hDc hFc hP1 hD1 ht
  generalize H1 = H at hP hS ⊢
  have hP := hP.sub (ws' := [(oc7 sh (.ref fa) (nI ft)), (oq fa cF 200 FA), (oc1 fe rk9 wd9 tw9 pa9 pb9 (.ref lo) (.ref lk) (.ref fm)), (oc4 lk kd9 st9 (.ref r) gb9 jt9 we9)]) [2, 3, 0, 1] rfl
  have hD := hD.sub (ws' := [(oc7 sh (.ref fa) (nI ft)), (oq fa cF 200 FA), (oc1 fe rk9 wd9 tw9 pa9 pb9 (.ref lo) (.ref lk) (.ref fm)), (oc4 lk kd9 st9 (.ref r) gb9 jt9 we9)]) [2, 3, 0, 1] (by decide) rfl
  have hP : va_P (dC, dI) classes [(oc7 sh (.ref fa) (nI ft)), (oq fa cF 200 FA), (oc1 fe rk9 wd9 tw9 pa9 pb9 (.ref lo) (.ref lk) (.ref fm)), (oc4 lk kd9 st9 (.ref r) gb9 jt9 we9)] H := hP
  have hD : va_D A [(oc7 sh (.ref fa) (nI ft)), (oq fa cF 200 FA), (oc1 fe rk9 wd9 tw9 pa9 pb9 (.ref lo) (.ref lk) (.ref fm)), (oc4 lk kd9 st9 (.ref r) gb9 jt9 we9)] := hD
  refine lv_astore_n (lv' := [(2, .ref fe), (0, .ref sh), (1, .int (nI i))]) hx hb dX8_rowThere_5 rfl hl (by decide) rfl (fun ls hl => ?_)
  refine lv_aload_n hx hb dX8_rowThere_6 rfl (lv_at hl 0 rfl) ?_
  refine lv_ifnull hx hb dX8_rowThere_7 ?_
  refine lv_aload_n hx hb dX8_rowThere_10 rfl (lv_at hl 0 rfl) ?_
  refine va_get (D := (dC, dI)) (ci := 1) (v := .ref lk) (C := RX2) (T := TX2) (N := 8) hx hb hts inX2 hown hK hP 2 rfl rfl 6 (by decide) (hts _ mw_434) (fun _ h9 => h9) rfl dX8_rowThere_11 ?_
  refine va_get (D := (dC, dI)) (ci := 4) (v := .int st9) (C := RX5) (T := TX5) (N := 6) hx hb hts inX5 hown hK hP 3 rfl rfl 1 (by decide) (hts _ mw_387) (fun _ h9 => h9) rfl dX8_rowThere_14 ?_
  refine lv_iconst (v := 1) hx hb dX8_rowThere_17 (by decide) ?_
  refine lv_icmp_ne (tgt := 31) hx hb dX8_rowThere_18 (by decide) (fun c_1 => ?_) (fun c_1 => ?_)
  · have c_1 : ¬ st9.toInt = 1 := zc_ne rfl (by decide) c_1
    exfalso; omega
  · have c_1 : st9.toInt = 1 := zc_eq rfl (by decide) c_1
    refine lv_aload_n hx hb dX8_rowThere_21 rfl (lv_at hl 0 rfl) ?_
    refine va_get (D := (dC, dI)) (ci := 1) (v := .ref lk) (C := RX2) (T := TX2) (N := 8) hx hb hts inX2 hown hK hP 2 rfl rfl 6 (by decide) (hts _ mw_434) (fun _ h9 => h9) rfl dX8_rowThere_22 ?_
    refine va_get (D := (dC, dI)) (ci := 4) (v := .ref r) (C := RX5) (T := TX5) (N := 6) hx hb hts inX5 hown hK hP 3 rfl rfl 2 (by decide) (hts _ mw_393) (fun _ h9 => h9) rfl dX8_rowThere_25 ?_
    refine lv_goto (tgt := 32) hx hb dX8_rowThere_28 (by decide) ?_
    have hP9 := hP.sub (ws' := [(oc7 sh (.ref fa) (nI ft)), (oq fa cF 200 FA), (oc1 fe rk9 wd9 tw9 pa9 pb9 (.ref lo) (.ref lk) (.ref fm)), (oc4 lk kd9 st9 (.ref r) gb9 jt9 we9)]) [0, 1, 2, 3] rfl
    have hD9 := hD.sub (ws' := [(oc7 sh (.ref fa) (nI ft)), (oq fa cF 200 FA), (oc1 fe rk9 wd9 tw9 pa9 pb9 (.ref lo) (.ref lk) (.ref fm)), (oc4 lk kd9 st9 (.ref r) gb9 jt9 we9)]) [0, 1, 2, 3] (by decide) rfl
    rw [hQ9]
    exact W.aret hx hb hr (Or.inl ⟨_, rfl⟩) (Or.inr ⟨_, rfl⟩) (fun t ht hW => ⟨⟨rfl, by rw [ht]; exact hP9, hD9⟩, hS.F ht⟩) hS.2.2 dX8_rowThere_32
set_option maxHeartbeats 4000000 in
set_option maxRecDepth 100000 in
theorem k_Sheet_rowThere_sf (l : Launch) (dC : Nat → ClassId) (dI : Nat → Nat → Nat) (cI cZ cF : ClassId) (sz : Nat) (sh : Nat) (fa : Nat) (ft : Nat) (FA : Nat → Option Nat) (i : Nat) (fe : Nat) (lo : Nat) (rk9 : Int32) (wd9 : Int32) (tw9 : Int32) (pa9 : Int32) (pb9 : Int32) (lk : Nat) (kd9 : Int32) (st9 : Int32) (gb9 : Int32) (jt9 : Int32) (we9 : Int32) (r : Nat) (fm : Nat) (h200 : ft ≤ 200) (hi : i < ft) (hFA : FA i = some fe) (hs1 : ¬ st9.toInt = 1) : Met l yX8_rowThere (.code yX8_rowThere cX8_rowThere 3 (some (.object "ScaleShop$Row")) :: ws0) ({ frames := 1, cells := 0, slots := 0, locals := 21 } : Room) (va_Pc [.ref sh, .int (nI i)] (zPre (dC, dI) classes (zTy cI cZ cF) [(oc7 sh (.ref fa) (nI ft)), (oq fa cF 200 FA), (oc1 fe rk9 wd9 tw9 pa9 pb9 (.ref lo) (.ref lk) (.ref fm)), (oc4 lk kd9 st9 (.ref r) gb9 jt9 we9)] sz zXN)) (zQ (some (.null)) (fun t => va_P (dC, dI) classes [(oc7 sh (.ref fa) (nI ft)), (oq fa cF 200 FA), (oc1 fe rk9 wd9 tw9 pa9 pb9 (.ref lo) (.ref lk) (.ref fm)), (oc4 lk kd9 st9 (.ref r) gb9 jt9 we9)] t.heap ∧ va_D (va_A [(oc7 sh (.ref fa) (nI ft)), (oq fa cF 200 FA), (oc1 fe rk9 wd9 tw9 pa9 pb9 (.ref lo) (.ref lk) (.ref fm)), (oc4 lk kd9 st9 (.ref r) gb9 jt9 we9)] sz) [(oc7 sh (.ref fa) (nI ft)), (oq fa cF 200 FA), (oc1 fe rk9 wd9 tw9 pa9 pb9 (.ref lo) (.ref lk) (.ref fm)), (oc4 lk kd9 st9 (.ref r) gb9 jt9 we9)]) (va_A [(oc7 sh (.ref fa) (nI ft)), (oq fa cF 200 FA), (oc1 fe rk9 wd9 tw9 pa9 pb9 (.ref lo) (.ref lk) (.ref fm)), (oc4 lk kd9 st9 (.ref r) gb9 jt9 we9)] sz)) 0 0 (va_A [(oc7 sh (.ref fa) (nI ft)), (oq fa cF 200 FA), (oc1 fe rk9 wd9 tw9 pa9 pb9 (.ref lo) (.ref lk) (.ref fm)), (oc4 lk kd9 st9 (.ref r) gb9 jt9 we9)] sz) := by
  refine Met.ofW (cc := cX8_rowThere) (maxL := 3) (ret := (some (.object "ScaleShop$Row"))) (by decide) rfl ?_
  intro p e s m args below meth c s₁ B hml hv
  obtain ⟨rfl, hsz, hP, hK, hD0, hXN⟩ := hv
  have hx := B.exec
  have hb := B.bytes
  have hr := B.returns
  have hts0 := atoms_spec (ws := .code yX8_rowThere cX8_rowThere 3 (some (.object "ScaleShop$Row")) :: ws0) B.pre
  have hts : ∀ w9 ∈ ws0, w9.before ([.ref sh, .int (nI i)] : List Value).toArray s = true := fun w9 h => hts0 w9 (List.mem_cons_of_mem _ h)
  have hown : s.vm.findClass "ScaleShop$Sheet" = some m.cls := findClass_of_methodNamed B.named
  have hlocks := B.notSynchronized
  subst hsz
  have hD := hD0.self (sz := s.heap.size)
  clear hD0
  generalize hAe : va_A [(oc7 sh (.ref fa) (nI ft)), (oq fa cF 200 FA), (oc1 fe rk9 wd9 tw9 pa9 pb9 (.ref lo) (.ref lk) (.ref fm)), (oc4 lk kd9 st9 (.ref r) gb9 jt9 we9)] s.heap.size = A at hD ⊢
  have hA : ∀ q : Nat, s.heap.size ≤ q → A q := fun q h => by rw [← hAe]; exact Or.inr h
  clear hAe
  have hS : va_S A s.heap s.heap [] := va_S.rf
  have hP : va_P (dC, dI) classes [(oc7 sh (.ref fa) (nI ft)), (oq fa cF 200 FA), (oc1 fe rk9 wd9 tw9 pa9 pb9 (.ref lo) (.ref lk) (.ref fm)), (oc4 lk kd9 st9 (.ref r) gb9 jt9 we9)] s.heap := hP
  obtain ⟨Q9, hQ9⟩ : ∃ Q9 : State → Prop, Q9 = MQ below (zQ (some (.null)) (fun t => va_P (dC, dI) classes [(oc7 sh (.ref fa) (nI ft)), (oq fa cF 200 FA), (oc1 fe rk9 wd9 tw9 pa9 pb9 (.ref lo) (.ref lk) (.ref fm)), (oc4 lk kd9 st9 (.ref r) gb9 jt9 we9)] t.heap ∧ va_D A [(oc7 sh (.ref fa) (nI ft)), (oq fa cF 200 FA), (oc1 fe rk9 wd9 tw9 pa9 pb9 (.ref lo) (.ref lk) (.ref fm)), (oc4 lk kd9 st9 (.ref r) gb9 jt9 we9)]) A) ([.ref sh, .int (nI i)] : List Value).toArray s 0 0 A := ⟨_, rfl⟩
  rw [← hQ9]
  have hl := lv_entry ([.ref sh, .int (nI i)]) (n := 3) (Nat.le_of_ble_eq_true rfl)
  rw [lg_entry_eq]
  generalize (lg_sl ([.ref sh, .int (nI i)]) ++ List.replicate (3 - (lg_sl ([.ref sh, .int (nI i)])).length) Slot.unset).toArray = ls at hl ⊢
  have hl : lv_has ls 3 [(0, .ref sh), (1, .int (nI i))] := hl
  refine lv_aload_n hx hb dX8_rowThere_0 rfl (lv_at hl 0 rfl) ?_
  refine lv_iload_n hx hb dX8_rowThere_1 rfl (lv_at hl 1 rfl) ?_
  have hPc := hP.sub (ws' := [(oc7 sh (.ref fa) (nI ft)), (oq fa cF 200 FA)]) [0, 1] rfl
  have hDc := hD.sub (ws' := [(oc7 sh (.ref fa) (nI ft)), (oq fa cF 200 FA)]) [0, 1] (by decide) rfl
  have hFc := va_free (wc := [(oc7 sh (.ref fa) (nI ft)), (oq fa cF 200 FA)]) hD hS hA [0, 1] rfl
  refine zcall (st1 := [.ref fe]) (va_runV (As := [.int (nI i)]) (rest := []) ⟨hx, hb, hml, hown, hts⟩ (k_Sheet_find l dC dI cI cZ cF s.heap.size sh fa ft FA i fe (by omega) (by omega) (hFA)) (cwV 1 hts (zz_gV mw_616 mw_499 mw_500 mw_100 mc_yX8_find) rfl rfl rfl (by decide +kernel) ⟨Nat.le_of_ble_eq_true rfl, Nat.le_of_ble_eq_true rfl⟩) (zPV2 (q0 := 0) (ci := 7) hPc hDc hK hXN rfl rfl) rfl rfl hl.1 rfl (lv_room (Nat.le_of_ble_eq_true rfl)) dX8_rowThere_2 ⟨Nat.le_of_ble_eq_true rfl, Nat.le_of_ble_eq_true rfl⟩) hS hFc hFc rfl (fun t H1 locs ht hB hk1 hS => ?_)
  obtain ⟨hP1, hD1⟩ := hB
  rw [ht] at hP1
  obtain ⟨hP, hD⟩ := va_join (wr := [(oc1 fe rk9 wd9 tw9 pa9 pb9 (.ref lo) (.ref lk) (.ref fm)), (oc4 lk kd9 st9 (.ref r) gb9 jt9 we9)]) (w1 := [(oc7 sh (.ref fa) (nI ft)), (oq fa cF 200 FA)]) hP hD [0, 1] [2, 3] rfl rfl (by decide) (by decide) hk1 hFc hP1 hD1
  clear hk1 hPc hDc hFc hP1 hD1 ht
  generalize H1 = H at hP hS ⊢
  have hP := hP.sub (ws' := [(oc7 sh (.ref fa) (nI ft)), (oq fa cF 200 FA), (oc1 fe rk9 wd9 tw9 pa9 pb9 (.ref lo) (.ref lk) (.ref fm)), (oc4 lk kd9 st9 (.ref r) gb9 jt9 we9)]) [2, 3, 0, 1] rfl
  have hD := hD.sub (ws' := [(oc7 sh (.ref fa) (nI ft)), (oq fa cF 200 FA), (oc1 fe rk9 wd9 tw9 pa9 pb9 (.ref lo) (.ref lk) (.ref fm)), (oc4 lk kd9 st9 (.ref r) gb9 jt9 we9)]) [2, 3, 0, 1] (by decide) rfl
  have hP : va_P (dC, dI) classes [(oc7 sh (.ref fa) (nI ft)), (oq fa cF 200 FA), (oc1 fe rk9 wd9 tw9 pa9 pb9 (.ref lo) (.ref lk) (.ref fm)), (oc4 lk kd9 st9 (.ref r) gb9 jt9 we9)] H := hP
  have hD : va_D A [(oc7 sh (.ref fa) (nI ft)), (oq fa cF 200 FA), (oc1 fe rk9 wd9 tw9 pa9 pb9 (.ref lo) (.ref lk) (.ref fm)), (oc4 lk kd9 st9 (.ref r) gb9 jt9 we9)] := hD
  refine lv_astore_n (lv' := [(2, .ref fe), (0, .ref sh), (1, .int (nI i))]) hx hb dX8_rowThere_5 rfl hl (by decide) rfl (fun ls hl => ?_)
  refine lv_aload_n hx hb dX8_rowThere_6 rfl (lv_at hl 0 rfl) ?_
  refine lv_ifnull hx hb dX8_rowThere_7 ?_
  refine lv_aload_n hx hb dX8_rowThere_10 rfl (lv_at hl 0 rfl) ?_
  refine va_get (D := (dC, dI)) (ci := 1) (v := .ref lk) (C := RX2) (T := TX2) (N := 8) hx hb hts inX2 hown hK hP 2 rfl rfl 6 (by decide) (hts _ mw_434) (fun _ h9 => h9) rfl dX8_rowThere_11 ?_
  refine va_get (D := (dC, dI)) (ci := 4) (v := .int st9) (C := RX5) (T := TX5) (N := 6) hx hb hts inX5 hown hK hP 3 rfl rfl 1 (by decide) (hts _ mw_387) (fun _ h9 => h9) rfl dX8_rowThere_14 ?_
  refine lv_iconst (v := 1) hx hb dX8_rowThere_17 (by decide) ?_
  refine lv_icmp_ne (tgt := 31) hx hb dX8_rowThere_18 (by decide) (fun c_1 => ?_) (fun c_1 => ?_)
  · have c_1 : ¬ st9.toInt = 1 := zc_ne rfl (by decide) c_1
    refine lv_null hx hb dX8_rowThere_31 ?_
    have hP9 := hP.sub (ws' := [(oc7 sh (.ref fa) (nI ft)), (oq fa cF 200 FA), (oc1 fe rk9 wd9 tw9 pa9 pb9 (.ref lo) (.ref lk) (.ref fm)), (oc4 lk kd9 st9 (.ref r) gb9 jt9 we9)]) [0, 1, 2, 3] rfl
    have hD9 := hD.sub (ws' := [(oc7 sh (.ref fa) (nI ft)), (oq fa cF 200 FA), (oc1 fe rk9 wd9 tw9 pa9 pb9 (.ref lo) (.ref lk) (.ref fm)), (oc4 lk kd9 st9 (.ref r) gb9 jt9 we9)]) [0, 1, 2, 3] (by decide) rfl
    rw [hQ9]
    exact W.aret hx hb hr (Or.inl ⟨_, rfl⟩) (Or.inl rfl) (fun t ht hW => ⟨⟨rfl, by rw [ht]; exact hP9, hD9⟩, hS.F ht⟩) hS.2.2 dX8_rowThere_32
  · have c_1 : st9.toInt = 1 := zc_eq rfl (by decide) c_1
    exfalso; omega
set_option maxHeartbeats 4000000 in
set_option maxRecDepth 100000 in
theorem k_Sheet_rowThere_tf (l : Launch) (dC : Nat → ClassId) (dI : Nat → Nat → Nat) (cI cZ cF : ClassId) (sz : Nat) (sh : Nat) (fa : Nat) (ft : Nat) (FA : Nat → Option Nat) (i : Nat) (fe : Nat) (lo : Nat) (rk9 : Int32) (wd9 : Int32) (tw9 : Int32) (pa9 : Int32) (pb9 : Int32) (lk : Nat) (kd9 : Int32) (st9 : Int32) (gb9 : Int32) (jt9 : Int32) (we9 : Int32) (fm : Nat) (h200 : ft ≤ 200) (hi : i < ft) (hFA : FA i = some fe) : Met l yX8_rowThere (.code yX8_rowThere cX8_rowThere 3 (some (.object "ScaleShop$Row")) :: ws0) ({ frames := 1, cells := 0, slots := 0, locals := 21 } : Room) (va_Pc [.ref sh, .int (nI i)] (zPre (dC, dI) classes (zTy cI cZ cF) [(oc7 sh (.ref fa) (nI ft)), (oq fa cF 200 FA), (oc1 fe rk9 wd9 tw9 pa9 pb9 (.ref lo) (.ref lk) (.ref fm)), (oc4 lk kd9 st9 .null gb9 jt9 we9)] sz zXN)) (zQ (some (.null)) (fun t => va_P (dC, dI) classes [(oc7 sh (.ref fa) (nI ft)), (oq fa cF 200 FA), (oc1 fe rk9 wd9 tw9 pa9 pb9 (.ref lo) (.ref lk) (.ref fm)), (oc4 lk kd9 st9 .null gb9 jt9 we9)] t.heap ∧ va_D (va_A [(oc7 sh (.ref fa) (nI ft)), (oq fa cF 200 FA), (oc1 fe rk9 wd9 tw9 pa9 pb9 (.ref lo) (.ref lk) (.ref fm)), (oc4 lk kd9 st9 .null gb9 jt9 we9)] sz) [(oc7 sh (.ref fa) (nI ft)), (oq fa cF 200 FA), (oc1 fe rk9 wd9 tw9 pa9 pb9 (.ref lo) (.ref lk) (.ref fm)), (oc4 lk kd9 st9 .null gb9 jt9 we9)]) (va_A [(oc7 sh (.ref fa) (nI ft)), (oq fa cF 200 FA), (oc1 fe rk9 wd9 tw9 pa9 pb9 (.ref lo) (.ref lk) (.ref fm)), (oc4 lk kd9 st9 .null gb9 jt9 we9)] sz)) 0 0 (va_A [(oc7 sh (.ref fa) (nI ft)), (oq fa cF 200 FA), (oc1 fe rk9 wd9 tw9 pa9 pb9 (.ref lo) (.ref lk) (.ref fm)), (oc4 lk kd9 st9 .null gb9 jt9 we9)] sz) := by
  refine Met.ofW (cc := cX8_rowThere) (maxL := 3) (ret := (some (.object "ScaleShop$Row"))) (by decide) rfl ?_
  intro p e s m args below meth c s₁ B hml hv
  obtain ⟨rfl, hsz, hP, hK, hD0, hXN⟩ := hv
  have hx := B.exec
  have hb := B.bytes
  have hr := B.returns
  have hts0 := atoms_spec (ws := .code yX8_rowThere cX8_rowThere 3 (some (.object "ScaleShop$Row")) :: ws0) B.pre
  have hts : ∀ w9 ∈ ws0, w9.before ([.ref sh, .int (nI i)] : List Value).toArray s = true := fun w9 h => hts0 w9 (List.mem_cons_of_mem _ h)
  have hown : s.vm.findClass "ScaleShop$Sheet" = some m.cls := findClass_of_methodNamed B.named
  have hlocks := B.notSynchronized
  subst hsz
  have hD := hD0.self (sz := s.heap.size)
  clear hD0
  generalize hAe : va_A [(oc7 sh (.ref fa) (nI ft)), (oq fa cF 200 FA), (oc1 fe rk9 wd9 tw9 pa9 pb9 (.ref lo) (.ref lk) (.ref fm)), (oc4 lk kd9 st9 .null gb9 jt9 we9)] s.heap.size = A at hD ⊢
  have hA : ∀ q : Nat, s.heap.size ≤ q → A q := fun q h => by rw [← hAe]; exact Or.inr h
  clear hAe
  have hS : va_S A s.heap s.heap [] := va_S.rf
  have hP : va_P (dC, dI) classes [(oc7 sh (.ref fa) (nI ft)), (oq fa cF 200 FA), (oc1 fe rk9 wd9 tw9 pa9 pb9 (.ref lo) (.ref lk) (.ref fm)), (oc4 lk kd9 st9 .null gb9 jt9 we9)] s.heap := hP
  obtain ⟨Q9, hQ9⟩ : ∃ Q9 : State → Prop, Q9 = MQ below (zQ (some (.null)) (fun t => va_P (dC, dI) classes [(oc7 sh (.ref fa) (nI ft)), (oq fa cF 200 FA), (oc1 fe rk9 wd9 tw9 pa9 pb9 (.ref lo) (.ref lk) (.ref fm)), (oc4 lk kd9 st9 .null gb9 jt9 we9)] t.heap ∧ va_D A [(oc7 sh (.ref fa) (nI ft)), (oq fa cF 200 FA), (oc1 fe rk9 wd9 tw9 pa9 pb9 (.ref lo) (.ref lk) (.ref fm)), (oc4 lk kd9 st9 .null gb9 jt9 we9)]) A) ([.ref sh, .int (nI i)] : List Value).toArray s 0 0 A := ⟨_, rfl⟩
  rw [← hQ9]
  have hl := lv_entry ([.ref sh, .int (nI i)]) (n := 3) (Nat.le_of_ble_eq_true rfl)
  rw [lg_entry_eq]
  generalize (lg_sl ([.ref sh, .int (nI i)]) ++ List.replicate (3 - (lg_sl ([.ref sh, .int (nI i)])).length) Slot.unset).toArray = ls at hl ⊢
  have hl : lv_has ls 3 [(0, .ref sh), (1, .int (nI i))] := hl
  refine lv_aload_n hx hb dX8_rowThere_0 rfl (lv_at hl 0 rfl) ?_
  refine lv_iload_n hx hb dX8_rowThere_1 rfl (lv_at hl 1 rfl) ?_
  have hPc := hP.sub (ws' := [(oc7 sh (.ref fa) (nI ft)), (oq fa cF 200 FA)]) [0, 1] rfl
  have hDc := hD.sub (ws' := [(oc7 sh (.ref fa) (nI ft)), (oq fa cF 200 FA)]) [0, 1] (by decide) rfl
  have hFc := va_free (wc := [(oc7 sh (.ref fa) (nI ft)), (oq fa cF 200 FA)]) hD hS hA [0, 1] rfl
  refine zcall (st1 := [.ref fe]) (va_runV (As := [.int (nI i)]) (rest := []) ⟨hx, hb, hml, hown, hts⟩ (k_Sheet_find l dC dI cI cZ cF s.heap.size sh fa ft FA i fe (by omega) (by omega) (hFA)) (cwV 1 hts (zz_gV mw_616 mw_499 mw_500 mw_100 mc_yX8_find) rfl rfl rfl (by decide +kernel) ⟨Nat.le_of_ble_eq_true rfl, Nat.le_of_ble_eq_true rfl⟩) (zPV2 (q0 := 0) (ci := 7) hPc hDc hK hXN rfl rfl) rfl rfl hl.1 rfl (lv_room (Nat.le_of_ble_eq_true rfl)) dX8_rowThere_2 ⟨Nat.le_of_ble_eq_true rfl, Nat.le_of_ble_eq_true rfl⟩) hS hFc hFc rfl (fun t H1 locs ht hB hk1 hS => ?_)
  obtain ⟨hP1, hD1⟩ := hB
  rw [ht] at hP1
  obtain ⟨hP, hD⟩ := va_join (wr := [(oc1 fe rk9 wd9 tw9 pa9 pb9 (.ref lo) (.ref lk) (.ref fm)), (oc4 lk kd9 st9 .null gb9 jt9 we9)]) (w1 := [(oc7 sh (.ref fa) (nI ft)), (oq fa cF 200 FA)]) hP hD [0, 1] [2, 3] rfl rfl (by decide) (by decide) hk1 hFc hP1 hD1
  clear hk1 hPc hDc hFc hP1 hD1 ht
  generalize H1 = H at hP hS ⊢
  have hP := hP.sub (ws' := [(oc7 sh (.ref fa) (nI ft)), (oq fa cF 200 FA), (oc1 fe rk9 wd9 tw9 pa9 pb9 (.ref lo) (.ref lk) (.ref fm)), (oc4 lk kd9 st9 .null gb9 jt9 we9)]) [2, 3, 0, 1] rfl
  have hD := hD.sub (ws' := [(oc7 sh (.ref fa) (nI ft)), (oq fa cF 200 FA), (oc1 fe rk9 wd9 tw9 pa9 pb9 (.ref lo) (.ref lk) (.ref fm)), (oc4 lk kd9 st9 .null gb9 jt9 we9)]) [2, 3, 0, 1] (by decide) rfl
  have hP : va_P (dC, dI) classes [(oc7 sh (.ref fa) (nI ft)), (oq fa cF 200 FA), (oc1 fe rk9 wd9 tw9 pa9 pb9 (.ref lo) (.ref lk) (.ref fm)), (oc4 lk kd9 st9 .null gb9 jt9 we9)] H := hP
  have hD : va_D A [(oc7 sh (.ref fa) (nI ft)), (oq fa cF 200 FA), (oc1 fe rk9 wd9 tw9 pa9 pb9 (.ref lo) (.ref lk) (.ref fm)), (oc4 lk kd9 st9 .null gb9 jt9 we9)] := hD
  refine lv_astore_n (lv' := [(2, .ref fe), (0, .ref sh), (1, .int (nI i))]) hx hb dX8_rowThere_5 rfl hl (by decide) rfl (fun ls hl => ?_)
  refine lv_aload_n hx hb dX8_rowThere_6 rfl (lv_at hl 0 rfl) ?_
  refine lv_ifnull hx hb dX8_rowThere_7 ?_
  refine lv_aload_n hx hb dX8_rowThere_10 rfl (lv_at hl 0 rfl) ?_
  refine va_get (D := (dC, dI)) (ci := 1) (v := .ref lk) (C := RX2) (T := TX2) (N := 8) hx hb hts inX2 hown hK hP 2 rfl rfl 6 (by decide) (hts _ mw_434) (fun _ h9 => h9) rfl dX8_rowThere_11 ?_
  refine va_get (D := (dC, dI)) (ci := 4) (v := .int st9) (C := RX5) (T := TX5) (N := 6) hx hb hts inX5 hown hK hP 3 rfl rfl 1 (by decide) (hts _ mw_387) (fun _ h9 => h9) rfl dX8_rowThere_14 ?_
  refine lv_iconst (v := 1) hx hb dX8_rowThere_17 (by decide) ?_
  refine lv_icmp_ne (tgt := 31) hx hb dX8_rowThere_18 (by decide) (fun c_1 => ?_) (fun c_1 => ?_)
  · have c_1 : ¬ st9.toInt = 1 := zc_ne rfl (by decide) c_1
    refine lv_null hx hb dX8_rowThere_31 ?_
    have hP9 := hP.sub (ws' := [(oc7 sh (.ref fa) (nI ft)), (oq fa cF 200 FA), (oc1 fe rk9 wd9 tw9 pa9 pb9 (.ref lo) (.ref lk) (.ref fm)), (oc4 lk kd9 st9 .null gb9 jt9 we9)]) [0, 1, 2, 3] rfl
    have hD9 := hD.sub (ws' := [(oc7 sh (.ref fa) (nI ft)), (oq fa cF 200 FA), (oc1 fe rk9 wd9 tw9 pa9 pb9 (.ref lo) (.ref lk) (.ref fm)), (oc4 lk kd9 st9 .null gb9 jt9 we9)]) [0, 1, 2, 3] (by decide) rfl
    rw [hQ9]
    exact W.aret hx hb hr (Or.inl ⟨_, rfl⟩) (Or.inl rfl) (fun t ht hW => ⟨⟨rfl, by rw [ht]; exact hP9, hD9⟩, hS.F ht⟩) hS.2.2 dX8_rowThere_32
  · have c_1 : st9.toInt = 1 := zc_eq rfl (by decide) c_1
    refine lv_aload_n hx hb dX8_rowThere_21 rfl (lv_at hl 0 rfl) ?_
    refine va_get (D := (dC, dI)) (ci := 1) (v := .ref lk) (C := RX2) (T := TX2) (N := 8) hx hb hts inX2 hown hK hP 2 rfl rfl 6 (by decide) (hts _ mw_434) (fun _ h9 => h9) rfl dX8_rowThere_22 ?_
    refine va_get (D := (dC, dI)) (ci := 4) (v := .null) (C := RX5) (T := TX5) (N := 6) hx hb hts inX5 hown hK hP 3 rfl rfl 2 (by decide) (hts _ mw_393) (fun _ h9 => h9) rfl dX8_rowThere_25 ?_
    refine lv_goto (tgt := 32) hx hb dX8_rowThere_28 (by decide) ?_
    have hP9 := hP.sub (ws' := [(oc7 sh (.ref fa) (nI ft)), (oq fa cF 200 FA), (oc1 fe rk9 wd9 tw9 pa9 pb9 (.ref lo) (.ref lk) (.ref fm)), (oc4 lk kd9 st9 .null gb9 jt9 we9)]) [0, 1, 2, 3] rfl
    have hD9 := hD.sub (ws' := [(oc7 sh (.ref fa) (nI ft)), (oq fa cF 200 FA), (oc1 fe rk9 wd9 tw9 pa9 pb9 (.ref lo) (.ref lk) (.ref fm)), (oc4 lk kd9 st9 .null gb9 jt9 we9)]) [0, 1, 2, 3] (by decide) rfl
    rw [hQ9]
    exact W.aret hx hb hr (Or.inl ⟨_, rfl⟩) (Or.inl rfl) (fun t ht hW => ⟨⟨rfl, by rw [ht]; exact hP9, hD9⟩, hS.F ht⟩) hS.2.2 dX8_rowThere_32
set_option maxHeartbeats 4000000 in
set_option maxRecDepth 100000 in
theorem k_Sheet_houseThere_x (l : Launch) (dC : Nat → ClassId) (dI : Nat → Nat → Nat) (cI cZ cF : ClassId) (sz : Nat) (sh : Nat) (fa : Nat) (ft : Nat) (FA : Nat → Option Nat) (v : Int32) (h200 : ft ≤ 200) (hv : ¬ (0 ≤ v.toInt ∧ v.toInt < ((ft : Nat) : Int))) : Met l yX8_houseThere (.code yX8_houseThere cX8_houseThere 3 (some (.object "ScaleShop$Row")) :: ws0) ({ frames := 1, cells := 0, slots := 0, locals := 21 } : Room) (va_Pc [.ref sh, .int v] (zPre (dC, dI) classes (zTy cI cZ cF) [(oc7 sh (.ref fa) (nI ft)), (oq fa cF 200 FA)] sz zXN)) (zQ (some (.null)) (fun t => va_P (dC, dI) classes [(oc7 sh (.ref fa) (nI ft)), (oq fa cF 200 FA)] t.heap ∧ va_D (va_A [(oc7 sh (.ref fa) (nI ft)), (oq fa cF 200 FA)] sz) [(oc7 sh (.ref fa) (nI ft)), (oq fa cF 200 FA)]) (va_A [(oc7 sh (.ref fa) (nI ft)), (oq fa cF 200 FA)] sz)) 0 0 (va_A [(oc7 sh (.ref fa) (nI ft)), (oq fa cF 200 FA)] sz) := by
  refine Met.ofW (cc := cX8_houseThere) (maxL := 3) (ret := (some (.object "ScaleShop$Row"))) (by decide) rfl ?_
  intro p e s m args below meth c s₁ B hml hv
  obtain ⟨rfl, hsz, hP, hK, hD0, hXN⟩ := hv
  have hx := B.exec
  have hb := B.bytes
  have hr := B.returns
  have hts0 := atoms_spec (ws := .code yX8_houseThere cX8_houseThere 3 (some (.object "ScaleShop$Row")) :: ws0) B.pre
  have hts : ∀ w9 ∈ ws0, w9.before ([.ref sh, .int v] : List Value).toArray s = true := fun w9 h => hts0 w9 (List.mem_cons_of_mem _ h)
  have hown : s.vm.findClass "ScaleShop$Sheet" = some m.cls := findClass_of_methodNamed B.named
  have hlocks := B.notSynchronized
  subst hsz
  have hD := hD0.self (sz := s.heap.size)
  clear hD0
  generalize hAe : va_A [(oc7 sh (.ref fa) (nI ft)), (oq fa cF 200 FA)] s.heap.size = A at hD ⊢
  have hA : ∀ q : Nat, s.heap.size ≤ q → A q := fun q h => by rw [← hAe]; exact Or.inr h
  clear hAe
  have hS : va_S A s.heap s.heap [] := va_S.rf
  have hP : va_P (dC, dI) classes [(oc7 sh (.ref fa) (nI ft)), (oq fa cF 200 FA)] s.heap := hP
  obtain ⟨Q9, hQ9⟩ : ∃ Q9 : State → Prop, Q9 = MQ below (zQ (some (.null)) (fun t => va_P (dC, dI) classes [(oc7 sh (.ref fa) (nI ft)), (oq fa cF 200 FA)] t.heap ∧ va_D A [(oc7 sh (.ref fa) (nI ft)), (oq fa cF 200 FA)]) A) ([.ref sh, .int v] : List Value).toArray s 0 0 A := ⟨_, rfl⟩
  rw [← hQ9]
  have hl := lv_entry ([.ref sh, .int v]) (n := 3) (Nat.le_of_ble_eq_true rfl)
  rw [lg_entry_eq]
  generalize (lg_sl ([.ref sh, .int v]) ++ List.replicate (3 - (lg_sl ([.ref sh, .int v])).length) Slot.unset).toArray = ls at hl ⊢
  have hl : lv_has ls 3 [(0, .ref sh), (1, .int v)] := hl
  refine lv_aload_n hx hb dX8_houseThere_0 rfl (lv_at hl 0 rfl) ?_
  refine lv_iload_n hx hb dX8_houseThere_1 rfl (lv_at hl 1 rfl) ?_
  have hPc := hP.sub (ws' := [(oc7 sh (.ref fa) (nI ft)), (oq fa cF 200 FA)]) [0, 1] rfl
  have hDc := hD.sub (ws' := [(oc7 sh (.ref fa) (nI ft)), (oq fa cF 200 FA)]) [0, 1] (by decide) rfl
  have hFc := va_free (wc := [(oc7 sh (.ref fa) (nI ft)), (oq fa cF 200 FA)]) hD hS hA [0, 1] rfl
  refine zcall (st1 := [.null]) (va_runV (As := [.int v]) (rest := []) ⟨hx, hb, hml, hown, hts⟩ (k_Sheet_find_n l dC dI cI cZ cF s.heap.size sh fa ft FA v (by omega) (by assumption)) (cwV 1 hts (zz_gV mw_616 mw_499 mw_500 mw_100 mc_yX8_find) rfl rfl rfl (by decide +kernel) ⟨Nat.le_of_ble_eq_true rfl, Nat.le_of_ble_eq_true rfl⟩) (zPV2 (q0 := 0) (ci := 7) hPc hDc hK hXN rfl rfl) rfl rfl hl.1 rfl (lv_room (Nat.le_of_ble_eq_true rfl)) dX8_houseThere_2 ⟨Nat.le_of_ble_eq_true rfl, Nat.le_of_ble_eq_true rfl⟩) hS hFc hFc rfl (fun t H1 locs ht hB hk1 hS => ?_)
  obtain ⟨hP1, hD1⟩ := hB
  rw [ht] at hP1
  obtain ⟨hP, hD⟩ := va_join (wr := []) (w1 := [(oc7 sh (.ref fa) (nI ft)), (oq fa cF 200 FA)]) hP hD [0, 1] [] rfl rfl (by decide) (by decide) hk1 hFc hP1 hD1
  clear hk1 hPc hDc hFc hP1 hD1 ht
  generalize H1 = H at hP hS ⊢
  have hP : va_P (dC, dI) classes [(oc7 sh (.ref fa) (nI ft)), (oq fa cF 200 FA)] H := hP
  have hD : va_D A [(oc7 sh (.ref fa) (nI ft)), (oq fa cF 200 FA)] := hD
  refine lv_astore_nN (lv' := [(2, .null), (0, .ref sh), (1, .int v)]) hx hb dX8_houseThere_5 rfl hl (by decide) rfl (fun ls hl => ?_)
  refine lv_aload_nN hx hb dX8_houseThere_6 rfl (lv_at hl 0 rfl) ?_
  refine lv_ifnullN (tgt := 30) hx hb dX8_houseThere_7 (by decide) ?_
  refine lv_null hx hb dX8_houseThere_30 ?_
  have hP9 := hP.sub (ws' := [(oc7 sh (.ref fa) (nI ft)), (oq fa cF 200 FA)]) [0, 1] rfl
  have hD9 := hD.sub (ws' := [(oc7 sh (.ref fa) (nI ft)), (oq fa cF 200 FA)]) [0, 1] (by decide) rfl
  rw [hQ9]
  exact W.aret hx hb hr (Or.inl ⟨_, rfl⟩) (Or.inl rfl) (fun t ht hW => ⟨⟨rfl, by rw [ht]; exact hP9, hD9⟩, hS.F ht⟩) hS.2.2 dX8_houseThere_31
set_option maxHeartbeats 4000000 in
set_option maxRecDepth 100000 in
theorem k_Sheet_houseThere_y (l : Launch) (dC : Nat → ClassId) (dI : Nat → Nat → Nat) (cI cZ cF : ClassId) (sz : Nat) (sh : Nat) (fa : Nat) (ft : Nat) (FA : Nat → Option Nat) (i : Nat) (fe : Nat) (lo : Nat) (rk9 : Int32) (wd9 : Int32) (tw9 : Int32) (pa9 : Int32) (pb9 : Int32) (lk : Nat) (kd9 : Int32) (st9 : Int32) (gb9 : Int32) (jt9 : Int32) (we9 : Int32) (r : Nat) (h200 : ft ≤ 200) (hi : i < ft) (hFA : FA i = some fe) (hs1 : st9.toInt = 1) (hkd : kd9.toInt = 6) : Met l yX8_houseThere (.code yX8_houseThere cX8_houseThere 3 (some (.object "ScaleShop$Row")) :: ws0) ({ frames := 2, cells := 0, slots := 0, locals := 43 } : Room) (va_Pc [.ref sh, .int (nI i)] (zPre (dC, dI) classes (zTy cI cZ cF) [(oc7 sh (.ref fa) (nI ft)), (oq fa cF 200 FA), (oc1 fe rk9 wd9 tw9 pa9 pb9 (.ref lo) (.ref lk) .null), (oc4 lk kd9 st9 (.ref r) gb9 jt9 we9)] sz zXN)) (zQ (some (.ref r)) (fun t => va_P (dC, dI) classes [(oc7 sh (.ref fa) (nI ft)), (oq fa cF 200 FA), (oc1 fe rk9 wd9 tw9 pa9 pb9 (.ref lo) (.ref lk) .null), (oc4 lk kd9 st9 (.ref r) gb9 jt9 we9)] t.heap ∧ va_D (va_A [(oc7 sh (.ref fa) (nI ft)), (oq fa cF 200 FA), (oc1 fe rk9 wd9 tw9 pa9 pb9 (.ref lo) (.ref lk) .null), (oc4 lk kd9 st9 (.ref r) gb9 jt9 we9)] sz) [(oc7 sh (.ref fa) (nI ft)), (oq fa cF 200 FA), (oc1 fe rk9 wd9 tw9 pa9 pb9 (.ref lo) (.ref lk) .null), (oc4 lk kd9 st9 (.ref r) gb9 jt9 we9)]) (va_A [(oc7 sh (.ref fa) (nI ft)), (oq fa cF 200 FA), (oc1 fe rk9 wd9 tw9 pa9 pb9 (.ref lo) (.ref lk) .null), (oc4 lk kd9 st9 (.ref r) gb9 jt9 we9)] sz)) 0 0 (va_A [(oc7 sh (.ref fa) (nI ft)), (oq fa cF 200 FA), (oc1 fe rk9 wd9 tw9 pa9 pb9 (.ref lo) (.ref lk) .null), (oc4 lk kd9 st9 (.ref r) gb9 jt9 we9)] sz) := by
  refine Met.ofW (cc := cX8_houseThere) (maxL := 3) (ret := (some (.object "ScaleShop$Row"))) (by decide) rfl ?_
  intro p e s m args below meth c s₁ B hml hv
  obtain ⟨rfl, hsz, hP, hK, hD0, hXN⟩ := hv
  have hx := B.exec
  have hb := B.bytes
  have hr := B.returns
  have hts0 := atoms_spec (ws := .code yX8_houseThere cX8_houseThere 3 (some (.object "ScaleShop$Row")) :: ws0) B.pre
  have hts : ∀ w9 ∈ ws0, w9.before ([.ref sh, .int (nI i)] : List Value).toArray s = true := fun w9 h => hts0 w9 (List.mem_cons_of_mem _ h)
  have hown : s.vm.findClass "ScaleShop$Sheet" = some m.cls := findClass_of_methodNamed B.named
  have hlocks := B.notSynchronized
  subst hsz
  have hD := hD0.self (sz := s.heap.size)
  clear hD0
  generalize hAe : va_A [(oc7 sh (.ref fa) (nI ft)), (oq fa cF 200 FA), (oc1 fe rk9 wd9 tw9 pa9 pb9 (.ref lo) (.ref lk) .null), (oc4 lk kd9 st9 (.ref r) gb9 jt9 we9)] s.heap.size = A at hD ⊢
  have hA : ∀ q : Nat, s.heap.size ≤ q → A q := fun q h => by rw [← hAe]; exact Or.inr h
  clear hAe
  have hS : va_S A s.heap s.heap [] := va_S.rf
  have hP : va_P (dC, dI) classes [(oc7 sh (.ref fa) (nI ft)), (oq fa cF 200 FA), (oc1 fe rk9 wd9 tw9 pa9 pb9 (.ref lo) (.ref lk) .null), (oc4 lk kd9 st9 (.ref r) gb9 jt9 we9)] s.heap := hP
  obtain ⟨Q9, hQ9⟩ : ∃ Q9 : State → Prop, Q9 = MQ below (zQ (some (.ref r)) (fun t => va_P (dC, dI) classes [(oc7 sh (.ref fa) (nI ft)), (oq fa cF 200 FA), (oc1 fe rk9 wd9 tw9 pa9 pb9 (.ref lo) (.ref lk) .null), (oc4 lk kd9 st9 (.ref r) gb9 jt9 we9)] t.heap ∧ va_D A [(oc7 sh (.ref fa) (nI ft)), (oq fa cF 200 FA), (oc1 fe rk9 wd9 tw9 pa9 pb9 (.ref lo) (.ref lk) .null), (oc4 lk kd9 st9 (.ref r) gb9 jt9 we9)]) A) ([.ref sh, .int (nI i)] : List Value).toArray s 0 0 A := ⟨_, rfl⟩
  rw [← hQ9]
  have hl := lv_entry ([.ref sh, .int (nI i)]) (n := 3) (Nat.le_of_ble_eq_true rfl)
  rw [lg_entry_eq]
  generalize (lg_sl ([.ref sh, .int (nI i)]) ++ List.replicate (3 - (lg_sl ([.ref sh, .int (nI i)])).length) Slot.unset).toArray = ls at hl ⊢
  have hl : lv_has ls 3 [(0, .ref sh), (1, .int (nI i))] := hl
  refine lv_aload_n hx hb dX8_houseThere_0 rfl (lv_at hl 0 rfl) ?_
  refine lv_iload_n hx hb dX8_houseThere_1 rfl (lv_at hl 1 rfl) ?_
  have hPc := hP.sub (ws' := [(oc7 sh (.ref fa) (nI ft)), (oq fa cF 200 FA)]) [0, 1] rfl
  have hDc := hD.sub (ws' := [(oc7 sh (.ref fa) (nI ft)), (oq fa cF 200 FA)]) [0, 1] (by decide) rfl
  have hFc := va_free (wc := [(oc7 sh (.ref fa) (nI ft)), (oq fa cF 200 FA)]) hD hS hA [0, 1] rfl
  refine zcall (st1 := [.ref fe]) (va_runV (As := [.int (nI i)]) (rest := []) ⟨hx, hb, hml, hown, hts⟩ (k_Sheet_find l dC dI cI cZ cF s.heap.size sh fa ft FA i fe (by omega) (by omega) (hFA)) (cwV 1 hts (zz_gV mw_616 mw_499 mw_500 mw_100 mc_yX8_find) rfl rfl rfl (by decide +kernel) ⟨Nat.le_of_ble_eq_true rfl, Nat.le_of_ble_eq_true rfl⟩) (zPV2 (q0 := 0) (ci := 7) hPc hDc hK hXN rfl rfl) rfl rfl hl.1 rfl (lv_room (Nat.le_of_ble_eq_true rfl)) dX8_houseThere_2 ⟨Nat.le_of_ble_eq_true rfl, Nat.le_of_ble_eq_true rfl⟩) hS hFc hFc rfl (fun t H1 locs ht hB hk1 hS => ?_)
  obtain ⟨hP1, hD1⟩ := hB
  rw [ht] at hP1
  obtain ⟨hP, hD⟩ := va_join (wr := [(oc1 fe rk9 wd9 tw9 pa9 pb9 (.ref lo) (.ref lk) .null), (oc4 lk kd9 st9 (.ref r) gb9 jt9 we9)]) (w1 := [(oc7 sh (.ref fa) (nI ft)), (oq fa cF 200 FA)]) hP hD [0, 1] [2, 3] rfl rfl (by decide) (by decide) hk1 hFc hP1 hD1
  clear hk1 hPc hDc hFc hP1 hD1 ht
  generalize H1 = H at hP hS ⊢
  have hP := hP.sub (ws' := [(oc7 sh (.ref fa) (nI ft)), (oq fa cF 200 FA), (oc1 fe rk9 wd9 tw9 pa9 pb9 (.ref lo) (.ref lk) .null), (oc4 lk kd9 st9 (.ref r) gb9 jt9 we9)]) [2, 3, 0, 1] rfl
  have hD := hD.sub (ws' := [(oc7 sh (.ref fa) (nI ft)), (oq fa cF 200 FA), (oc1 fe rk9 wd9 tw9 pa9 pb9 (.ref lo) (.ref lk) .null), (oc4 lk kd9 st9 (.ref r) gb9 jt9 we9)]) [2, 3, 0, 1] (by decide) rfl
  have hP : va_P (dC, dI) classes [(oc7 sh (.ref fa) (nI ft)), (oq fa cF 200 FA), (oc1 fe rk9 wd9 tw9 pa9 pb9 (.ref lo) (.ref lk) .null), (oc4 lk kd9 st9 (.ref r) gb9 jt9 we9)] H := hP
  have hD : va_D A [(oc7 sh (.ref fa) (nI ft)), (oq fa cF 200 FA), (oc1 fe rk9 wd9 tw9 pa9 pb9 (.ref lo) (.ref lk) .null), (oc4 lk kd9 st9 (.ref r) gb9 jt9 we9)] := hD
  refine lv_astore_n (lv' := [(2, .ref fe), (0, .ref sh), (1, .int (nI i))]) hx hb dX8_houseThere_5 rfl hl (by decide) rfl (fun ls hl => ?_)
  refine lv_aload_n hx hb dX8_houseThere_6 rfl (lv_at hl 0 rfl) ?_
  refine lv_ifnull hx hb dX8_houseThere_7 ?_
  refine lv_aload_n hx hb dX8_houseThere_10 rfl (lv_at hl 0 rfl) ?_
  refine va_get (D := (dC, dI)) (ci := 1) (v := .ref lk) (C := RX2) (T := TX2) (N := 8) hx hb hts inX2 hown hK hP 2 rfl rfl 6 (by decide) (hts _ mw_434) (fun _ h9 => h9) rfl dX8_houseThere_11 ?_
  refine va_get (D := (dC, dI)) (ci := 4) (v := .int kd9) (C := RX5) (T := TX5) (N := 6) hx hb hts inX5 hown hK hP 3 rfl rfl 0 (by decide) (hts _ mw_383) (fun _ h9 => h9) rfl dX8_houseThere_14 ?_
  refine lv_bipush (v := 6) hx hb dX8_houseThere_17 (by decide) ?_
  refine lv_icmp_ne (tgt := 30) hx hb dX8_houseThere_19 (by decide) (fun c_1 => ?_) (fun c_1 => ?_)
  · have c_1 : ¬ kd9.toInt = 6 := zc_ne rfl (by decide) c_1
    exfalso; omega
  · have c_1 : kd9.toInt = 6 := zc_eq rfl (by decide) c_1
    refine lv_aload_n hx hb dX8_houseThere_22 rfl (lv_at hl 1 rfl) ?_
    refine lv_iload_n hx hb dX8_houseThere_23 rfl (lv_at hl 2 rfl) ?_
    have hPc := hP.sub (ws' := [(oc7 sh (.ref fa) (nI ft)), (oq fa cF 200 FA), (oc1 fe rk9 wd9 tw9 pa9 pb9 (.ref lo) (.ref lk) .null), (oc4 lk kd9 st9 (.ref r) gb9 jt9 we9)]) [0, 1, 2, 3] rfl
    have hDc := hD.sub (ws' := [(oc7 sh (.ref fa) (nI ft)), (oq fa cF 200 FA), (oc1 fe rk9 wd9 tw9 pa9 pb9 (.ref lo) (.ref lk) .null), (oc4 lk kd9 st9 (.ref r) gb9 jt9 we9)]) [0, 1, 2, 3] (by decide) rfl
    have hFc := va_free (wc := [(oc7 sh (.ref fa) (nI ft)), (oq fa cF 200 FA), (oc1 fe rk9 wd9 tw9 pa9 pb9 (.ref lo) (.ref lk) .null), (oc4 lk kd9 st9 (.ref r) gb9 jt9 we9)]) hD hS hA [0, 1, 2, 3] rfl
    refine zcall (st1 := [.ref r]) (va_runV (As := [.int (nI i)]) (rest := []) ⟨hx, hb, hml, hown, hts⟩ (k_Sheet_rowThere_y l dC dI cI cZ cF H.size sh fa ft FA i fe lo rk9 wd9 tw9 pa9 pb9 lk kd9 st9 gb9 jt9 we9 r (by omega) (by omega) (hFA) (by omega)) (cwV 1 hts (zz_gV mw_987 mw_613 mw_614 mw_100 mc_yX8_rowThere) rfl rfl rfl (by decide +kernel) ⟨Nat.le_of_ble_eq_true rfl, Nat.le_of_ble_eq_true rfl⟩) (zPV2 (q0 := 0) (ci := 7) hPc hDc hK hXN rfl rfl) rfl rfl hl.1 rfl (lv_room (Nat.le_of_ble_eq_true rfl)) dX8_houseThere_24 ⟨Nat.le_of_ble_eq_true rfl, Nat.le_of_ble_eq_true rfl⟩) hS hFc hFc rfl (fun t H1 locs ht hB hk1 hS => ?_)
    obtain ⟨hP1, hD1⟩ := hB
    rw [ht] at hP1
    obtain ⟨hP, hD⟩ := va_join (wr := []) (w1 := [(oc7 sh (.ref fa) (nI ft)), (oq fa cF 200 FA), (oc1 fe rk9 wd9 tw9 pa9 pb9 (.ref lo) (.ref lk) .null), (oc4 lk kd9 st9 (.ref r) gb9 jt9 we9)]) hP hD [0, 1, 2, 3] [] rfl rfl (by decide) (by decide) hk1 hFc hP1 hD1
    clear hk1 hPc hDc hFc hP1 hD1 ht
    generalize H1 = H at hP hS ⊢
    have hP : va_P (dC, dI) classes [(oc7 sh (.ref fa) (nI ft)), (oq fa cF 200 FA), (oc1 fe rk9 wd9 tw9 pa9 pb9 (.ref lo) (.ref lk) .null), (oc4 lk kd9 st9 (.ref r) gb9 jt9 we9)] H := hP
    have hD : va_D A [(oc7 sh (.ref fa) (nI ft)), (oq fa cF 200 FA), (oc1 fe rk9 wd9 tw9 pa9 pb9 (.ref lo) (.ref lk) .null), (oc4 lk kd9 st9 (.ref r) gb9 jt9 we9)] := hD
    refine lv_goto (tgt := 31) hx hb dX8_houseThere_27 (by decide) ?_
    have hP9 := hP.sub (ws' := [(oc7 sh (.ref fa) (nI ft)), (oq fa cF 200 FA), (oc1 fe rk9 wd9 tw9 pa9 pb9 (.ref lo) (.ref lk) .null), (oc4 lk kd9 st9 (.ref r) gb9 jt9 we9)]) [0, 1, 2, 3] rfl
    have hD9 := hD.sub (ws' := [(oc7 sh (.ref fa) (nI ft)), (oq fa cF 200 FA), (oc1 fe rk9 wd9 tw9 pa9 pb9 (.ref lo) (.ref lk) .null), (oc4 lk kd9 st9 (.ref r) gb9 jt9 we9)]) [0, 1, 2, 3] (by decide) rfl
    rw [hQ9]
    exact W.aret hx hb hr (Or.inl ⟨_, rfl⟩) (Or.inr ⟨_, rfl⟩) (fun t ht hW => ⟨⟨rfl, by rw [ht]; exact hP9, hD9⟩, hS.F ht⟩) hS.2.2 dX8_houseThere_31
set_option maxHeartbeats 4000000 in
set_option maxRecDepth 100000 in
theorem k_Sheet_houseThere_s (l : Launch) (dC : Nat → ClassId) (dI : Nat → Nat → Nat) (cI cZ cF : ClassId) (sz : Nat) (sh : Nat) (fa : Nat) (ft : Nat) (FA : Nat → Option Nat) (i : Nat) (fe : Nat) (lo : Nat) (rk9 : Int32) (wd9 : Int32) (tw9 : Int32) (pa9 : Int32) (pb9 : Int32) (lk : Nat) (kd9 : Int32) (st9 : Int32) (gb9 : Int32) (jt9 : Int32) (we9 : Int32) (r : Nat) (h200 : ft ≤ 200) (hi : i < ft) (hFA : FA i = some fe) (hs1 : ¬ (st9.toInt = 1 ∧ kd9.toInt = 6)) : Met l yX8_houseThere (.code yX8_houseThere cX8_houseThere 3 (some (.object "ScaleShop$Row")) :: ws0) ({ frames := 2, cells := 0, slots := 0, locals := 43 } : Room) (va_Pc [.ref sh, .int (nI i)] (zPre (dC, dI) classes (zTy cI cZ cF) [(oc7 sh (.ref fa) (nI ft)), (oq fa cF 200 FA), (oc1 fe rk9 wd9 tw9 pa9 pb9 (.ref lo) (.ref lk) .null), (oc4 lk kd9 st9 (.ref r) gb9 jt9 we9)] sz zXN)) (zQ (some (.null)) (fun t => va_P (dC, dI) classes [(oc7 sh (.ref fa) (nI ft)), (oq fa cF 200 FA), (oc1 fe rk9 wd9 tw9 pa9 pb9 (.ref lo) (.ref lk) .null), (oc4 lk kd9 st9 (.ref r) gb9 jt9 we9)] t.heap ∧ va_D (va_A [(oc7 sh (.ref fa) (nI ft)), (oq fa cF 200 FA), (oc1 fe rk9 wd9 tw9 pa9 pb9 (.ref lo) (.ref lk) .null), (oc4 lk kd9 st9 (.ref r) gb9 jt9 we9)] sz) [(oc7 sh (.ref fa) (nI ft)), (oq fa cF 200 FA), (oc1 fe rk9 wd9 tw9 pa9 pb9 (.ref lo) (.ref lk) .null), (oc4 lk kd9 st9 (.ref r) gb9 jt9 we9)]) (va_A [(oc7 sh (.ref fa) (nI ft)), (oq fa cF 200 FA), (oc1 fe rk9 wd9 tw9 pa9 pb9 (.ref lo) (.ref lk) .null), (oc4 lk kd9 st9 (.ref r) gb9 jt9 we9)] sz)) 0 0 (va_A [(oc7 sh (.ref fa) (nI ft)), (oq fa cF 200 FA), (oc1 fe rk9 wd9 tw9 pa9 pb9 (.ref lo) (.ref lk) .null), (oc4 lk kd9 st9 (.ref r) gb9 jt9 we9)] sz) := by
  refine Met.ofW (cc := cX8_houseThere) (maxL := 3) (ret := (some (.object "ScaleShop$Row"))) (by decide) rfl ?_
  intro p e s m args below meth c s₁ B hml hv
  obtain ⟨rfl, hsz, hP, hK, hD0, hXN⟩ := hv
  have hx := B.exec
  have hb := B.bytes
  have hr := B.returns
  have hts0 := atoms_spec (ws := .code yX8_houseThere cX8_houseThere 3 (some (.object "ScaleShop$Row")) :: ws0) B.pre
  have hts : ∀ w9 ∈ ws0, w9.before ([.ref sh, .int (nI i)] : List Value).toArray s = true := fun w9 h => hts0 w9 (List.mem_cons_of_mem _ h)
  have hown : s.vm.findClass "ScaleShop$Sheet" = some m.cls := findClass_of_methodNamed B.named
  have hlocks := B.notSynchronized
  subst hsz
  have hD := hD0.self (sz := s.heap.size)
  clear hD0
  generalize hAe : va_A [(oc7 sh (.ref fa) (nI ft)), (oq fa cF 200 FA), (oc1 fe rk9 wd9 tw9 pa9 pb9 (.ref lo) (.ref lk) .null), (oc4 lk kd9 st9 (.ref r) gb9 jt9 we9)] s.heap.size = A at hD ⊢
  have hA : ∀ q : Nat, s.heap.size ≤ q → A q := fun q h => by rw [← hAe]; exact Or.inr h
  clear hAe
  have hS : va_S A s.heap s.heap [] := va_S.rf
  have hP : va_P (dC, dI) classes [(oc7 sh (.ref fa) (nI ft)), (oq fa cF 200 FA), (oc1 fe rk9 wd9 tw9 pa9 pb9 (.ref lo) (.ref lk) .null), (oc4 lk kd9 st9 (.ref r) gb9 jt9 we9)] s.heap := hP
  obtain ⟨Q9, hQ9⟩ : ∃ Q9 : State → Prop, Q9 = MQ below (zQ (some (.null)) (fun t => va_P (dC, dI) classes [(oc7 sh (.ref fa) (nI ft)), (oq fa cF 200 FA), (oc1 fe rk9 wd9 tw9 pa9 pb9 (.ref lo) (.ref lk) .null), (oc4 lk kd9 st9 (.ref r) gb9 jt9 we9)] t.heap ∧ va_D A [(oc7 sh (.ref fa) (nI ft)), (oq fa cF 200 FA), (oc1 fe rk9 wd9 tw9 pa9 pb9 (.ref lo) (.ref lk) .null), (oc4 lk kd9 st9 (.ref r) gb9 jt9 we9)]) A) ([.ref sh, .int (nI i)] : List Value).toArray s 0 0 A := ⟨_, rfl⟩
  rw [← hQ9]
  have hl := lv_entry ([.ref sh, .int (nI i)]) (n := 3) (Nat.le_of_ble_eq_true rfl)
  rw [lg_entry_eq]
  generalize (lg_sl ([.ref sh, .int (nI i)]) ++ List.replicate (3 - (lg_sl ([.ref sh, .int (nI i)])).length) Slot.unset).toArray = ls at hl ⊢
  have hl : lv_has ls 3 [(0, .ref sh), (1, .int (nI i))] := hl
  refine lv_aload_n hx hb dX8_houseThere_0 rfl (lv_at hl 0 rfl) ?_
  refine lv_iload_n hx hb dX8_houseThere_1 rfl (lv_at hl 1 rfl) ?_
  have hPc := hP.sub (ws' := [(oc7 sh (.ref fa) (nI ft)), (oq fa cF 200 FA)]) [0, 1] rfl
  have hDc := hD.sub (ws' := [(oc7 sh (.ref fa) (nI ft)), (oq fa cF 200 FA)]) [0, 1] (by decide) rfl
  have hFc := va_free (wc := [(oc7 sh (.ref fa) (nI ft)), (oq fa cF 200 FA)]) hD hS hA [0, 1] rfl
  refine zcall (st1 := [.ref fe]) (va_runV (As := [.int (nI i)]) (rest := []) ⟨hx, hb, hml, hown, hts⟩ (k_Sheet_find l dC dI cI cZ cF s.heap.size sh fa ft FA i fe (by omega) (by omega) (hFA)) (cwV 1 hts (zz_gV mw_616 mw_499 mw_500 mw_100 mc_yX8_find) rfl rfl rfl (by decide +kernel) ⟨Nat.le_of_ble_eq_true rfl, Nat.le_of_ble_eq_true rfl⟩) (zPV2 (q0 := 0) (ci := 7) hPc hDc hK hXN rfl rfl) rfl rfl hl.1 rfl (lv_room (Nat.le_of_ble_eq_true rfl)) dX8_houseThere_2 ⟨Nat.le_of_ble_eq_true rfl, Nat.le_of_ble_eq_true rfl⟩) hS hFc hFc rfl (fun t H1 locs ht hB hk1 hS => ?_)
  obtain ⟨hP1, hD1⟩ := hB
  rw [ht] at hP1
  obtain ⟨hP, hD⟩ := va_join (wr := [(oc1 fe rk9 wd9 tw9 pa9 pb9 (.ref lo) (.ref lk) .null), (oc4 lk kd9 st9 (.ref r) gb9 jt9 we9)]) (w1 := [(oc7 sh (.ref fa) (nI ft)), (oq fa cF 200 FA)]) hP hD [0, 1] [2, 3] rfl rfl (by decide) (by decide) hk1 hFc hP1 hD1
  clear hk1 hPc hDc hFc hP1 hD1 ht
  generalize H1 = H at hP hS ⊢
  have hP := hP.sub (ws' := [(oc7 sh (.ref fa) (nI ft)), (oq fa cF 200 FA), (oc1 fe rk9 wd9 tw9 pa9 pb9 (.ref lo) (.ref lk) .null), (oc4 lk kd9 st9 (.ref r) gb9 jt9 we9)]) [2, 3, 0, 1] rfl
  have hD := hD.sub (ws' := [(oc7 sh (.ref fa) (nI ft)), (oq fa cF 200 FA), (oc1 fe rk9 wd9 tw9 pa9 pb9 (.ref lo) (.ref lk) .null), (oc4 lk kd9 st9 (.ref r) gb9 jt9 we9)]) [2, 3, 0, 1] (by decide) rfl
  have hP : va_P (dC, dI) classes [(oc7 sh (.ref fa) (nI ft)), (oq fa cF 200 FA), (oc1 fe rk9 wd9 tw9 pa9 pb9 (.ref lo) (.ref lk) .null), (oc4 lk kd9 st9 (.ref r) gb9 jt9 we9)] H := hP
  have hD : va_D A [(oc7 sh (.ref fa) (nI ft)), (oq fa cF 200 FA), (oc1 fe rk9 wd9 tw9 pa9 pb9 (.ref lo) (.ref lk) .null), (oc4 lk kd9 st9 (.ref r) gb9 jt9 we9)] := hD
  refine lv_astore_n (lv' := [(2, .ref fe), (0, .ref sh), (1, .int (nI i))]) hx hb dX8_houseThere_5 rfl hl (by decide) rfl (fun ls hl => ?_)
  refine lv_aload_n hx hb dX8_houseThere_6 rfl (lv_at hl 0 rfl) ?_
  refine lv_ifnull hx hb dX8_houseThere_7 ?_
  refine lv_aload_n hx hb dX8_houseThere_10 rfl (lv_at hl 0 rfl) ?_
  refine va_get (D := (dC, dI)) (ci := 1) (v := .ref lk) (C := RX2) (T := TX2) (N := 8) hx hb hts inX2 hown hK hP 2 rfl rfl 6 (by decide) (hts _ mw_434) (fun _ h9 => h9) rfl dX8_houseThere_11 ?_
  refine va_get (D := (dC, dI)) (ci := 4) (v := .int kd9) (C := RX5) (T := TX5) (N := 6) hx hb hts inX5 hown hK hP 3 rfl rfl 0 (by decide) (hts _ mw_383) (fun _ h9 => h9) rfl dX8_houseThere_14 ?_
  refine lv_bipush (v := 6) hx hb dX8_houseThere_17 (by decide) ?_
  refine lv_icmp_ne (tgt := 30) hx hb dX8_houseThere_19 (by decide) (fun c_1 => ?_) (fun c_1 => ?_)
  · have c_1 : ¬ kd9.toInt = 6 := zc_ne rfl (by decide) c_1
    refine lv_null hx hb dX8_houseThere_30 ?_
    have hP9 := hP.sub (ws' := [(oc7 sh (.ref fa) (nI ft)), (oq fa cF 200 FA), (oc1 fe rk9 wd9 tw9 pa9 pb9 (.ref lo) (.ref lk) .null), (oc4 lk kd9 st9 (.ref r) gb9 jt9 we9)]) [0, 1, 2, 3] rfl
    have hD9 := hD.sub (ws' := [(oc7 sh (.ref fa) (nI ft)), (oq fa cF 200 FA), (oc1 fe rk9 wd9 tw9 pa9 pb9 (.ref lo) (.ref lk) .null), (oc4 lk kd9 st9 (.ref r) gb9 jt9 we9)]) [0, 1, 2, 3] (by decide) rfl
    rw [hQ9]
    exact W.aret hx hb hr (Or.inl ⟨_, rfl⟩) (Or.inl rfl) (fun t ht hW => ⟨⟨rfl, by rw [ht]; exact hP9, hD9⟩, hS.F ht⟩) hS.2.2 dX8_houseThere_31
  · have c_1 : kd9.toInt = 6 := zc_eq rfl (by decide) c_1
    refine lv_aload_n hx hb dX8_houseThere_22 rfl (lv_at hl 1 rfl) ?_
    refine lv_iload_n hx hb dX8_houseThere_23 rfl (lv_at hl 2 rfl) ?_
    have hPc := hP.sub (ws' := [(oc7 sh (.ref fa) (nI ft)), (oq fa cF 200 FA), (oc1 fe rk9 wd9 tw9 pa9 pb9 (.ref lo) (.ref lk) .null), (oc4 lk kd9 st9 (.ref r) gb9 jt9 we9)]) [0, 1, 2, 3] rfl
    have hDc := hD.sub (ws' := [(oc7 sh (.ref fa) (nI ft)), (oq fa cF 200 FA), (oc1 fe rk9 wd9 tw9 pa9 pb9 (.ref lo) (.ref lk) .null), (oc4 lk kd9 st9 (.ref r) gb9 jt9 we9)]) [0, 1, 2, 3] (by decide) rfl
    have hFc := va_free (wc := [(oc7 sh (.ref fa) (nI ft)), (oq fa cF 200 FA), (oc1 fe rk9 wd9 tw9 pa9 pb9 (.ref lo) (.ref lk) .null), (oc4 lk kd9 st9 (.ref r) gb9 jt9 we9)]) hD hS hA [0, 1, 2, 3] rfl
    refine zcall (st1 := [.null]) (va_runV (As := [.int (nI i)]) (rest := []) ⟨hx, hb, hml, hown, hts⟩ (k_Sheet_rowThere_s l dC dI cI cZ cF H.size sh fa ft FA i fe lo rk9 wd9 tw9 pa9 pb9 lk kd9 st9 gb9 jt9 we9 r (by omega) (by omega) (hFA) (by omega)) (cwV 1 hts (zz_gV mw_987 mw_613 mw_614 mw_100 mc_yX8_rowThere) rfl rfl rfl (by decide +kernel) ⟨Nat.le_of_ble_eq_true rfl, Nat.le_of_ble_eq_true rfl⟩) (zPV2 (q0 := 0) (ci := 7) hPc hDc hK hXN rfl rfl) rfl rfl hl.1 rfl (lv_room (Nat.le_of_ble_eq_true rfl)) dX8_houseThere_24 ⟨Nat.le_of_ble_eq_true rfl, Nat.le_of_ble_eq_true rfl⟩) hS hFc hFc rfl (fun t H1 locs ht hB hk1 hS => ?_)
    obtain ⟨hP1, hD1⟩ := hB
    rw [ht] at hP1
    obtain ⟨hP, hD⟩ := va_join (wr := []) (w1 := [(oc7 sh (.ref fa) (nI ft)), (oq fa cF 200 FA), (oc1 fe rk9 wd9 tw9 pa9 pb9 (.ref lo) (.ref lk) .null), (oc4 lk kd9 st9 (.ref r) gb9 jt9 we9)]) hP hD [0, 1, 2, 3] [] rfl rfl (by decide) (by decide) hk1 hFc hP1 hD1
    clear hk1 hPc hDc hFc hP1 hD1 ht
    generalize H1 = H at hP hS ⊢
    have hP : va_P (dC, dI) classes [(oc7 sh (.ref fa) (nI ft)), (oq fa cF 200 FA), (oc1 fe rk9 wd9 tw9 pa9 pb9 (.ref lo) (.ref lk) .null), (oc4 lk kd9 st9 (.ref r) gb9 jt9 we9)] H := hP
    have hD : va_D A [(oc7 sh (.ref fa) (nI ft)), (oq fa cF 200 FA), (oc1 fe rk9 wd9 tw9 pa9 pb9 (.ref lo) (.ref lk) .null), (oc4 lk kd9 st9 (.ref r) gb9 jt9 we9)] := hD
    refine lv_goto (tgt := 31) hx hb dX8_houseThere_27 (by decide) ?_
    have hP9 := hP.sub (ws' := [(oc7 sh (.ref fa) (nI ft)), (oq fa cF 200 FA), (oc1 fe rk9 wd9 tw9 pa9 pb9 (.ref lo) (.ref lk) .null), (oc4 lk kd9 st9 (.ref r) gb9 jt9 we9)]) [0, 1, 2, 3] rfl
    have hD9 := hD.sub (ws' := [(oc7 sh (.ref fa) (nI ft)), (oq fa cF 200 FA), (oc1 fe rk9 wd9 tw9 pa9 pb9 (.ref lo) (.ref lk) .null), (oc4 lk kd9 st9 (.ref r) gb9 jt9 we9)]) [0, 1, 2, 3] (by decide) rfl
    rw [hQ9]
    exact W.aret hx hb hr (Or.inl ⟨_, rfl⟩) (Or.inl rfl) (fun t ht hW => ⟨⟨rfl, by rw [ht]; exact hP9, hD9⟩, hS.F ht⟩) hS.2.2 dX8_houseThere_31
set_option maxHeartbeats 4000000 in
set_option maxRecDepth 100000 in
theorem k_Sheet_houseThere_t (l : Launch) (dC : Nat → ClassId) (dI : Nat → Nat → Nat) (cI cZ cF : ClassId) (sz : Nat) (sh : Nat) (fa : Nat) (ft : Nat) (FA : Nat → Option Nat) (i : Nat) (fe : Nat) (lo : Nat) (rk9 : Int32) (wd9 : Int32) (tw9 : Int32) (pa9 : Int32) (pb9 : Int32) (lk : Nat) (kd9 : Int32) (st9 : Int32) (gb9 : Int32) (jt9 : Int32) (we9 : Int32) (h200 : ft ≤ 200) (hi : i < ft) (hFA : FA i = some fe) : Met l yX8_houseThere (.code yX8_houseThere cX8_houseThere 3 (some (.object "ScaleShop$Row")) :: ws0) ({ frames := 2, cells := 0, slots := 0, locals := 43 } : Room) (va_Pc [.ref sh, .int (nI i)] (zPre (dC, dI) classes (zTy cI cZ cF) [(oc7 sh (.ref fa) (nI ft)), (oq fa cF 200 FA), (oc1 fe rk9 wd9 tw9 pa9 pb9 (.ref lo) (.ref lk) .null), (oc4 lk kd9 st9 .null gb9 jt9 we9)] sz zXN)) (zQ (some (.null)) (fun t => va_P (dC, dI) classes [(oc7 sh (.ref fa) (nI ft)), (oq fa cF 200 FA), (oc1 fe rk9 wd9 tw9 pa9 pb9 (.ref lo) (.ref lk) .null), (oc4 lk kd9 st9 .null gb9 jt9 we9)] t.heap ∧ va_D (va_A [(oc7 sh (.ref fa) (nI ft)), (oq fa cF 200 FA), (oc1 fe rk9 wd9 tw9 pa9 pb9 (.ref lo) (.ref lk) .null), (oc4 lk kd9 st9 .null gb9 jt9 we9)] sz) [(oc7 sh (.ref fa) (nI ft)), (oq fa cF 200 FA), (oc1 fe rk9 wd9 tw9 pa9 pb9 (.ref lo) (.ref lk) .null), (oc4 lk kd9 st9 .null gb9 jt9 we9)]) (va_A [(oc7 sh (.ref fa) (nI ft)), (oq fa cF 200 FA), (oc1 fe rk9 wd9 tw9 pa9 pb9 (.ref lo) (.ref lk) .null), (oc4 lk kd9 st9 .null gb9 jt9 we9)] sz)) 0 0 (va_A [(oc7 sh (.ref fa) (nI ft)), (oq fa cF 200 FA), (oc1 fe rk9 wd9 tw9 pa9 pb9 (.ref lo) (.ref lk) .null), (oc4 lk kd9 st9 .null gb9 jt9 we9)] sz) := by
  refine Met.ofW (cc := cX8_houseThere) (maxL := 3) (ret := (some (.object "ScaleShop$Row"))) (by decide) rfl ?_
  intro p e s m args below meth c s₁ B hml hv
  obtain ⟨rfl, hsz, hP, hK, hD0, hXN⟩ := hv
  have hx := B.exec
  have hb := B.bytes
  have hr := B.returns
  have hts0 := atoms_spec (ws := .code yX8_houseThere cX8_houseThere 3 (some (.object "ScaleShop$Row")) :: ws0) B.pre
  have hts : ∀ w9 ∈ ws0, w9.before ([.ref sh, .int (nI i)] : List Value).toArray s = true := fun w9 h => hts0 w9 (List.mem_cons_of_mem _ h)
  have hown : s.vm.findClass "ScaleShop$Sheet" = some m.cls := findClass_of_methodNamed B.named
  have hlocks := B.notSynchronized
  subst hsz
  have hD := hD0.self (sz := s.heap.size)
  clear hD0
  generalize hAe : va_A [(oc7 sh (.ref fa) (nI ft)), (oq fa cF 200 FA), (oc1 fe rk9 wd9 tw9 pa9 pb9 (.ref lo) (.ref lk) .null), (oc4 lk kd9 st9 .null gb9 jt9 we9)] s.heap.size = A at hD ⊢
  have hA : ∀ q : Nat, s.heap.size ≤ q → A q := fun q h => by rw [← hAe]; exact Or.inr h
  clear hAe
  have hS : va_S A s.heap s.heap [] := va_S.rf
  have hP : va_P (dC, dI) classes [(oc7 sh (.ref fa) (nI ft)), (oq fa cF 200 FA), (oc1 fe rk9 wd9 tw9 pa9 pb9 (.ref lo) (.ref lk) .null), (oc4 lk kd9 st9 .null gb9 jt9 we9)] s.heap := hP
  obtain ⟨Q9, hQ9⟩ : ∃ Q9 : State → Prop, Q9 = MQ below (zQ (some (.null)) (fun t => va_P (dC, dI) classes [(oc7 sh (.ref fa) (nI ft)), (oq fa cF 200 FA), (oc1 fe rk9 wd9 tw9 pa9 pb9 (.ref lo) (.ref lk) .null), (oc4 lk kd9 st9 .null gb9 jt9 we9)] t.heap ∧ va_D A [(oc7 sh (.ref fa) (nI ft)), (oq fa cF 200 FA), (oc1 fe rk9 wd9 tw9 pa9 pb9 (.ref lo) (.ref lk) .null), (oc4 lk kd9 st9 .null gb9 jt9 we9)]) A) ([.ref sh, .int (nI i)] : List Value).toArray s 0 0 A := ⟨_, rfl⟩
  rw [← hQ9]
  have hl := lv_entry ([.ref sh, .int (nI i)]) (n := 3) (Nat.le_of_ble_eq_true rfl)
  rw [lg_entry_eq]
  generalize (lg_sl ([.ref sh, .int (nI i)]) ++ List.replicate (3 - (lg_sl ([.ref sh, .int (nI i)])).length) Slot.unset).toArray = ls at hl ⊢
  have hl : lv_has ls 3 [(0, .ref sh), (1, .int (nI i))] := hl
  refine lv_aload_n hx hb dX8_houseThere_0 rfl (lv_at hl 0 rfl) ?_
  refine lv_iload_n hx hb dX8_houseThere_1 rfl (lv_at hl 1 rfl) ?_
  have hPc := hP.sub (ws' := [(oc7 sh (.ref fa) (nI ft)), (oq fa cF 200 FA)]) [0, 1] rfl
  have hDc := hD.sub (ws' := [(oc7 sh (.ref fa) (nI ft)), (oq fa cF 200 FA)]) [0, 1] (by decide) rfl
  have hFc := va_free (wc := [(oc7 sh (.ref fa) (nI ft)), (oq fa cF 200 FA)]) hD hS hA [0, 1] rfl
  refine zcall (st1 := [.ref fe]) (va_runV (As := [.int (nI i)]) (rest := []) ⟨hx, hb, hml, hown, hts⟩ (k_Sheet_find l dC dI cI cZ cF s.heap.size sh fa ft FA i fe (by omega) (by omega) (hFA)) (cwV 1 hts (zz_gV mw_616 mw_499 mw_500 mw_100 mc_yX8_find) rfl rfl rfl (by decide +kernel) ⟨Nat.le_of_ble_eq_true rfl, Nat.le_of_ble_eq_true rfl⟩) (zPV2 (q0 := 0) (ci := 7) hPc hDc hK hXN rfl rfl) rfl rfl hl.1 rfl (lv_room (Nat.le_of_ble_eq_true rfl)) dX8_houseThere_2 ⟨Nat.le_of_ble_eq_true rfl, Nat.le_of_ble_eq_true rfl⟩) hS hFc hFc rfl (fun t H1 locs ht hB hk1 hS => ?_)
  obtain ⟨hP1, hD1⟩ := hB
  rw [ht] at hP1
  obtain ⟨hP, hD⟩ := va_join (wr := [(oc1 fe rk9 wd9 tw9 pa9 pb9 (.ref lo) (.ref lk) .null), (oc4 lk kd9 st9 .null gb9 jt9 we9)]) (w1 := [(oc7 sh (.ref fa) (nI ft)), (oq fa cF 200 FA)]) hP hD [0, 1] [2, 3] rfl rfl (by decide) (by decide) hk1 hFc hP1 hD1
  clear hk1 hPc hDc hFc hP1 hD1 ht
  generalize H1 = H at hP hS ⊢
  have hP := hP.sub (ws' := [(oc7 sh (.ref fa) (nI ft)), (oq fa cF 200 FA), (oc1 fe rk9 wd9 tw9 pa9 pb9 (.ref lo) (.ref lk) .null), (oc4 lk kd9 st9 .null gb9 jt9 we9)]) [2, 3, 0, 1] rfl
  have hD := hD.sub (ws' := [(oc7 sh (.ref fa) (nI ft)), (oq fa cF 200 FA), (oc1 fe rk9 wd9 tw9 pa9 pb9 (.ref lo) (.ref lk) .null), (oc4 lk kd9 st9 .null gb9 jt9 we9)]) [2, 3, 0, 1] (by decide) rfl
  have hP : va_P (dC, dI) classes [(oc7 sh (.ref fa) (nI ft)), (oq fa cF 200 FA), (oc1 fe rk9 wd9 tw9 pa9 pb9 (.ref lo) (.ref lk) .null), (oc4 lk kd9 st9 .null gb9 jt9 we9)] H := hP
  have hD : va_D A [(oc7 sh (.ref fa) (nI ft)), (oq fa cF 200 FA), (oc1 fe rk9 wd9 tw9 pa9 pb9 (.ref lo) (.ref lk) .null), (oc4 lk kd9 st9 .null gb9 jt9 we9)] := hD
  refine lv_astore_n (lv' := [(2, .ref fe), (0, .ref sh), (1, .int (nI i))]) hx hb dX8_houseThere_5 rfl hl (by decide) rfl (fun ls hl => ?_)
  refine lv_aload_n hx hb dX8_houseThere_6 rfl (lv_at hl 0 rfl) ?_
  refine lv_ifnull hx hb dX8_houseThere_7 ?_
  refine lv_aload_n hx hb dX8_houseThere_10 rfl (lv_at hl 0 rfl) ?_
  refine va_get (D := (dC, dI)) (ci := 1) (v := .ref lk) (C := RX2) (T := TX2) (N := 8) hx hb hts inX2 hown hK hP 2 rfl rfl 6 (by decide) (hts _ mw_434) (fun _ h9 => h9) rfl dX8_houseThere_11 ?_
  refine va_get (D := (dC, dI)) (ci := 4) (v := .int kd9) (C := RX5) (T := TX5) (N := 6) hx hb hts inX5 hown hK hP 3 rfl rfl 0 (by decide) (hts _ mw_383) (fun _ h9 => h9) rfl dX8_houseThere_14 ?_
  refine lv_bipush (v := 6) hx hb dX8_houseThere_17 (by decide) ?_
  refine lv_icmp_ne (tgt := 30) hx hb dX8_houseThere_19 (by decide) (fun c_1 => ?_) (fun c_1 => ?_)
  · have c_1 : ¬ kd9.toInt = 6 := zc_ne rfl (by decide) c_1
    refine lv_null hx hb dX8_houseThere_30 ?_
    have hP9 := hP.sub (ws' := [(oc7 sh (.ref fa) (nI ft)), (oq fa cF 200 FA), (oc1 fe rk9 wd9 tw9 pa9 pb9 (.ref lo) (.ref lk) .null), (oc4 lk kd9 st9 .null gb9 jt9 we9)]) [0, 1, 2, 3] rfl
    have hD9 := hD.sub (ws' := [(oc7 sh (.ref fa) (nI ft)), (oq fa cF 200 FA), (oc1 fe rk9 wd9 tw9 pa9 pb9 (.ref lo) (.ref lk) .null), (oc4 lk kd9 st9 .null gb9 jt9 we9)]) [0, 1, 2, 3] (by decide) rfl
    rw [hQ9]
    exact W.aret hx hb hr (Or.inl ⟨_, rfl⟩) (Or.inl rfl) (fun t ht hW => ⟨⟨rfl, by rw [ht]; exact hP9, hD9⟩, hS.F ht⟩) hS.2.2 dX8_houseThere_31
  · have c_1 : kd9.toInt = 6 := zc_eq rfl (by decide) c_1
    refine lv_aload_n hx hb dX8_houseThere_22 rfl (lv_at hl 1 rfl) ?_
    refine lv_iload_n hx hb dX8_houseThere_23 rfl (lv_at hl 2 rfl) ?_
    have hPc := hP.sub (ws' := [(oc7 sh (.ref fa) (nI ft)), (oq fa cF 200 FA), (oc1 fe rk9 wd9 tw9 pa9 pb9 (.ref lo) (.ref lk) .null), (oc4 lk kd9 st9 .null gb9 jt9 we9)]) [0, 1, 2, 3] rfl
    have hDc := hD.sub (ws' := [(oc7 sh (.ref fa) (nI ft)), (oq fa cF 200 FA), (oc1 fe rk9 wd9 tw9 pa9 pb9 (.ref lo) (.ref lk) .null), (oc4 lk kd9 st9 .null gb9 jt9 we9)]) [0, 1, 2, 3] (by decide) rfl
    have hFc := va_free (wc := [(oc7 sh (.ref fa) (nI ft)), (oq fa cF 200 FA), (oc1 fe rk9 wd9 tw9 pa9 pb9 (.ref lo) (.ref lk) .null), (oc4 lk kd9 st9 .null gb9 jt9 we9)]) hD hS hA [0, 1, 2, 3] rfl
    refine zcall (st1 := [.null]) (va_runV (As := [.int (nI i)]) (rest := []) ⟨hx, hb, hml, hown, hts⟩ (k_Sheet_rowThere_t l dC dI cI cZ cF H.size sh fa ft FA i fe lo rk9 wd9 tw9 pa9 pb9 lk kd9 st9 gb9 jt9 we9 (by omega) (by omega) (hFA)) (cwV 1 hts (zz_gV mw_987 mw_613 mw_614 mw_100 mc_yX8_rowThere) rfl rfl rfl (by decide +kernel) ⟨Nat.le_of_ble_eq_true rfl, Nat.le_of_ble_eq_true rfl⟩) (zPV2 (q0 := 0) (ci := 7) hPc hDc hK hXN rfl rfl) rfl rfl hl.1 rfl (lv_room (Nat.le_of_ble_eq_true rfl)) dX8_houseThere_24 ⟨Nat.le_of_ble_eq_true rfl, Nat.le_of_ble_eq_true rfl⟩) hS hFc hFc rfl (fun t H1 locs ht hB hk1 hS => ?_)
    obtain ⟨hP1, hD1⟩ := hB
    rw [ht] at hP1
    obtain ⟨hP, hD⟩ := va_join (wr := []) (w1 := [(oc7 sh (.ref fa) (nI ft)), (oq fa cF 200 FA), (oc1 fe rk9 wd9 tw9 pa9 pb9 (.ref lo) (.ref lk) .null), (oc4 lk kd9 st9 .null gb9 jt9 we9)]) hP hD [0, 1, 2, 3] [] rfl rfl (by decide) (by decide) hk1 hFc hP1 hD1
    clear hk1 hPc hDc hFc hP1 hD1 ht
    generalize H1 = H at hP hS ⊢
    have hP : va_P (dC, dI) classes [(oc7 sh (.ref fa) (nI ft)), (oq fa cF 200 FA), (oc1 fe rk9 wd9 tw9 pa9 pb9 (.ref lo) (.ref lk) .null), (oc4 lk kd9 st9 .null gb9 jt9 we9)] H := hP
    have hD : va_D A [(oc7 sh (.ref fa) (nI ft)), (oq fa cF 200 FA), (oc1 fe rk9 wd9 tw9 pa9 pb9 (.ref lo) (.ref lk) .null), (oc4 lk kd9 st9 .null gb9 jt9 we9)] := hD
    refine lv_goto (tgt := 31) hx hb dX8_houseThere_27 (by decide) ?_
    have hP9 := hP.sub (ws' := [(oc7 sh (.ref fa) (nI ft)), (oq fa cF 200 FA), (oc1 fe rk9 wd9 tw9 pa9 pb9 (.ref lo) (.ref lk) .null), (oc4 lk kd9 st9 .null gb9 jt9 we9)]) [0, 1, 2, 3] rfl
    have hD9 := hD.sub (ws' := [(oc7 sh (.ref fa) (nI ft)), (oq fa cF 200 FA), (oc1 fe rk9 wd9 tw9 pa9 pb9 (.ref lo) (.ref lk) .null), (oc4 lk kd9 st9 .null gb9 jt9 we9)]) [0, 1, 2, 3] (by decide) rfl
    rw [hQ9]
    exact W.aret hx hb hr (Or.inl ⟨_, rfl⟩) (Or.inl rfl) (fun t ht hW => ⟨⟨rfl, by rw [ht]; exact hP9, hD9⟩, hS.F ht⟩) hS.2.2 dX8_houseThere_31
set_option maxHeartbeats 4000000 in
set_option maxRecDepth 100000 in
theorem k_Sheet_houseThere_yf (l : Launch) (dC : Nat → ClassId) (dI : Nat → Nat → Nat) (cI cZ cF : ClassId) (sz : Nat) (sh : Nat) (fa : Nat) (ft : Nat) (FA : Nat → Option Nat) (i : Nat) (fe : Nat) (lo : Nat) (rk9 : Int32) (wd9 : Int32) (tw9 : Int32) (pa9 : Int32) (pb9 : Int32) (lk : Nat) (kd9 : Int32) (st9 : Int32) (gb9 : Int32) (jt9 : Int32) (we9 : Int32) (r : Nat) (fm : Nat) (h200 : ft ≤ 200) (hi : i < ft) (hFA : FA i = some fe) (hs1 : st9.toInt = 1) (hkd : kd9.toInt = 6) : Met l yX8_houseThere (.code yX8_houseThere cX8_houseThere 3 (some (.object "ScaleShop$Row")) :: ws0) ({ frames := 2, cells := 0, slots := 0, locals := 43 } : Room) (va_Pc [.ref sh, .int (nI i)] (zPre (dC, dI) classes (zTy cI cZ cF) [(oc7 sh (.ref fa) (nI ft)), (oq fa cF 200 FA), (oc1 fe rk9 wd9 tw9 pa9 pb9 (.ref lo) (.ref lk) (.ref fm)), (oc4 lk kd9 st9 (.ref r) gb9 jt9 we9)] sz zXN)) (zQ (some (.ref r)) (fun t => va_P (dC, dI) classes [(oc7 sh (.ref fa) (nI ft)), (oq fa cF 200 FA), (oc1 fe rk9 wd9 tw9 pa9 pb9 (.ref lo) (.ref lk) (.ref fm)), (oc4 lk kd9 st9 (.ref r) gb9 jt9 we9)] t.heap ∧ va_D (va_A [(oc7 sh (.ref fa) (nI ft)), (oq fa cF 200 FA), (oc1 fe rk9 wd9 tw9 pa9 pb9 (.ref lo) (.ref lk) (.ref fm)), (oc4 lk kd9 st9 (.ref r) gb9 jt9 we9)] sz) [(oc7 sh (.ref fa) (nI ft)), (oq fa cF 200 FA), (oc1 fe rk9 wd9 tw9 pa9 pb9 (.ref lo) (.ref lk) (.ref fm)), (oc4 lk kd9 st9 (.ref r) gb9 jt9 we9)]) (va_A [(oc7 sh (.ref fa) (nI ft)), (oq fa cF 200 FA), (oc1 fe rk9 wd9 tw9 pa9 pb9 (.ref lo) (.ref lk) (.ref fm)), (oc4 lk kd9 st9 (.ref r) gb9 jt9 we9)] sz)) 0 0 (va_A [(oc7 sh (.ref fa) (nI ft)), (oq fa cF 200 FA), (oc1 fe rk9 wd9 tw9 pa9 pb9 (.ref lo) (.ref lk) (.ref fm)), (oc4 lk kd9 st9 (.ref r) gb9 jt9 we9)] sz) := by
  refine Met.ofW (cc := cX8_houseThere) (maxL := 3) (ret := (some (.object "ScaleShop$Row"))) (by decide) rfl ?_
  intro p e s m args below meth c s₁ B hml hv
  obtain ⟨rfl, hsz, hP, hK, hD0, hXN⟩ := hv
  have hx := B.exec
  have hb := B.bytes
  have hr := B.returns
  have hts0 := atoms_spec (ws := .code yX8_houseThere cX8_houseThere 3 (some (.object "ScaleShop$Row")) :: ws0) B.pre
  have hts : ∀ w9 ∈ ws0, w9.before ([.ref sh, .int (nI i)] : List Value).toArray s = true := fun w9 h => hts0 w9 (List.mem_cons_of_mem _ h)
  have hown : s.vm.findClass "ScaleShop$Sheet" = some m.cls := findClass_of_methodNamed B.named
  have hlocks := B.notSynchronized
  subst hsz
  have hD := hD0.self (sz := s.heap.size)
  clear hD0
  generalize hAe : va_A [(oc7 sh (.ref fa) (nI ft)), (oq fa cF 200 FA), (oc1 fe rk9 wd9 tw9 pa9 pb9 (.ref lo) (.ref lk) (.ref fm)), (oc4 lk kd9 st9 (.ref r) gb9 jt9 we9)] s.heap.size = A at hD ⊢
  have hA : ∀ q : Nat, s.heap.size ≤ q → A q := fun q h => by rw [← hAe]; exact Or.inr h
  clear hAe
  have hS : va_S A s.heap s.heap [] := va_S.rf
  have hP : va_P (dC, dI) classes [(oc7 sh (.ref fa) (nI ft)), (oq fa cF 200 FA), (oc1 fe rk9 wd9 tw9 pa9 pb9 (.ref lo) (.ref lk) (.ref fm)), (oc4 lk kd9 st9 (.ref r) gb9 jt9 we9)] s.heap := hP
  obtain ⟨Q9, hQ9⟩ : ∃ Q9 : State → Prop, Q9 = MQ below (zQ (some (.ref r)) (fun t => va_P (dC, dI) classes [(oc7 sh (.ref fa) (nI ft)), (oq fa cF 200 FA), (oc1 fe rk9 wd9 tw9 pa9 pb9 (.ref lo) (.ref lk) (.ref fm)), (oc4 lk kd9 st9 (.ref r) gb9 jt9 we9)] t.heap ∧ va_D A [(oc7 sh (.ref fa) (nI ft)), (oq fa cF 200 FA), (oc1 fe rk9 wd9 tw9 pa9 pb9 (.ref lo) (.ref lk) (.ref fm)), (oc4 lk kd9 st9 (.ref r) gb9 jt9 we9)]) A) ([.ref sh, .int (nI i)] : List Value).toArray s 0 0 A := ⟨_, rfl⟩
  rw [← hQ9]
  have hl := lv_entry ([.ref sh, .int (nI i)]) (n := 3) (Nat.le_of_ble_eq_true rfl)
  rw [lg_entry_eq]
  generalize (lg_sl ([.ref sh, .int (nI i)]) ++ List.replicate (3 - (lg_sl ([.ref sh, .int (nI i)])).length) Slot.unset).toArray = ls at hl ⊢
  have hl : lv_has ls 3 [(0, .ref sh), (1, .int (nI i))] := hl
  refine lv_aload_n hx hb dX8_houseThere_0 rfl (lv_at hl 0 rfl) ?_
  refine lv_iload_n hx hb dX8_houseThere_1 rfl (lv_at hl 1 rfl) ?_
  have hPc := hP.sub (ws' := [(oc7 sh (.ref fa) (nI ft)), (oq fa cF 200 FA)]) [0, 1] rfl
  have hDc := hD.sub (ws' := [(oc7 sh (.ref fa) (nI ft)), (oq fa cF 200 FA)]) [0, 1] (by decide) rfl
  have hFc := va_free (wc := [(oc7 sh (.ref fa) (nI ft)), (oq fa cF 200 FA)]) hD hS hA [0, 1] rfl
  refine zcall (st1 := [.ref fe]) (va_runV (As := [.int (nI i)]) (rest := []) ⟨hx, hb, hml, hown, hts⟩ (k_Sheet_find l dC dI cI cZ cF s.heap.size sh fa ft FA i fe (by omega) (by omega) (hFA)) (cwV 1 hts (zz_gV mw_616 mw_499 mw_500 mw_100 mc_yX8_find) rfl rfl rfl (by decide +kernel) ⟨Nat.le_of_ble_eq_true rfl, Nat.le_of_ble_eq_true rfl⟩) (zPV2 (q0 := 0) (ci := 7) hPc hDc hK hXN rfl rfl) rfl rfl hl.1 rfl (lv_room (Nat.le_of_ble_eq_true rfl)) dX8_houseThere_2 ⟨Nat.le_of_ble_eq_true rfl, Nat.le_of_ble_eq_true rfl⟩) hS hFc hFc rfl (fun t H1 locs ht hB hk1 hS => ?_)
  obtain ⟨hP1, hD1⟩ := hB
  rw [ht] at hP1
  obtain ⟨hP, hD⟩ := va_join (wr := [(oc1 fe rk9 wd9 tw9 pa9 pb9 (.ref lo) (.ref lk) (.ref fm)), (oc4 lk kd9 st9 (.ref r) gb9 jt9 we9)]) (w1 := [(oc7 sh (.ref fa) (nI ft)), (oq fa cF 200 FA)]) hP hD [0, 1] [2, 3] rfl rfl (by decide) (by decide) hk1 hFc hP1 hD1
  clear hk1 hPc hDc hFc hP1 hD1 ht
  generalize H1 = H at hP hS ⊢
  have hP := hP.sub (ws' := [(oc7 sh (.ref fa) (nI ft)), (oq fa cF 200 FA), (oc1 fe rk9 wd9 tw9 pa9 pb9 (.ref lo) (.ref lk) (.ref fm)), (oc4 lk kd9 st9 (.ref r) gb9 jt9 we9)]) [2, 3, 0, 1] rfl
  have hD := hD.sub (ws' := [(oc7 sh (.ref fa) (nI ft)), (oq fa cF 200 FA), (oc1 fe rk9 wd9 tw9 pa9 pb9 (.ref lo) (.ref lk) (.ref fm)), (oc4 lk kd9 st9 (.ref r) gb9 jt9 we9)]) [2, 3, 0, 1] (by decide) rfl
  have hP : va_P (dC, dI) classes [(oc7 sh (.ref fa) (nI ft)), (oq fa cF 200 FA), (oc1 fe rk9 wd9 tw9 pa9 pb9 (.ref lo) (.ref lk) (.ref fm)), (oc4 lk kd9 st9 (.ref r) gb9 jt9 we9)] H := hP
  have hD : va_D A [(oc7 sh (.ref fa) (nI ft)), (oq fa cF 200 FA), (oc1 fe rk9 wd9 tw9 pa9 pb9 (.ref lo) (.ref lk) (.ref fm)), (oc4 lk kd9 st9 (.ref r) gb9 jt9 we9)] := hD
  refine lv_astore_n (lv' := [(2, .ref fe), (0, .ref sh), (1, .int (nI i))]) hx hb dX8_houseThere_5 rfl hl (by decide) rfl (fun ls hl => ?_)
  refine lv_aload_n hx hb dX8_houseThere_6 rfl (lv_at hl 0 rfl) ?_
  refine lv_ifnull hx hb dX8_houseThere_7 ?_
  refine lv_aload_n hx hb dX8_houseThere_10 rfl (lv_at hl 0 rfl) ?_
  refine va_get (D := (dC, dI)) (ci := 1) (v := .ref lk) (C := RX2) (T := TX2) (N := 8) hx hb hts inX2 hown hK hP 2 rfl rfl 6 (by decide) (hts _ mw_434) (fun _ h9 => h9) rfl dX8_houseThere_11 ?_
  refine va_get (D := (dC, dI)) (ci := 4) (v := .int kd9) (C := RX5) (T := TX5) (N := 6) hx hb hts inX5 hown hK hP 3 rfl rfl 0 (by decide) (hts _ mw_383) (fun _ h9 => h9) rfl dX8_houseThere_14 ?_
  refine lv_bipush (v := 6) hx hb dX8_houseThere_17 (by decide) ?_
  refine lv_icmp_ne (tgt := 30) hx hb dX8_houseThere_19 (by decide) (fun c_1 => ?_) (fun c_1 => ?_)
  · have c_1 : ¬ kd9.toInt = 6 := zc_ne rfl (by decide) c_1
    exfalso; omega
  · have c_1 : kd9.toInt = 6 := zc_eq rfl (by decide) c_1
    refine lv_aload_n hx hb dX8_houseThere_22 rfl (lv_at hl 1 rfl) ?_
    refine lv_iload_n hx hb dX8_houseThere_23 rfl (lv_at hl 2 rfl) ?_
    have hPc := hP.sub (ws' := [(oc7 sh (.ref fa) (nI ft)), (oq fa cF 200 FA), (oc1 fe rk9 wd9 tw9 pa9 pb9 (.ref lo) (.ref lk) (.ref fm)), (oc4 lk kd9 st9 (.ref r) gb9 jt9 we9)]) [0, 1, 2, 3] rfl
    have hDc := hD.sub (ws' := [(oc7 sh (.ref fa) (nI ft)), (oq fa cF 200 FA), (oc1 fe rk9 wd9 tw9 pa9 pb9 (.ref lo) (.ref lk) (.ref fm)), (oc4 lk kd9 st9 (.ref r) gb9 jt9 we9)]) [0, 1, 2, 3] (by decide) rfl
    have hFc := va_free (wc := [(oc7 sh (.ref fa) (nI ft)), (oq fa cF 200 FA), (oc1 fe rk9 wd9 tw9 pa9 pb9 (.ref lo) (.ref lk) (.ref fm)), (oc4 lk kd9 st9 (.ref r) gb9 jt9 we9)]) hD hS hA [0, 1, 2, 3] rfl
    refine zcall (st1 := [.ref r]) (va_runV (As := [.int (nI i)]) (rest := []) ⟨hx, hb, hml, hown, hts⟩ (k_Sheet_rowThere_yf l dC dI cI cZ cF H.size sh fa ft FA i fe lo rk9 wd9 tw9 pa9 pb9 lk kd9 st9 gb9 jt9 we9 r fm (by omega) (by omega) (hFA) (by omega)) (cwV 1 hts (zz_gV mw_987 mw_613 mw_614 mw_100 mc_yX8_rowThere) rfl rfl rfl (by decide +kernel) ⟨Nat.le_of_ble_eq_true rfl, Nat.le_of_ble_eq_true rfl⟩) (zPV2 (q0 := 0) (ci := 7) hPc hDc hK hXN rfl rfl) rfl rfl hl.1 rfl (lv_room (Nat.le_of_ble_eq_true rfl)) dX8_houseThere_24 ⟨Nat.le_of_ble_eq_true rfl, Nat.le_of_ble_eq_true rfl⟩) hS hFc hFc rfl (fun t H1 locs ht hB hk1 hS => ?_)
    obtain ⟨hP1, hD1⟩ := hB
    rw [ht] at hP1
    obtain ⟨hP, hD⟩ := va_join (wr := []) (w1 := [(oc7 sh (.ref fa) (nI ft)), (oq fa cF 200 FA), (oc1 fe rk9 wd9 tw9 pa9 pb9 (.ref lo) (.ref lk) (.ref fm)), (oc4 lk kd9 st9 (.ref r) gb9 jt9 we9)]) hP hD [0, 1, 2, 3] [] rfl rfl (by decide) (by decide) hk1 hFc hP1 hD1
    clear hk1 hPc hDc hFc hP1 hD1 ht
    generalize H1 = H at hP hS ⊢
    have hP : va_P (dC, dI) classes [(oc7 sh (.ref fa) (nI ft)), (oq fa cF 200 FA), (oc1 fe rk9 wd9 tw9 pa9 pb9 (.ref lo) (.ref lk) (.ref fm)), (oc4 lk kd9 st9 (.ref r) gb9 jt9 we9)] H := hP
    have hD : va_D A [(oc7 sh (.ref fa) (nI ft)), (oq fa cF 200 FA), (oc1 fe rk9 wd9 tw9 pa9 pb9 (.ref lo) (.ref lk) (.ref fm)), (oc4 lk kd9 st9 (.ref r) gb9 jt9 we9)] := hD
    refine lv_goto (tgt := 31) hx hb dX8_houseThere_27 (by decide) ?_
    have hP9 := hP.sub (ws' := [(oc7 sh (.ref fa) (nI ft)), (oq fa cF 200 FA), (oc1 fe rk9 wd9 tw9 pa9 pb9 (.ref lo) (.ref lk) (.ref fm)), (oc4 lk kd9 st9 (.ref r) gb9 jt9 we9)]) [0, 1, 2, 3] rfl
    have hD9 := hD.sub (ws' := [(oc7 sh (.ref fa) (nI ft)), (oq fa cF 200 FA), (oc1 fe rk9 wd9 tw9 pa9 pb9 (.ref lo) (.ref lk) (.ref fm)), (oc4 lk kd9 st9 (.ref r) gb9 jt9 we9)]) [0, 1, 2, 3] (by decide) rfl
    rw [hQ9]
    exact W.aret hx hb hr (Or.inl ⟨_, rfl⟩) (Or.inr ⟨_, rfl⟩) (fun t ht hW => ⟨⟨rfl, by rw [ht]; exact hP9, hD9⟩, hS.F ht⟩) hS.2.2 dX8_houseThere_31
set_option maxHeartbeats 4000000 in
set_option maxRecDepth 100000 in
theorem k_Sheet_houseThere_sf (l : Launch) (dC : Nat → ClassId) (dI : Nat → Nat → Nat) (cI cZ cF : ClassId) (sz : Nat) (sh : Nat) (fa : Nat) (ft : Nat) (FA : Nat → Option Nat) (i : Nat) (fe : Nat) (lo : Nat) (rk9 : Int32) (wd9 : Int32) (tw9 : Int32) (pa9 : Int32) (pb9 : Int32) (lk : Nat) (kd9 : Int32) (st9 : Int32) (gb9 : Int32) (jt9 : Int32) (we9 : Int32) (r : Nat) (fm : Nat) (h200 : ft ≤ 200) (hi : i < ft) (hFA : FA i = some fe) (hs1 : ¬ (st9.toInt = 1 ∧ kd9.toInt = 6)) : Met l yX8_houseThere (.code yX8_houseThere cX8_houseThere 3 (some (.object "ScaleShop$Row")) :: ws0) ({ frames := 2, cells := 0, slots := 0, locals := 43 } : Room) (va_Pc [.ref sh, .int (nI i)] (zPre (dC, dI) classes (zTy cI cZ cF) [(oc7 sh (.ref fa) (nI ft)), (oq fa cF 200 FA), (oc1 fe rk9 wd9 tw9 pa9 pb9 (.ref lo) (.ref lk) (.ref fm)), (oc4 lk kd9 st9 (.ref r) gb9 jt9 we9)] sz zXN)) (zQ (some (.null)) (fun t => va_P (dC, dI) classes [(oc7 sh (.ref fa) (nI ft)), (oq fa cF 200 FA), (oc1 fe rk9 wd9 tw9 pa9 pb9 (.ref lo) (.ref lk) (.ref fm)), (oc4 lk kd9 st9 (.ref r) gb9 jt9 we9)] t.heap ∧ va_D (va_A [(oc7 sh (.ref fa) (nI ft)), (oq fa cF 200 FA), (oc1 fe rk9 wd9 tw9 pa9 pb9 (.ref lo) (.ref lk) (.ref fm)), (oc4 lk kd9 st9 (.ref r) gb9 jt9 we9)] sz) [(oc7 sh (.ref fa) (nI ft)), (oq fa cF 200 FA), (oc1 fe rk9 wd9 tw9 pa9 pb9 (.ref lo) (.ref lk) (.ref fm)), (oc4 lk kd9 st9 (.ref r) gb9 jt9 we9)]) (va_A [(oc7 sh (.ref fa) (nI ft)), (oq fa cF 200 FA), (oc1 fe rk9 wd9 tw9 pa9 pb9 (.ref lo) (.ref lk) (.ref fm)), (oc4 lk kd9 st9 (.ref r) gb9 jt9 we9)] sz)) 0 0 (va_A [(oc7 sh (.ref fa) (nI ft)), (oq fa cF 200 FA), (oc1 fe rk9 wd9 tw9 pa9 pb9 (.ref lo) (.ref lk) (.ref fm)), (oc4 lk kd9 st9 (.ref r) gb9 jt9 we9)] sz) := by
  refine Met.ofW (cc := cX8_houseThere) (maxL := 3) (ret := (some (.object "ScaleShop$Row"))) (by decide) rfl ?_
  intro p e s m args below meth c s₁ B hml hv
  obtain ⟨rfl, hsz, hP, hK, hD0, hXN⟩ := hv
  have hx := B.exec
  have hb := B.bytes
  have hr := B.returns
  have hts0 := atoms_spec (ws := .code yX8_houseThere cX8_houseThere 3 (some (.object "ScaleShop$Row")) :: ws0) B.pre
  have hts : ∀ w9 ∈ ws0, w9.before ([.ref sh, .int (nI i)] : List Value).toArray s = true := fun w9 h => hts0 w9 (List.mem_cons_of_mem _ h)
  have hown : s.vm.findClass "ScaleShop$Sheet" = some m.cls := findClass_of_methodNamed B.named
  have hlocks := B.notSynchronized
  subst hsz
  have hD := hD0.self (sz := s.heap.size)
  clear hD0
  generalize hAe : va_A [(oc7 sh (.ref fa) (nI ft)), (oq fa cF 200 FA), (oc1 fe rk9 wd9 tw9 pa9 pb9 (.ref lo) (.ref lk) (.ref fm)), (oc4 lk kd9 st9 (.ref r) gb9 jt9 we9)] s.heap.size = A at hD ⊢
  have hA : ∀ q : Nat, s.heap.size ≤ q → A q := fun q h => by rw [← hAe]; exact Or.inr h
  clear hAe
  have hS : va_S A s.heap s.heap [] := va_S.rf
  have hP : va_P (dC, dI) classes [(oc7 sh (.ref fa) (nI ft)), (oq fa cF 200 FA), (oc1 fe rk9 wd9 tw9 pa9 pb9 (.ref lo) (.ref lk) (.ref fm)), (oc4 lk kd9 st9 (.ref r) gb9 jt9 we9)] s.heap := hP
  obtain ⟨Q9, hQ9⟩ : ∃ Q9 : State → Prop, Q9 = MQ below (zQ (some (.null)) (fun t => va_P (dC, dI) classes [(oc7 sh (.ref fa) (nI ft)), (oq fa cF 200 FA), (oc1 fe rk9 wd9 tw9 pa9 pb9 (.ref lo) (.ref lk) (.ref fm)), (oc4 lk kd9 st9 (.ref r) gb9 jt9 we9)] t.heap ∧ va_D A [(oc7 sh (.ref fa) (nI ft)), (oq fa cF 200 FA), (oc1 fe rk9 wd9 tw9 pa9 pb9 (.ref lo) (.ref lk) (.ref fm)), (oc4 lk kd9 st9 (.ref r) gb9 jt9 we9)]) A) ([.ref sh, .int (nI i)] : List Value).toArray s 0 0 A := ⟨_, rfl⟩
  rw [← hQ9]
  have hl := lv_entry ([.ref sh, .int (nI i)]) (n := 3) (Nat.le_of_ble_eq_true rfl)
  rw [lg_entry_eq]
  generalize (lg_sl ([.ref sh, .int (nI i)]) ++ List.replicate (3 - (lg_sl ([.ref sh, .int (nI i)])).length) Slot.unset).toArray = ls at hl ⊢
  have hl : lv_has ls 3 [(0, .ref sh), (1, .int (nI i))] := hl
  refine lv_aload_n hx hb dX8_houseThere_0 rfl (lv_at hl 0 rfl) ?_
  refine lv_iload_n hx hb dX8_houseThere_1 rfl (lv_at hl 1 rfl) ?_
  have hPc := hP.sub (ws' := [(oc7 sh (.ref fa) (nI ft)), (oq fa cF 200 FA)]) [0, 1] rfl
  have hDc := hD.sub (ws' := [(oc7 sh (.ref fa) (nI ft)), (oq fa cF 200 FA)]) [0, 1] (by decide) rfl
  have hFc := va_free (wc := [(oc7 sh (.ref fa) (nI ft)), (oq fa cF 200 FA)]) hD hS hA [0, 1] rfl
  refine zcall (st1 := [.ref fe]) (va_runV (As := [.int (nI i)]) (rest := []) ⟨hx, hb, hml, hown, hts⟩ (k_Sheet_find l dC dI cI cZ cF s.heap.size sh fa ft FA i fe (by omega) (by omega) (hFA)) (cwV 1 hts (zz_gV mw_616 mw_499 mw_500 mw_100 mc_yX8_find) rfl rfl rfl (by decide +kernel) ⟨Nat.le_of_ble_eq_true rfl, Nat.le_of_ble_eq_true rfl⟩) (zPV2 (q0 := 0) (ci := 7) hPc hDc hK hXN rfl rfl) rfl rfl hl.1 rfl (lv_room (Nat.le_of_ble_eq_true rfl)) dX8_houseThere_2 ⟨Nat.le_of_ble_eq_true rfl, Nat.le_of_ble_eq_true rfl⟩) hS hFc hFc rfl (fun t H1 locs ht hB hk1 hS => ?_)
  obtain ⟨hP1, hD1⟩ := hB
  rw [ht] at hP1
  obtain ⟨hP, hD⟩ := va_join (wr := [(oc1 fe rk9 wd9 tw9 pa9 pb9 (.ref lo) (.ref lk) (.ref fm)), (oc4 lk kd9 st9 (.ref r) gb9 jt9 we9)]) (w1 := [(oc7 sh (.ref fa) (nI ft)), (oq fa cF 200 FA)]) hP hD [0, 1] [2, 3] rfl rfl (by decide) (by decide) hk1 hFc hP1 hD1
  clear hk1 hPc hDc hFc hP1 hD1 ht
  generalize H1 = H at hP hS ⊢
  have hP := hP.sub (ws' := [(oc7 sh (.ref fa) (nI ft)), (oq fa cF 200 FA), (oc1 fe rk9 wd9 tw9 pa9 pb9 (.ref lo) (.ref lk) (.ref fm)), (oc4 lk kd9 st9 (.ref r) gb9 jt9 we9)]) [2, 3, 0, 1] rfl
  have hD := hD.sub (ws' := [(oc7 sh (.ref fa) (nI ft)), (oq fa cF 200 FA), (oc1 fe rk9 wd9 tw9 pa9 pb9 (.ref lo) (.ref lk) (.ref fm)), (oc4 lk kd9 st9 (.ref r) gb9 jt9 we9)]) [2, 3, 0, 1] (by decide) rfl
  have hP : va_P (dC, dI) classes [(oc7 sh (.ref fa) (nI ft)), (oq fa cF 200 FA), (oc1 fe rk9 wd9 tw9 pa9 pb9 (.ref lo) (.ref lk) (.ref fm)), (oc4 lk kd9 st9 (.ref r) gb9 jt9 we9)] H := hP
  have hD : va_D A [(oc7 sh (.ref fa) (nI ft)), (oq fa cF 200 FA), (oc1 fe rk9 wd9 tw9 pa9 pb9 (.ref lo) (.ref lk) (.ref fm)), (oc4 lk kd9 st9 (.ref r) gb9 jt9 we9)] := hD
  refine lv_astore_n (lv' := [(2, .ref fe), (0, .ref sh), (1, .int (nI i))]) hx hb dX8_houseThere_5 rfl hl (by decide) rfl (fun ls hl => ?_)
  refine lv_aload_n hx hb dX8_houseThere_6 rfl (lv_at hl 0 rfl) ?_
  refine lv_ifnull hx hb dX8_houseThere_7 ?_
  refine lv_aload_n hx hb dX8_houseThere_10 rfl (lv_at hl 0 rfl) ?_
  refine va_get (D := (dC, dI)) (ci := 1) (v := .ref lk) (C := RX2) (T := TX2) (N := 8) hx hb hts inX2 hown hK hP 2 rfl rfl 6 (by decide) (hts _ mw_434) (fun _ h9 => h9) rfl dX8_houseThere_11 ?_
  refine va_get (D := (dC, dI)) (ci := 4) (v := .int kd9) (C := RX5) (T := TX5) (N := 6) hx hb hts inX5 hown hK hP 3 rfl rfl 0 (by decide) (hts _ mw_383) (fun _ h9 => h9) rfl dX8_houseThere_14 ?_
  refine lv_bipush (v := 6) hx hb dX8_houseThere_17 (by decide) ?_
  refine lv_icmp_ne (tgt := 30) hx hb dX8_houseThere_19 (by decide) (fun c_1 => ?_) (fun c_1 => ?_)
  · have c_1 : ¬ kd9.toInt = 6 := zc_ne rfl (by decide) c_1
    refine lv_null hx hb dX8_houseThere_30 ?_
    have hP9 := hP.sub (ws' := [(oc7 sh (.ref fa) (nI ft)), (oq fa cF 200 FA), (oc1 fe rk9 wd9 tw9 pa9 pb9 (.ref lo) (.ref lk) (.ref fm)), (oc4 lk kd9 st9 (.ref r) gb9 jt9 we9)]) [0, 1, 2, 3] rfl
    have hD9 := hD.sub (ws' := [(oc7 sh (.ref fa) (nI ft)), (oq fa cF 200 FA), (oc1 fe rk9 wd9 tw9 pa9 pb9 (.ref lo) (.ref lk) (.ref fm)), (oc4 lk kd9 st9 (.ref r) gb9 jt9 we9)]) [0, 1, 2, 3] (by decide) rfl
    rw [hQ9]
    exact W.aret hx hb hr (Or.inl ⟨_, rfl⟩) (Or.inl rfl) (fun t ht hW => ⟨⟨rfl, by rw [ht]; exact hP9, hD9⟩, hS.F ht⟩) hS.2.2 dX8_houseThere_31
  · have c_1 : kd9.toInt = 6 := zc_eq rfl (by decide) c_1
    refine lv_aload_n hx hb dX8_houseThere_22 rfl (lv_at hl 1 rfl) ?_
    refine lv_iload_n hx hb dX8_houseThere_23 rfl (lv_at hl 2 rfl) ?_
    have hPc := hP.sub (ws' := [(oc7 sh (.ref fa) (nI ft)), (oq fa cF 200 FA), (oc1 fe rk9 wd9 tw9 pa9 pb9 (.ref lo) (.ref lk) (.ref fm)), (oc4 lk kd9 st9 (.ref r) gb9 jt9 we9)]) [0, 1, 2, 3] rfl
    have hDc := hD.sub (ws' := [(oc7 sh (.ref fa) (nI ft)), (oq fa cF 200 FA), (oc1 fe rk9 wd9 tw9 pa9 pb9 (.ref lo) (.ref lk) (.ref fm)), (oc4 lk kd9 st9 (.ref r) gb9 jt9 we9)]) [0, 1, 2, 3] (by decide) rfl
    have hFc := va_free (wc := [(oc7 sh (.ref fa) (nI ft)), (oq fa cF 200 FA), (oc1 fe rk9 wd9 tw9 pa9 pb9 (.ref lo) (.ref lk) (.ref fm)), (oc4 lk kd9 st9 (.ref r) gb9 jt9 we9)]) hD hS hA [0, 1, 2, 3] rfl
    refine zcall (st1 := [.null]) (va_runV (As := [.int (nI i)]) (rest := []) ⟨hx, hb, hml, hown, hts⟩ (k_Sheet_rowThere_sf l dC dI cI cZ cF H.size sh fa ft FA i fe lo rk9 wd9 tw9 pa9 pb9 lk kd9 st9 gb9 jt9 we9 r fm (by omega) (by omega) (hFA) (by omega)) (cwV 1 hts (zz_gV mw_987 mw_613 mw_614 mw_100 mc_yX8_rowThere) rfl rfl rfl (by decide +kernel) ⟨Nat.le_of_ble_eq_true rfl, Nat.le_of_ble_eq_true rfl⟩) (zPV2 (q0 := 0) (ci := 7) hPc hDc hK hXN rfl rfl) rfl rfl hl.1 rfl (lv_room (Nat.le_of_ble_eq_true rfl)) dX8_houseThere_24 ⟨Nat.le_of_ble_eq_true rfl, Nat.le_of_ble_eq_true rfl⟩) hS hFc hFc rfl (fun t H1 locs ht hB hk1 hS => ?_)
    obtain ⟨hP1, hD1⟩ := hB
    rw [ht] at hP1
    obtain ⟨hP, hD⟩ := va_join (wr := []) (w1 := [(oc7 sh (.ref fa) (nI ft)), (oq fa cF 200 FA), (oc1 fe rk9 wd9 tw9 pa9 pb9 (.ref lo) (.ref lk) (.ref fm)), (oc4 lk kd9 st9 (.ref r) gb9 jt9 we9)]) hP hD [0, 1, 2, 3] [] rfl rfl (by decide) (by decide) hk1 hFc hP1 hD1
    clear hk1 hPc hDc hFc hP1 hD1 ht
    generalize H1 = H at hP hS ⊢
    have hP : va_P (dC, dI) classes [(oc7 sh (.ref fa) (nI ft)), (oq fa cF 200 FA), (oc1 fe rk9 wd9 tw9 pa9 pb9 (.ref lo) (.ref lk) (.ref fm)), (oc4 lk kd9 st9 (.ref r) gb9 jt9 we9)] H := hP
    have hD : va_D A [(oc7 sh (.ref fa) (nI ft)), (oq fa cF 200 FA), (oc1 fe rk9 wd9 tw9 pa9 pb9 (.ref lo) (.ref lk) (.ref fm)), (oc4 lk kd9 st9 (.ref r) gb9 jt9 we9)] := hD
    refine lv_goto (tgt := 31) hx hb dX8_houseThere_27 (by decide) ?_
    have hP9 := hP.sub (ws' := [(oc7 sh (.ref fa) (nI ft)), (oq fa cF 200 FA), (oc1 fe rk9 wd9 tw9 pa9 pb9 (.ref lo) (.ref lk) (.ref fm)), (oc4 lk kd9 st9 (.ref r) gb9 jt9 we9)]) [0, 1, 2, 3] rfl
    have hD9 := hD.sub (ws' := [(oc7 sh (.ref fa) (nI ft)), (oq fa cF 200 FA), (oc1 fe rk9 wd9 tw9 pa9 pb9 (.ref lo) (.ref lk) (.ref fm)), (oc4 lk kd9 st9 (.ref r) gb9 jt9 we9)]) [0, 1, 2, 3] (by decide) rfl
    rw [hQ9]
    exact W.aret hx hb hr (Or.inl ⟨_, rfl⟩) (Or.inl rfl) (fun t ht hW => ⟨⟨rfl, by rw [ht]; exact hP9, hD9⟩, hS.F ht⟩) hS.2.2 dX8_houseThere_31
set_option maxHeartbeats 4000000 in
set_option maxRecDepth 100000 in
theorem k_Sheet_houseThere_tf (l : Launch) (dC : Nat → ClassId) (dI : Nat → Nat → Nat) (cI cZ cF : ClassId) (sz : Nat) (sh : Nat) (fa : Nat) (ft : Nat) (FA : Nat → Option Nat) (i : Nat) (fe : Nat) (lo : Nat) (rk9 : Int32) (wd9 : Int32) (tw9 : Int32) (pa9 : Int32) (pb9 : Int32) (lk : Nat) (kd9 : Int32) (st9 : Int32) (gb9 : Int32) (jt9 : Int32) (we9 : Int32) (fm : Nat) (h200 : ft ≤ 200) (hi : i < ft) (hFA : FA i = some fe) : Met l yX8_houseThere (.code yX8_houseThere cX8_houseThere 3 (some (.object "ScaleShop$Row")) :: ws0) ({ frames := 2, cells := 0, slots := 0, locals := 43 } : Room) (va_Pc [.ref sh, .int (nI i)] (zPre (dC, dI) classes (zTy cI cZ cF) [(oc7 sh (.ref fa) (nI ft)), (oq fa cF 200 FA), (oc1 fe rk9 wd9 tw9 pa9 pb9 (.ref lo) (.ref lk) (.ref fm)), (oc4 lk kd9 st9 .null gb9 jt9 we9)] sz zXN)) (zQ (some (.null)) (fun t => va_P (dC, dI) classes [(oc7 sh (.ref fa) (nI ft)), (oq fa cF 200 FA), (oc1 fe rk9 wd9 tw9 pa9 pb9 (.ref lo) (.ref lk) (.ref fm)), (oc4 lk kd9 st9 .null gb9 jt9 we9)] t.heap ∧ va_D (va_A [(oc7 sh (.ref fa) (nI ft)), (oq fa cF 200 FA), (oc1 fe rk9 wd9 tw9 pa9 pb9 (.ref lo) (.ref lk) (.ref fm)), (oc4 lk kd9 st9 .null gb9 jt9 we9)] sz) [(oc7 sh (.ref fa) (nI ft)), (oq fa cF 200 FA), (oc1 fe rk9 wd9 tw9 pa9 pb9 (.ref lo) (.ref lk) (.ref fm)), (oc4 lk kd9 st9 .null gb9 jt9 we9)]) (va_A [(oc7 sh (.ref fa) (nI ft)), (oq fa cF 200 FA), (oc1 fe rk9 wd9 tw9 pa9 pb9 (.ref lo) (.ref lk) (.ref fm)), (oc4 lk kd9 st9 .null gb9 jt9 we9)] sz)) 0 0 (va_A [(oc7 sh (.ref fa) (nI ft)), (oq fa cF 200 FA), (oc1 fe rk9 wd9 tw9 pa9 pb9 (.ref lo) (.ref lk) (.ref fm)), (oc4 lk kd9 st9 .null gb9 jt9 we9)] sz) := by
  refine Met.ofW (cc := cX8_houseThere) (maxL := 3) (ret := (some (.object "ScaleShop$Row"))) (by decide) rfl ?_
  intro p e s m args below meth c s₁ B hml hv
  obtain ⟨rfl, hsz, hP, hK, hD0, hXN⟩ := hv
  have hx := B.exec
  have hb := B.bytes
  have hr := B.returns
  have hts0 := atoms_spec (ws := .code yX8_houseThere cX8_houseThere 3 (some (.object "ScaleShop$Row")) :: ws0) B.pre
  have hts : ∀ w9 ∈ ws0, w9.before ([.ref sh, .int (nI i)] : List Value).toArray s = true := fun w9 h => hts0 w9 (List.mem_cons_of_mem _ h)
  have hown : s.vm.findClass "ScaleShop$Sheet" = some m.cls := findClass_of_methodNamed B.named
  have hlocks := B.notSynchronized
  subst hsz
  have hD := hD0.self (sz := s.heap.size)
  clear hD0
  generalize hAe : va_A [(oc7 sh (.ref fa) (nI ft)), (oq fa cF 200 FA), (oc1 fe rk9 wd9 tw9 pa9 pb9 (.ref lo) (.ref lk) (.ref fm)), (oc4 lk kd9 st9 .null gb9 jt9 we9)] s.heap.size = A at hD ⊢
  have hA : ∀ q : Nat, s.heap.size ≤ q → A q := fun q h => by rw [← hAe]; exact Or.inr h
  clear hAe
  have hS : va_S A s.heap s.heap [] := va_S.rf
  have hP : va_P (dC, dI) classes [(oc7 sh (.ref fa) (nI ft)), (oq fa cF 200 FA), (oc1 fe rk9 wd9 tw9 pa9 pb9 (.ref lo) (.ref lk) (.ref fm)), (oc4 lk kd9 st9 .null gb9 jt9 we9)] s.heap := hP
  obtain ⟨Q9, hQ9⟩ : ∃ Q9 : State → Prop, Q9 = MQ below (zQ (some (.null)) (fun t => va_P (dC, dI) classes [(oc7 sh (.ref fa) (nI ft)), (oq fa cF 200 FA), (oc1 fe rk9 wd9 tw9 pa9 pb9 (.ref lo) (.ref lk) (.ref fm)), (oc4 lk kd9 st9 .null gb9 jt9 we9)] t.heap ∧ va_D A [(oc7 sh (.ref fa) (nI ft)), (oq fa cF 200 FA), (oc1 fe rk9 wd9 tw9 pa9 pb9 (.ref lo) (.ref lk) (.ref fm)), (oc4 lk kd9 st9 .null gb9 jt9 we9)]) A) ([.ref sh, .int (nI i)] : List Value).toArray s 0 0 A := ⟨_, rfl⟩
  rw [← hQ9]
  have hl := lv_entry ([.ref sh, .int (nI i)]) (n := 3) (Nat.le_of_ble_eq_true rfl)
  rw [lg_entry_eq]
  generalize (lg_sl ([.ref sh, .int (nI i)]) ++ List.replicate (3 - (lg_sl ([.ref sh, .int (nI i)])).length) Slot.unset).toArray = ls at hl ⊢
  have hl : lv_has ls 3 [(0, .ref sh), (1, .int (nI i))] := hl
  refine lv_aload_n hx hb dX8_houseThere_0 rfl (lv_at hl 0 rfl) ?_
  refine lv_iload_n hx hb dX8_houseThere_1 rfl (lv_at hl 1 rfl) ?_
  have hPc := hP.sub (ws' := [(oc7 sh (.ref fa) (nI ft)), (oq fa cF 200 FA)]) [0, 1] rfl
  have hDc := hD.sub (ws' := [(oc7 sh (.ref fa) (nI ft)), (oq fa cF 200 FA)]) [0, 1] (by decide) rfl
  have hFc := va_free (wc := [(oc7 sh (.ref fa) (nI ft)), (oq fa cF 200 FA)]) hD hS hA [0, 1] rfl
  refine zcall (st1 := [.ref fe]) (va_runV (As := [.int (nI i)]) (rest := []) ⟨hx, hb, hml, hown, hts⟩ (k_Sheet_find l dC dI cI cZ cF s.heap.size sh fa ft FA i fe (by omega) (by omega) (hFA)) (cwV 1 hts (zz_gV mw_616 mw_499 mw_500 mw_100 mc_yX8_find) rfl rfl rfl (by decide +kernel) ⟨Nat.le_of_ble_eq_true rfl, Nat.le_of_ble_eq_true rfl⟩) (zPV2 (q0 := 0) (ci := 7) hPc hDc hK hXN rfl rfl) rfl rfl hl.1 rfl (lv_room (Nat.le_of_ble_eq_true rfl)) dX8_houseThere_2 ⟨Nat.le_of_ble_eq_true rfl, Nat.le_of_ble_eq_true rfl⟩) hS hFc hFc rfl (fun t H1 locs ht hB hk1 hS => ?_)
  obtain ⟨hP1, hD1⟩ := hB
  rw [ht] at hP1
  obtain ⟨hP, hD⟩ := va_join (wr := [(oc1 fe rk9 wd9 tw9 pa9 pb9 (.ref lo) (.ref lk) (.ref fm)), (oc4 lk kd9 st9 .null gb9 jt9 we9)]) (w1 := [(oc7 sh (.ref fa) (nI ft)), (oq fa cF 200 FA)]) hP hD [0, 1] [2, 3] rfl rfl (by decide) (by decide) hk1 hFc hP1 hD1
  clear hk1 hPc hDc hFc hP1 hD1 ht
  generalize H1 = H at hP hS ⊢
  have hP := hP.sub (ws' := [(oc7 sh (.ref fa) (nI ft)), (oq fa cF 200 FA), (oc1 fe rk9 wd9 tw9 pa9 pb9 (.ref lo) (.ref lk) (.ref fm)), (oc4 lk kd9 st9 .null gb9 jt9 we9)]) [2, 3, 0, 1] rfl
  have hD := hD.sub (ws' := [(oc7 sh (.ref fa) (nI ft)), (oq fa cF 200 FA), (oc1 fe rk9 wd9 tw9 pa9 pb9 (.ref lo) (.ref lk) (.ref fm)), (oc4 lk kd9 st9 .null gb9 jt9 we9)]) [2, 3, 0, 1] (by decide) rfl
  have hP : va_P (dC, dI) classes [(oc7 sh (.ref fa) (nI ft)), (oq fa cF 200 FA), (oc1 fe rk9 wd9 tw9 pa9 pb9 (.ref lo) (.ref lk) (.ref fm)), (oc4 lk kd9 st9 .null gb9 jt9 we9)] H := hP
  have hD : va_D A [(oc7 sh (.ref fa) (nI ft)), (oq fa cF 200 FA), (oc1 fe rk9 wd9 tw9 pa9 pb9 (.ref lo) (.ref lk) (.ref fm)), (oc4 lk kd9 st9 .null gb9 jt9 we9)] := hD
  refine lv_astore_n (lv' := [(2, .ref fe), (0, .ref sh), (1, .int (nI i))]) hx hb dX8_houseThere_5 rfl hl (by decide) rfl (fun ls hl => ?_)
  refine lv_aload_n hx hb dX8_houseThere_6 rfl (lv_at hl 0 rfl) ?_
  refine lv_ifnull hx hb dX8_houseThere_7 ?_
  refine lv_aload_n hx hb dX8_houseThere_10 rfl (lv_at hl 0 rfl) ?_
  refine va_get (D := (dC, dI)) (ci := 1) (v := .ref lk) (C := RX2) (T := TX2) (N := 8) hx hb hts inX2 hown hK hP 2 rfl rfl 6 (by decide) (hts _ mw_434) (fun _ h9 => h9) rfl dX8_houseThere_11 ?_
  refine va_get (D := (dC, dI)) (ci := 4) (v := .int kd9) (C := RX5) (T := TX5) (N := 6) hx hb hts inX5 hown hK hP 3 rfl rfl 0 (by decide) (hts _ mw_383) (fun _ h9 => h9) rfl dX8_houseThere_14 ?_
  refine lv_bipush (v := 6) hx hb dX8_houseThere_17 (by decide) ?_
  refine lv_icmp_ne (tgt := 30) hx hb dX8_houseThere_19 (by decide) (fun c_1 => ?_) (fun c_1 => ?_)
  · have c_1 : ¬ kd9.toInt = 6 := zc_ne rfl (by decide) c_1
    refine lv_null hx hb dX8_houseThere_30 ?_
    have hP9 := hP.sub (ws' := [(oc7 sh (.ref fa) (nI ft)), (oq fa cF 200 FA), (oc1 fe rk9 wd9 tw9 pa9 pb9 (.ref lo) (.ref lk) (.ref fm)), (oc4 lk kd9 st9 .null gb9 jt9 we9)]) [0, 1, 2, 3] rfl
    have hD9 := hD.sub (ws' := [(oc7 sh (.ref fa) (nI ft)), (oq fa cF 200 FA), (oc1 fe rk9 wd9 tw9 pa9 pb9 (.ref lo) (.ref lk) (.ref fm)), (oc4 lk kd9 st9 .null gb9 jt9 we9)]) [0, 1, 2, 3] (by decide) rfl
    rw [hQ9]
    exact W.aret hx hb hr (Or.inl ⟨_, rfl⟩) (Or.inl rfl) (fun t ht hW => ⟨⟨rfl, by rw [ht]; exact hP9, hD9⟩, hS.F ht⟩) hS.2.2 dX8_houseThere_31
  · have c_1 : kd9.toInt = 6 := zc_eq rfl (by decide) c_1
    refine lv_aload_n hx hb dX8_houseThere_22 rfl (lv_at hl 1 rfl) ?_
    refine lv_iload_n hx hb dX8_houseThere_23 rfl (lv_at hl 2 rfl) ?_
    have hPc := hP.sub (ws' := [(oc7 sh (.ref fa) (nI ft)), (oq fa cF 200 FA), (oc1 fe rk9 wd9 tw9 pa9 pb9 (.ref lo) (.ref lk) (.ref fm)), (oc4 lk kd9 st9 .null gb9 jt9 we9)]) [0, 1, 2, 3] rfl
    have hDc := hD.sub (ws' := [(oc7 sh (.ref fa) (nI ft)), (oq fa cF 200 FA), (oc1 fe rk9 wd9 tw9 pa9 pb9 (.ref lo) (.ref lk) (.ref fm)), (oc4 lk kd9 st9 .null gb9 jt9 we9)]) [0, 1, 2, 3] (by decide) rfl
    have hFc := va_free (wc := [(oc7 sh (.ref fa) (nI ft)), (oq fa cF 200 FA), (oc1 fe rk9 wd9 tw9 pa9 pb9 (.ref lo) (.ref lk) (.ref fm)), (oc4 lk kd9 st9 .null gb9 jt9 we9)]) hD hS hA [0, 1, 2, 3] rfl
    refine zcall (st1 := [.null]) (va_runV (As := [.int (nI i)]) (rest := []) ⟨hx, hb, hml, hown, hts⟩ (k_Sheet_rowThere_tf l dC dI cI cZ cF H.size sh fa ft FA i fe lo rk9 wd9 tw9 pa9 pb9 lk kd9 st9 gb9 jt9 we9 fm (by omega) (by omega) (hFA)) (cwV 1 hts (zz_gV mw_987 mw_613 mw_614 mw_100 mc_yX8_rowThere) rfl rfl rfl (by decide +kernel) ⟨Nat.le_of_ble_eq_true rfl, Nat.le_of_ble_eq_true rfl⟩) (zPV2 (q0 := 0) (ci := 7) hPc hDc hK hXN rfl rfl) rfl rfl hl.1 rfl (lv_room (Nat.le_of_ble_eq_true rfl)) dX8_houseThere_24 ⟨Nat.le_of_ble_eq_true rfl, Nat.le_of_ble_eq_true rfl⟩) hS hFc hFc rfl (fun t H1 locs ht hB hk1 hS => ?_)
    obtain ⟨hP1, hD1⟩ := hB
    rw [ht] at hP1
    obtain ⟨hP, hD⟩ := va_join (wr := []) (w1 := [(oc7 sh (.ref fa) (nI ft)), (oq fa cF 200 FA), (oc1 fe rk9 wd9 tw9 pa9 pb9 (.ref lo) (.ref lk) (.ref fm)), (oc4 lk kd9 st9 .null gb9 jt9 we9)]) hP hD [0, 1, 2, 3] [] rfl rfl (by decide) (by decide) hk1 hFc hP1 hD1
    clear hk1 hPc hDc hFc hP1 hD1 ht
    generalize H1 = H at hP hS ⊢
    have hP : va_P (dC, dI) classes [(oc7 sh (.ref fa) (nI ft)), (oq fa cF 200 FA), (oc1 fe rk9 wd9 tw9 pa9 pb9 (.ref lo) (.ref lk) (.ref fm)), (oc4 lk kd9 st9 .null gb9 jt9 we9)] H := hP
    have hD : va_D A [(oc7 sh (.ref fa) (nI ft)), (oq fa cF 200 FA), (oc1 fe rk9 wd9 tw9 pa9 pb9 (.ref lo) (.ref lk) (.ref fm)), (oc4 lk kd9 st9 .null gb9 jt9 we9)] := hD
    refine lv_goto (tgt := 31) hx hb dX8_houseThere_27 (by decide) ?_
    have hP9 := hP.sub (ws' := [(oc7 sh (.ref fa) (nI ft)), (oq fa cF 200 FA), (oc1 fe rk9 wd9 tw9 pa9 pb9 (.ref lo) (.ref lk) (.ref fm)), (oc4 lk kd9 st9 .null gb9 jt9 we9)]) [0, 1, 2, 3] rfl
    have hD9 := hD.sub (ws' := [(oc7 sh (.ref fa) (nI ft)), (oq fa cF 200 FA), (oc1 fe rk9 wd9 tw9 pa9 pb9 (.ref lo) (.ref lk) (.ref fm)), (oc4 lk kd9 st9 .null gb9 jt9 we9)]) [0, 1, 2, 3] (by decide) rfl
    rw [hQ9]
    exact W.aret hx hb hr (Or.inl ⟨_, rfl⟩) (Or.inl rfl) (fun t ht hW => ⟨⟨rfl, by rw [ht]; exact hP9, hD9⟩, hS.F ht⟩) hS.2.2 dX8_houseThere_31
