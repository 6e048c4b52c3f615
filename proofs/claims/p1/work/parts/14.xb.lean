set_option maxHeartbeats 4000000 in
set_option maxRecDepth 100000 in
theorem k_x_grow (l : Launch) (dC : Nat → ClassId) (dI : Nat → Nat → Nat) (cI cZ cF : ClassId) (sz : Nat) (h0 : Nat) (a1 : Nat) (a2 : Nat) (a3 : Nat) (a4 : Nat) (a5 : Nat) (a6 : Nat) (a7 : Nat) (a8 : Nat) (a9 : Nat) (f0 : Nat) (i1 : Int32) : Met l yX10_grow (.code yX10_grow cX10_grow 4 (some .boolean) :: ws0) ({ frames := 2, cells := 0, slots := 0, locals := 42 }) (va_Pc [.ref h0, .int i1] (zPre (dC, dI) classes (zTy cI cZ cF) [(h0, .inr (8, [.ref a1, .ref a2, .ref a3, .ref a4, .ref a5, .ref a6, .ref a7, .ref a8, .ref a9, .int 0, .int 0, .int 0, .int 0])), (a1, .inr (7, [.ref f0, .int 0]))] sz zTrue)) (zQ (some (.int 0)) (fun t => va_P (dC, dI) classes [] t.heap ∧ va_D (va_A [(h0, .inr (8, [.ref a1, .ref a2, .ref a3, .ref a4, .ref a5, .ref a6, .ref a7, .ref a8, .ref a9, .int 0, .int 0, .int 0, .int 0])), (a1, .inr (7, [.ref f0, .int 0]))] sz) []) (va_A [(h0, .inr (8, [.ref a1, .ref a2, .ref a3, .ref a4, .ref a5, .ref a6, .ref a7, .ref a8, .ref a9, .int 0, .int 0, .int 0, .int 0])), (a1, .inr (7, [.ref f0, .int 0]))] sz)) 0 0 (va_A [(h0, .inr (8, [.ref a1, .ref a2, .ref a3, .ref a4, .ref a5, .ref a6, .ref a7, .ref a8, .ref a9, .int 0, .int 0, .int 0, .int 0])), (a1, .inr (7, [.ref f0, .int 0]))] sz) := by
  refine Met.ofW (cc := cX10_grow) (maxL := 4) (ret := (some .boolean)) (by decide) rfl ?_
  intro p e s m args below meth c s₁ B hml hv
  obtain ⟨rfl, hsz, hP, hK, hD0, hXX⟩ := hv
  have hx := B.exec
  have hb := B.bytes
  have hr := B.returns
  have hts0 := atoms_spec (ws := .code yX10_grow cX10_grow 4 (some .boolean) :: ws0) B.pre
  have hts : ∀ w9 ∈ ws0, w9.before ([.ref h0, .int i1] : List Value).toArray s = true := fun w9 h => hts0 w9 (List.mem_cons_of_mem _ h)
  have hown : s.vm.findClass "ScaleShop" = some m.cls := findClass_of_methodNamed B.named
  have hlocks := B.notSynchronized
  subst hsz
  have hD := hD0.self (sz := s.heap.size)
  generalize hAe : va_A [(h0, .inr (8, [.ref a1, .ref a2, .ref a3, .ref a4, .ref a5, .ref a6, .ref a7, .ref a8, .ref a9, .int 0, .int 0, .int 0, .int 0])), (a1, .inr (7, [.ref f0, .int 0]))] s.heap.size = A at hD ⊢
  have hA : ∀ q : Nat, s.heap.size ≤ q → A q := fun q h => by rw [← hAe]; exact Or.inr h
  have hS : va_S A s.heap s.heap [] := va_S.rf
  have hP : va_P (dC, dI) classes [(h0, .inr (8, [.ref a1, .ref a2, .ref a3, .ref a4, .ref a5, .ref a6, .ref a7, .ref a8, .ref a9, .int 0, .int 0, .int 0, .int 0])), (a1, .inr (7, [.ref f0, .int 0]))] s.heap := hP
  have hl := lv_entry ([.ref h0, .int i1]) (n := 4) (Nat.le_of_ble_eq_true rfl)
  rw [lg_entry_eq]
  generalize (lg_sl ([.ref h0, .int i1]) ++ List.replicate (4 - (lg_sl ([.ref h0, .int i1])).length) Slot.unset).toArray = ls at hl ⊢
  have hl : lv_has ls 4 [(0, .ref h0), (1, .int i1)] := hl
  refine lv_aload_n hx hb dX10_grow_0 rfl (lv_at hl 0 rfl) ?_
  refine va_get (D := (dC, dI)) (ci := 8) (v := .ref a1) (C := RX10) (T := TX10) (N := 13) hx hb hts inX10 hown hK hP 0 rfl rfl 0 (by decide) (hts _ mw_309) (fun _ h9 => h9) rfl dX10_grow_1 ?_
  refine lv_iload_n hx hb dX10_grow_4 rfl (lv_at hl 1 rfl) ?_
  have hPc := hP.sub (ws' := [(a1, .inr (7, [.ref f0, .int 0]))]) [1] rfl
  have hDc := hD.sub (ws' := [(a1, .inr (7, [.ref f0, .int 0]))]) [1] (by decide) rfl
  have hFc := va_free (wc := [(a1, .inr (7, [.ref f0, .int 0]))]) hD hS hA [1] rfl
  refine zcall (st1 := [.null]) (va_runV (As := [.int i1]) (rest := []) ⟨hx, hb, hml, hown, hts⟩ (k_find l dC dI cI cZ cF s.heap.size a1 f0 i1 ) (cwV 1 hts (zz_gV mw_498 mw_499 mw_500 mw_100 mc_yX8_find) rfl rfl rfl (by decide +kernel) ⟨Nat.le_of_ble_eq_true rfl, Nat.le_of_ble_eq_true rfl⟩) (zPV (q0 := 0) (ci := 7) hPc hDc hK rfl rfl) rfl rfl hl.1 rfl (lv_room (Nat.le_of_ble_eq_true rfl)) dX10_grow_5 ⟨Nat.le_of_ble_eq_true rfl, Nat.le_of_ble_eq_true rfl⟩) hS hFc hFc rfl (fun t H1 locs ht hB hk1 hS => ?_)
  obtain ⟨hP1, hD1⟩ := hB
  rw [ht] at hP1
  obtain ⟨hP, hD⟩ := va_join (wr := [(h0, .inr (8, [.ref a1, .ref a2, .ref a3, .ref a4, .ref a5, .ref a6, .ref a7, .ref a8, .ref a9, .int 0, .int 0, .int 0, .int 0]))]) (w1 := [(a1, .inr (7, [.ref f0, .int 0]))]) hP hD [1] [0] rfl rfl (by decide) (by decide) hk1 hFc hP1 hD1
  clear hk1 hPc hDc hFc hP1 hD1 ht
  generalize H1 = H at hP hS ⊢
  have hP : va_P (dC, dI) classes [(h0, .inr (8, [.ref a1, .ref a2, .ref a3, .ref a4, .ref a5, .ref a6, .ref a7, .ref a8, .ref a9, .int 0, .int 0, .int 0, .int 0])), (a1, .inr (7, [.ref f0, .int 0]))] H := hP
  have hD : va_D A [(h0, .inr (8, [.ref a1, .ref a2, .ref a3, .ref a4, .ref a5, .ref a6, .ref a7, .ref a8, .ref a9, .int 0, .int 0, .int 0, .int 0])), (a1, .inr (7, [.ref f0, .int 0]))] := hD
  refine lv_astore_nN (lv' := [(2, .null), (0, .ref h0), (1, .int i1)]) hx hb dX10_grow_8 rfl hl (by decide) rfl (fun ls hl => ?_)
  refine lv_aload_nN hx hb dX10_grow_9 rfl (lv_at hl 0 rfl) ?_
  refine lv_ifnonnullN hx hb dX10_grow_10 ?_
  refine lv_aload_n hx hb dX10_grow_13 rfl (lv_at hl 1 rfl) ?_
  refine lv_iconst (v := 1) hx hb dX10_grow_14 (by decide) ?_
  have hPc := hP.sub (ws' := [(h0, .inr (8, [.ref a1, .ref a2, .ref a3, .ref a4, .ref a5, .ref a6, .ref a7, .ref a8, .ref a9, .int 0, .int 0, .int 0, .int 0]))]) [0] rfl
  have hDc := hD.sub (ws' := [(h0, .inr (8, [.ref a1, .ref a2, .ref a3, .ref a4, .ref a5, .ref a6, .ref a7, .ref a8, .ref a9, .int 0, .int 0, .int 0, .int 0]))]) [0] (by decide) rfl
  have hFc := va_free (wc := [(h0, .inr (8, [.ref a1, .ref a2, .ref a3, .ref a4, .ref a5, .ref a6, .ref a7, .ref a8, .ref a9, .int 0, .int 0, .int 0, .int 0]))]) hD hS hA [0] rfl
  refine zcall (st1 := [.int 0]) (va_runV (As := [.int 1]) (rest := []) ⟨hx, hb, hml, hown, hts⟩ (k_deny l dC dI cI cZ cF H.size h0 a1 a2 a3 a4 a5 a6 a7 a8 a9 1 (by decide)) (cwV 1 hts (zz_gV mw_513 mw_515 mw_4 mw_99 mc_yX10_deny) rfl rfl rfl (by decide +kernel) ⟨Nat.le_of_ble_eq_true rfl, Nat.le_of_ble_eq_true rfl⟩) (zPV (q0 := 0) (ci := 8) hPc hDc hK rfl rfl) rfl rfl hl.1 rfl (lv_room (Nat.le_of_ble_eq_true rfl)) dX10_grow_15 ⟨Nat.le_of_ble_eq_true rfl, Nat.le_of_ble_eq_true rfl⟩) hS hFc hFc rfl (fun t H1 locs ht hB hk1 hS => ?_)
  obtain ⟨hP1, hD1⟩ := hB
  rw [ht] at hP1
  obtain ⟨hP, hD⟩ := va_join (wr := [(a1, .inr (7, [.ref f0, .int 0]))]) (w1 := [(h0, .inr (8, [.ref a1, .ref a2, .ref a3, .ref a4, .ref a5, .ref a6, .ref a7, .ref a8, .ref a9, .int 0, .int 0, .int 0, .int 1]))]) hP hD [0] [1] rfl rfl (by decide) (by decide) hk1 hFc hP1 hD1
  clear hk1 hPc hDc hFc hP1 hD1 ht
  generalize H1 = H at hP hS ⊢
  have hP : va_P (dC, dI) classes [(a1, .inr (7, [.ref f0, .int 0])), (h0, .inr (8, [.ref a1, .ref a2, .ref a3, .ref a4, .ref a5, .ref a6, .ref a7, .ref a8, .ref a9, .int 0, .int 0, .int 0, .int 1]))] H := hP
  have hD : va_D A [(a1, .inr (7, [.ref f0, .int 0])), (h0, .inr (8, [.ref a1, .ref a2, .ref a3, .ref a4, .ref a5, .ref a6, .ref a7, .ref a8, .ref a9, .int 0, .int 0, .int 0, .int 1]))] := hD
  refine W.widen (k := 0) (n := 0) (by decide) (by decide) ?_
  have hP9 := hP.sub (ws' := []) [] rfl
  have hD9 := hD.sub (ws' := []) [] (by decide) rfl
  exact W.zret (ty := .boolean) (v := 0) hx hb hr rfl (fun t ht hW => ⟨⟨rfl, by rw [ht]; exact hP9, hD9⟩, hS.F ht⟩) hS.2.2 dX10_grow_18
set_option maxHeartbeats 4000000 in
set_option maxRecDepth 100000 in
theorem k_x_square (l : Launch) (dC : Nat → ClassId) (dI : Nat → Nat → Nat) (cI cZ cF : ClassId) (sz : Nat) (h0 : Nat) (a1 : Nat) (a2 : Nat) (a3 : Nat) (a4 : Nat) (a5 : Nat) (a6 : Nat) (a7 : Nat) (a8 : Nat) (a9 : Nat) (f0 : Nat) (i1 : Int32) (i2 : Int32) : Met l yX10_square (.code yX10_square cX10_square 5 (some .boolean) :: ws0) ({ frames := 2, cells := 0, slots := 0, locals := 42 }) (va_Pc [.ref h0, .int i1, .int i2] (zPre (dC, dI) classes (zTy cI cZ cF) [(h0, .inr (8, [.ref a1, .ref a2, .ref a3, .ref a4, .ref a5, .ref a6, .ref a7, .ref a8, .ref a9, .int 0, .int 0, .int 0, .int 0])), (a1, .inr (7, [.ref f0, .int 0]))] sz zTrue)) (zQ (some (.int 0)) (fun t => va_P (dC, dI) classes [] t.heap ∧ va_D (va_A [(h0, .inr (8, [.ref a1, .ref a2, .ref a3, .ref a4, .ref a5, .ref a6, .ref a7, .ref a8, .ref a9, .int 0, .int 0, .int 0, .int 0])), (a1, .inr (7, [.ref f0, .int 0]))] sz) []) (va_A [(h0, .inr (8, [.ref a1, .ref a2, .ref a3, .ref a4, .ref a5, .ref a6, .ref a7, .ref a8, .ref a9, .int 0, .int 0, .int 0, .int 0])), (a1, .inr (7, [.ref f0, .int 0]))] sz)) 0 0 (va_A [(h0, .inr (8, [.ref a1, .ref a2, .ref a3, .ref a4, .ref a5, .ref a6, .ref a7, .ref a8, .ref a9, .int 0, .int 0, .int 0, .int 0])), (a1, .inr (7, [.ref f0, .int 0]))] sz) := by
  refine Met.ofW (cc := cX10_square) (maxL := 5) (ret := (some .boolean)) (by decide) rfl ?_
  intro p e s m args below meth c s₁ B hml hv
  obtain ⟨rfl, hsz, hP, hK, hD0, hXX⟩ := hv
  have hx := B.exec
  have hb := B.bytes
  have hr := B.returns
  have hts0 := atoms_spec (ws := .code yX10_square cX10_square 5 (some .boolean) :: ws0) B.pre
  have hts : ∀ w9 ∈ ws0, w9.before ([.ref h0, .int i1, .int i2] : List Value).toArray s = true := fun w9 h => hts0 w9 (List.mem_cons_of_mem _ h)
  have hown : s.vm.findClass "ScaleShop" = some m.cls := findClass_of_methodNamed B.named
  have hlocks := B.notSynchronized
  subst hsz
  have hD := hD0.self (sz := s.heap.size)
  generalize hAe : va_A [(h0, .inr (8, [.ref a1, .ref a2, .ref a3, .ref a4, .ref a5, .ref a6, .ref a7, .ref a8, .ref a9, .int 0, .int 0, .int 0, .int 0])), (a1, .inr (7, [.ref f0, .int 0]))] s.heap.size = A at hD ⊢
  have hA : ∀ q : Nat, s.heap.size ≤ q → A q := fun q h => by rw [← hAe]; exact Or.inr h
  have hS : va_S A s.heap s.heap [] := va_S.rf
  have hP : va_P (dC, dI) classes [(h0, .inr (8, [.ref a1, .ref a2, .ref a3, .ref a4, .ref a5, .ref a6, .ref a7, .ref a8, .ref a9, .int 0, .int 0, .int 0, .int 0])), (a1, .inr (7, [.ref f0, .int 0]))] s.heap := hP
  have hl := lv_entry ([.ref h0, .int i1, .int i2]) (n := 5) (Nat.le_of_ble_eq_true rfl)
  rw [lg_entry_eq]
  generalize (lg_sl ([.ref h0, .int i1, .int i2]) ++ List.replicate (5 - (lg_sl ([.ref h0, .int i1, .int i2])).length) Slot.unset).toArray = ls at hl ⊢
  have hl : lv_has ls 5 [(0, .ref h0), (1, .int i1), (2, .int i2)] := hl
  refine lv_aload_n hx hb dX10_square_0 rfl (lv_at hl 0 rfl) ?_
  refine va_get (D := (dC, dI)) (ci := 8) (v := .ref a1) (C := RX10) (T := TX10) (N := 13) hx hb hts inX10 hown hK hP 0 rfl rfl 0 (by decide) (hts _ mw_309) (fun _ h9 => h9) rfl dX10_square_1 ?_
  refine lv_iload_n hx hb dX10_square_4 rfl (lv_at hl 1 rfl) ?_
  have hPc := hP.sub (ws' := [(a1, .inr (7, [.ref f0, .int 0]))]) [1] rfl
  have hDc := hD.sub (ws' := [(a1, .inr (7, [.ref f0, .int 0]))]) [1] (by decide) rfl
  have hFc := va_free (wc := [(a1, .inr (7, [.ref f0, .int 0]))]) hD hS hA [1] rfl
  refine zcall (st1 := [.null]) (va_runV (As := [.int i1]) (rest := []) ⟨hx, hb, hml, hown, hts⟩ (k_find l dC dI cI cZ cF s.heap.size a1 f0 i1 ) (cwV 1 hts (zz_gV mw_498 mw_499 mw_500 mw_100 mc_yX8_find) rfl rfl rfl (by decide +kernel) ⟨Nat.le_of_ble_eq_true rfl, Nat.le_of_ble_eq_true rfl⟩) (zPV (q0 := 0) (ci := 7) hPc hDc hK rfl rfl) rfl rfl hl.1 rfl (lv_room (Nat.le_of_ble_eq_true rfl)) dX10_square_5 ⟨Nat.le_of_ble_eq_true rfl, Nat.le_of_ble_eq_true rfl⟩) hS hFc hFc rfl (fun t H1 locs ht hB hk1 hS => ?_)
  obtain ⟨hP1, hD1⟩ := hB
  rw [ht] at hP1
  obtain ⟨hP, hD⟩ := va_join (wr := [(h0, .inr (8, [.ref a1, .ref a2, .ref a3, .ref a4, .ref a5, .ref a6, .ref a7, .ref a8, .ref a9, .int 0, .int 0, .int 0, .int 0]))]) (w1 := [(a1, .inr (7, [.ref f0, .int 0]))]) hP hD [1] [0] rfl rfl (by decide) (by decide) hk1 hFc hP1 hD1
  clear hk1 hPc hDc hFc hP1 hD1 ht
  generalize H1 = H at hP hS ⊢
  have hP : va_P (dC, dI) classes [(h0, .inr (8, [.ref a1, .ref a2, .ref a3, .ref a4, .ref a5, .ref a6, .ref a7, .ref a8, .ref a9, .int 0, .int 0, .int 0, .int 0])), (a1, .inr (7, [.ref f0, .int 0]))] H := hP
  have hD : va_D A [(h0, .inr (8, [.ref a1, .ref a2, .ref a3, .ref a4, .ref a5, .ref a6, .ref a7, .ref a8, .ref a9, .int 0, .int 0, .int 0, .int 0])), (a1, .inr (7, [.ref f0, .int 0]))] := hD
  refine lv_astore_nN (lv' := [(3, .null), (0, .ref h0), (1, .int i1), (2, .int i2)]) hx hb dX10_square_8 rfl hl (by decide) rfl (fun ls hl => ?_)
  refine lv_aload_nN hx hb dX10_square_9 rfl (lv_at hl 0 rfl) ?_
  refine lv_ifnonnullN hx hb dX10_square_10 ?_
  refine lv_aload_n hx hb dX10_square_13 rfl (lv_at hl 1 rfl) ?_
  refine lv_iconst (v := 1) hx hb dX10_square_14 (by decide) ?_
  have hPc := hP.sub (ws' := [(h0, .inr (8, [.ref a1, .ref a2, .ref a3, .ref a4, .ref a5, .ref a6, .ref a7, .ref a8, .ref a9, .int 0, .int 0, .int 0, .int 0]))]) [0] rfl
  have hDc := hD.sub (ws' := [(h0, .inr (8, [.ref a1, .ref a2, .ref a3, .ref a4, .ref a5, .ref a6, .ref a7, .ref a8, .ref a9, .int 0, .int 0, .int 0, .int 0]))]) [0] (by decide) rfl
  have hFc := va_free (wc := [(h0, .inr (8, [.ref a1, .ref a2, .ref a3, .ref a4, .ref a5, .ref a6, .ref a7, .ref a8, .ref a9, .int 0, .int 0, .int 0, .int 0]))]) hD hS hA [0] rfl
  refine zcall (st1 := [.int 0]) (va_runV (As := [.int 1]) (rest := []) ⟨hx, hb, hml, hown, hts⟩ (k_deny l dC dI cI cZ cF H.size h0 a1 a2 a3 a4 a5 a6 a7 a8 a9 1 (by decide)) (cwV 1 hts (zz_gV mw_513 mw_515 mw_4 mw_99 mc_yX10_deny) rfl rfl rfl (by decide +kernel) ⟨Nat.le_of_ble_eq_true rfl, Nat.le_of_ble_eq_true rfl⟩) (zPV (q0 := 0) (ci := 8) hPc hDc hK rfl rfl) rfl rfl hl.1 rfl (lv_room (Nat.le_of_ble_eq_true rfl)) dX10_square_15 ⟨Nat.le_of_ble_eq_true rfl, Nat.le_of_ble_eq_true rfl⟩) hS hFc hFc rfl (fun t H1 locs ht hB hk1 hS => ?_)
  obtain ⟨hP1, hD1⟩ := hB
  rw [ht] at hP1
  obtain ⟨hP, hD⟩ := va_join (wr := [(a1, .inr (7, [.ref f0, .int 0]))]) (w1 := [(h0, .inr (8, [.ref a1, .ref a2, .ref a3, .ref a4, .ref a5, .ref a6, .ref a7, .ref a8, .ref a9, .int 0, .int 0, .int 0, .int 1]))]) hP hD [0] [1] rfl rfl (by decide) (by decide) hk1 hFc hP1 hD1
  clear hk1 hPc hDc hFc hP1 hD1 ht
  generalize H1 = H at hP hS ⊢
  have hP : va_P (dC, dI) classes [(a1, .inr (7, [.ref f0, .int 0])), (h0, .inr (8, [.ref a1, .ref a2, .ref a3, .ref a4, .ref a5, .ref a6, .ref a7, .ref a8, .ref a9, .int 0, .int 0, .int 0, .int 1]))] H := hP
  have hD : va_D A [(a1, .inr (7, [.ref f0, .int 0])), (h0, .inr (8, [.ref a1, .ref a2, .ref a3, .ref a4, .ref a5, .ref a6, .ref a7, .ref a8, .ref a9, .int 0, .int 0, .int 0, .int 1]))] := hD
  refine W.widen (k := 0) (n := 0) (by decide) (by decide) ?_
  have hP9 := hP.sub (ws' := []) [] rfl
  have hD9 := hD.sub (ws' := []) [] (by decide) rfl
  exact W.zret (ty := .boolean) (v := 0) hx hb hr rfl (fun t ht hW => ⟨⟨rfl, by rw [ht]; exact hP9, hD9⟩, hS.F ht⟩) hS.2.2 dX10_square_18
set_option maxHeartbeats 4000000 in
set_option maxRecDepth 100000 in
theorem k_x_join (l : Launch) (dC : Nat → ClassId) (dI : Nat → Nat → Nat) (cI cZ cF : ClassId) (sz : Nat) (h0 : Nat) (a1 : Nat) (a2 : Nat) (a3 : Nat) (a4 : Nat) (a5 : Nat) (a6 : Nat) (a7 : Nat) (a8 : Nat) (a9 : Nat) (f0 : Nat) (i1 : Int32) (i2 : Int32) (i3 : Int32) : Met l yX10_join (.code yX10_join cX10_join 8 (some .int) :: ws0) ({ frames := 1, cells := 0, slots := 0, locals := 21 }) (va_Pc [.ref h0, .int i1, .int i2, .int i3] (zPre (dC, dI) classes (zTy cI cZ cF) [(h0, .inr (8, [.ref a1, .ref a2, .ref a3, .ref a4, .ref a5, .ref a6, .ref a7, .ref a8, .ref a9, .int 0, .int 0, .int 0, .int 0])), (a1, .inr (7, [.ref f0, .int 0]))] sz zTrue)) (zQ (some (.int (-1))) (fun t => va_P (dC, dI) classes [] t.heap ∧ va_D (va_A [(h0, .inr (8, [.ref a1, .ref a2, .ref a3, .ref a4, .ref a5, .ref a6, .ref a7, .ref a8, .ref a9, .int 0, .int 0, .int 0, .int 0])), (a1, .inr (7, [.ref f0, .int 0]))] sz) []) (va_A [(h0, .inr (8, [.ref a1, .ref a2, .ref a3, .ref a4, .ref a5, .ref a6, .ref a7, .ref a8, .ref a9, .int 0, .int 0, .int 0, .int 0])), (a1, .inr (7, [.ref f0, .int 0]))] sz)) 0 0 (va_A [(h0, .inr (8, [.ref a1, .ref a2, .ref a3, .ref a4, .ref a5, .ref a6, .ref a7, .ref a8, .ref a9, .int 0, .int 0, .int 0, .int 0])), (a1, .inr (7, [.ref f0, .int 0]))] sz) := by
  refine Met.ofW (cc := cX10_join) (maxL := 8) (ret := (some .int)) (by decide) rfl ?_
  intro p e s m args below meth c s₁ B hml hv
  obtain ⟨rfl, hsz, hP, hK, hD0, hXX⟩ := hv
  have hx := B.exec
  have hb := B.bytes
  have hr := B.returns
  have hts0 := atoms_spec (ws := .code yX10_join cX10_join 8 (some .int) :: ws0) B.pre
  have hts : ∀ w9 ∈ ws0, w9.before ([.ref h0, .int i1, .int i2, .int i3] : List Value).toArray s = true := fun w9 h => hts0 w9 (List.mem_cons_of_mem _ h)
  have hown : s.vm.findClass "ScaleShop" = some m.cls := findClass_of_methodNamed B.named
  have hlocks := B.notSynchronized
  subst hsz
  have hD := hD0.self (sz := s.heap.size)
  generalize hAe : va_A [(h0, .inr (8, [.ref a1, .ref a2, .ref a3, .ref a4, .ref a5, .ref a6, .ref a7, .ref a8, .ref a9, .int 0, .int 0, .int 0, .int 0])), (a1, .inr (7, [.ref f0, .int 0]))] s.heap.size = A at hD ⊢
  have hA : ∀ q : Nat, s.heap.size ≤ q → A q := fun q h => by rw [← hAe]; exact Or.inr h
  have hS : va_S A s.heap s.heap [] := va_S.rf
  have hP : va_P (dC, dI) classes [(h0, .inr (8, [.ref a1, .ref a2, .ref a3, .ref a4, .ref a5, .ref a6, .ref a7, .ref a8, .ref a9, .int 0, .int 0, .int 0, .int 0])), (a1, .inr (7, [.ref f0, .int 0]))] s.heap := hP
  have hl := lv_entry ([.ref h0, .int i1, .int i2, .int i3]) (n := 8) (Nat.le_of_ble_eq_true rfl)
  rw [lg_entry_eq]
  generalize (lg_sl ([.ref h0, .int i1, .int i2, .int i3]) ++ List.replicate (8 - (lg_sl ([.ref h0, .int i1, .int i2, .int i3])).length) Slot.unset).toArray = ls at hl ⊢
  have hl : lv_has ls 8 [(0, .ref h0), (1, .int i1), (2, .int i2), (3, .int i3)] := hl
  refine lv_aload_n hx hb dX10_join_0 rfl (lv_at hl 0 rfl) ?_
  refine va_get (D := (dC, dI)) (ci := 8) (v := .ref a1) (C := RX10) (T := TX10) (N := 13) hx hb hts inX10 hown hK hP 0 rfl rfl 0 (by decide) (hts _ mw_309) (fun _ h9 => h9) rfl dX10_join_1 ?_
  refine lv_iload_n hx hb dX10_join_4 rfl (lv_at hl 1 rfl) ?_
  have hPc := hP.sub (ws' := [(a1, .inr (7, [.ref f0, .int 0]))]) [1] rfl
  have hDc := hD.sub (ws' := [(a1, .inr (7, [.ref f0, .int 0]))]) [1] (by decide) rfl
  have hFc := va_free (wc := [(a1, .inr (7, [.ref f0, .int 0]))]) hD hS hA [1] rfl
  refine zcall (st1 := [.null]) (va_runV (As := [.int i1]) (rest := []) ⟨hx, hb, hml, hown, hts⟩ (k_find l dC dI cI cZ cF s.heap.size a1 f0 i1 ) (cwV 1 hts (zz_gV mw_498 mw_499 mw_500 mw_100 mc_yX8_find) rfl rfl rfl (by decide +kernel) ⟨Nat.le_of_ble_eq_true rfl, Nat.le_of_ble_eq_true rfl⟩) (zPV (q0 := 0) (ci := 7) hPc hDc hK rfl rfl) rfl rfl hl.1 rfl (lv_room (Nat.le_of_ble_eq_true rfl)) dX10_join_5 ⟨Nat.le_of_ble_eq_true rfl, Nat.le_of_ble_eq_true rfl⟩) hS hFc hFc rfl (fun t H1 locs ht hB hk1 hS => ?_)
  obtain ⟨hP1, hD1⟩ := hB
  rw [ht] at hP1
  obtain ⟨hP, hD⟩ := va_join (wr := [(h0, .inr (8, [.ref a1, .ref a2, .ref a3, .ref a4, .ref a5, .ref a6, .ref a7, .ref a8, .ref a9, .int 0, .int 0, .int 0, .int 0]))]) (w1 := [(a1, .inr (7, [.ref f0, .int 0]))]) hP hD [1] [0] rfl rfl (by decide) (by decide) hk1 hFc hP1 hD1
  clear hk1 hPc hDc hFc hP1 hD1 ht
  generalize H1 = H at hP hS ⊢
  have hP : va_P (dC, dI) classes [(h0, .inr (8, [.ref a1, .ref a2, .ref a3, .ref a4, .ref a5, .ref a6, .ref a7, .ref a8, .ref a9, .int 0, .int 0, .int 0, .int 0])), (a1, .inr (7, [.ref f0, .int 0]))] H := hP
  have hD : va_D A [(h0, .inr (8, [.ref a1, .ref a2, .ref a3, .ref a4, .ref a5, .ref a6, .ref a7, .ref a8, .ref a9, .int 0, .int 0, .int 0, .int 0])), (a1, .inr (7, [.ref f0, .int 0]))] := hD
  refine lv_astoreN (lv' := [(4, .null), (0, .ref h0), (1, .int i1), (2, .int i2), (3, .int i3)]) hx hb dX10_join_8 hl (by decide) rfl (fun ls hl => ?_)
  refine lv_aload_n hx hb dX10_join_10 rfl (lv_at hl 1 rfl) ?_
  refine va_get (D := (dC, dI)) (ci := 8) (v := .ref a1) (C := RX10) (T := TX10) (N := 13) hx hb hts inX10 hown hK hP 0 rfl rfl 0 (by decide) (hts _ mw_309) (fun _ h9 => h9) rfl dX10_join_11 ?_
  refine lv_iload_n hx hb dX10_join_14 rfl (lv_at hl 3 rfl) ?_
  have hPc := hP.sub (ws' := [(a1, .inr (7, [.ref f0, .int 0]))]) [1] rfl
  have hDc := hD.sub (ws' := [(a1, .inr (7, [.ref f0, .int 0]))]) [1] (by decide) rfl
  have hFc := va_free (wc := [(a1, .inr (7, [.ref f0, .int 0]))]) hD hS hA [1] rfl
  refine zcall (st1 := [.null]) (va_runV (As := [.int i2]) (rest := []) ⟨hx, hb, hml, hown, hts⟩ (k_find l dC dI cI cZ cF H.size a1 f0 i2 ) (cwV 1 hts (zz_gV mw_498 mw_499 mw_500 mw_100 mc_yX8_find) rfl rfl rfl (by decide +kernel) ⟨Nat.le_of_ble_eq_true rfl, Nat.le_of_ble_eq_true rfl⟩) (zPV (q0 := 0) (ci := 7) hPc hDc hK rfl rfl) rfl rfl hl.1 rfl (lv_room (Nat.le_of_ble_eq_true rfl)) dX10_join_15 ⟨Nat.le_of_ble_eq_true rfl, Nat.le_of_ble_eq_true rfl⟩) hS hFc hFc rfl (fun t H1 locs ht hB hk1 hS => ?_)
  obtain ⟨hP1, hD1⟩ := hB
  rw [ht] at hP1
  obtain ⟨hP, hD⟩ := va_join (wr := [(h0, .inr (8, [.ref a1, .ref a2, .ref a3, .ref a4, .ref a5, .ref a6, .ref a7, .ref a8, .ref a9, .int 0, .int 0, .int 0, .int 0]))]) (w1 := [(a1, .inr (7, [.ref f0, .int 0]))]) hP hD [1] [0] rfl rfl (by decide) (by decide) hk1 hFc hP1 hD1
  clear hk1 hPc hDc hFc hP1 hD1 ht
  generalize H1 = H at hP hS ⊢
  have hP : va_P (dC, dI) classes [(h0, .inr (8, [.ref a1, .ref a2, .ref a3, .ref a4, .ref a5, .ref a6, .ref a7, .ref a8, .ref a9, .int 0, .int 0, .int 0, .int 0])), (a1, .inr (7, [.ref f0, .int 0]))] H := hP
  have hD : va_D A [(h0, .inr (8, [.ref a1, .ref a2, .ref a3, .ref a4, .ref a5, .ref a6, .ref a7, .ref a8, .ref a9, .int 0, .int 0, .int 0, .int 0])), (a1, .inr (7, [.ref f0, .int 0]))] := hD
  refine lv_astoreN (lv' := [(5, .null), (4, .null), (0, .ref h0), (1, .int i1), (2, .int i2), (3, .int i3)]) hx hb dX10_join_18 hl (by decide) rfl (fun ls hl => ?_)
  refine lv_aloadN hx hb dX10_join_20 (lv_at hl 1 rfl) ?_
  refine lv_ifnullN (tgt := 30) hx hb dX10_join_22 (by decide) ?_
  refine lv_aload_n hx hb dX10_join_30 rfl (lv_at hl 2 rfl) ?_
  refine lv_iconst (v := 1) hx hb dX10_join_31 (by decide) ?_
  have hPc := hP.sub (ws' := [(h0, .inr (8, [.ref a1, .ref a2, .ref a3, .ref a4, .ref a5, .ref a6, .ref a7, .ref a8, .ref a9, .int 0, .int 0, .int 0, .int 0]))]) [0] rfl
  have hDc := hD.sub (ws' := [(h0, .inr (8, [.ref a1, .ref a2, .ref a3, .ref a4, .ref a5, .ref a6, .ref a7, .ref a8, .ref a9, .int 0, .int 0, .int 0, .int 0]))]) [0] (by decide) rfl
  have hFc := va_free (wc := [(h0, .inr (8, [.ref a1, .ref a2, .ref a3, .ref a4, .ref a5, .ref a6, .ref a7, .ref a8, .ref a9, .int 0, .int 0, .int 0, .int 0]))]) hD hS hA [0] rfl
  refine zcall (st1 := [.int (-1)]) (va_runV (As := [.int 1]) (rest := []) ⟨hx, hb, hml, hown, hts⟩ (k_refuse l dC dI cI cZ cF H.size h0 a1 a2 a3 a4 a5 a6 a7 a8 a9 1 (by decide)) (cwV 1 hts (zz_gV mw_356 mw_358 mw_0 mw_99 mc_yX10_refuse) rfl rfl rfl (by decide +kernel) ⟨Nat.le_of_ble_eq_true rfl, Nat.le_of_ble_eq_true rfl⟩) (zPV (q0 := 0) (ci := 8) hPc hDc hK rfl rfl) rfl rfl hl.1 rfl (lv_room (Nat.le_of_ble_eq_true rfl)) dX10_join_32 ⟨Nat.le_of_ble_eq_true rfl, Nat.le_of_ble_eq_true rfl⟩) hS hFc hFc rfl (fun t H1 locs ht hB hk1 hS => ?_)
  obtain ⟨hP1, hD1⟩ := hB
  rw [ht] at hP1
  obtain ⟨hP, hD⟩ := va_join (wr := [(a1, .inr (7, [.ref f0, .int 0]))]) (w1 := [(h0, .inr (8, [.ref a1, .ref a2, .ref a3, .ref a4, .ref a5, .ref a6, .ref a7, .ref a8, .ref a9, .int 0, .int 0, .int 0, .int 1]))]) hP hD [0] [1] rfl rfl (by decide) (by decide) hk1 hFc hP1 hD1
  clear hk1 hPc hDc hFc hP1 hD1 ht
  generalize H1 = H at hP hS ⊢
  have hP : va_P (dC, dI) classes [(a1, .inr (7, [.ref f0, .int 0])), (h0, .inr (8, [.ref a1, .ref a2, .ref a3, .ref a4, .ref a5, .ref a6, .ref a7, .ref a8, .ref a9, .int 0, .int 0, .int 0, .int 1]))] H := hP
  have hD : va_D A [(a1, .inr (7, [.ref f0, .int 0])), (h0, .inr (8, [.ref a1, .ref a2, .ref a3, .ref a4, .ref a5, .ref a6, .ref a7, .ref a8, .ref a9, .int 0, .int 0, .int 0, .int 1]))] := hD
  refine W.widen (k := 0) (n := 0) (by decide) (by decide) ?_
  have hP9 := hP.sub (ws' := []) [] rfl
  have hD9 := hD.sub (ws' := []) [] (by decide) rfl
  exact W.iret (v := (-1)) hx hb hr (fun t ht hW => ⟨⟨rfl, by rw [ht]; exact hP9, hD9⟩, hS.F ht⟩) hS.2.2 dX10_join_35
set_option maxHeartbeats 4000000 in
set_option maxRecDepth 100000 in
theorem k_x_drop (l : Launch) (dC : Nat → ClassId) (dI : Nat → Nat → Nat) (cI cZ cF : ClassId) (sz : Nat) (h0 : Nat) (a1 : Nat) (a2 : Nat) (a3 : Nat) (a4 : Nat) (a5 : Nat) (a6 : Nat) (a7 : Nat) (a8 : Nat) (a9 : Nat) (f0 : Nat) (i1 : Int32) : Met l yX10_drop (.code yX10_drop cX10_drop 3 (some .boolean) :: ws0) ({ frames := 2, cells := 0, slots := 0, locals := 42 }) (va_Pc [.ref h0, .int i1] (zPre (dC, dI) classes (zTy cI cZ cF) [(h0, .inr (8, [.ref a1, .ref a2, .ref a3, .ref a4, .ref a5, .ref a6, .ref a7, .ref a8, .ref a9, .int 0, .int 0, .int 0, .int 0])), (a1, .inr (7, [.ref f0, .int 0]))] sz zTrue)) (zQ (some (.int 0)) (fun t => va_P (dC, dI) classes [] t.heap ∧ va_D (va_A [(h0, .inr (8, [.ref a1, .ref a2, .ref a3, .ref a4, .ref a5, .ref a6, .ref a7, .ref a8, .ref a9, .int 0, .int 0, .int 0, .int 0])), (a1, .inr (7, [.ref f0, .int 0]))] sz) []) (va_A [(h0, .inr (8, [.ref a1, .ref a2, .ref a3, .ref a4, .ref a5, .ref a6, .ref a7, .ref a8, .ref a9, .int 0, .int 0, .int 0, .int 0])), (a1, .inr (7, [.ref f0, .int 0]))] sz)) 0 0 (va_A [(h0, .inr (8, [.ref a1, .ref a2, .ref a3, .ref a4, .ref a5, .ref a6, .ref a7, .ref a8, .ref a9, .int 0, .int 0, .int 0, .int 0])), (a1, .inr (7, [.ref f0, .int 0]))] sz) := by
  refine Met.ofW (cc := cX10_drop) (maxL := 3) (ret := (some .boolean)) (by decide) rfl ?_
  intro p e s m args below meth c s₁ B hml hv
  obtain ⟨rfl, hsz, hP, hK, hD0, hXX⟩ := hv
  have hx := B.exec
  have hb := B.bytes
  have hr := B.returns
  have hts0 := atoms_spec (ws := .code yX10_drop cX10_drop 3 (some .boolean) :: ws0) B.pre
  have hts : ∀ w9 ∈ ws0, w9.before ([.ref h0, .int i1] : List Value).toArray s = true := fun w9 h => hts0 w9 (List.mem_cons_of_mem _ h)
  have hown : s.vm.findClass "ScaleShop" = some m.cls := findClass_of_methodNamed B.named
  have hlocks := B.notSynchronized
  subst hsz
  have hD := hD0.self (sz := s.heap.size)
  generalize hAe : va_A [(h0, .inr (8, [.ref a1, .ref a2, .ref a3, .ref a4, .ref a5, .ref a6, .ref a7, .ref a8, .ref a9, .int 0, .int 0, .int 0, .int 0])), (a1, .inr (7, [.ref f0, .int 0]))] s.heap.size = A at hD ⊢
  have hA : ∀ q : Nat, s.heap.size ≤ q → A q := fun q h => by rw [← hAe]; exact Or.inr h
  have hS : va_S A s.heap s.heap [] := va_S.rf
  have hP : va_P (dC, dI) classes [(h0, .inr (8, [.ref a1, .ref a2, .ref a3, .ref a4, .ref a5, .ref a6, .ref a7, .ref a8, .ref a9, .int 0, .int 0, .int 0, .int 0])), (a1, .inr (7, [.ref f0, .int 0]))] s.heap := hP
  have hl := lv_entry ([.ref h0, .int i1]) (n := 3) (Nat.le_of_ble_eq_true rfl)
  rw [lg_entry_eq]
  generalize (lg_sl ([.ref h0, .int i1]) ++ List.replicate (3 - (lg_sl ([.ref h0, .int i1])).length) Slot.unset).toArray = ls at hl ⊢
  have hl : lv_has ls 3 [(0, .ref h0), (1, .int i1)] := hl
  refine lv_aload_n hx hb dX10_drop_0 rfl (lv_at hl 0 rfl) ?_
  refine va_get (D := (dC, dI)) (ci := 8) (v := .ref a1) (C := RX10) (T := TX10) (N := 13) hx hb hts inX10 hown hK hP 0 rfl rfl 0 (by decide) (hts _ mw_309) (fun _ h9 => h9) rfl dX10_drop_1 ?_
  refine lv_iload_n hx hb dX10_drop_4 rfl (lv_at hl 1 rfl) ?_
  have hPc := hP.sub (ws' := [(a1, .inr (7, [.ref f0, .int 0]))]) [1] rfl
  have hDc := hD.sub (ws' := [(a1, .inr (7, [.ref f0, .int 0]))]) [1] (by decide) rfl
  have hFc := va_free (wc := [(a1, .inr (7, [.ref f0, .int 0]))]) hD hS hA [1] rfl
  refine zcall (st1 := [.null]) (va_runV (As := [.int i1]) (rest := []) ⟨hx, hb, hml, hown, hts⟩ (k_find l dC dI cI cZ cF s.heap.size a1 f0 i1 ) (cwV 1 hts (zz_gV mw_498 mw_499 mw_500 mw_100 mc_yX8_find) rfl rfl rfl (by decide +kernel) ⟨Nat.le_of_ble_eq_true rfl, Nat.le_of_ble_eq_true rfl⟩) (zPV (q0 := 0) (ci := 7) hPc hDc hK rfl rfl) rfl rfl hl.1 rfl (lv_room (Nat.le_of_ble_eq_true rfl)) dX10_drop_5 ⟨Nat.le_of_ble_eq_true rfl, Nat.le_of_ble_eq_true rfl⟩) hS hFc hFc rfl (fun t H1 locs ht hB hk1 hS => ?_)
  obtain ⟨hP1, hD1⟩ := hB
  rw [ht] at hP1
  obtain ⟨hP, hD⟩ := va_join (wr := [(h0, .inr (8, [.ref a1, .ref a2, .ref a3, .ref a4, .ref a5, .ref a6, .ref a7, .ref a8, .ref a9, .int 0, .int 0, .int 0, .int 0]))]) (w1 := [(a1, .inr (7, [.ref f0, .int 0]))]) hP hD [1] [0] rfl rfl (by decide) (by decide) hk1 hFc hP1 hD1
  clear hk1 hPc hDc hFc hP1 hD1 ht
  generalize H1 = H at hP hS ⊢
  have hP : va_P (dC, dI) classes [(h0, .inr (8, [.ref a1, .ref a2, .ref a3, .ref a4, .ref a5, .ref a6, .ref a7, .ref a8, .ref a9, .int 0, .int 0, .int 0, .int 0])), (a1, .inr (7, [.ref f0, .int 0]))] H := hP
  have hD : va_D A [(h0, .inr (8, [.ref a1, .ref a2, .ref a3, .ref a4, .ref a5, .ref a6, .ref a7, .ref a8, .ref a9, .int 0, .int 0, .int 0, .int 0])), (a1, .inr (7, [.ref f0, .int 0]))] := hD
  refine lv_astore_nN (lv' := [(2, .null), (0, .ref h0), (1, .int i1)]) hx hb dX10_drop_8 rfl hl (by decide) rfl (fun ls hl => ?_)
  refine lv_aload_nN hx hb dX10_drop_9 rfl (lv_at hl 0 rfl) ?_
  refine lv_ifnonnullN hx hb dX10_drop_10 ?_
  refine lv_aload_n hx hb dX10_drop_13 rfl (lv_at hl 1 rfl) ?_
  refine lv_iconst (v := 1) hx hb dX10_drop_14 (by decide) ?_
  have hPc := hP.sub (ws' := [(h0, .inr (8, [.ref a1, .ref a2, .ref a3, .ref a4, .ref a5, .ref a6, .ref a7, .ref a8, .ref a9, .int 0, .int 0, .int 0, .int 0]))]) [0] rfl
  have hDc := hD.sub (ws' := [(h0, .inr (8, [.ref a1, .ref a2, .ref a3, .ref a4, .ref a5, .ref a6, .ref a7, .ref a8, .ref a9, .int 0, .int 0, .int 0, .int 0]))]) [0] (by decide) rfl
  have hFc := va_free (wc := [(h0, .inr (8, [.ref a1, .ref a2, .ref a3, .ref a4, .ref a5, .ref a6, .ref a7, .ref a8, .ref a9, .int 0, .int 0, .int 0, .int 0]))]) hD hS hA [0] rfl
  refine zcall (st1 := [.int 0]) (va_runV (As := [.int 1]) (rest := []) ⟨hx, hb, hml, hown, hts⟩ (k_deny l dC dI cI cZ cF H.size h0 a1 a2 a3 a4 a5 a6 a7 a8 a9 1 (by decide)) (cwV 1 hts (zz_gV mw_513 mw_515 mw_4 mw_99 mc_yX10_deny) rfl rfl rfl (by decide +kernel) ⟨Nat.le_of_ble_eq_true rfl, Nat.le_of_ble_eq_true rfl⟩) (zPV (q0 := 0) (ci := 8) hPc hDc hK rfl rfl) rfl rfl hl.1 rfl (lv_room (Nat.le_of_ble_eq_true rfl)) dX10_drop_15 ⟨Nat.le_of_ble_eq_true rfl, Nat.le_of_ble_eq_true rfl⟩) hS hFc hFc rfl (fun t H1 locs ht hB hk1 hS => ?_)
  obtain ⟨hP1, hD1⟩ := hB
  rw [ht] at hP1
  obtain ⟨hP, hD⟩ := va_join (wr := [(a1, .inr (7, [.ref f0, .int 0]))]) (w1 := [(h0, .inr (8, [.ref a1, .ref a2, .ref a3, .ref a4, .ref a5, .ref a6, .ref a7, .ref a8, .ref a9, .int 0, .int 0, .int 0, .int 1]))]) hP hD [0] [1] rfl rfl (by decide) (by decide) hk1 hFc hP1 hD1
  clear hk1 hPc hDc hFc hP1 hD1 ht
  generalize H1 = H at hP hS ⊢
  have hP : va_P (dC, dI) classes [(a1, .inr (7, [.ref f0, .int 0])), (h0, .inr (8, [.ref a1, .ref a2, .ref a3, .ref a4, .ref a5, .ref a6, .ref a7, .ref a8, .ref a9, .int 0, .int 0, .int 0, .int 1]))] H := hP
  have hD : va_D A [(a1, .inr (7, [.ref f0, .int 0])), (h0, .inr (8, [.ref a1, .ref a2, .ref a3, .ref a4, .ref a5, .ref a6, .ref a7, .ref a8, .ref a9, .int 0, .int 0, .int 0, .int 1]))] := hD
  refine W.widen (k := 0) (n := 0) (by decide) (by decide) ?_
  have hP9 := hP.sub (ws' := []) [] rfl
  have hD9 := hD.sub (ws' := []) [] (by decide) rfl
  exact W.zret (ty := .boolean) (v := 0) hx hb hr rfl (fun t ht hW => ⟨⟨rfl, by rw [ht]; exact hP9, hD9⟩, hS.F ht⟩) hS.2.2 dX10_drop_18
set_option maxHeartbeats 4000000 in
set_option maxRecDepth 100000 in
theorem k_x_few (l : Launch) (dC : Nat → ClassId) (dI : Nat → Nat → Nat) (cI cZ cF : ClassId) (sz : Nat) (h0 : Nat) (a1 : Nat) (a2 : Nat) (a3 : Nat) (a4 : Nat) (a5 : Nat) (a6 : Nat) (a7 : Nat) (a8 : Nat) (a9 : Nat) (f0 : Nat) (i1 : Int32) (i2 : Int32) : Met l yX10_few (.code yX10_few cX10_few 6 (some .int) :: ws0) ({ frames := 1, cells := 0, slots := 0, locals := 22 }) (va_Pc [.ref h0, .int i1, .int i2] (zPre (dC, dI) classes (zTy cI cZ cF) [(h0, .inr (8, [.ref a1, .ref a2, .ref a3, .ref a4, .ref a5, .ref a6, .ref a7, .ref a8, .ref a9, .int 0, .int 0, .int 0, .int 0])), (a1, .inr (7, [.ref f0, .int 0]))] sz zTrue)) (zQ (some (.int (-1))) (fun t => va_P (dC, dI) classes [] t.heap ∧ va_D (va_A [(h0, .inr (8, [.ref a1, .ref a2, .ref a3, .ref a4, .ref a5, .ref a6, .ref a7, .ref a8, .ref a9, .int 0, .int 0, .int 0, .int 0])), (a1, .inr (7, [.ref f0, .int 0]))] sz) []) (va_A [(h0, .inr (8, [.ref a1, .ref a2, .ref a3, .ref a4, .ref a5, .ref a6, .ref a7, .ref a8, .ref a9, .int 0, .int 0, .int 0, .int 0])), (a1, .inr (7, [.ref f0, .int 0]))] sz)) 0 0 (va_A [(h0, .inr (8, [.ref a1, .ref a2, .ref a3, .ref a4, .ref a5, .ref a6, .ref a7, .ref a8, .ref a9, .int 0, .int 0, .int 0, .int 0])), (a1, .inr (7, [.ref f0, .int 0]))] sz) := by
  refine Met.ofW (cc := cX10_few) (maxL := 6) (ret := (some .int)) (by decide) rfl ?_
  intro p e s m args below meth c s₁ B hml hv
  obtain ⟨rfl, hsz, hP, hK, hD0, hXX⟩ := hv
  have hx := B.exec
  have hb := B.bytes
  have hr := B.returns
  have hts0 := atoms_spec (ws := .code yX10_few cX10_few 6 (some .int) :: ws0) B.pre
  have hts : ∀ w9 ∈ ws0, w9.before ([.ref h0, .int i1, .int i2] : List Value).toArray s = true := fun w9 h => hts0 w9 (List.mem_cons_of_mem _ h)
  have hown : s.vm.findClass "ScaleShop" = some m.cls := findClass_of_methodNamed B.named
  have hlocks := B.notSynchronized
  subst hsz
  have hD := hD0.self (sz := s.heap.size)
  generalize hAe : va_A [(h0, .inr (8, [.ref a1, .ref a2, .ref a3, .ref a4, .ref a5, .ref a6, .ref a7, .ref a8, .ref a9, .int 0, .int 0, .int 0, .int 0])), (a1, .inr (7, [.ref f0, .int 0]))] s.heap.size = A at hD ⊢
  have hA : ∀ q : Nat, s.heap.size ≤ q → A q := fun q h => by rw [← hAe]; exact Or.inr h
  have hS : va_S A s.heap s.heap [] := va_S.rf
  have hP : va_P (dC, dI) classes [(h0, .inr (8, [.ref a1, .ref a2, .ref a3, .ref a4, .ref a5, .ref a6, .ref a7, .ref a8, .ref a9, .int 0, .int 0, .int 0, .int 0])), (a1, .inr (7, [.ref f0, .int 0]))] s.heap := hP
  have hl := lv_entry ([.ref h0, .int i1, .int i2]) (n := 6) (Nat.le_of_ble_eq_true rfl)
  rw [lg_entry_eq]
  generalize (lg_sl ([.ref h0, .int i1, .int i2]) ++ List.replicate (6 - (lg_sl ([.ref h0, .int i1, .int i2])).length) Slot.unset).toArray = ls at hl ⊢
  have hl : lv_has ls 6 [(0, .ref h0), (1, .int i1), (2, .int i2)] := hl
  refine lv_iload_n hx hb dX10_few_0 rfl (lv_at hl 1 rfl) ?_
  refine lv_if_lt (tgt := 15) hx hb dX10_few_1 (by decide) (fun c_1 => ?_) (fun c_1 => ?_)
  · refine lv_aload_n hx hb dX10_few_15 rfl (lv_at hl 0 rfl) ?_
    refine lv_iconst (v := 4) hx hb dX10_few_16 (by decide) ?_
    have hPc := hP.sub (ws' := [(h0, .inr (8, [.ref a1, .ref a2, .ref a3, .ref a4, .ref a5, .ref a6, .ref a7, .ref a8, .ref a9, .int 0, .int 0, .int 0, .int 0]))]) [0] rfl
    have hDc := hD.sub (ws' := [(h0, .inr (8, [.ref a1, .ref a2, .ref a3, .ref a4, .ref a5, .ref a6, .ref a7, .ref a8, .ref a9, .int 0, .int 0, .int 0, .int 0]))]) [0] (by decide) rfl
    have hFc := va_free (wc := [(h0, .inr (8, [.ref a1, .ref a2, .ref a3, .ref a4, .ref a5, .ref a6, .ref a7, .ref a8, .ref a9, .int 0, .int 0, .int 0, .int 0]))]) hD hS hA [0] rfl
    refine zcall (st1 := [.int (-1)]) (va_runV (As := [.int 4]) (rest := []) ⟨hx, hb, hml, hown, hts⟩ (k_refuse l dC dI cI cZ cF s.heap.size h0 a1 a2 a3 a4 a5 a6 a7 a8 a9 4 (by decide)) (cwV 1 hts (zz_gV mw_356 mw_358 mw_0 mw_99 mc_yX10_refuse) rfl rfl rfl (by decide +kernel) ⟨Nat.le_of_ble_eq_true rfl, Nat.le_of_ble_eq_true rfl⟩) (zPV (q0 := 0) (ci := 8) hPc hDc hK rfl rfl) rfl rfl hl.1 rfl (lv_room (Nat.le_of_ble_eq_true rfl)) dX10_few_17 ⟨Nat.le_of_ble_eq_true rfl, Nat.le_of_ble_eq_true rfl⟩) hS hFc hFc rfl (fun t H1 locs ht hB hk1 hS => ?_)
    obtain ⟨hP1, hD1⟩ := hB
    rw [ht] at hP1
    obtain ⟨hP, hD⟩ := va_join (wr := [(a1, .inr (7, [.ref f0, .int 0]))]) (w1 := [(h0, .inr (8, [.ref a1, .ref a2, .ref a3, .ref a4, .ref a5, .ref a6, .ref a7, .ref a8, .ref a9, .int 0, .int 0, .int 0, .int 4]))]) hP hD [0] [1] rfl rfl (by decide) (by decide) hk1 hFc hP1 hD1
    clear hk1 hPc hDc hFc hP1 hD1 ht
    generalize H1 = H at hP hS ⊢
    have hP : va_P (dC, dI) classes [(a1, .inr (7, [.ref f0, .int 0])), (h0, .inr (8, [.ref a1, .ref a2, .ref a3, .ref a4, .ref a5, .ref a6, .ref a7, .ref a8, .ref a9, .int 0, .int 0, .int 0, .int 4]))] H := hP
    have hD : va_D A [(a1, .inr (7, [.ref f0, .int 0])), (h0, .inr (8, [.ref a1, .ref a2, .ref a3, .ref a4, .ref a5, .ref a6, .ref a7, .ref a8, .ref a9, .int 0, .int 0, .int 0, .int 4]))] := hD
    refine W.widen (k := 0) (n := 0) (by decide) (by decide) ?_
    have hP9 := hP.sub (ws' := []) [] rfl
    have hD9 := hD.sub (ws' := []) [] (by decide) rfl
    exact W.iret (v := (-1)) hx hb hr (fun t ht hW => ⟨⟨rfl, by rw [ht]; exact hP9, hD9⟩, hS.F ht⟩) hS.2.2 dX10_few_20
  · refine lv_iload_n hx hb dX10_few_4 rfl (lv_at hl 2 rfl) ?_
    refine lv_iconst (v := 0) hx hb dX10_few_5 (by decide) ?_
    refine lv_sipush (v := 200) hx hb dX10_few_6 (by decide) ?_
    have hPc := hP.sub (ws' := []) [] rfl
    have hDc := hD.sub (ws' := []) [] (by decide) rfl
    have hFc := va_free (wc := []) hD hS hA [] rfl
    refine zcall (st1 := [.int (zw i2 0 200)]) (va_runS (As := [.int i2, .int 0, .int 200]) (rest := []) ⟨hx, hb, hml, hown, hts⟩ (k_isWithin l dC dI cI cZ cF s.heap.size i2 0 200 ) (va_cwS 3 hts (zz_gS mw_353 mw_354 mw_99 mc_yX10_isWithin) rfl rfl rfl (by decide +kernel) ⟨Nat.le_of_ble_eq_true rfl, Nat.le_of_ble_eq_true rfl⟩) (zPS hPc hDc hK) rfl rfl hl.1 rfl (lv_room (Nat.le_of_ble_eq_true rfl)) dX10_few_9 ⟨Nat.le_of_ble_eq_true rfl, Nat.le_of_ble_eq_true rfl⟩) hS hFc hFc rfl (fun t H1 locs ht hB hk1 hS => ?_)
    obtain ⟨hP1, hD1⟩ := hB
    rw [ht] at hP1
    obtain ⟨hP, hD⟩ := va_join (wr := [(h0, .inr (8, [.ref a1, .ref a2, .ref a3, .ref a4, .ref a5, .ref a6, .ref a7, .ref a8, .ref a9, .int 0, .int 0, .int 0, .int 0])), (a1, .inr (7, [.ref f0, .int 0]))]) (w1 := []) hP hD [] [0, 1] rfl rfl (by decide) (by decide) hk1 hFc hP1 hD1
    clear hk1 hPc hDc hFc hP1 hD1 ht
    generalize H1 = H at hP hS ⊢
    have hP : va_P (dC, dI) classes [(h0, .inr (8, [.ref a1, .ref a2, .ref a3, .ref a4, .ref a5, .ref a6, .ref a7, .ref a8, .ref a9, .int 0, .int 0, .int 0, .int 0])), (a1, .inr (7, [.ref f0, .int 0]))] H := hP
    have hD : va_D A [(h0, .inr (8, [.ref a1, .ref a2, .ref a3, .ref a4, .ref a5, .ref a6, .ref a7, .ref a8, .ref a9, .int 0, .int 0, .int 0, .int 0])), (a1, .inr (7, [.ref f0, .int 0]))] := hD
    refine lv_if_ne (tgt := 21) hx hb dX10_few_12 (by decide) (fun c_2 => ?_) (fun c_2 => ?_)
    · refine lv_iconst (v := 0) hx hb dX10_few_21 (by decide) ?_
      refine lv_istore_n (lv' := [(3, .int 0), (0, .ref h0), (1, .int i1), (2, .int i2)]) hx hb dX10_few_22 rfl hl (by decide) rfl (fun ls hl => ?_)
      refine lv_iload_n hx hb dX10_few_23 rfl (lv_at hl 0 rfl) ?_
      refine lv_aload_n hx hb dX10_few_24 rfl (lv_at hl 1 rfl) ?_
      refine va_get (D := (dC, dI)) (ci := 8) (v := .ref a1) (C := RX10) (T := TX10) (N := 13) hx hb hts inX10 hown hK hP 0 rfl rfl 0 (by decide) (hts _ mw_309) (fun _ h9 => h9) rfl dX10_few_25 ?_
      refine va_get (D := (dC, dI)) (ci := 7) (v := .int 0) (C := RX8) (T := TX8) (N := 2) hx hb hts inX8 hown hK hP 1 rfl rfl 1 (by decide) (hts _ mw_140) (fun _ h9 => h9) rfl dX10_few_28 ?_
      refine lv_icmp_ge (tgt := 69) hx hb dX10_few_31 (by decide) (fun c_3 => ?_) (fun c_3 => ?_)
      · refine lv_iconst (v := 0) hx hb dX10_few_69 (by decide) ?_
        refine lv_istore_n (lv' := [(3, .int 0), (0, .ref h0), (1, .int i1), (2, .int i2)]) hx hb dX10_few_70 rfl hl (by decide) rfl (fun ls hl => ?_)
        refine lv_iconst (v := 0) hx hb dX10_few_71 (by decide) ?_
        refine lv_istore (lv' := [(4, .int 0), (3, .int 0), (0, .ref h0), (1, .int i1), (2, .int i2)]) hx hb dX10_few_72 hl (by decide) rfl (fun ls hl => ?_)
        refine lv_iload hx hb dX10_few_74 (lv_at hl 0 rfl) ?_
        refine lv_aload_n hx hb dX10_few_76 rfl (lv_at hl 2 rfl) ?_
        refine va_get (D := (dC, dI)) (ci := 8) (v := .ref a1) (C := RX10) (T := TX10) (N := 13) hx hb hts inX10 hown hK hP 0 rfl rfl 0 (by decide) (hts _ mw_309) (fun _ h9 => h9) rfl dX10_few_77 ?_
        refine va_get (D := (dC, dI)) (ci := 7) (v := .int 0) (C := RX8) (T := TX8) (N := 2) hx hb hts inX8 hown hK hP 1 rfl rfl 1 (by decide) (hts _ mw_140) (fun _ h9 => h9) rfl dX10_few_80 ?_
        refine lv_icmp_ge (tgt := 132) hx hb dX10_few_83 (by decide) (fun c_4 => ?_) (fun c_4 => ?_)
        · refine lv_iload_n hx hb dX10_few_132 rfl (lv_at hl 1 rfl) ?_
          refine lv_if_ne (tgt := 143) hx hb dX10_few_133 (by decide) (fun c_5 => ?_) (fun c_5 => ?_)
          · exact absurd (by decide) c_5
          · refine lv_aload_n hx hb dX10_few_136 rfl (lv_at hl 2 rfl) ?_
            refine lv_bipush (v := 8) hx hb dX10_few_137 (by decide) ?_
            have hPc := hP.sub (ws' := [(h0, .inr (8, [.ref a1, .ref a2, .ref a3, .ref a4, .ref a5, .ref a6, .ref a7, .ref a8, .ref a9, .int 0, .int 0, .int 0, .int 0]))]) [0] rfl
            have hDc := hD.sub (ws' := [(h0, .inr (8, [.ref a1, .ref a2, .ref a3, .ref a4, .ref a5, .ref a6, .ref a7, .ref a8, .ref a9, .int 0, .int 0, .int 0, .int 0]))]) [0] (by decide) rfl
            have hFc := va_free (wc := [(h0, .inr (8, [.ref a1, .ref a2, .ref a3, .ref a4, .ref a5, .ref a6, .ref a7, .ref a8, .ref a9, .int 0, .int 0, .int 0, .int 0]))]) hD hS hA [0] rfl
            refine zcall (st1 := [.int (-1)]) (va_runV (As := [.int 8]) (rest := []) ⟨hx, hb, hml, hown, hts⟩ (k_refuse l dC dI cI cZ cF H.size h0 a1 a2 a3 a4 a5 a6 a7 a8 a9 8 (by decide)) (cwV 1 hts (zz_gV mw_356 mw_358 mw_0 mw_99 mc_yX10_refuse) rfl rfl rfl (by decide +kernel) ⟨Nat.le_of_ble_eq_true rfl, Nat.le_of_ble_eq_true rfl⟩) (zPV (q0 := 0) (ci := 8) hPc hDc hK rfl rfl) rfl rfl hl.1 rfl (lv_room (Nat.le_of_ble_eq_true rfl)) dX10_few_139 ⟨Nat.le_of_ble_eq_true rfl, Nat.le_of_ble_eq_true rfl⟩) hS hFc hFc rfl (fun t H1 locs ht hB hk1 hS => ?_)
            obtain ⟨hP1, hD1⟩ := hB
            rw [ht] at hP1
            obtain ⟨hP, hD⟩ := va_join (wr := [(a1, .inr (7, [.ref f0, .int 0]))]) (w1 := [(h0, .inr (8, [.ref a1, .ref a2, .ref a3, .ref a4, .ref a5, .ref a6, .ref a7, .ref a8, .ref a9, .int 0, .int 0, .int 0, .int 8]))]) hP hD [0] [1] rfl rfl (by decide) (by decide) hk1 hFc hP1 hD1
            clear hk1 hPc hDc hFc hP1 hD1 ht
            generalize H1 = H at hP hS ⊢
            have hP : va_P (dC, dI) classes [(a1, .inr (7, [.ref f0, .int 0])), (h0, .inr (8, [.ref a1, .ref a2, .ref a3, .ref a4, .ref a5, .ref a6, .ref a7, .ref a8, .ref a9, .int 0, .int 0, .int 0, .int 8]))] H := hP
            have hD : va_D A [(a1, .inr (7, [.ref f0, .int 0])), (h0, .inr (8, [.ref a1, .ref a2, .ref a3, .ref a4, .ref a5, .ref a6, .ref a7, .ref a8, .ref a9, .int 0, .int 0, .int 0, .int 8]))] := hD
            refine W.widen (k := 0) (n := 0) (by decide) (by decide) ?_
            have hP9 := hP.sub (ws' := []) [] rfl
            have hD9 := hD.sub (ws' := []) [] (by decide) rfl
            exact W.iret (v := (-1)) hx hb hr (fun t ht hW => ⟨⟨rfl, by rw [ht]; exact hP9, hD9⟩, hS.F ht⟩) hS.2.2 dX10_few_142
        · exact absurd (by decide) c_4
      · exact absurd (by decide) c_3
    · refine lv_aload_n hx hb dX10_few_15 rfl (lv_at hl 0 rfl) ?_
      refine lv_iconst (v := 4) hx hb dX10_few_16 (by decide) ?_
      have hPc := hP.sub (ws' := [(h0, .inr (8, [.ref a1, .ref a2, .ref a3, .ref a4, .ref a5, .ref a6, .ref a7, .ref a8, .ref a9, .int 0, .int 0, .int 0, .int 0]))]) [0] rfl
      have hDc := hD.sub (ws' := [(h0, .inr (8, [.ref a1, .ref a2, .ref a3, .ref a4, .ref a5, .ref a6, .ref a7, .ref a8, .ref a9, .int 0, .int 0, .int 0, .int 0]))]) [0] (by decide) rfl
      have hFc := va_free (wc := [(h0, .inr (8, [.ref a1, .ref a2, .ref a3, .ref a4, .ref a5, .ref a6, .ref a7, .ref a8, .ref a9, .int 0, .int 0, .int 0, .int 0]))]) hD hS hA [0] rfl
      refine zcall (st1 := [.int (-1)]) (va_runV (As := [.int 4]) (rest := []) ⟨hx, hb, hml, hown, hts⟩ (k_refuse l dC dI cI cZ cF H.size h0 a1 a2 a3 a4 a5 a6 a7 a8 a9 4 (by decide)) (cwV 1 hts (zz_gV mw_356 mw_358 mw_0 mw_99 mc_yX10_refuse) rfl rfl rfl (by decide +kernel) ⟨Nat.le_of_ble_eq_true rfl, Nat.le_of_ble_eq_true rfl⟩) (zPV (q0 := 0) (ci := 8) hPc hDc hK rfl rfl) rfl rfl hl.1 rfl (lv_room (Nat.le_of_ble_eq_true rfl)) dX10_few_17 ⟨Nat.le_of_ble_eq_true rfl, Nat.le_of_ble_eq_true rfl⟩) hS hFc hFc rfl (fun t H1 locs ht hB hk1 hS => ?_)
      obtain ⟨hP1, hD1⟩ := hB
      rw [ht] at hP1
      obtain ⟨hP, hD⟩ := va_join (wr := [(a1, .inr (7, [.ref f0, .int 0]))]) (w1 := [(h0, .inr (8, [.ref a1, .ref a2, .ref a3, .ref a4, .ref a5, .ref a6, .ref a7, .ref a8, .ref a9, .int 0, .int 0, .int 0, .int 4]))]) hP hD [0] [1] rfl rfl (by decide) (by decide) hk1 hFc hP1 hD1
      clear hk1 hPc hDc hFc hP1 hD1 ht
      generalize H1 = H at hP hS ⊢
      have hP : va_P (dC, dI) classes [(a1, .inr (7, [.ref f0, .int 0])), (h0, .inr (8, [.ref a1, .ref a2, .ref a3, .ref a4, .ref a5, .ref a6, .ref a7, .ref a8, .ref a9, .int 0, .int 0, .int 0, .int 4]))] H := hP
      have hD : va_D A [(a1, .inr (7, [.ref f0, .int 0])), (h0, .inr (8, [.ref a1, .ref a2, .ref a3, .ref a4, .ref a5, .ref a6, .ref a7, .ref a8, .ref a9, .int 0, .int 0, .int 0, .int 4]))] := hD
      refine W.widen (k := 0) (n := 0) (by decide) (by decide) ?_
      have hP9 := hP.sub (ws' := []) [] rfl
      have hD9 := hD.sub (ws' := []) [] (by decide) rfl
      exact W.iret (v := (-1)) hx hb hr (fun t ht hW => ⟨⟨rfl, by rw [ht]; exact hP9, hD9⟩, hS.F ht⟩) hS.2.2 dX10_few_20
set_option maxHeartbeats 4000000 in
set_option maxRecDepth 100000 in
theorem k_x_choose (l : Launch) (dC : Nat → ClassId) (dI : Nat → Nat → Nat) (cI cZ cF : ClassId) (sz : Nat) (h0 : Nat) (a1 : Nat) (a2 : Nat) (a3 : Nat) (a4 : Nat) (a5 : Nat) (a6 : Nat) (a7 : Nat) (a8 : Nat) (a9 : Nat) (f0 : Nat) (r1 : Nat) (r2 : Nat) (r3 : Nat) (r4 : Nat) (r5 : Nat) : Met l yX10_choose (.code yX10_choose cX10_choose 2 (some .int) :: ws0) ({ frames := 1, cells := 0, slots := 0, locals := 25 }) (va_Pc [.ref h0] (zPre (dC, dI) classes (zTy cI cZ cF) [(h0, .inr (8, [.ref a1, .ref a2, .ref a3, .ref a4, .ref a5, .ref a6, .ref a7, .ref a8, .ref a9, .int 0, .int 0, .int 0, .int 0])), (a1, .inr (7, [.ref f0, .int 0])), (a3, .inr (5, [.ref r1, .ref r2, .ref r3, .ref r4, .ref r5, .int 0]))] sz zTrue)) (zQ (some (.int (-1))) (fun t => va_P (dC, dI) classes [] t.heap ∧ va_D (va_A [(h0, .inr (8, [.ref a1, .ref a2, .ref a3, .ref a4, .ref a5, .ref a6, .ref a7, .ref a8, .ref a9, .int 0, .int 0, .int 0, .int 0])), (a1, .inr (7, [.ref f0, .int 0])), (a3, .inr (5, [.ref r1, .ref r2, .ref r3, .ref r4, .ref r5, .int 0]))] sz) []) (va_A [(h0, .inr (8, [.ref a1, .ref a2, .ref a3, .ref a4, .ref a5, .ref a6, .ref a7, .ref a8, .ref a9, .int 0, .int 0, .int 0, .int 0])), (a1, .inr (7, [.ref f0, .int 0])), (a3, .inr (5, [.ref r1, .ref r2, .ref r3, .ref r4, .ref r5, .int 0]))] sz)) 0 0 (va_A [(h0, .inr (8, [.ref a1, .ref a2, .ref a3, .ref a4, .ref a5, .ref a6, .ref a7, .ref a8, .ref a9, .int 0, .int 0, .int 0, .int 0])), (a1, .inr (7, [.ref f0, .int 0])), (a3, .inr (5, [.ref r1, .ref r2, .ref r3, .ref r4, .ref r5, .int 0]))] sz) := by
  refine Met.ofW (cc := cX10_choose) (maxL := 2) (ret := (some .int)) (by decide) rfl ?_
  intro p e s m args below meth c s₁ B hml hv
  obtain ⟨rfl, hsz, hP, hK, hD0, hXX⟩ := hv
  have hx := B.exec
  have hb := B.bytes
  have hr := B.returns
  have hts0 := atoms_spec (ws := .code yX10_choose cX10_choose 2 (some .int) :: ws0) B.pre
  have hts : ∀ w9 ∈ ws0, w9.before ([.ref h0] : List Value).toArray s = true := fun w9 h => hts0 w9 (List.mem_cons_of_mem _ h)
  have hown : s.vm.findClass "ScaleShop" = some m.cls := findClass_of_methodNamed B.named
  have hlocks := B.notSynchronized
  subst hsz
  have hD := hD0.self (sz := s.heap.size)
  generalize hAe : va_A [(h0, .inr (8, [.ref a1, .ref a2, .ref a3, .ref a4, .ref a5, .ref a6, .ref a7, .ref a8, .ref a9, .int 0, .int 0, .int 0, .int 0])), (a1, .inr (7, [.ref f0, .int 0])), (a3, .inr (5, [.ref r1, .ref r2, .ref r3, .ref r4, .ref r5, .int 0]))] s.heap.size = A at hD ⊢
  have hA : ∀ q : Nat, s.heap.size ≤ q → A q := fun q h => by rw [← hAe]; exact Or.inr h
  have hS : va_S A s.heap s.heap [] := va_S.rf
  have hP : va_P (dC, dI) classes [(h0, .inr (8, [.ref a1, .ref a2, .ref a3, .ref a4, .ref a5, .ref a6, .ref a7, .ref a8, .ref a9, .int 0, .int 0, .int 0, .int 0])), (a1, .inr (7, [.ref f0, .int 0])), (a3, .inr (5, [.ref r1, .ref r2, .ref r3, .ref r4, .ref r5, .int 0]))] s.heap := hP
  have hl := lv_entry ([.ref h0]) (n := 2) (Nat.le_of_ble_eq_true rfl)
  rw [lg_entry_eq]
  generalize (lg_sl ([.ref h0]) ++ List.replicate (2 - (lg_sl ([.ref h0])).length) Slot.unset).toArray = ls at hl ⊢
  have hl : lv_has ls 2 [(0, .ref h0)] := hl
  refine lv_aload_n hx hb dX10_choose_0 rfl (lv_at hl 0 rfl) ?_
  refine va_get (D := (dC, dI)) (ci := 8) (v := .ref a3) (C := RX10) (T := TX10) (N := 13) hx hb hts inX10 hown hK hP 0 rfl rfl 2 (by decide) (hts _ mw_311) (fun _ h9 => h9) rfl dX10_choose_1 ?_
  refine lv_aload_n hx hb dX10_choose_4 rfl (lv_at hl 0 rfl) ?_
  refine va_get (D := (dC, dI)) (ci := 8) (v := .ref a1) (C := RX10) (T := TX10) (N := 13) hx hb hts inX10 hown hK hP 0 rfl rfl 0 (by decide) (hts _ mw_309) (fun _ h9 => h9) rfl dX10_choose_5 ?_
  have hPc := hP.sub (ws' := [(a3, .inr (5, [.ref r1, .ref r2, .ref r3, .ref r4, .ref r5, .int 0])), (a1, .inr (7, [.ref f0, .int 0]))]) [2, 1] rfl
  have hDc := hD.sub (ws' := [(a3, .inr (5, [.ref r1, .ref r2, .ref r3, .ref r4, .ref r5, .int 0])), (a1, .inr (7, [.ref f0, .int 0]))]) [2, 1] (by decide) rfl
  have hFc := va_free (wc := [(a3, .inr (5, [.ref r1, .ref r2, .ref r3, .ref r4, .ref r5, .int 0])), (a1, .inr (7, [.ref f0, .int 0]))]) hD hS hA [2, 1] rfl
  refine zcall (st1 := []) (va_runV (As := [.ref a1]) (rest := []) ⟨hx, hb, hml, hown, hts⟩ (k_gather l dC dI cI cZ cF s.heap.size a3 a1 f0 r1 r2 r3 r4 r5 ) (cwV 1 hts (zz_gV mw_996 mw_997 mw_998 mw_105 mc_yX6_gather) rfl rfl rfl (by decide +kernel) ⟨Nat.le_of_ble_eq_true rfl, Nat.le_of_ble_eq_true rfl⟩) (zPV (q0 := 0) (ci := 5) hPc hDc hK rfl rfl) rfl rfl hl.1 rfl (lv_room (Nat.le_of_ble_eq_true rfl)) dX10_choose_8 ⟨Nat.le_of_ble_eq_true rfl, Nat.le_of_ble_eq_true rfl⟩) hS hFc hFc rfl (fun t H1 locs ht hB hk1 hS => ?_)
  obtain ⟨hP1, hD1⟩ := hB
  rw [ht] at hP1
  obtain ⟨hP, hD⟩ := va_join (wr := [(h0, .inr (8, [.ref a1, .ref a2, .ref a3, .ref a4, .ref a5, .ref a6, .ref a7, .ref a8, .ref a9, .int 0, .int 0, .int 0, .int 0]))]) (w1 := [(a3, .inr (5, [.ref r1, .ref r2, .ref r3, .ref r4, .ref r5, .int 0])), (a1, .inr (7, [.ref f0, .int 0]))]) hP hD [2, 1] [0] rfl rfl (by decide) (by decide) hk1 hFc hP1 hD1
  clear hk1 hPc hDc hFc hP1 hD1 ht
  generalize H1 = H at hP hS ⊢
  have hP : va_P (dC, dI) classes [(h0, .inr (8, [.ref a1, .ref a2, .ref a3, .ref a4, .ref a5, .ref a6, .ref a7, .ref a8, .ref a9, .int 0, .int 0, .int 0, .int 0])), (a3, .inr (5, [.ref r1, .ref r2, .ref r3, .ref r4, .ref r5, .int 0])), (a1, .inr (7, [.ref f0, .int 0]))] H := hP
  have hD : va_D A [(h0, .inr (8, [.ref a1, .ref a2, .ref a3, .ref a4, .ref a5, .ref a6, .ref a7, .ref a8, .ref a9, .int 0, .int 0, .int 0, .int 0])), (a3, .inr (5, [.ref r1, .ref r2, .ref r3, .ref r4, .ref r5, .int 0])), (a1, .inr (7, [.ref f0, .int 0]))] := hD
  refine lv_aload_n hx hb dX10_choose_11 rfl (lv_at hl 0 rfl) ?_
  refine va_get (D := (dC, dI)) (ci := 8) (v := .ref a3) (C := RX10) (T := TX10) (N := 13) hx hb hts inX10 hown hK hP 0 rfl rfl 2 (by decide) (hts _ mw_311) (fun _ h9 => h9) rfl dX10_choose_12 ?_
  refine lv_aload_n hx hb dX10_choose_15 rfl (lv_at hl 0 rfl) ?_
  refine va_get (D := (dC, dI)) (ci := 8) (v := .int 0) (C := RX10) (T := TX10) (N := 13) hx hb hts inX10 hown hK hP 0 rfl rfl 9 (by decide) (hts _ mw_318) (fun _ h9 => h9) rfl dX10_choose_16 ?_
  refine lv_iconst (v := 1) hx hb dX10_choose_19 (by decide) ?_
  refine lv_iadd hx hb dX10_choose_20 ?_
  refine zz_i (v := 1) (by decide) ?_
  have hPc := hP.sub (ws' := [(a3, .inr (5, [.ref r1, .ref r2, .ref r3, .ref r4, .ref r5, .int 0]))]) [1] rfl
  have hDc := hD.sub (ws' := [(a3, .inr (5, [.ref r1, .ref r2, .ref r3, .ref r4, .ref r5, .int 0]))]) [1] (by decide) rfl
  have hFc := va_free (wc := [(a3, .inr (5, [.ref r1, .ref r2, .ref r3, .ref r4, .ref r5, .int 0]))]) hD hS hA [1] rfl
  refine zcall (st1 := [.int 0]) (va_runV (As := [.int 1]) (rest := []) ⟨hx, hb, hml, hown, hts⟩ (k_leaveOut l dC dI cI cZ cF H.size a3 r1 r2 r3 r4 r5 1 ) (cwV 1 hts (zz_gV mw_1014 mw_1015 mw_1016 mw_105 mc_yX6_leaveOut) rfl rfl rfl (by decide +kernel) ⟨Nat.le_of_ble_eq_true rfl, Nat.le_of_ble_eq_true rfl⟩) (zPV (q0 := 0) (ci := 5) hPc hDc hK rfl rfl) rfl rfl hl.1 rfl (lv_room (Nat.le_of_ble_eq_true rfl)) dX10_choose_21 ⟨Nat.le_of_ble_eq_true rfl, Nat.le_of_ble_eq_true rfl⟩) hS hFc hFc rfl (fun t H1 locs ht hB hk1 hS => ?_)
  obtain ⟨hP1, hD1⟩ := hB
  rw [ht] at hP1
  obtain ⟨hP, hD⟩ := va_join (wr := [(h0, .inr (8, [.ref a1, .ref a2, .ref a3, .ref a4, .ref a5, .ref a6, .ref a7, .ref a8, .ref a9, .int 0, .int 0, .int 0, .int 0])), (a1, .inr (7, [.ref f0, .int 0]))]) (w1 := [(a3, .inr (5, [.ref r1, .ref r2, .ref r3, .ref r4, .ref r5, .int 0]))]) hP hD [1] [0, 2] rfl rfl (by decide) (by decide) hk1 hFc hP1 hD1
  clear hk1 hPc hDc hFc hP1 hD1 ht
  generalize H1 = H at hP hS ⊢
  have hP : va_P (dC, dI) classes [(h0, .inr (8, [.ref a1, .ref a2, .ref a3, .ref a4, .ref a5, .ref a6, .ref a7, .ref a8, .ref a9, .int 0, .int 0, .int 0, .int 0])), (a1, .inr (7, [.ref f0, .int 0])), (a3, .inr (5, [.ref r1, .ref r2, .ref r3, .ref r4, .ref r5, .int 0]))] H := hP
  have hD : va_D A [(h0, .inr (8, [.ref a1, .ref a2, .ref a3, .ref a4, .ref a5, .ref a6, .ref a7, .ref a8, .ref a9, .int 0, .int 0, .int 0, .int 0])), (a1, .inr (7, [.ref f0, .int 0])), (a3, .inr (5, [.ref r1, .ref r2, .ref r3, .ref r4, .ref r5, .int 0]))] := hD
  refine lv_istore_n (lv' := [(1, .int 0), (0, .ref h0)]) hx hb dX10_choose_24 rfl hl (by decide) rfl (fun ls hl => ?_)
  refine lv_iload_n hx hb dX10_choose_25 rfl (lv_at hl 0 rfl) ?_
  refine lv_if_ne (tgt := 36) hx hb dX10_choose_26 (by decide) (fun c_1 => ?_) (fun c_1 => ?_)
  · exact absurd (by decide) c_1
  · refine lv_aload_n hx hb dX10_choose_29 rfl (lv_at hl 1 rfl) ?_
    refine lv_bipush (v := 8) hx hb dX10_choose_30 (by decide) ?_
    have hPc := hP.sub (ws' := [(h0, .inr (8, [.ref a1, .ref a2, .ref a3, .ref a4, .ref a5, .ref a6, .ref a7, .ref a8, .ref a9, .int 0, .int 0, .int 0, .int 0]))]) [0] rfl
    have hDc := hD.sub (ws' := [(h0, .inr (8, [.ref a1, .ref a2, .ref a3, .ref a4, .ref a5, .ref a6, .ref a7, .ref a8, .ref a9, .int 0, .int 0, .int 0, .int 0]))]) [0] (by decide) rfl
    have hFc := va_free (wc := [(h0, .inr (8, [.ref a1, .ref a2, .ref a3, .ref a4, .ref a5, .ref a6, .ref a7, .ref a8, .ref a9, .int 0, .int 0, .int 0, .int 0]))]) hD hS hA [0] rfl
    refine zcall (st1 := [.int (-1)]) (va_runV (As := [.int 8]) (rest := []) ⟨hx, hb, hml, hown, hts⟩ (k_refuse l dC dI cI cZ cF H.size h0 a1 a2 a3 a4 a5 a6 a7 a8 a9 8 (by decide)) (cwV 1 hts (zz_gV mw_356 mw_358 mw_0 mw_99 mc_yX10_refuse) rfl rfl rfl (by decide +kernel) ⟨Nat.le_of_ble_eq_true rfl, Nat.le_of_ble_eq_true rfl⟩) (zPV (q0 := 0) (ci := 8) hPc hDc hK rfl rfl) rfl rfl hl.1 rfl (lv_room (Nat.le_of_ble_eq_true rfl)) dX10_choose_32 ⟨Nat.le_of_ble_eq_true rfl, Nat.le_of_ble_eq_true rfl⟩) hS hFc hFc rfl (fun t H1 locs ht hB hk1 hS => ?_)
    obtain ⟨hP1, hD1⟩ := hB
    rw [ht] at hP1
    obtain ⟨hP, hD⟩ := va_join (wr := [(a1, .inr (7, [.ref f0, .int 0])), (a3, .inr (5, [.ref r1, .ref r2, .ref r3, .ref r4, .ref r5, .int 0]))]) (w1 := [(h0, .inr (8, [.ref a1, .ref a2, .ref a3, .ref a4, .ref a5, .ref a6, .ref a7, .ref a8, .ref a9, .int 0, .int 0, .int 0, .int 8]))]) hP hD [0] [1, 2] rfl rfl (by decide) (by decide) hk1 hFc hP1 hD1
    clear hk1 hPc hDc hFc hP1 hD1 ht
    generalize H1 = H at hP hS ⊢
    have hP : va_P (dC, dI) classes [(a1, .inr (7, [.ref f0, .int 0])), (a3, .inr (5, [.ref r1, .ref r2, .ref r3, .ref r4, .ref r5, .int 0])), (h0, .inr (8, [.ref a1, .ref a2, .ref a3, .ref a4, .ref a5, .ref a6, .ref a7, .ref a8, .ref a9, .int 0, .int 0, .int 0, .int 8]))] H := hP
    have hD : va_D A [(a1, .inr (7, [.ref f0, .int 0])), (a3, .inr (5, [.ref r1, .ref r2, .ref r3, .ref r4, .ref r5, .int 0])), (h0, .inr (8, [.ref a1, .ref a2, .ref a3, .ref a4, .ref a5, .ref a6, .ref a7, .ref a8, .ref a9, .int 0, .int 0, .int 0, .int 8]))] := hD
    refine W.widen (k := 0) (n := 0) (by decide) (by decide) ?_
    have hP9 := hP.sub (ws' := []) [] rfl
    have hD9 := hD.sub (ws' := []) [] (by decide) rfl
    exact W.iret (v := (-1)) hx hb hr (fun t ht hW => ⟨⟨rfl, by rw [ht]; exact hP9, hD9⟩, hS.F ht⟩) hS.2.2 dX10_choose_35
set_option maxHeartbeats 4000000 in
set_option maxRecDepth 100000 in
theorem k_x_run (l : Launch) (dC : Nat → ClassId) (dI : Nat → Nat → Nat) (cI cZ cF : ClassId) (sz : Nat) (h0 : Nat) (a1 : Nat) (a2 : Nat) (a3 : Nat) (a4 : Nat) (a5 : Nat) (a6 : Nat) (a7 : Nat) (a8 : Nat) (a9 : Nat) (f0 : Nat) (i1 : Int32) : Met l yX10_run (.code yX10_run cX10_run 7 (some .int) :: ws0) ({ frames := 1, cells := 0, slots := 0, locals := 21 }) (va_Pc [.ref h0, .int i1] (zPre (dC, dI) classes (zTy cI cZ cF) [(h0, .inr (8, [.ref a1, .ref a2, .ref a3, .ref a4, .ref a5, .ref a6, .ref a7, .ref a8, .ref a9, .int 0, .int 0, .int 0, .int 0])), (a1, .inr (7, [.ref f0, .int 0]))] sz zTrue)) (zQ (some (.int (-1))) (fun t => va_P (dC, dI) classes [] t.heap ∧ va_D (va_A [(h0, .inr (8, [.ref a1, .ref a2, .ref a3, .ref a4, .ref a5, .ref a6, .ref a7, .ref a8, .ref a9, .int 0, .int 0, .int 0, .int 0])), (a1, .inr (7, [.ref f0, .int 0]))] sz) []) (va_A [(h0, .inr (8, [.ref a1, .ref a2, .ref a3, .ref a4, .ref a5, .ref a6, .ref a7, .ref a8, .ref a9, .int 0, .int 0, .int 0, .int 0])), (a1, .inr (7, [.ref f0, .int 0]))] sz)) 0 0 (va_A [(h0, .inr (8, [.ref a1, .ref a2, .ref a3, .ref a4, .ref a5, .ref a6, .ref a7, .ref a8, .ref a9, .int 0, .int 0, .int 0, .int 0])), (a1, .inr (7, [.ref f0, .int 0]))] sz) := by
  refine Met.ofW (cc := cX10_run) (maxL := 7) (ret := (some .int)) (by decide) rfl ?_
  intro p e s m args below meth c s₁ B hml hv
  obtain ⟨rfl, hsz, hP, hK, hD0, hXX⟩ := hv
  have hx := B.exec
  have hb := B.bytes
  have hr := B.returns
  have hts0 := atoms_spec (ws := .code yX10_run cX10_run 7 (some .int) :: ws0) B.pre
  have hts : ∀ w9 ∈ ws0, w9.before ([.ref h0, .int i1] : List Value).toArray s = true := fun w9 h => hts0 w9 (List.mem_cons_of_mem _ h)
  have hown : s.vm.findClass "ScaleShop" = some m.cls := findClass_of_methodNamed B.named
  have hlocks := B.notSynchronized
  subst hsz
  have hD := hD0.self (sz := s.heap.size)
  generalize hAe : va_A [(h0, .inr (8, [.ref a1, .ref a2, .ref a3, .ref a4, .ref a5, .ref a6, .ref a7, .ref a8, .ref a9, .int 0, .int 0, .int 0, .int 0])), (a1, .inr (7, [.ref f0, .int 0]))] s.heap.size = A at hD ⊢
  have hA : ∀ q : Nat, s.heap.size ≤ q → A q := fun q h => by rw [← hAe]; exact Or.inr h
  have hS : va_S A s.heap s.heap [] := va_S.rf
  have hP : va_P (dC, dI) classes [(h0, .inr (8, [.ref a1, .ref a2, .ref a3, .ref a4, .ref a5, .ref a6, .ref a7, .ref a8, .ref a9, .int 0, .int 0, .int 0, .int 0])), (a1, .inr (7, [.ref f0, .int 0]))] s.heap := hP
  have hl := lv_entry ([.ref h0, .int i1]) (n := 7) (Nat.le_of_ble_eq_true rfl)
  rw [lg_entry_eq]
  generalize (lg_sl ([.ref h0, .int i1]) ++ List.replicate (7 - (lg_sl ([.ref h0, .int i1])).length) Slot.unset).toArray = ls at hl ⊢
  have hl : lv_has ls 7 [(0, .ref h0), (1, .int i1)] := hl
  refine lv_iload_n hx hb dX10_run_0 rfl (lv_at hl 1 rfl) ?_
  refine lv_if_ge (tgt := 10) hx hb dX10_run_1 (by decide) (fun c_1 => ?_) (fun c_1 => ?_)
  · refine lv_iconst (v := 0) hx hb dX10_run_10 (by decide) ?_
    refine lv_istore_n (lv' := [(2, .int 0), (0, .ref h0), (1, .int i1)]) hx hb dX10_run_11 rfl hl (by decide) rfl (fun ls hl => ?_)
    refine lv_iconst (v := 0) hx hb dX10_run_12 (by decide) ?_
    refine lv_istore_n (lv' := [(3, .int 0), (2, .int 0), (0, .ref h0), (1, .int i1)]) hx hb dX10_run_13 rfl hl (by decide) rfl (fun ls hl => ?_)
    refine lv_iload_n hx hb dX10_run_14 rfl (lv_at hl 0 rfl) ?_
    refine lv_sipush (v := 8001) hx hb dX10_run_15 (by decide) ?_
    refine lv_icmp_ge (tgt := 106) hx hb dX10_run_18 (by decide) (fun c_2 => ?_) (fun c_2 => ?_)
    · exact absurd c_2 (by decide)
    · refine lv_iload_n hx hb dX10_run_21 rfl (lv_at hl 1 rfl) ?_
      refine lv_istore (lv' := [(4, .int 0), (3, .int 0), (2, .int 0), (0, .ref h0), (1, .int i1)]) hx hb dX10_run_22 hl (by decide) rfl (fun ls hl => ?_)
      refine lv_iconst (v := 0) hx hb dX10_run_24 (by decide) ?_
      refine lv_istore (lv' := [(5, .int 0), (4, .int 0), (3, .int 0), (2, .int 0), (0, .ref h0), (1, .int i1)]) hx hb dX10_run_25 hl (by decide) rfl (fun ls hl => ?_)
      refine lv_iload hx hb dX10_run_27 (lv_at hl 0 rfl) ?_
      refine lv_aload_n hx hb dX10_run_29 rfl (lv_at hl 4 rfl) ?_
      refine va_get (D := (dC, dI)) (ci := 8) (v := .ref a1) (C := RX10) (T := TX10) (N := 13) hx hb hts inX10 hown hK hP 0 rfl rfl 0 (by decide) (hts _ mw_309) (fun _ h9 => h9) rfl dX10_run_30 ?_
      refine va_get (D := (dC, dI)) (ci := 7) (v := .int 0) (C := RX8) (T := TX8) (N := 2) hx hb hts inX8 hown hK hP 1 rfl rfl 1 (by decide) (hts _ mw_140) (fun _ h9 => h9) rfl dX10_run_33 ?_
      refine lv_icmp_ge (tgt := 91) hx hb dX10_run_36 (by decide) (fun c_3 => ?_) (fun c_3 => ?_)
      · refine lv_iload_n hx hb dX10_run_91 rfl (lv_at hl 3 rfl) ?_
        refine lv_iload hx hb dX10_run_92 (lv_at hl 1 rfl) ?_
        refine lv_icmp_ne (tgt := 100) hx hb dX10_run_94 (by decide) (fun c_4 => ?_) (fun c_4 => ?_)
        · exact absurd (by decide) c_4
        · refine lv_goto (tgt := 106) hx hb dX10_run_97 (by decide) ?_
          refine lv_iload_n hx hb dX10_run_106 rfl (lv_at hl 3 rfl) ?_
          refine lv_if_ne (tgt := 117) hx hb dX10_run_107 (by decide) (fun c_5 => ?_) (fun c_5 => ?_)
          · exact absurd (by decide) c_5
          · refine lv_aload_n hx hb dX10_run_110 rfl (lv_at hl 4 rfl) ?_
            refine lv_bipush (v := 8) hx hb dX10_run_111 (by decide) ?_
            have hPc := hP.sub (ws' := [(h0, .inr (8, [.ref a1, .ref a2, .ref a3, .ref a4, .ref a5, .ref a6, .ref a7, .ref a8, .ref a9, .int 0, .int 0, .int 0, .int 0]))]) [0] rfl
            have hDc := hD.sub (ws' := [(h0, .inr (8, [.ref a1, .ref a2, .ref a3, .ref a4, .ref a5, .ref a6, .ref a7, .ref a8, .ref a9, .int 0, .int 0, .int 0, .int 0]))]) [0] (by decide) rfl
            have hFc := va_free (wc := [(h0, .inr (8, [.ref a1, .ref a2, .ref a3, .ref a4, .ref a5, .ref a6, .ref a7, .ref a8, .ref a9, .int 0, .int 0, .int 0, .int 0]))]) hD hS hA [0] rfl
            refine zcall (st1 := [.int (-1)]) (va_runV (As := [.int 8]) (rest := []) ⟨hx, hb, hml, hown, hts⟩ (k_refuse l dC dI cI cZ cF s.heap.size h0 a1 a2 a3 a4 a5 a6 a7 a8 a9 8 (by decide)) (cwV 1 hts (zz_gV mw_356 mw_358 mw_0 mw_99 mc_yX10_refuse) rfl rfl rfl (by decide +kernel) ⟨Nat.le_of_ble_eq_true rfl, Nat.le_of_ble_eq_true rfl⟩) (zPV (q0 := 0) (ci := 8) hPc hDc hK rfl rfl) rfl rfl hl.1 rfl (lv_room (Nat.le_of_ble_eq_true rfl)) dX10_run_113 ⟨Nat.le_of_ble_eq_true rfl, Nat.le_of_ble_eq_true rfl⟩) hS hFc hFc rfl (fun t H1 locs ht hB hk1 hS => ?_)
            obtain ⟨hP1, hD1⟩ := hB
            rw [ht] at hP1
            obtain ⟨hP, hD⟩ := va_join (wr := [(a1, .inr (7, [.ref f0, .int 0]))]) (w1 := [(h0, .inr (8, [.ref a1, .ref a2, .ref a3, .ref a4, .ref a5, .ref a6, .ref a7, .ref a8, .ref a9, .int 0, .int 0, .int 0, .int 8]))]) hP hD [0] [1] rfl rfl (by decide) (by decide) hk1 hFc hP1 hD1
            clear hk1 hPc hDc hFc hP1 hD1 ht
            generalize H1 = H at hP hS ⊢
            have hP : va_P (dC, dI) classes [(a1, .inr (7, [.ref f0, .int 0])), (h0, .inr (8, [.ref a1, .ref a2, .ref a3, .ref a4, .ref a5, .ref a6, .ref a7, .ref a8, .ref a9, .int 0, .int 0, .int 0, .int 8]))] H := hP
            have hD : va_D A [(a1, .inr (7, [.ref f0, .int 0])), (h0, .inr (8, [.ref a1, .ref a2, .ref a3, .ref a4, .ref a5, .ref a6, .ref a7, .ref a8, .ref a9, .int 0, .int 0, .int 0, .int 8]))] := hD
            refine W.widen (k := 0) (n := 0) (by decide) (by decide) ?_
            have hP9 := hP.sub (ws' := []) [] rfl
            have hD9 := hD.sub (ws' := []) [] (by decide) rfl
            exact W.iret (v := (-1)) hx hb hr (fun t ht hW => ⟨⟨rfl, by rw [ht]; exact hP9, hD9⟩, hS.F ht⟩) hS.2.2 dX10_run_116
      · exact absurd (by decide) c_3
  · refine lv_aload_n hx hb dX10_run_4 rfl (lv_at hl 0 rfl) ?_
    refine lv_iconst (v := 4) hx hb dX10_run_5 (by decide) ?_
    have hPc := hP.sub (ws' := [(h0, .inr (8, [.ref a1, .ref a2, .ref a3, .ref a4, .ref a5, .ref a6, .ref a7, .ref a8, .ref a9, .int 0, .int 0, .int 0, .int 0]))]) [0] rfl
    have hDc := hD.sub (ws' := [(h0, .inr (8, [.ref a1, .ref a2, .ref a3, .ref a4, .ref a5, .ref a6, .ref a7, .ref a8, .ref a9, .int 0, .int 0, .int 0, .int 0]))]) [0] (by decide) rfl
    have hFc := va_free (wc := [(h0, .inr (8, [.ref a1, .ref a2, .ref a3, .ref a4, .ref a5, .ref a6, .ref a7, .ref a8, .ref a9, .int 0, .int 0, .int 0, .int 0]))]) hD hS hA [0] rfl
    refine zcall (st1 := [.int (-1)]) (va_runV (As := [.int 4]) (rest := []) ⟨hx, hb, hml, hown, hts⟩ (k_refuse l dC dI cI cZ cF s.heap.size h0 a1 a2 a3 a4 a5 a6 a7 a8 a9 4 (by decide)) (cwV 1 hts (zz_gV mw_356 mw_358 mw_0 mw_99 mc_yX10_refuse) rfl rfl rfl (by decide +kernel) ⟨Nat.le_of_ble_eq_true rfl, Nat.le_of_ble_eq_true rfl⟩) (zPV (q0 := 0) (ci := 8) hPc hDc hK rfl rfl) rfl rfl hl.1 rfl (lv_room (Nat.le_of_ble_eq_true rfl)) dX10_run_6 ⟨Nat.le_of_ble_eq_true rfl, Nat.le_of_ble_eq_true rfl⟩) hS hFc hFc rfl (fun t H1 locs ht hB hk1 hS => ?_)
    obtain ⟨hP1, hD1⟩ := hB
    rw [ht] at hP1
    obtain ⟨hP, hD⟩ := va_join (wr := [(a1, .inr (7, [.ref f0, .int 0]))]) (w1 := [(h0, .inr (8, [.ref a1, .ref a2, .ref a3, .ref a4, .ref a5, .ref a6, .ref a7, .ref a8, .ref a9, .int 0, .int 0, .int 0, .int 4]))]) hP hD [0] [1] rfl rfl (by decide) (by decide) hk1 hFc hP1 hD1
    clear hk1 hPc hDc hFc hP1 hD1 ht
    generalize H1 = H at hP hS ⊢
    have hP : va_P (dC, dI) classes [(a1, .inr (7, [.ref f0, .int 0])), (h0, .inr (8, [.ref a1, .ref a2, .ref a3, .ref a4, .ref a5, .ref a6, .ref a7, .ref a8, .ref a9, .int 0, .int 0, .int 0, .int 4]))] H := hP
    have hD : va_D A [(a1, .inr (7, [.ref f0, .int 0])), (h0, .inr (8, [.ref a1, .ref a2, .ref a3, .ref a4, .ref a5, .ref a6, .ref a7, .ref a8, .ref a9, .int 0, .int 0, .int 0, .int 4]))] := hD
    refine W.widen (k := 0) (n := 0) (by decide) (by decide) ?_
    have hP9 := hP.sub (ws' := []) [] rfl
    have hD9 := hD.sub (ws' := []) [] (by decide) rfl
    exact W.iret (v := (-1)) hx hb hr (fun t ht hW => ⟨⟨rfl, by rw [ht]; exact hP9, hD9⟩, hS.F ht⟩) hS.2.2 dX10_run_9
set_option maxHeartbeats 4000000 in
set_option maxRecDepth 100000 in
theorem k_x_undo (l : Launch) (dC : Nat → ClassId) (dI : Nat → Nat → Nat) (cI cZ cF : ClassId) (sz : Nat) (h0 : Nat) (a1 : Nat) (a2 : Nat) (a3 : Nat) (a4 : Nat) (a5 : Nat) (a6 : Nat) (a7 : Nat) (a8 : Nat) (a9 : Nat) (e0 : Nat) : Met l yX10_undo (.code yX10_undo cX10_undo 2 (some .int) :: ws0) ({ frames := 1, cells := 0, slots := 0, locals := 21 }) (va_Pc [.ref h0] (zPre (dC, dI) classes (zTy cI cZ cF) [(h0, .inr (8, [.ref a1, .ref a2, .ref a3, .ref a4, .ref a5, .ref a6, .ref a7, .ref a8, .ref a9, .int 0, .int 0, .int 0, .int 0])), (a9, .inr (10, [.int 0, .ref e0, .int 0]))] sz zTrue)) (zQ (some (.int (-1))) (fun t => va_P (dC, dI) classes [] t.heap ∧ va_D (va_A [(h0, .inr (8, [.ref a1, .ref a2, .ref a3, .ref a4, .ref a5, .ref a6, .ref a7, .ref a8, .ref a9, .int 0, .int 0, .int 0, .int 0])), (a9, .inr (10, [.int 0, .ref e0, .int 0]))] sz) []) (va_A [(h0, .inr (8, [.ref a1, .ref a2, .ref a3, .ref a4, .ref a5, .ref a6, .ref a7, .ref a8, .ref a9, .int 0, .int 0, .int 0, .int 0])), (a9, .inr (10, [.int 0, .ref e0, .int 0]))] sz)) 0 0 (va_A [(h0, .inr (8, [.ref a1, .ref a2, .ref a3, .ref a4, .ref a5, .ref a6, .ref a7, .ref a8, .ref a9, .int 0, .int 0, .int 0, .int 0])), (a9, .inr (10, [.int 0, .ref e0, .int 0]))] sz) := by
  refine Met.ofW (cc := cX10_undo) (maxL := 2) (ret := (some .int)) (by decide) rfl ?_
  intro p e s m args below meth c s₁ B hml hv
  obtain ⟨rfl, hsz, hP, hK, hD0, hXX⟩ := hv
  have hx := B.exec
  have hb := B.bytes
  have hr := B.returns
  have hts0 := atoms_spec (ws := .code yX10_undo cX10_undo 2 (some .int) :: ws0) B.pre
  have hts : ∀ w9 ∈ ws0, w9.before ([.ref h0] : List Value).toArray s = true := fun w9 h => hts0 w9 (List.mem_cons_of_mem _ h)
  have hown : s.vm.findClass "ScaleShop" = some m.cls := findClass_of_methodNamed B.named
  have hlocks := B.notSynchronized
  subst hsz
  have hD := hD0.self (sz := s.heap.size)
  generalize hAe : va_A [(h0, .inr (8, [.ref a1, .ref a2, .ref a3, .ref a4, .ref a5, .ref a6, .ref a7, .ref a8, .ref a9, .int 0, .int 0, .int 0, .int 0])), (a9, .inr (10, [.int 0, .ref e0, .int 0]))] s.heap.size = A at hD ⊢
  have hA : ∀ q : Nat, s.heap.size ≤ q → A q := fun q h => by rw [← hAe]; exact Or.inr h
  have hS : va_S A s.heap s.heap [] := va_S.rf
  have hP : va_P (dC, dI) classes [(h0, .inr (8, [.ref a1, .ref a2, .ref a3, .ref a4, .ref a5, .ref a6, .ref a7, .ref a8, .ref a9, .int 0, .int 0, .int 0, .int 0])), (a9, .inr (10, [.int 0, .ref e0, .int 0]))] s.heap := hP
  have hl := lv_entry ([.ref h0]) (n := 2) (Nat.le_of_ble_eq_true rfl)
  rw [lg_entry_eq]
  generalize (lg_sl ([.ref h0]) ++ List.replicate (2 - (lg_sl ([.ref h0])).length) Slot.unset).toArray = ls at hl ⊢
  have hl : lv_has ls 2 [(0, .ref h0)] := hl
  refine lv_aload_n hx hb dX10_undo_0 rfl (lv_at hl 0 rfl) ?_
  refine va_get (D := (dC, dI)) (ci := 8) (v := .int 0) (C := RX10) (T := TX10) (N := 13) hx hb hts inX10 hown hK hP 0 rfl rfl 9 (by decide) (hts _ mw_318) (fun _ h9 => h9) rfl dX10_undo_1 ?_
  refine lv_aload_n hx hb dX10_undo_4 rfl (lv_at hl 0 rfl) ?_
  refine va_get (D := (dC, dI)) (ci := 8) (v := .int 0) (C := RX10) (T := TX10) (N := 13) hx hb hts inX10 hown hK hP 0 rfl rfl 10 (by decide) (hts _ mw_319) (fun _ h9 => h9) rfl dX10_undo_5 ?_
  refine lv_icmp_le (tgt := 25) hx hb dX10_undo_8 (by decide) (fun c_1 => ?_) (fun c_1 => ?_)
  · refine lv_aload_n hx hb dX10_undo_25 rfl (lv_at hl 0 rfl) ?_
    refine lv_bipush (v := 8) hx hb dX10_undo_26 (by decide) ?_
    have hPc := hP.sub (ws' := [(h0, .inr (8, [.ref a1, .ref a2, .ref a3, .ref a4, .ref a5, .ref a6, .ref a7, .ref a8, .ref a9, .int 0, .int 0, .int 0, .int 0]))]) [0] rfl
    have hDc := hD.sub (ws' := [(h0, .inr (8, [.ref a1, .ref a2, .ref a3, .ref a4, .ref a5, .ref a6, .ref a7, .ref a8, .ref a9, .int 0, .int 0, .int 0, .int 0]))]) [0] (by decide) rfl
    have hFc := va_free (wc := [(h0, .inr (8, [.ref a1, .ref a2, .ref a3, .ref a4, .ref a5, .ref a6, .ref a7, .ref a8, .ref a9, .int 0, .int 0, .int 0, .int 0]))]) hD hS hA [0] rfl
    refine zcall (st1 := [.int (-1)]) (va_runV (As := [.int 8]) (rest := []) ⟨hx, hb, hml, hown, hts⟩ (k_refuse l dC dI cI cZ cF s.heap.size h0 a1 a2 a3 a4 a5 a6 a7 a8 a9 8 (by decide)) (cwV 1 hts (zz_gV mw_356 mw_358 mw_0 mw_99 mc_yX10_refuse) rfl rfl rfl (by decide +kernel) ⟨Nat.le_of_ble_eq_true rfl, Nat.le_of_ble_eq_true rfl⟩) (zPV (q0 := 0) (ci := 8) hPc hDc hK rfl rfl) rfl rfl hl.1 rfl (lv_room (Nat.le_of_ble_eq_true rfl)) dX10_undo_28 ⟨Nat.le_of_ble_eq_true rfl, Nat.le_of_ble_eq_true rfl⟩) hS hFc hFc rfl (fun t H1 locs ht hB hk1 hS => ?_)
    obtain ⟨hP1, hD1⟩ := hB
    rw [ht] at hP1
    obtain ⟨hP, hD⟩ := va_join (wr := [(a9, .inr (10, [.int 0, .ref e0, .int 0]))]) (w1 := [(h0, .inr (8, [.ref a1, .ref a2, .ref a3, .ref a4, .ref a5, .ref a6, .ref a7, .ref a8, .ref a9, .int 0, .int 0, .int 0, .int 8]))]) hP hD [0] [1] rfl rfl (by decide) (by decide) hk1 hFc hP1 hD1
    clear hk1 hPc hDc hFc hP1 hD1 ht
    generalize H1 = H at hP hS ⊢
    have hP : va_P (dC, dI) classes [(a9, .inr (10, [.int 0, .ref e0, .int 0])), (h0, .inr (8, [.ref a1, .ref a2, .ref a3, .ref a4, .ref a5, .ref a6, .ref a7, .ref a8, .ref a9, .int 0, .int 0, .int 0, .int 8]))] H := hP
    have hD : va_D A [(a9, .inr (10, [.int 0, .ref e0, .int 0])), (h0, .inr (8, [.ref a1, .ref a2, .ref a3, .ref a4, .ref a5, .ref a6, .ref a7, .ref a8, .ref a9, .int 0, .int 0, .int 0, .int 8]))] := hD
    refine W.widen (k := 0) (n := 0) (by decide) (by decide) ?_
    have hP9 := hP.sub (ws' := []) [] rfl
    have hD9 := hD.sub (ws' := []) [] (by decide) rfl
    exact W.iret (v := (-1)) hx hb hr (fun t ht hW => ⟨⟨rfl, by rw [ht]; exact hP9, hD9⟩, hS.F ht⟩) hS.2.2 dX10_undo_31
  · exact absurd (by decide) c_1
set_option maxHeartbeats 4000000 in
set_option maxRecDepth 100000 in
theorem k_x_redo (l : Launch) (dC : Nat → ClassId) (dI : Nat → Nat → Nat) (cI cZ cF : ClassId) (sz : Nat) (h0 : Nat) (a1 : Nat) (a2 : Nat) (a3 : Nat) (a4 : Nat) (a5 : Nat) (a6 : Nat) (a7 : Nat) (a8 : Nat) (a9 : Nat) (e0 : Nat) : Met l yX10_redo (.code yX10_redo cX10_redo 2 (some .int) :: ws0) ({ frames := 1, cells := 0, slots := 0, locals := 21 }) (va_Pc [.ref h0] (zPre (dC, dI) classes (zTy cI cZ cF) [(h0, .inr (8, [.ref a1, .ref a2, .ref a3, .ref a4, .ref a5, .ref a6, .ref a7, .ref a8, .ref a9, .int 0, .int 0, .int 0, .int 0])), (a9, .inr (10, [.int 0, .ref e0, .int 0]))] sz zTrue)) (zQ (some (.int (-1))) (fun t => va_P (dC, dI) classes [] t.heap ∧ va_D (va_A [(h0, .inr (8, [.ref a1, .ref a2, .ref a3, .ref a4, .ref a5, .ref a6, .ref a7, .ref a8, .ref a9, .int 0, .int 0, .int 0, .int 0])), (a9, .inr (10, [.int 0, .ref e0, .int 0]))] sz) []) (va_A [(h0, .inr (8, [.ref a1, .ref a2, .ref a3, .ref a4, .ref a5, .ref a6, .ref a7, .ref a8, .ref a9, .int 0, .int 0, .int 0, .int 0])), (a9, .inr (10, [.int 0, .ref e0, .int 0]))] sz)) 0 0 (va_A [(h0, .inr (8, [.ref a1, .ref a2, .ref a3, .ref a4, .ref a5, .ref a6, .ref a7, .ref a8, .ref a9, .int 0, .int 0, .int 0, .int 0])), (a9, .inr (10, [.int 0, .ref e0, .int 0]))] sz) := by
  refine Met.ofW (cc := cX10_redo) (maxL := 2) (ret := (some .int)) (by decide) rfl ?_
  intro p e s m args below meth c s₁ B hml hv
  obtain ⟨rfl, hsz, hP, hK, hD0, hXX⟩ := hv
  have hx := B.exec
  have hb := B.bytes
  have hr := B.returns
  have hts0 := atoms_spec (ws := .code yX10_redo cX10_redo 2 (some .int) :: ws0) B.pre
  have hts : ∀ w9 ∈ ws0, w9.before ([.ref h0] : List Value).toArray s = true := fun w9 h => hts0 w9 (List.mem_cons_of_mem _ h)
  have hown : s.vm.findClass "ScaleShop" = some m.cls := findClass_of_methodNamed B.named
  have hlocks := B.notSynchronized
  subst hsz
  have hD := hD0.self (sz := s.heap.size)
  generalize hAe : va_A [(h0, .inr (8, [.ref a1, .ref a2, .ref a3, .ref a4, .ref a5, .ref a6, .ref a7, .ref a8, .ref a9, .int 0, .int 0, .int 0, .int 0])), (a9, .inr (10, [.int 0, .ref e0, .int 0]))] s.heap.size = A at hD ⊢
  have hA : ∀ q : Nat, s.heap.size ≤ q → A q := fun q h => by rw [← hAe]; exact Or.inr h
  have hS : va_S A s.heap s.heap [] := va_S.rf
  have hP : va_P (dC, dI) classes [(h0, .inr (8, [.ref a1, .ref a2, .ref a3, .ref a4, .ref a5, .ref a6, .ref a7, .ref a8, .ref a9, .int 0, .int 0, .int 0, .int 0])), (a9, .inr (10, [.int 0, .ref e0, .int 0]))] s.heap := hP
  have hl := lv_entry ([.ref h0]) (n := 2) (Nat.le_of_ble_eq_true rfl)
  rw [lg_entry_eq]
  generalize (lg_sl ([.ref h0]) ++ List.replicate (2 - (lg_sl ([.ref h0])).length) Slot.unset).toArray = ls at hl ⊢
  have hl : lv_has ls 2 [(0, .ref h0)] := hl
  refine lv_aload_n hx hb dX10_redo_0 rfl (lv_at hl 0 rfl) ?_
  refine va_get (D := (dC, dI)) (ci := 8) (v := .int 0) (C := RX10) (T := TX10) (N := 13) hx hb hts inX10 hown hK hP 0 rfl rfl 9 (by decide) (hts _ mw_318) (fun _ h9 => h9) rfl dX10_redo_1 ?_
  refine lv_aload_n hx hb dX10_redo_4 rfl (lv_at hl 0 rfl) ?_
  refine va_get (D := (dC, dI)) (ci := 8) (v := .ref a9) (C := RX10) (T := TX10) (N := 13) hx hb hts inX10 hown hK hP 0 rfl rfl 8 (by decide) (hts _ mw_317) (fun _ h9 => h9) rfl dX10_redo_5 ?_
  have hPc := hP.sub (ws' := [(a9, .inr (10, [.int 0, .ref e0, .int 0]))]) [1] rfl
  have hDc := hD.sub (ws' := [(a9, .inr (10, [.int 0, .ref e0, .int 0]))]) [1] (by decide) rfl
  have hFc := va_free (wc := [(a9, .inr (10, [.int 0, .ref e0, .int 0]))]) hD hS hA [1] rfl
  refine zcall (st1 := [.int 0, .int 0]) (va_runV (As := []) (rest := [.int 0]) ⟨hx, hb, hml, hown, hts⟩ (k_AL_size l dC dI cI cZ cF s.heap.size a9 e0 ) (cwV 0 hts (zz_gV mw_468 mw_469 mw_470 mw_109 mc_yJx4a65c_size_8abf5) rfl rfl rfl (by decide +kernel) ⟨Nat.le_of_ble_eq_true rfl, Nat.le_of_ble_eq_true rfl⟩) (zPV (q0 := 0) (ci := 10) hPc hDc hK rfl rfl) rfl rfl hl.1 rfl (lv_room (Nat.le_of_ble_eq_true rfl)) dX10_redo_8 ⟨Nat.le_of_ble_eq_true rfl, Nat.le_of_ble_eq_true rfl⟩) hS hFc hFc rfl (fun t H1 locs ht hB hk1 hS => ?_)
  obtain ⟨hP1, hD1⟩ := hB
  rw [ht] at hP1
  obtain ⟨hP, hD⟩ := va_join (wr := [(h0, .inr (8, [.ref a1, .ref a2, .ref a3, .ref a4, .ref a5, .ref a6, .ref a7, .ref a8, .ref a9, .int 0, .int 0, .int 0, .int 0]))]) (w1 := [(a9, .inr (10, [.int 0, .ref e0, .int 0]))]) hP hD [1] [0] rfl rfl (by decide) (by decide) hk1 hFc hP1 hD1
  clear hk1 hPc hDc hFc hP1 hD1 ht
  generalize H1 = H at hP hS ⊢
  have hP : va_P (dC, dI) classes [(h0, .inr (8, [.ref a1, .ref a2, .ref a3, .ref a4, .ref a5, .ref a6, .ref a7, .ref a8, .ref a9, .int 0, .int 0, .int 0, .int 0])), (a9, .inr (10, [.int 0, .ref e0, .int 0]))] H := hP
  have hD : va_D A [(h0, .inr (8, [.ref a1, .ref a2, .ref a3, .ref a4, .ref a5, .ref a6, .ref a7, .ref a8, .ref a9, .int 0, .int 0, .int 0, .int 0])), (a9, .inr (10, [.int 0, .ref e0, .int 0]))] := hD
  refine lv_icmp_lt (tgt := 21) hx hb dX10_redo_11 (by decide) (fun c_1 => ?_) (fun c_1 => ?_)
  · exact absurd c_1 (by decide)
  · refine lv_aload_n hx hb dX10_redo_14 rfl (lv_at hl 0 rfl) ?_
    refine lv_bipush (v := 8) hx hb dX10_redo_15 (by decide) ?_
    have hPc := hP.sub (ws' := [(h0, .inr (8, [.ref a1, .ref a2, .ref a3, .ref a4, .ref a5, .ref a6, .ref a7, .ref a8, .ref a9, .int 0, .int 0, .int 0, .int 0]))]) [0] rfl
    have hDc := hD.sub (ws' := [(h0, .inr (8, [.ref a1, .ref a2, .ref a3, .ref a4, .ref a5, .ref a6, .ref a7, .ref a8, .ref a9, .int 0, .int 0, .int 0, .int 0]))]) [0] (by decide) rfl
    have hFc := va_free (wc := [(h0, .inr (8, [.ref a1, .ref a2, .ref a3, .ref a4, .ref a5, .ref a6, .ref a7, .ref a8, .ref a9, .int 0, .int 0, .int 0, .int 0]))]) hD hS hA [0] rfl
    refine zcall (st1 := [.int (-1)]) (va_runV (As := [.int 8]) (rest := []) ⟨hx, hb, hml, hown, hts⟩ (k_refuse l dC dI cI cZ cF H.size h0 a1 a2 a3 a4 a5 a6 a7 a8 a9 8 (by decide)) (cwV 1 hts (zz_gV mw_356 mw_358 mw_0 mw_99 mc_yX10_refuse) rfl rfl rfl (by decide +kernel) ⟨Nat.le_of_ble_eq_true rfl, Nat.le_of_ble_eq_true rfl⟩) (zPV (q0 := 0) (ci := 8) hPc hDc hK rfl rfl) rfl rfl hl.1 rfl (lv_room (Nat.le_of_ble_eq_true rfl)) dX10_redo_17 ⟨Nat.le_of_ble_eq_true rfl, Nat.le_of_ble_eq_true rfl⟩) hS hFc hFc rfl (fun t H1 locs ht hB hk1 hS => ?_)
    obtain ⟨hP1, hD1⟩ := hB
    rw [ht] at hP1
    obtain ⟨hP, hD⟩ := va_join (wr := [(a9, .inr (10, [.int 0, .ref e0, .int 0]))]) (w1 := [(h0, .inr (8, [.ref a1, .ref a2, .ref a3, .ref a4, .ref a5, .ref a6, .ref a7, .ref a8, .ref a9, .int 0, .int 0, .int 0, .int 8]))]) hP hD [0] [1] rfl rfl (by decide) (by decide) hk1 hFc hP1 hD1
    clear hk1 hPc hDc hFc hP1 hD1 ht
    generalize H1 = H at hP hS ⊢
    have hP : va_P (dC, dI) classes [(a9, .inr (10, [.int 0, .ref e0, .int 0])), (h0, .inr (8, [.ref a1, .ref a2, .ref a3, .ref a4, .ref a5, .ref a6, .ref a7, .ref a8, .ref a9, .int 0, .int 0, .int 0, .int 8]))] H := hP
    have hD : va_D A [(a9, .inr (10, [.int 0, .ref e0, .int 0])), (h0, .inr (8, [.ref a1, .ref a2, .ref a3, .ref a4, .ref a5, .ref a6, .ref a7, .ref a8, .ref a9, .int 0, .int 0, .int 0, .int 8]))] := hD
    refine W.widen (k := 0) (n := 0) (by decide) (by decide) ?_
    have hP9 := hP.sub (ws' := []) [] rfl
    have hD9 := hD.sub (ws' := []) [] (by decide) rfl
    exact W.iret (v := (-1)) hx hb hr (fun t ht hW => ⟨⟨rfl, by rw [ht]; exact hP9, hD9⟩, hS.F ht⟩) hS.2.2 dX10_redo_20
set_option maxHeartbeats 4000000 in
set_option maxRecDepth 100000 in
theorem k_x_meets (l : Launch) (dC : Nat → ClassId) (dI : Nat → Nat → Nat) (cI cZ cF : ClassId) (sz : Nat) (h0 : Nat) (a1 : Nat) (a2 : Nat) (a3 : Nat) (a4 : Nat) (a5 : Nat) (a6 : Nat) (a7 : Nat) (a8 : Nat) (a9 : Nat) (f0 : Nat) (i1 : Int32) (i2 : Int32) : Met l yX10_meets (.code yX10_meets cX10_meets 5 (some .boolean) :: ws0) ({ frames := 2, cells := 0, slots := 0, locals := 43 }) (va_Pc [.ref h0, .int i1, .int i2] (zPre (dC, dI) classes (zTy cI cZ cF) [(h0, .inr (8, [.ref a1, .ref a2, .ref a3, .ref a4, .ref a5, .ref a6, .ref a7, .ref a8, .ref a9, .int 0, .int 0, .int 0, .int 0])), (a1, .inr (7, [.ref f0, .int 0]))] sz zTrue)) (zQ (some (.int 0)) (fun t => va_P (dC, dI) classes [] t.heap ∧ va_D (va_A [(h0, .inr (8, [.ref a1, .ref a2, .ref a3, .ref a4, .ref a5, .ref a6, .ref a7, .ref a8, .ref a9, .int 0, .int 0, .int 0, .int 0])), (a1, .inr (7, [.ref f0, .int 0]))] sz) []) (va_A [(h0, .inr (8, [.ref a1, .ref a2, .ref a3, .ref a4, .ref a5, .ref a6, .ref a7, .ref a8, .ref a9, .int 0, .int 0, .int 0, .int 0])), (a1, .inr (7, [.ref f0, .int 0]))] sz)) 0 0 (va_A [(h0, .inr (8, [.ref a1, .ref a2, .ref a3, .ref a4, .ref a5, .ref a6, .ref a7, .ref a8, .ref a9, .int 0, .int 0, .int 0, .int 0])), (a1, .inr (7, [.ref f0, .int 0]))] sz) := by
  refine Met.ofW (cc := cX10_meets) (maxL := 5) (ret := (some .boolean)) (by decide) rfl ?_
  intro p e s m args below meth c s₁ B hml hv
  obtain ⟨rfl, hsz, hP, hK, hD0, hXX⟩ := hv
  have hx := B.exec
  have hb := B.bytes
  have hr := B.returns
  have hts0 := atoms_spec (ws := .code yX10_meets cX10_meets 5 (some .boolean) :: ws0) B.pre
  have hts : ∀ w9 ∈ ws0, w9.before ([.ref h0, .int i1, .int i2] : List Value).toArray s = true := fun w9 h => hts0 w9 (List.mem_cons_of_mem _ h)
  have hown : s.vm.findClass "ScaleShop" = some m.cls := findClass_of_methodNamed B.named
  have hlocks := B.notSynchronized
  subst hsz
  have hD := hD0.self (sz := s.heap.size)
  generalize hAe : va_A [(h0, .inr (8, [.ref a1, .ref a2, .ref a3, .ref a4, .ref a5, .ref a6, .ref a7, .ref a8, .ref a9, .int 0, .int 0, .int 0, .int 0])), (a1, .inr (7, [.ref f0, .int 0]))] s.heap.size = A at hD ⊢
  have hA : ∀ q : Nat, s.heap.size ≤ q → A q := fun q h => by rw [← hAe]; exact Or.inr h
  have hS : va_S A s.heap s.heap [] := va_S.rf
  have hP : va_P (dC, dI) classes [(h0, .inr (8, [.ref a1, .ref a2, .ref a3, .ref a4, .ref a5, .ref a6, .ref a7, .ref a8, .ref a9, .int 0, .int 0, .int 0, .int 0])), (a1, .inr (7, [.ref f0, .int 0]))] s.heap := hP
  have hl := lv_entry ([.ref h0, .int i1, .int i2]) (n := 5) (Nat.le_of_ble_eq_true rfl)
  rw [lg_entry_eq]
  generalize (lg_sl ([.ref h0, .int i1, .int i2]) ++ List.replicate (5 - (lg_sl ([.ref h0, .int i1, .int i2])).length) Slot.unset).toArray = ls at hl ⊢
  have hl : lv_has ls 5 [(0, .ref h0), (1, .int i1), (2, .int i2)] := hl
  refine lv_aload_n hx hb dX10_meets_0 rfl (lv_at hl 0 rfl) ?_
  refine va_get (D := (dC, dI)) (ci := 8) (v := .ref a1) (C := RX10) (T := TX10) (N := 13) hx hb hts inX10 hown hK hP 0 rfl rfl 0 (by decide) (hts _ mw_309) (fun _ h9 => h9) rfl dX10_meets_1 ?_
  refine lv_iload_n hx hb dX10_meets_4 rfl (lv_at hl 1 rfl) ?_
  have hPc := hP.sub (ws' := [(a1, .inr (7, [.ref f0, .int 0]))]) [1] rfl
  have hDc := hD.sub (ws' := [(a1, .inr (7, [.ref f0, .int 0]))]) [1] (by decide) rfl
  have hFc := va_free (wc := [(a1, .inr (7, [.ref f0, .int 0]))]) hD hS hA [1] rfl
  refine zcall (st1 := [.null]) (va_runV (As := [.int i1]) (rest := []) ⟨hx, hb, hml, hown, hts⟩ (k_rowThere l dC dI cI cZ cF s.heap.size a1 f0 i1 ) (cwV 1 hts (zz_gV mw_1027 mw_613 mw_614 mw_100 mc_yX8_rowThere) rfl rfl rfl (by decide +kernel) ⟨Nat.le_of_ble_eq_true rfl, Nat.le_of_ble_eq_true rfl⟩) (zPV (q0 := 0) (ci := 7) hPc hDc hK rfl rfl) rfl rfl hl.1 rfl (lv_room (Nat.le_of_ble_eq_true rfl)) dX10_meets_5 ⟨Nat.le_of_ble_eq_true rfl, Nat.le_of_ble_eq_true rfl⟩) hS hFc hFc rfl (fun t H1 locs ht hB hk1 hS => ?_)
  obtain ⟨hP1, hD1⟩ := hB
  rw [ht] at hP1
  obtain ⟨hP, hD⟩ := va_join (wr := [(h0, .inr (8, [.ref a1, .ref a2, .ref a3, .ref a4, .ref a5, .ref a6, .ref a7, .ref a8, .ref a9, .int 0, .int 0, .int 0, .int 0]))]) (w1 := [(a1, .inr (7, [.ref f0, .int 0]))]) hP hD [1] [0] rfl rfl (by decide) (by decide) hk1 hFc hP1 hD1
  clear hk1 hPc hDc hFc hP1 hD1 ht
  generalize H1 = H at hP hS ⊢
  have hP : va_P (dC, dI) classes [(h0, .inr (8, [.ref a1, .ref a2, .ref a3, .ref a4, .ref a5, .ref a6, .ref a7, .ref a8, .ref a9, .int 0, .int 0, .int 0, .int 0])), (a1, .inr (7, [.ref f0, .int 0]))] H := hP
  have hD : va_D A [(h0, .inr (8, [.ref a1, .ref a2, .ref a3, .ref a4, .ref a5, .ref a6, .ref a7, .ref a8, .ref a9, .int 0, .int 0, .int 0, .int 0])), (a1, .inr (7, [.ref f0, .int 0]))] := hD
  refine lv_astore_nN (lv' := [(3, .null), (0, .ref h0), (1, .int i1), (2, .int i2)]) hx hb dX10_meets_8 rfl hl (by decide) rfl (fun ls hl => ?_)
  refine lv_aload_n hx hb dX10_meets_9 rfl (lv_at hl 1 rfl) ?_
  refine va_get (D := (dC, dI)) (ci := 8) (v := .ref a1) (C := RX10) (T := TX10) (N := 13) hx hb hts inX10 hown hK hP 0 rfl rfl 0 (by decide) (hts _ mw_309) (fun _ h9 => h9) rfl dX10_meets_10 ?_
  refine lv_iload_n hx hb dX10_meets_13 rfl (lv_at hl 3 rfl) ?_
  have hPc := hP.sub (ws' := [(a1, .inr (7, [.ref f0, .int 0]))]) [1] rfl
  have hDc := hD.sub (ws' := [(a1, .inr (7, [.ref f0, .int 0]))]) [1] (by decide) rfl
  have hFc := va_free (wc := [(a1, .inr (7, [.ref f0, .int 0]))]) hD hS hA [1] rfl
  refine zcall (st1 := [.null]) (va_runV (As := [.int i2]) (rest := []) ⟨hx, hb, hml, hown, hts⟩ (k_rowThere l dC dI cI cZ cF H.size a1 f0 i2 ) (cwV 1 hts (zz_gV mw_1027 mw_613 mw_614 mw_100 mc_yX8_rowThere) rfl rfl rfl (by decide +kernel) ⟨Nat.le_of_ble_eq_true rfl, Nat.le_of_ble_eq_true rfl⟩) (zPV (q0 := 0) (ci := 7) hPc hDc hK rfl rfl) rfl rfl hl.1 rfl (lv_room (Nat.le_of_ble_eq_true rfl)) dX10_meets_14 ⟨Nat.le_of_ble_eq_true rfl, Nat.le_of_ble_eq_true rfl⟩) hS hFc hFc rfl (fun t H1 locs ht hB hk1 hS => ?_)
  obtain ⟨hP1, hD1⟩ := hB
  rw [ht] at hP1
  obtain ⟨hP, hD⟩ := va_join (wr := [(h0, .inr (8, [.ref a1, .ref a2, .ref a3, .ref a4, .ref a5, .ref a6, .ref a7, .ref a8, .ref a9, .int 0, .int 0, .int 0, .int 0]))]) (w1 := [(a1, .inr (7, [.ref f0, .int 0]))]) hP hD [1] [0] rfl rfl (by decide) (by decide) hk1 hFc hP1 hD1
  clear hk1 hPc hDc hFc hP1 hD1 ht
  generalize H1 = H at hP hS ⊢
  have hP : va_P (dC, dI) classes [(h0, .inr (8, [.ref a1, .ref a2, .ref a3, .ref a4, .ref a5, .ref a6, .ref a7, .ref a8, .ref a9, .int 0, .int 0, .int 0, .int 0])), (a1, .inr (7, [.ref f0, .int 0]))] H := hP
  have hD : va_D A [(h0, .inr (8, [.ref a1, .ref a2, .ref a3, .ref a4, .ref a5, .ref a6, .ref a7, .ref a8, .ref a9, .int 0, .int 0, .int 0, .int 0])), (a1, .inr (7, [.ref f0, .int 0]))] := hD
  refine lv_astoreN (lv' := [(4, .null), (3, .null), (0, .ref h0), (1, .int i1), (2, .int i2)]) hx hb dX10_meets_17 hl (by decide) rfl (fun ls hl => ?_)
  refine lv_aload_nN hx hb dX10_meets_19 rfl (lv_at hl 1 rfl) ?_
  refine lv_ifnullN (tgt := 41) hx hb dX10_meets_20 (by decide) ?_
  refine lv_iconst (v := 0) hx hb dX10_meets_41 (by decide) ?_
  refine W.widen (k := 0) (n := 0) (by decide) (by decide) ?_
  have hP9 := hP.sub (ws' := []) [] rfl
  have hD9 := hD.sub (ws' := []) [] (by decide) rfl
  exact W.zret (ty := .boolean) (v := 0) hx hb hr rfl (fun t ht hW => ⟨⟨rfl, by rw [ht]; exact hP9, hD9⟩, hS.F ht⟩) hS.2.2 dX10_meets_42
set_option maxHeartbeats 4000000 in
set_option maxRecDepth 100000 in
theorem k_x_inside (l : Launch) (dC : Nat → ClassId) (dI : Nat → Nat → Nat) (cI cZ cF : ClassId) (sz : Nat) (h0 : Nat) (a1 : Nat) (a2 : Nat) (a3 : Nat) (a4 : Nat) (a5 : Nat) (a6 : Nat) (a7 : Nat) (a8 : Nat) (a9 : Nat) (f0 : Nat) (i1 : Int32) (i2 : Int32) (i3 : Int32) : Met l yX10_inside (.code yX10_inside cX10_inside 5 (some .int) :: ws0) ({ frames := 2, cells := 0, slots := 0, locals := 43 }) (va_Pc [.ref h0, .int i1, .int i2, .int i3] (zPre (dC, dI) classes (zTy cI cZ cF) [(h0, .inr (8, [.ref a1, .ref a2, .ref a3, .ref a4, .ref a5, .ref a6, .ref a7, .ref a8, .ref a9, .int 0, .int 0, .int 0, .int 0])), (a1, .inr (7, [.ref f0, .int 0]))] sz zTrue)) (zQ (some (.int (-1))) (fun t => va_P (dC, dI) classes [] t.heap ∧ va_D (va_A [(h0, .inr (8, [.ref a1, .ref a2, .ref a3, .ref a4, .ref a5, .ref a6, .ref a7, .ref a8, .ref a9, .int 0, .int 0, .int 0, .int 0])), (a1, .inr (7, [.ref f0, .int 0]))] sz) []) (va_A [(h0, .inr (8, [.ref a1, .ref a2, .ref a3, .ref a4, .ref a5, .ref a6, .ref a7, .ref a8, .ref a9, .int 0, .int 0, .int 0, .int 0])), (a1, .inr (7, [.ref f0, .int 0]))] sz)) 0 0 (va_A [(h0, .inr (8, [.ref a1, .ref a2, .ref a3, .ref a4, .ref a5, .ref a6, .ref a7, .ref a8, .ref a9, .int 0, .int 0, .int 0, .int 0])), (a1, .inr (7, [.ref f0, .int 0]))] sz) := by
  refine Met.ofW (cc := cX10_inside) (maxL := 5) (ret := (some .int)) (by decide) rfl ?_
  intro p e s m args below meth c s₁ B hml hv
  obtain ⟨rfl, hsz, hP, hK, hD0, hXX⟩ := hv
  have hx := B.exec
  have hb := B.bytes
  have hr := B.returns
  have hts0 := atoms_spec (ws := .code yX10_inside cX10_inside 5 (some .int) :: ws0) B.pre
  have hts : ∀ w9 ∈ ws0, w9.before ([.ref h0, .int i1, .int i2, .int i3] : List Value).toArray s = true := fun w9 h => hts0 w9 (List.mem_cons_of_mem _ h)
  have hown : s.vm.findClass "ScaleShop" = some m.cls := findClass_of_methodNamed B.named
  have hlocks := B.notSynchronized
  subst hsz
  have hD := hD0.self (sz := s.heap.size)
  generalize hAe : va_A [(h0, .inr (8, [.ref a1, .ref a2, .ref a3, .ref a4, .ref a5, .ref a6, .ref a7, .ref a8, .ref a9, .int 0, .int 0, .int 0, .int 0])), (a1, .inr (7, [.ref f0, .int 0]))] s.heap.size = A at hD ⊢
  have hA : ∀ q : Nat, s.heap.size ≤ q → A q := fun q h => by rw [← hAe]; exact Or.inr h
  have hS : va_S A s.heap s.heap [] := va_S.rf
  have hP : va_P (dC, dI) classes [(h0, .inr (8, [.ref a1, .ref a2, .ref a3, .ref a4, .ref a5, .ref a6, .ref a7, .ref a8, .ref a9, .int 0, .int 0, .int 0, .int 0])), (a1, .inr (7, [.ref f0, .int 0]))] s.heap := hP
  have hl := lv_entry ([.ref h0, .int i1, .int i2, .int i3]) (n := 5) (Nat.le_of_ble_eq_true rfl)
  rw [lg_entry_eq]
  generalize (lg_sl ([.ref h0, .int i1, .int i2, .int i3]) ++ List.replicate (5 - (lg_sl ([.ref h0, .int i1, .int i2, .int i3])).length) Slot.unset).toArray = ls at hl ⊢
  have hl : lv_has ls 5 [(0, .ref h0), (1, .int i1), (2, .int i2), (3, .int i3)] := hl
  refine lv_aload_n hx hb dX10_inside_0 rfl (lv_at hl 0 rfl) ?_
  refine va_get (D := (dC, dI)) (ci := 8) (v := .ref a1) (C := RX10) (T := TX10) (N := 13) hx hb hts inX10 hown hK hP 0 rfl rfl 0 (by decide) (hts _ mw_309) (fun _ h9 => h9) rfl dX10_inside_1 ?_
  refine lv_iload_n hx hb dX10_inside_4 rfl (lv_at hl 3 rfl) ?_
  have hPc := hP.sub (ws' := [(a1, .inr (7, [.ref f0, .int 0]))]) [1] rfl
  have hDc := hD.sub (ws' := [(a1, .inr (7, [.ref f0, .int 0]))]) [1] (by decide) rfl
  have hFc := va_free (wc := [(a1, .inr (7, [.ref f0, .int 0]))]) hD hS hA [1] rfl
  refine zcall (st1 := [.null]) (va_runV (As := [.int i3]) (rest := []) ⟨hx, hb, hml, hown, hts⟩ (k_rowThere l dC dI cI cZ cF s.heap.size a1 f0 i3 ) (cwV 1 hts (zz_gV mw_1027 mw_613 mw_614 mw_100 mc_yX8_rowThere) rfl rfl rfl (by decide +kernel) ⟨Nat.le_of_ble_eq_true rfl, Nat.le_of_ble_eq_true rfl⟩) (zPV (q0 := 0) (ci := 7) hPc hDc hK rfl rfl) rfl rfl hl.1 rfl (lv_room (Nat.le_of_ble_eq_true rfl)) dX10_inside_5 ⟨Nat.le_of_ble_eq_true rfl, Nat.le_of_ble_eq_true rfl⟩) hS hFc hFc rfl (fun t H1 locs ht hB hk1 hS => ?_)
  obtain ⟨hP1, hD1⟩ := hB
  rw [ht] at hP1
  obtain ⟨hP, hD⟩ := va_join (wr := [(h0, .inr (8, [.ref a1, .ref a2, .ref a3, .ref a4, .ref a5, .ref a6, .ref a7, .ref a8, .ref a9, .int 0, .int 0, .int 0, .int 0]))]) (w1 := [(a1, .inr (7, [.ref f0, .int 0]))]) hP hD [1] [0] rfl rfl (by decide) (by decide) hk1 hFc hP1 hD1
  clear hk1 hPc hDc hFc hP1 hD1 ht
  generalize H1 = H at hP hS ⊢
  have hP : va_P (dC, dI) classes [(h0, .inr (8, [.ref a1, .ref a2, .ref a3, .ref a4, .ref a5, .ref a6, .ref a7, .ref a8, .ref a9, .int 0, .int 0, .int 0, .int 0])), (a1, .inr (7, [.ref f0, .int 0]))] H := hP
  have hD : va_D A [(h0, .inr (8, [.ref a1, .ref a2, .ref a3, .ref a4, .ref a5, .ref a6, .ref a7, .ref a8, .ref a9, .int 0, .int 0, .int 0, .int 0])), (a1, .inr (7, [.ref f0, .int 0]))] := hD
  refine lv_astoreN (lv' := [(4, .null), (0, .ref h0), (1, .int i1), (2, .int i2), (3, .int i3)]) hx hb dX10_inside_8 hl (by decide) rfl (fun ls hl => ?_)
  refine lv_aloadN hx hb dX10_inside_10 (lv_at hl 0 rfl) ?_
  refine lv_ifnullN (tgt := 31) hx hb dX10_inside_12 (by decide) ?_
  refine lv_iconst (v := (-1)) hx hb dX10_inside_31 (by decide) ?_
  refine W.widen (k := 0) (n := 0) (by decide) (by decide) ?_
  have hP9 := hP.sub (ws' := []) [] rfl
  have hD9 := hD.sub (ws' := []) [] (by decide) rfl
  exact W.iret (v := (-1)) hx hb hr (fun t ht hW => ⟨⟨rfl, by rw [ht]; exact hP9, hD9⟩, hS.F ht⟩) hS.2.2 dX10_inside_32
set_option maxHeartbeats 4000000 in
set_option maxRecDepth 100000 in
theorem k_x_side (l : Launch) (dC : Nat → ClassId) (dI : Nat → Nat → Nat) (cI cZ cF : ClassId) (sz : Nat) (h0 : Nat) (a1 : Nat) (a2 : Nat) (a3 : Nat) (a4 : Nat) (a5 : Nat) (a6 : Nat) (a7 : Nat) (a8 : Nat) (a9 : Nat) (f0 : Nat) (i1 : Int32) (i2 : Int32) (i3 : Int32) (i4 : Int32) : Met l yX10_side (.code yX10_side cX10_side 8 (some .int) :: ws0) ({ frames := 1, cells := 0, slots := 0, locals := 21 }) (va_Pc [.ref h0, .int i1, .int i2, .int i3, .int i4] (zPre (dC, dI) classes (zTy cI cZ cF) [(h0, .inr (8, [.ref a1, .ref a2, .ref a3, .ref a4, .ref a5, .ref a6, .ref a7, .ref a8, .ref a9, .int 0, .int 0, .int 0, .int 0])), (a1, .inr (7, [.ref f0, .int 0]))] sz zTrue)) (zQ (some (.int 0)) (fun t => va_P (dC, dI) classes [] t.heap ∧ va_D (va_A [(h0, .inr (8, [.ref a1, .ref a2, .ref a3, .ref a4, .ref a5, .ref a6, .ref a7, .ref a8, .ref a9, .int 0, .int 0, .int 0, .int 0])), (a1, .inr (7, [.ref f0, .int 0]))] sz) []) (va_A [(h0, .inr (8, [.ref a1, .ref a2, .ref a3, .ref a4, .ref a5, .ref a6, .ref a7, .ref a8, .ref a9, .int 0, .int 0, .int 0, .int 0])), (a1, .inr (7, [.ref f0, .int 0]))] sz)) 0 0 (va_A [(h0, .inr (8, [.ref a1, .ref a2, .ref a3, .ref a4, .ref a5, .ref a6, .ref a7, .ref a8, .ref a9, .int 0, .int 0, .int 0, .int 0])), (a1, .inr (7, [.ref f0, .int 0]))] sz) := by
  refine Met.ofW (cc := cX10_side) (maxL := 8) (ret := (some .int)) (by decide) rfl ?_
  intro p e s m args below meth c s₁ B hml hv
  obtain ⟨rfl, hsz, hP, hK, hD0, hXX⟩ := hv
  have hx := B.exec
  have hb := B.bytes
  have hr := B.returns
  have hts0 := atoms_spec (ws := .code yX10_side cX10_side 8 (some .int) :: ws0) B.pre
  have hts : ∀ w9 ∈ ws0, w9.before ([.ref h0, .int i1, .int i2, .int i3, .int i4] : List Value).toArray s = true := fun w9 h => hts0 w9 (List.mem_cons_of_mem _ h)
  have hown : s.vm.findClass "ScaleShop" = some m.cls := findClass_of_methodNamed B.named
  have hlocks := B.notSynchronized
  subst hsz
  have hD := hD0.self (sz := s.heap.size)
  generalize hAe : va_A [(h0, .inr (8, [.ref a1, .ref a2, .ref a3, .ref a4, .ref a5, .ref a6, .ref a7, .ref a8, .ref a9, .int 0, .int 0, .int 0, .int 0])), (a1, .inr (7, [.ref f0, .int 0]))] s.heap.size = A at hD ⊢
  have hA : ∀ q : Nat, s.heap.size ≤ q → A q := fun q h => by rw [← hAe]; exact Or.inr h
  have hS : va_S A s.heap s.heap [] := va_S.rf
  have hP : va_P (dC, dI) classes [(h0, .inr (8, [.ref a1, .ref a2, .ref a3, .ref a4, .ref a5, .ref a6, .ref a7, .ref a8, .ref a9, .int 0, .int 0, .int 0, .int 0])), (a1, .inr (7, [.ref f0, .int 0]))] s.heap := hP
  have hl := lv_entry ([.ref h0, .int i1, .int i2, .int i3, .int i4]) (n := 8) (Nat.le_of_ble_eq_true rfl)
  rw [lg_entry_eq]
  generalize (lg_sl ([.ref h0, .int i1, .int i2, .int i3, .int i4]) ++ List.replicate (8 - (lg_sl ([.ref h0, .int i1, .int i2, .int i3, .int i4])).length) Slot.unset).toArray = ls at hl ⊢
  have hl : lv_has ls 8 [(0, .ref h0), (1, .int i1), (2, .int i2), (3, .int i3), (4, .int i4)] := hl
  refine lv_aload_n hx hb dX10_side_0 rfl (lv_at hl 0 rfl) ?_
  refine va_get (D := (dC, dI)) (ci := 8) (v := .ref a1) (C := RX10) (T := TX10) (N := 13) hx hb hts inX10 hown hK hP 0 rfl rfl 0 (by decide) (hts _ mw_309) (fun _ h9 => h9) rfl dX10_side_1 ?_
  refine lv_iload_n hx hb dX10_side_4 rfl (lv_at hl 3 rfl) ?_
  have hPc := hP.sub (ws' := [(a1, .inr (7, [.ref f0, .int 0]))]) [1] rfl
  have hDc := hD.sub (ws' := [(a1, .inr (7, [.ref f0, .int 0]))]) [1] (by decide) rfl
  have hFc := va_free (wc := [(a1, .inr (7, [.ref f0, .int 0]))]) hD hS hA [1] rfl
  refine zcall (st1 := [.null]) (va_runV (As := [.int i3]) (rest := []) ⟨hx, hb, hml, hown, hts⟩ (k_find l dC dI cI cZ cF s.heap.size a1 f0 i3 ) (cwV 1 hts (zz_gV mw_498 mw_499 mw_500 mw_100 mc_yX8_find) rfl rfl rfl (by decide +kernel) ⟨Nat.le_of_ble_eq_true rfl, Nat.le_of_ble_eq_true rfl⟩) (zPV (q0 := 0) (ci := 7) hPc hDc hK rfl rfl) rfl rfl hl.1 rfl (lv_room (Nat.le_of_ble_eq_true rfl)) dX10_side_5 ⟨Nat.le_of_ble_eq_true rfl, Nat.le_of_ble_eq_true rfl⟩) hS hFc hFc rfl (fun t H1 locs ht hB hk1 hS => ?_)
  obtain ⟨hP1, hD1⟩ := hB
  rw [ht] at hP1
  obtain ⟨hP, hD⟩ := va_join (wr := [(h0, .inr (8, [.ref a1, .ref a2, .ref a3, .ref a4, .ref a5, .ref a6, .ref a7, .ref a8, .ref a9, .int 0, .int 0, .int 0, .int 0]))]) (w1 := [(a1, .inr (7, [.ref f0, .int 0]))]) hP hD [1] [0] rfl rfl (by decide) (by decide) hk1 hFc hP1 hD1
  clear hk1 hPc hDc hFc hP1 hD1 ht
  generalize H1 = H at hP hS ⊢
  have hP : va_P (dC, dI) classes [(h0, .inr (8, [.ref a1, .ref a2, .ref a3, .ref a4, .ref a5, .ref a6, .ref a7, .ref a8, .ref a9, .int 0, .int 0, .int 0, .int 0])), (a1, .inr (7, [.ref f0, .int 0]))] H := hP
  have hD : va_D A [(h0, .inr (8, [.ref a1, .ref a2, .ref a3, .ref a4, .ref a5, .ref a6, .ref a7, .ref a8, .ref a9, .int 0, .int 0, .int 0, .int 0])), (a1, .inr (7, [.ref f0, .int 0]))] := hD
  refine lv_astoreN (lv' := [(5, .null), (0, .ref h0), (1, .int i1), (2, .int i2), (3, .int i3), (4, .int i4)]) hx hb dX10_side_8 hl (by decide) rfl (fun ls hl => ?_)
  refine lv_aloadN hx hb dX10_side_10 (lv_at hl 0 rfl) ?_
  refine lv_ifnonnullN hx hb dX10_side_12 ?_
  refine lv_null hx hb dX10_side_15 ?_
  refine lv_goto (tgt := 27) hx hb dX10_side_16 (by decide) ?_
  refine lv_astoreN (lv' := [(6, .null), (5, .null), (0, .ref h0), (1, .int i1), (2, .int i2), (3, .int i3), (4, .int i4)]) hx hb dX10_side_27 hl (by decide) rfl (fun ls hl => ?_)
  refine lv_aloadN hx hb dX10_side_29 (lv_at hl 0 rfl) ?_
  refine lv_ifnullN (tgt := 57) hx hb dX10_side_31 (by decide) ?_
  refine lv_iconst (v := 0) hx hb dX10_side_57 (by decide) ?_
  refine W.widen (k := 0) (n := 0) (by decide) (by decide) ?_
  have hP9 := hP.sub (ws' := []) [] rfl
  have hD9 := hD.sub (ws' := []) [] (by decide) rfl
  exact W.iret (v := 0) hx hb hr (fun t ht hW => ⟨⟨rfl, by rw [ht]; exact hP9, hD9⟩, hS.F ht⟩) hS.2.2 dX10_side_58
set_option maxHeartbeats 4000000 in
set_option maxRecDepth 100000 in
theorem k_x_near (l : Launch) (dC : Nat → ClassId) (dI : Nat → Nat → Nat) (cI cZ cF : ClassId) (sz : Nat) (h0 : Nat) (a1 : Nat) (a2 : Nat) (a3 : Nat) (a4 : Nat) (a5 : Nat) (a6 : Nat) (a7 : Nat) (a8 : Nat) (a9 : Nat) (f0 : Nat) (i1 : Int32) (i2 : Int32) (i3 : Int32) : Met l yX10_near (.code yX10_near cX10_near 6 (some .long) :: ws0) ({ frames := 2, cells := 0, slots := 0, locals := 43 }) (va_Pc [.ref h0, .int i1, .int i2, .int i3] (zPre (dC, dI) classes (zTy cI cZ cF) [(h0, .inr (8, [.ref a1, .ref a2, .ref a3, .ref a4, .ref a5, .ref a6, .ref a7, .ref a8, .ref a9, .int 0, .int 0, .int 0, .int 0])), (a1, .inr (7, [.ref f0, .int 0]))] sz zTrue)) (zQ (some (.long (-1))) (fun t => va_P (dC, dI) classes [] t.heap ∧ va_D (va_A [(h0, .inr (8, [.ref a1, .ref a2, .ref a3, .ref a4, .ref a5, .ref a6, .ref a7, .ref a8, .ref a9, .int 0, .int 0, .int 0, .int 0])), (a1, .inr (7, [.ref f0, .int 0]))] sz) []) (va_A [(h0, .inr (8, [.ref a1, .ref a2, .ref a3, .ref a4, .ref a5, .ref a6, .ref a7, .ref a8, .ref a9, .int 0, .int 0, .int 0, .int 0])), (a1, .inr (7, [.ref f0, .int 0]))] sz)) 0 0 (va_A [(h0, .inr (8, [.ref a1, .ref a2, .ref a3, .ref a4, .ref a5, .ref a6, .ref a7, .ref a8, .ref a9, .int 0, .int 0, .int 0, .int 0])), (a1, .inr (7, [.ref f0, .int 0]))] sz) := by
  refine Met.ofW (cc := cX10_near) (maxL := 6) (ret := (some .long)) (by decide) rfl ?_
  intro p e s m args below meth c s₁ B hml hv
  obtain ⟨rfl, hsz, hP, hK, hD0, hXX⟩ := hv
  have hx := B.exec
  have hb := B.bytes
  have hr := B.returns
  have hts0 := atoms_spec (ws := .code yX10_near cX10_near 6 (some .long) :: ws0) B.pre
  have hts : ∀ w9 ∈ ws0, w9.before ([.ref h0, .int i1, .int i2, .int i3] : List Value).toArray s = true := fun w9 h => hts0 w9 (List.mem_cons_of_mem _ h)
  have hown : s.vm.findClass "ScaleShop" = some m.cls := findClass_of_methodNamed B.named
  have hlocks := B.notSynchronized
  subst hsz
  have hD := hD0.self (sz := s.heap.size)
  generalize hAe : va_A [(h0, .inr (8, [.ref a1, .ref a2, .ref a3, .ref a4, .ref a5, .ref a6, .ref a7, .ref a8, .ref a9, .int 0, .int 0, .int 0, .int 0])), (a1, .inr (7, [.ref f0, .int 0]))] s.heap.size = A at hD ⊢
  have hA : ∀ q : Nat, s.heap.size ≤ q → A q := fun q h => by rw [← hAe]; exact Or.inr h
  have hS : va_S A s.heap s.heap [] := va_S.rf
  have hP : va_P (dC, dI) classes [(h0, .inr (8, [.ref a1, .ref a2, .ref a3, .ref a4, .ref a5, .ref a6, .ref a7, .ref a8, .ref a9, .int 0, .int 0, .int 0, .int 0])), (a1, .inr (7, [.ref f0, .int 0]))] s.heap := hP
  have hl := lv_entry ([.ref h0, .int i1, .int i2, .int i3]) (n := 6) (Nat.le_of_ble_eq_true rfl)
  rw [lg_entry_eq]
  generalize (lg_sl ([.ref h0, .int i1, .int i2, .int i3]) ++ List.replicate (6 - (lg_sl ([.ref h0, .int i1, .int i2, .int i3])).length) Slot.unset).toArray = ls at hl ⊢
  have hl : lv_has ls 6 [(0, .ref h0), (1, .int i1), (2, .int i2), (3, .int i3)] := hl
  refine lv_aload_n hx hb dX10_near_0 rfl (lv_at hl 0 rfl) ?_
  refine va_get (D := (dC, dI)) (ci := 8) (v := .ref a1) (C := RX10) (T := TX10) (N := 13) hx hb hts inX10 hown hK hP 0 rfl rfl 0 (by decide) (hts _ mw_309) (fun _ h9 => h9) rfl dX10_near_1 ?_
  refine lv_iload_n hx hb dX10_near_4 rfl (lv_at hl 1 rfl) ?_
  have hPc := hP.sub (ws' := [(a1, .inr (7, [.ref f0, .int 0]))]) [1] rfl
  have hDc := hD.sub (ws' := [(a1, .inr (7, [.ref f0, .int 0]))]) [1] (by decide) rfl
  have hFc := va_free (wc := [(a1, .inr (7, [.ref f0, .int 0]))]) hD hS hA [1] rfl
  refine zcall (st1 := [.null]) (va_runV (As := [.int i1]) (rest := []) ⟨hx, hb, hml, hown, hts⟩ (k_rowThere l dC dI cI cZ cF s.heap.size a1 f0 i1 ) (cwV 1 hts (zz_gV mw_1027 mw_613 mw_614 mw_100 mc_yX8_rowThere) rfl rfl rfl (by decide +kernel) ⟨Nat.le_of_ble_eq_true rfl, Nat.le_of_ble_eq_true rfl⟩) (zPV (q0 := 0) (ci := 7) hPc hDc hK rfl rfl) rfl rfl hl.1 rfl (lv_room (Nat.le_of_ble_eq_true rfl)) dX10_near_5 ⟨Nat.le_of_ble_eq_true rfl, Nat.le_of_ble_eq_true rfl⟩) hS hFc hFc rfl (fun t H1 locs ht hB hk1 hS => ?_)
  obtain ⟨hP1, hD1⟩ := hB
  rw [ht] at hP1
  obtain ⟨hP, hD⟩ := va_join (wr := [(h0, .inr (8, [.ref a1, .ref a2, .ref a3, .ref a4, .ref a5, .ref a6, .ref a7, .ref a8, .ref a9, .int 0, .int 0, .int 0, .int 0]))]) (w1 := [(a1, .inr (7, [.ref f0, .int 0]))]) hP hD [1] [0] rfl rfl (by decide) (by decide) hk1 hFc hP1 hD1
  clear hk1 hPc hDc hFc hP1 hD1 ht
  generalize H1 = H at hP hS ⊢
  have hP : va_P (dC, dI) classes [(h0, .inr (8, [.ref a1, .ref a2, .ref a3, .ref a4, .ref a5, .ref a6, .ref a7, .ref a8, .ref a9, .int 0, .int 0, .int 0, .int 0])), (a1, .inr (7, [.ref f0, .int 0]))] H := hP
  have hD : va_D A [(h0, .inr (8, [.ref a1, .ref a2, .ref a3, .ref a4, .ref a5, .ref a6, .ref a7, .ref a8, .ref a9, .int 0, .int 0, .int 0, .int 0])), (a1, .inr (7, [.ref f0, .int 0]))] := hD
  refine lv_astoreN (lv' := [(4, .null), (0, .ref h0), (1, .int i1), (2, .int i2), (3, .int i3)]) hx hb dX10_near_8 hl (by decide) rfl (fun ls hl => ?_)
  refine lv_aload_n hx hb dX10_near_10 rfl (lv_at hl 1 rfl) ?_
  refine va_get (D := (dC, dI)) (ci := 8) (v := .ref a1) (C := RX10) (T := TX10) (N := 13) hx hb hts inX10 hown hK hP 0 rfl rfl 0 (by decide) (hts _ mw_309) (fun _ h9 => h9) rfl dX10_near_11 ?_
  refine lv_iload_n hx hb dX10_near_14 rfl (lv_at hl 3 rfl) ?_
  have hPc := hP.sub (ws' := [(a1, .inr (7, [.ref f0, .int 0]))]) [1] rfl
  have hDc := hD.sub (ws' := [(a1, .inr (7, [.ref f0, .int 0]))]) [1] (by decide) rfl
  have hFc := va_free (wc := [(a1, .inr (7, [.ref f0, .int 0]))]) hD hS hA [1] rfl
  refine zcall (st1 := [.null]) (va_runV (As := [.int i2]) (rest := []) ⟨hx, hb, hml, hown, hts⟩ (k_rowThere l dC dI cI cZ cF H.size a1 f0 i2 ) (cwV 1 hts (zz_gV mw_1027 mw_613 mw_614 mw_100 mc_yX8_rowThere) rfl rfl rfl (by decide +kernel) ⟨Nat.le_of_ble_eq_true rfl, Nat.le_of_ble_eq_true rfl⟩) (zPV (q0 := 0) (ci := 7) hPc hDc hK rfl rfl) rfl rfl hl.1 rfl (lv_room (Nat.le_of_ble_eq_true rfl)) dX10_near_15 ⟨Nat.le_of_ble_eq_true rfl, Nat.le_of_ble_eq_true rfl⟩) hS hFc hFc rfl (fun t H1 locs ht hB hk1 hS => ?_)
  obtain ⟨hP1, hD1⟩ := hB
  rw [ht] at hP1
  obtain ⟨hP, hD⟩ := va_join (wr := [(h0, .inr (8, [.ref a1, .ref a2, .ref a3, .ref a4, .ref a5, .ref a6, .ref a7, .ref a8, .ref a9, .int 0, .int 0, .int 0, .int 0]))]) (w1 := [(a1, .inr (7, [.ref f0, .int 0]))]) hP hD [1] [0] rfl rfl (by decide) (by decide) hk1 hFc hP1 hD1
  clear hk1 hPc hDc hFc hP1 hD1 ht
  generalize H1 = H at hP hS ⊢
  have hP : va_P (dC, dI) classes [(h0, .inr (8, [.ref a1, .ref a2, .ref a3, .ref a4, .ref a5, .ref a6, .ref a7, .ref a8, .ref a9, .int 0, .int 0, .int 0, .int 0])), (a1, .inr (7, [.ref f0, .int 0]))] H := hP
  have hD : va_D A [(h0, .inr (8, [.ref a1, .ref a2, .ref a3, .ref a4, .ref a5, .ref a6, .ref a7, .ref a8, .ref a9, .int 0, .int 0, .int 0, .int 0])), (a1, .inr (7, [.ref f0, .int 0]))] := hD
  refine lv_astoreN (lv' := [(5, .null), (4, .null), (0, .ref h0), (1, .int i1), (2, .int i2), (3, .int i3)]) hx hb dX10_near_18 hl (by decide) rfl (fun ls hl => ?_)
  refine lv_aloadN hx hb dX10_near_20 (lv_at hl 1 rfl) ?_
  refine lv_ifnullN (tgt := 39) hx hb dX10_near_22 (by decide) ?_
  refine lv_ldc2 hx hb hown (hts _ mw_1077) dX10_near_39 ?_
  refine W.widen (k := 0) (n := 0) (by decide) (by decide) ?_
  have hP9 := hP.sub (ws' := []) [] rfl
  have hD9 := hD.sub (ws' := []) [] (by decide) rfl
  exact W.lret (v := (-1)) hx hb hr (fun t ht hW => ⟨⟨rfl, by rw [ht]; exact hP9, hD9⟩, hS.F ht⟩) hS.2.2 dX10_near_42
set_option maxHeartbeats 4000000 in
set_option maxRecDepth 100000 in
theorem k_x_clashes (l : Launch) (dC : Nat → ClassId) (dI : Nat → Nat → Nat) (cI cZ cF : ClassId) (sz : Nat) (h0 : Nat) (a1 : Nat) (a2 : Nat) (a3 : Nat) (a4 : Nat) (a5 : Nat) (a6 : Nat) (a7 : Nat) (a8 : Nat) (a9 : Nat) (f0 : Nat) (i1 : Int32) : Met l yX10_clashes (.code yX10_clashes cX10_clashes 5 (some .int) :: ws0) ({ frames := 1, cells := 0, slots := 0, locals := 26 }) (va_Pc [.ref h0, .int i1] (zPre (dC, dI) classes (zTy cI cZ cF) [(h0, .inr (8, [.ref a1, .ref a2, .ref a3, .ref a4, .ref a5, .ref a6, .ref a7, .ref a8, .ref a9, .int 0, .int 0, .int 0, .int 0])), (a1, .inr (7, [.ref f0, .int 0]))] sz zTrue)) (zQ (some (.int (zcl i1))) (fun t => va_P (dC, dI) classes [] t.heap ∧ va_D (va_A [(h0, .inr (8, [.ref a1, .ref a2, .ref a3, .ref a4, .ref a5, .ref a6, .ref a7, .ref a8, .ref a9, .int 0, .int 0, .int 0, .int 0])), (a1, .inr (7, [.ref f0, .int 0]))] sz) []) (va_A [(h0, .inr (8, [.ref a1, .ref a2, .ref a3, .ref a4, .ref a5, .ref a6, .ref a7, .ref a8, .ref a9, .int 0, .int 0, .int 0, .int 0])), (a1, .inr (7, [.ref f0, .int 0]))] sz)) 0 0 (va_A [(h0, .inr (8, [.ref a1, .ref a2, .ref a3, .ref a4, .ref a5, .ref a6, .ref a7, .ref a8, .ref a9, .int 0, .int 0, .int 0, .int 0])), (a1, .inr (7, [.ref f0, .int 0]))] sz) := by
  refine Met.ofW (cc := cX10_clashes) (maxL := 5) (ret := (some .int)) (by decide) rfl ?_
  intro p e s m args below meth c s₁ B hml hv
  obtain ⟨rfl, hsz, hP, hK, hD0, hXX⟩ := hv
  have hx := B.exec
  have hb := B.bytes
  have hr := B.returns
  have hts0 := atoms_spec (ws := .code yX10_clashes cX10_clashes 5 (some .int) :: ws0) B.pre
  have hts : ∀ w9 ∈ ws0, w9.before ([.ref h0, .int i1] : List Value).toArray s = true := fun w9 h => hts0 w9 (List.mem_cons_of_mem _ h)
  have hown : s.vm.findClass "ScaleShop" = some m.cls := findClass_of_methodNamed B.named
  have hlocks := B.notSynchronized
  subst hsz
  have hD := hD0.self (sz := s.heap.size)
  generalize hAe : va_A [(h0, .inr (8, [.ref a1, .ref a2, .ref a3, .ref a4, .ref a5, .ref a6, .ref a7, .ref a8, .ref a9, .int 0, .int 0, .int 0, .int 0])), (a1, .inr (7, [.ref f0, .int 0]))] s.heap.size = A at hD ⊢
  have hA : ∀ q : Nat, s.heap.size ≤ q → A q := fun q h => by rw [← hAe]; exact Or.inr h
  have hS : va_S A s.heap s.heap [] := va_S.rf
  have hP : va_P (dC, dI) classes [(h0, .inr (8, [.ref a1, .ref a2, .ref a3, .ref a4, .ref a5, .ref a6, .ref a7, .ref a8, .ref a9, .int 0, .int 0, .int 0, .int 0])), (a1, .inr (7, [.ref f0, .int 0]))] s.heap := hP
  have hl := lv_entry ([.ref h0, .int i1]) (n := 5) (Nat.le_of_ble_eq_true rfl)
  rw [lg_entry_eq]
  generalize (lg_sl ([.ref h0, .int i1]) ++ List.replicate (5 - (lg_sl ([.ref h0, .int i1])).length) Slot.unset).toArray = ls at hl ⊢
  have hl : lv_has ls 5 [(0, .ref h0), (1, .int i1)] := hl
  refine lv_iload_n hx hb dX10_clashes_0 rfl (lv_at hl 1 rfl) ?_
  refine lv_iconst (v := 0) hx hb dX10_clashes_1 (by decide) ?_
  refine lv_sipush (v := 200) hx hb dX10_clashes_2 (by decide) ?_
  have hPc := hP.sub (ws' := []) [] rfl
  have hDc := hD.sub (ws' := []) [] (by decide) rfl
  have hFc := va_free (wc := []) hD hS hA [] rfl
  refine zcall (st1 := [.int (zw i1 0 200)]) (va_runS (As := [.int i1, .int 0, .int 200]) (rest := []) ⟨hx, hb, hml, hown, hts⟩ (k_isWithin l dC dI cI cZ cF s.heap.size i1 0 200 ) (va_cwS 3 hts (zz_gS mw_353 mw_354 mw_99 mc_yX10_isWithin) rfl rfl rfl (by decide +kernel) ⟨Nat.le_of_ble_eq_true rfl, Nat.le_of_ble_eq_true rfl⟩) (zPS hPc hDc hK) rfl rfl hl.1 rfl (lv_room (Nat.le_of_ble_eq_true rfl)) dX10_clashes_5 ⟨Nat.le_of_ble_eq_true rfl, Nat.le_of_ble_eq_true rfl⟩) hS hFc hFc rfl (fun t H1 locs ht hB hk1 hS => ?_)
  obtain ⟨hP1, hD1⟩ := hB
  rw [ht] at hP1
  obtain ⟨hP, hD⟩ := va_join (wr := [(h0, .inr (8, [.ref a1, .ref a2, .ref a3, .ref a4, .ref a5, .ref a6, .ref a7, .ref a8, .ref a9, .int 0, .int 0, .int 0, .int 0])), (a1, .inr (7, [.ref f0, .int 0]))]) (w1 := []) hP hD [] [0, 1] rfl rfl (by decide) (by decide) hk1 hFc hP1 hD1
  clear hk1 hPc hDc hFc hP1 hD1 ht
  generalize H1 = H at hP hS ⊢
  have hP : va_P (dC, dI) classes [(h0, .inr (8, [.ref a1, .ref a2, .ref a3, .ref a4, .ref a5, .ref a6, .ref a7, .ref a8, .ref a9, .int 0, .int 0, .int 0, .int 0])), (a1, .inr (7, [.ref f0, .int 0]))] H := hP
  have hD : va_D A [(h0, .inr (8, [.ref a1, .ref a2, .ref a3, .ref a4, .ref a5, .ref a6, .ref a7, .ref a8, .ref a9, .int 0, .int 0, .int 0, .int 0])), (a1, .inr (7, [.ref f0, .int 0]))] := hD
  refine lv_if_ne (tgt := 13) hx hb dX10_clashes_8 (by decide) (fun c_1 => ?_) (fun c_1 => ?_)
  · refine lv_iconst (v := 0) hx hb dX10_clashes_13 (by decide) ?_
    refine lv_istore_n (lv' := [(2, .int 0), (0, .ref h0), (1, .int i1)]) hx hb dX10_clashes_14 rfl hl (by decide) rfl (fun ls hl => ?_)
    refine lv_aload_n hx hb dX10_clashes_15 rfl (lv_at hl 1 rfl) ?_
    refine lv_iload_n hx hb dX10_clashes_16 rfl (lv_at hl 2 rfl) ?_
    refine lv_iconst (v := 0) hx hb dX10_clashes_17 (by decide) ?_
    have hPc := hP.sub (ws' := [(h0, .inr (8, [.ref a1, .ref a2, .ref a3, .ref a4, .ref a5, .ref a6, .ref a7, .ref a8, .ref a9, .int 0, .int 0, .int 0, .int 0])), (a1, .inr (7, [.ref f0, .int 0]))]) [0, 1] rfl
    have hDc := hD.sub (ws' := [(h0, .inr (8, [.ref a1, .ref a2, .ref a3, .ref a4, .ref a5, .ref a6, .ref a7, .ref a8, .ref a9, .int 0, .int 0, .int 0, .int 0])), (a1, .inr (7, [.ref f0, .int 0]))]) [0, 1] (by decide) rfl
    have hFc := va_free (wc := [(h0, .inr (8, [.ref a1, .ref a2, .ref a3, .ref a4, .ref a5, .ref a6, .ref a7, .ref a8, .ref a9, .int 0, .int 0, .int 0, .int 0])), (a1, .inr (7, [.ref f0, .int 0]))]) hD hS hA [0, 1] rfl
    refine zcall (st1 := [.int (-1)]) (va_runV (As := [.int i1, .int 0]) (rest := []) ⟨hx, hb, hml, hown, hts⟩ (k_nextClash l dC dI cI cZ cF H.size h0 a1 a2 a3 a4 a5 a6 a7 a8 a9 f0 i1 ) (cwV 2 hts (zz_gV mw_1086 mw_1088 mw_32 mw_99 mc_yX10_nextClash) rfl rfl rfl (by decide +kernel) ⟨Nat.le_of_ble_eq_true rfl, Nat.le_of_ble_eq_true rfl⟩) (zPV (q0 := 0) (ci := 8) hPc hDc hK rfl rfl) rfl rfl hl.1 rfl (lv_room (Nat.le_of_ble_eq_true rfl)) dX10_clashes_18 ⟨Nat.le_of_ble_eq_true rfl, Nat.le_of_ble_eq_true rfl⟩) hS hFc hFc rfl (fun t H1 locs ht hB hk1 hS => ?_)
    obtain ⟨hP1, hD1⟩ := hB
    rw [ht] at hP1
    obtain ⟨hP, hD⟩ := va_join (wr := []) (w1 := [(h0, .inr (8, [.ref a1, .ref a2, .ref a3, .ref a4, .ref a5, .ref a6, .ref a7, .ref a8, .ref a9, .int 0, .int 0, .int 0, .int 0])), (a1, .inr (7, [.ref f0, .int 0]))]) hP hD [0, 1] [] rfl rfl (by decide) (by decide) hk1 hFc hP1 hD1
    clear hk1 hPc hDc hFc hP1 hD1 ht
    generalize H1 = H at hP hS ⊢
    have hP : va_P (dC, dI) classes [(h0, .inr (8, [.ref a1, .ref a2, .ref a3, .ref a4, .ref a5, .ref a6, .ref a7, .ref a8, .ref a9, .int 0, .int 0, .int 0, .int 0])), (a1, .inr (7, [.ref f0, .int 0]))] H := hP
    have hD : va_D A [(h0, .inr (8, [.ref a1, .ref a2, .ref a3, .ref a4, .ref a5, .ref a6, .ref a7, .ref a8, .ref a9, .int 0, .int 0, .int 0, .int 0])), (a1, .inr (7, [.ref f0, .int 0]))] := hD
    refine lv_istore_n (lv' := [(3, .int (-1)), (2, .int 0), (0, .ref h0), (1, .int i1)]) hx hb dX10_clashes_21 rfl hl (by decide) rfl (fun ls hl => ?_)
    refine lv_iconst (v := 0) hx hb dX10_clashes_22 (by decide) ?_
    refine lv_istore (lv' := [(4, .int 0), (3, .int (-1)), (2, .int 0), (0, .ref h0), (1, .int i1)]) hx hb dX10_clashes_23 hl (by decide) rfl (fun ls hl => ?_)
    refine lv_iload hx hb dX10_clashes_25 (lv_at hl 0 rfl) ?_
    refine lv_ldcw hx hb hown (hts _ mw_1100) dX10_clashes_27 ?_
    refine lv_icmp_ge (tgt := 54) hx hb dX10_clashes_30 (by decide) (fun c_2 => ?_) (fun c_2 => ?_)
    · exact absurd c_2 (by decide)
    · refine lv_iload_n hx hb dX10_clashes_33 rfl (lv_at hl 1 rfl) ?_
      refine lv_iconst (v := (-1)) hx hb dX10_clashes_34 (by decide) ?_
      refine lv_icmp_eq (tgt := 54) hx hb dX10_clashes_35 (by decide) (fun c_3 => ?_) (fun c_3 => ?_)
      · refine lv_iload_n hx hb dX10_clashes_54 rfl (lv_at hl 2 rfl) ?_
        refine W.widen (k := 0) (n := 0) (by decide) (by decide) ?_
        have hP9 := hP.sub (ws' := []) [] rfl
        have hD9 := hD.sub (ws' := []) [] (by decide) rfl
        exact W.iret (v := 0) hx hb hr (fun t ht hW => ⟨⟨(congrArg (fun z => Outcome.returned (some (Value.int z))) (show (0 : Int32) = (zcl i1) from by simp [zcl, c_1, c_2, c_3])), by rw [ht]; exact hP9, hD9⟩, hS.F ht⟩) hS.2.2 dX10_clashes_55
      · exact absurd (by decide) c_3
  · refine lv_iconst (v := (-1)) hx hb dX10_clashes_11 (by decide) ?_
    refine W.widen (k := 0) (n := 0) (by decide) (by decide) ?_
    have hP9 := hP.sub (ws' := []) [] rfl
    have hD9 := hD.sub (ws' := []) [] (by decide) rfl
    exact W.iret (v := (-1)) hx hb hr (fun t ht hW => ⟨⟨(congrArg (fun z => Outcome.returned (some (Value.int z))) (show ((-1) : Int32) = (zcl i1) from by simp [zcl, c_1])), by rw [ht]; exact hP9, hD9⟩, hS.F ht⟩) hS.2.2 dX10_clashes_12
set_option maxHeartbeats 4000000 in
set_option maxRecDepth 100000 in
theorem k_x_clash (l : Launch) (dC : Nat → ClassId) (dI : Nat → Nat → Nat) (cI cZ cF : ClassId) (sz : Nat) (h0 : Nat) (a1 : Nat) (a2 : Nat) (a3 : Nat) (a4 : Nat) (a5 : Nat) (a6 : Nat) (a7 : Nat) (a8 : Nat) (a9 : Nat) (f0 : Nat) (i1 : Int32) (i2 : Int32) (i3 : Int32) : Met l yX10_clash (.code yX10_clash cX10_clash 6 (some .int) :: ws0) ({ frames := 1, cells := 0, slots := 0, locals := 26 }) (va_Pc [.ref h0, .int i1, .int i2, .int i3] (zPre (dC, dI) classes (zTy cI cZ cF) [(h0, .inr (8, [.ref a1, .ref a2, .ref a3, .ref a4, .ref a5, .ref a6, .ref a7, .ref a8, .ref a9, .int 0, .int 0, .int 0, .int 0])), (a1, .inr (7, [.ref f0, .int 0]))] sz zTrue)) (zQ (some (.int (-1))) (fun t => va_P (dC, dI) classes [] t.heap ∧ va_D (va_A [(h0, .inr (8, [.ref a1, .ref a2, .ref a3, .ref a4, .ref a5, .ref a6, .ref a7, .ref a8, .ref a9, .int 0, .int 0, .int 0, .int 0])), (a1, .inr (7, [.ref f0, .int 0]))] sz) []) (va_A [(h0, .inr (8, [.ref a1, .ref a2, .ref a3, .ref a4, .ref a5, .ref a6, .ref a7, .ref a8, .ref a9, .int 0, .int 0, .int 0, .int 0])), (a1, .inr (7, [.ref f0, .int 0]))] sz)) 0 0 (va_A [(h0, .inr (8, [.ref a1, .ref a2, .ref a3, .ref a4, .ref a5, .ref a6, .ref a7, .ref a8, .ref a9, .int 0, .int 0, .int 0, .int 0])), (a1, .inr (7, [.ref f0, .int 0]))] sz) := by
  refine Met.ofW (cc := cX10_clash) (maxL := 6) (ret := (some .int)) (by decide) rfl ?_
  intro p e s m args below meth c s₁ B hml hv
  obtain ⟨rfl, hsz, hP, hK, hD0, hXX⟩ := hv
  have hx := B.exec
  have hb := B.bytes
  have hr := B.returns
  have hts0 := atoms_spec (ws := .code yX10_clash cX10_clash 6 (some .int) :: ws0) B.pre
  have hts : ∀ w9 ∈ ws0, w9.before ([.ref h0, .int i1, .int i2, .int i3] : List Value).toArray s = true := fun w9 h => hts0 w9 (List.mem_cons_of_mem _ h)
  have hown : s.vm.findClass "ScaleShop" = some m.cls := findClass_of_methodNamed B.named
  have hlocks := B.notSynchronized
  subst hsz
  have hD := hD0.self (sz := s.heap.size)
  generalize hAe : va_A [(h0, .inr (8, [.ref a1, .ref a2, .ref a3, .ref a4, .ref a5, .ref a6, .ref a7, .ref a8, .ref a9, .int 0, .int 0, .int 0, .int 0])), (a1, .inr (7, [.ref f0, .int 0]))] s.heap.size = A at hD ⊢
  have hA : ∀ q : Nat, s.heap.size ≤ q → A q := fun q h => by rw [← hAe]; exact Or.inr h
  have hS : va_S A s.heap s.heap [] := va_S.rf
  have hP : va_P (dC, dI) classes [(h0, .inr (8, [.ref a1, .ref a2, .ref a3, .ref a4, .ref a5, .ref a6, .ref a7, .ref a8, .ref a9, .int 0, .int 0, .int 0, .int 0])), (a1, .inr (7, [.ref f0, .int 0]))] s.heap := hP
  have hl := lv_entry ([.ref h0, .int i1, .int i2, .int i3]) (n := 6) (Nat.le_of_ble_eq_true rfl)
  rw [lg_entry_eq]
  generalize (lg_sl ([.ref h0, .int i1, .int i2, .int i3]) ++ List.replicate (6 - (lg_sl ([.ref h0, .int i1, .int i2, .int i3])).length) Slot.unset).toArray = ls at hl ⊢
  have hl : lv_has ls 6 [(0, .ref h0), (1, .int i1), (2, .int i2), (3, .int i3)] := hl
  refine lv_iload_n hx hb dX10_clash_0 rfl (lv_at hl 1 rfl) ?_
  refine lv_iconst (v := 0) hx hb dX10_clash_1 (by decide) ?_
  refine lv_sipush (v := 200) hx hb dX10_clash_2 (by decide) ?_
  have hPc := hP.sub (ws' := []) [] rfl
  have hDc := hD.sub (ws' := []) [] (by decide) rfl
  have hFc := va_free (wc := []) hD hS hA [] rfl
  refine zcall (st1 := [.int (zw i1 0 200)]) (va_runS (As := [.int i1, .int 0, .int 200]) (rest := []) ⟨hx, hb, hml, hown, hts⟩ (k_isWithin l dC dI cI cZ cF s.heap.size i1 0 200 ) (va_cwS 3 hts (zz_gS mw_353 mw_354 mw_99 mc_yX10_isWithin) rfl rfl rfl (by decide +kernel) ⟨Nat.le_of_ble_eq_true rfl, Nat.le_of_ble_eq_true rfl⟩) (zPS hPc hDc hK) rfl rfl hl.1 rfl (lv_room (Nat.le_of_ble_eq_true rfl)) dX10_clash_5 ⟨Nat.le_of_ble_eq_true rfl, Nat.le_of_ble_eq_true rfl⟩) hS hFc hFc rfl (fun t H1 locs ht hB hk1 hS => ?_)
  obtain ⟨hP1, hD1⟩ := hB
  rw [ht] at hP1
  obtain ⟨hP, hD⟩ := va_join (wr := [(h0, .inr (8, [.ref a1, .ref a2, .ref a3, .ref a4, .ref a5, .ref a6, .ref a7, .ref a8, .ref a9, .int 0, .int 0, .int 0, .int 0])), (a1, .inr (7, [.ref f0, .int 0]))]) (w1 := []) hP hD [] [0, 1] rfl rfl (by decide) (by decide) hk1 hFc hP1 hD1
  clear hk1 hPc hDc hFc hP1 hD1 ht
  generalize H1 = H at hP hS ⊢
  have hP : va_P (dC, dI) classes [(h0, .inr (8, [.ref a1, .ref a2, .ref a3, .ref a4, .ref a5, .ref a6, .ref a7, .ref a8, .ref a9, .int 0, .int 0, .int 0, .int 0])), (a1, .inr (7, [.ref f0, .int 0]))] H := hP
  have hD : va_D A [(h0, .inr (8, [.ref a1, .ref a2, .ref a3, .ref a4, .ref a5, .ref a6, .ref a7, .ref a8, .ref a9, .int 0, .int 0, .int 0, .int 0])), (a1, .inr (7, [.ref f0, .int 0]))] := hD
  refine lv_if_eq (tgt := 22) hx hb dX10_clash_8 (by decide) (fun c_1 => ?_) (fun c_1 => ?_)
  · refine lv_iconst (v := (-1)) hx hb dX10_clash_22 (by decide) ?_
    refine W.widen (k := 0) (n := 0) (by decide) (by decide) ?_
    have hP9 := hP.sub (ws' := []) [] rfl
    have hD9 := hD.sub (ws' := []) [] (by decide) rfl
    exact W.iret (v := (-1)) hx hb hr (fun t ht hW => ⟨⟨rfl, by rw [ht]; exact hP9, hD9⟩, hS.F ht⟩) hS.2.2 dX10_clash_23
  · refine lv_iload_n hx hb dX10_clash_11 rfl (lv_at hl 2 rfl) ?_
    refine lv_iconst (v := 0) hx hb dX10_clash_12 (by decide) ?_
    refine lv_ldcw hx hb hown (hts _ mw_1100) dX10_clash_13 ?_
    have hPc := hP.sub (ws' := []) [] rfl
    have hDc := hD.sub (ws' := []) [] (by decide) rfl
    have hFc := va_free (wc := []) hD hS hA [] rfl
    refine zcall (st1 := [.int (zw i2 0 40000)]) (va_runS (As := [.int i2, .int 0, .int 40000]) (rest := []) ⟨hx, hb, hml, hown, hts⟩ (k_isWithin l dC dI cI cZ cF H.size i2 0 40000 ) (va_cwS 3 hts (zz_gS mw_353 mw_354 mw_99 mc_yX10_isWithin) rfl rfl rfl (by decide +kernel) ⟨Nat.le_of_ble_eq_true rfl, Nat.le_of_ble_eq_true rfl⟩) (zPS hPc hDc hK) rfl rfl hl.1 rfl (lv_room (Nat.le_of_ble_eq_true rfl)) dX10_clash_16 ⟨Nat.le_of_ble_eq_true rfl, Nat.le_of_ble_eq_true rfl⟩) hS hFc hFc rfl (fun t H1 locs ht hB hk1 hS => ?_)
    obtain ⟨hP1, hD1⟩ := hB
    rw [ht] at hP1
    obtain ⟨hP, hD⟩ := va_join (wr := [(h0, .inr (8, [.ref a1, .ref a2, .ref a3, .ref a4, .ref a5, .ref a6, .ref a7, .ref a8, .ref a9, .int 0, .int 0, .int 0, .int 0])), (a1, .inr (7, [.ref f0, .int 0]))]) (w1 := []) hP hD [] [0, 1] rfl rfl (by decide) (by decide) hk1 hFc hP1 hD1
    clear hk1 hPc hDc hFc hP1 hD1 ht
    generalize H1 = H at hP hS ⊢
    have hP : va_P (dC, dI) classes [(h0, .inr (8, [.ref a1, .ref a2, .ref a3, .ref a4, .ref a5, .ref a6, .ref a7, .ref a8, .ref a9, .int 0, .int 0, .int 0, .int 0])), (a1, .inr (7, [.ref f0, .int 0]))] H := hP
    have hD : va_D A [(h0, .inr (8, [.ref a1, .ref a2, .ref a3, .ref a4, .ref a5, .ref a6, .ref a7, .ref a8, .ref a9, .int 0, .int 0, .int 0, .int 0])), (a1, .inr (7, [.ref f0, .int 0]))] := hD
    refine lv_if_ne (tgt := 24) hx hb dX10_clash_19 (by decide) (fun c_2 => ?_) (fun c_2 => ?_)
    · refine lv_iload_n hx hb dX10_clash_24 rfl (lv_at hl 3 rfl) ?_
      refine lv_iconst (v := 0) hx hb dX10_clash_25 (by decide) ?_
      refine lv_iconst (v := 1) hx hb dX10_clash_26 (by decide) ?_
      have hPc := hP.sub (ws' := []) [] rfl
      have hDc := hD.sub (ws' := []) [] (by decide) rfl
      have hFc := va_free (wc := []) hD hS hA [] rfl
      refine zcall (st1 := [.int (zw i3 0 1)]) (va_runS (As := [.int i3, .int 0, .int 1]) (rest := []) ⟨hx, hb, hml, hown, hts⟩ (k_isWithin l dC dI cI cZ cF H.size i3 0 1 ) (va_cwS 3 hts (zz_gS mw_353 mw_354 mw_99 mc_yX10_isWithin) rfl rfl rfl (by decide +kernel) ⟨Nat.le_of_ble_eq_true rfl, Nat.le_of_ble_eq_true rfl⟩) (zPS hPc hDc hK) rfl rfl hl.1 rfl (lv_room (Nat.le_of_ble_eq_true rfl)) dX10_clash_27 ⟨Nat.le_of_ble_eq_true rfl, Nat.le_of_ble_eq_true rfl⟩) hS hFc hFc rfl (fun t H1 locs ht hB hk1 hS => ?_)
      obtain ⟨hP1, hD1⟩ := hB
      rw [ht] at hP1
      obtain ⟨hP, hD⟩ := va_join (wr := [(h0, .inr (8, [.ref a1, .ref a2, .ref a3, .ref a4, .ref a5, .ref a6, .ref a7, .ref a8, .ref a9, .int 0, .int 0, .int 0, .int 0])), (a1, .inr (7, [.ref f0, .int 0]))]) (w1 := []) hP hD [] [0, 1] rfl rfl (by decide) (by decide) hk1 hFc hP1 hD1
      clear hk1 hPc hDc hFc hP1 hD1 ht
      generalize H1 = H at hP hS ⊢
      have hP : va_P (dC, dI) classes [(h0, .inr (8, [.ref a1, .ref a2, .ref a3, .ref a4, .ref a5, .ref a6, .ref a7, .ref a8, .ref a9, .int 0, .int 0, .int 0, .int 0])), (a1, .inr (7, [.ref f0, .int 0]))] H := hP
      have hD : va_D A [(h0, .inr (8, [.ref a1, .ref a2, .ref a3, .ref a4, .ref a5, .ref a6, .ref a7, .ref a8, .ref a9, .int 0, .int 0, .int 0, .int 0])), (a1, .inr (7, [.ref f0, .int 0]))] := hD
      refine lv_if_ne (tgt := 35) hx hb dX10_clash_30 (by decide) (fun c_3 => ?_) (fun c_3 => ?_)
      · refine lv_aload_n hx hb dX10_clash_35 rfl (lv_at hl 0 rfl) ?_
        refine lv_iload_n hx hb dX10_clash_36 rfl (lv_at hl 1 rfl) ?_
        refine lv_iconst (v := 0) hx hb dX10_clash_37 (by decide) ?_
        have hPc := hP.sub (ws' := [(h0, .inr (8, [.ref a1, .ref a2, .ref a3, .ref a4, .ref a5, .ref a6, .ref a7, .ref a8, .ref a9, .int 0, .int 0, .int 0, .int 0])), (a1, .inr (7, [.ref f0, .int 0]))]) [0, 1] rfl
        have hDc := hD.sub (ws' := [(h0, .inr (8, [.ref a1, .ref a2, .ref a3, .ref a4, .ref a5, .ref a6, .ref a7, .ref a8, .ref a9, .int 0, .int 0, .int 0, .int 0])), (a1, .inr (7, [.ref f0, .int 0]))]) [0, 1] (by decide) rfl
        have hFc := va_free (wc := [(h0, .inr (8, [.ref a1, .ref a2, .ref a3, .ref a4, .ref a5, .ref a6, .ref a7, .ref a8, .ref a9, .int 0, .int 0, .int 0, .int 0])), (a1, .inr (7, [.ref f0, .int 0]))]) hD hS hA [0, 1] rfl
        refine zcall (st1 := [.int (-1)]) (va_runV (As := [.int i1, .int 0]) (rest := []) ⟨hx, hb, hml, hown, hts⟩ (k_nextClash l dC dI cI cZ cF H.size h0 a1 a2 a3 a4 a5 a6 a7 a8 a9 f0 i1 ) (cwV 2 hts (zz_gV mw_1086 mw_1088 mw_32 mw_99 mc_yX10_nextClash) rfl rfl rfl (by decide +kernel) ⟨Nat.le_of_ble_eq_true rfl, Nat.le_of_ble_eq_true rfl⟩) (zPV (q0 := 0) (ci := 8) hPc hDc hK rfl rfl) rfl rfl hl.1 rfl (lv_room (Nat.le_of_ble_eq_true rfl)) dX10_clash_38 ⟨Nat.le_of_ble_eq_true rfl, Nat.le_of_ble_eq_true rfl⟩) hS hFc hFc rfl (fun t H1 locs ht hB hk1 hS => ?_)
        obtain ⟨hP1, hD1⟩ := hB
        rw [ht] at hP1
        obtain ⟨hP, hD⟩ := va_join (wr := []) (w1 := [(h0, .inr (8, [.ref a1, .ref a2, .ref a3, .ref a4, .ref a5, .ref a6, .ref a7, .ref a8, .ref a9, .int 0, .int 0, .int 0, .int 0])), (a1, .inr (7, [.ref f0, .int 0]))]) hP hD [0, 1] [] rfl rfl (by decide) (by decide) hk1 hFc hP1 hD1
        clear hk1 hPc hDc hFc hP1 hD1 ht
        generalize H1 = H at hP hS ⊢
        have hP : va_P (dC, dI) classes [(h0, .inr (8, [.ref a1, .ref a2, .ref a3, .ref a4, .ref a5, .ref a6, .ref a7, .ref a8, .ref a9, .int 0, .int 0, .int 0, .int 0])), (a1, .inr (7, [.ref f0, .int 0]))] H := hP
        have hD : va_D A [(h0, .inr (8, [.ref a1, .ref a2, .ref a3, .ref a4, .ref a5, .ref a6, .ref a7, .ref a8, .ref a9, .int 0, .int 0, .int 0, .int 0])), (a1, .inr (7, [.ref f0, .int 0]))] := hD
        refine lv_istore (lv' := [(4, .int (-1)), (0, .ref h0), (1, .int i1), (2, .int i2), (3, .int i3)]) hx hb dX10_clash_41 hl (by decide) rfl (fun ls hl => ?_)
        refine lv_iconst (v := 0) hx hb dX10_clash_43 (by decide) ?_
        refine lv_istore (lv' := [(5, .int 0), (4, .int (-1)), (0, .ref h0), (1, .int i1), (2, .int i2), (3, .int i3)]) hx hb dX10_clash_44 hl (by decide) rfl (fun ls hl => ?_)
        refine lv_iload hx hb dX10_clash_46 (lv_at hl 0 rfl) ?_
        refine lv_iload_n hx hb dX10_clash_48 rfl (lv_at hl 4 rfl) ?_
        refine lv_icmp_ge (tgt := 73) hx hb dX10_clash_49 (by decide) (fun c_4 => ?_) (fun c_4 => ?_)
        · refine lv_iload hx hb dX10_clash_73 (lv_at hl 1 rfl) ?_
          refine lv_iconst (v := (-1)) hx hb dX10_clash_75 (by decide) ?_
          refine lv_icmp_ne (tgt := 81) hx hb dX10_clash_76 (by decide) (fun c_5 => ?_) (fun c_5 => ?_)
          · exact absurd (by decide) c_5
          · refine lv_iconst (v := (-1)) hx hb dX10_clash_79 (by decide) ?_
            refine W.widen (k := 0) (n := 0) (by decide) (by decide) ?_
            have hP9 := hP.sub (ws' := []) [] rfl
            have hD9 := hD.sub (ws' := []) [] (by decide) rfl
            exact W.iret (v := (-1)) hx hb hr (fun t ht hW => ⟨⟨rfl, by rw [ht]; exact hP9, hD9⟩, hS.F ht⟩) hS.2.2 dX10_clash_80
        · refine lv_iload hx hb dX10_clash_52 (lv_at hl 1 rfl) ?_
          refine lv_iconst (v := (-1)) hx hb dX10_clash_54 (by decide) ?_
          refine lv_icmp_eq (tgt := 73) hx hb dX10_clash_55 (by decide) (fun c_6 => ?_) (fun c_6 => ?_)
          · refine lv_iload hx hb dX10_clash_73 (lv_at hl 1 rfl) ?_
            refine lv_iconst (v := (-1)) hx hb dX10_clash_75 (by decide) ?_
            refine lv_icmp_ne (tgt := 81) hx hb dX10_clash_76 (by decide) (fun c_7 => ?_) (fun c_7 => ?_)
            · exact absurd (by decide) c_7
            · refine lv_iconst (v := (-1)) hx hb dX10_clash_79 (by decide) ?_
              refine W.widen (k := 0) (n := 0) (by decide) (by decide) ?_
              have hP9 := hP.sub (ws' := []) [] rfl
              have hD9 := hD.sub (ws' := []) [] (by decide) rfl
              exact W.iret (v := (-1)) hx hb hr (fun t ht hW => ⟨⟨rfl, by rw [ht]; exact hP9, hD9⟩, hS.F ht⟩) hS.2.2 dX10_clash_80
          · exact absurd (by decide) c_6
      · refine lv_iconst (v := (-1)) hx hb dX10_clash_33 (by decide) ?_
        refine W.widen (k := 0) (n := 0) (by decide) (by decide) ?_
        have hP9 := hP.sub (ws' := []) [] rfl
        have hD9 := hD.sub (ws' := []) [] (by decide) rfl
        exact W.iret (v := (-1)) hx hb hr (fun t ht hW => ⟨⟨rfl, by rw [ht]; exact hP9, hD9⟩, hS.F ht⟩) hS.2.2 dX10_clash_34
    · refine lv_iconst (v := (-1)) hx hb dX10_clash_22 (by decide) ?_
      refine W.widen (k := 0) (n := 0) (by decide) (by decide) ?_
      have hP9 := hP.sub (ws' := []) [] rfl
      have hD9 := hD.sub (ws' := []) [] (by decide) rfl
      exact W.iret (v := (-1)) hx hb hr (fun t ht hW => ⟨⟨rfl, by rw [ht]; exact hP9, hD9⟩, hS.F ht⟩) hS.2.2 dX10_clash_23
set_option maxHeartbeats 4000000 in
set_option maxRecDepth 100000 in
theorem k_x_far (l : Launch) (dC : Nat → ClassId) (dI : Nat → Nat → Nat) (cI cZ cF : ClassId) (sz : Nat) (h0 : Nat) (a1 : Nat) (a2 : Nat) (a3 : Nat) (a4 : Nat) (a5 : Nat) (a6 : Nat) (a7 : Nat) (a8 : Nat) (a9 : Nat) (f0 : Nat) (i1 : Int32) (i2 : Int32) : Met l yX10_far (.code yX10_far cX10_far 6 (some .long) :: ws0) ({ frames := 2, cells := 0, slots := 0, locals := 43 }) (va_Pc [.ref h0, .int i1, .int i2] (zPre (dC, dI) classes (zTy cI cZ cF) [(h0, .inr (8, [.ref a1, .ref a2, .ref a3, .ref a4, .ref a5, .ref a6, .ref a7, .ref a8, .ref a9, .int 0, .int 0, .int 0, .int 0])), (a1, .inr (7, [.ref f0, .int 0]))] sz zTrue)) (zQ (some (.long (-1))) (fun t => va_P (dC, dI) classes [] t.heap ∧ va_D (va_A [(h0, .inr (8, [.ref a1, .ref a2, .ref a3, .ref a4, .ref a5, .ref a6, .ref a7, .ref a8, .ref a9, .int 0, .int 0, .int 0, .int 0])), (a1, .inr (7, [.ref f0, .int 0]))] sz) []) (va_A [(h0, .inr (8, [.ref a1, .ref a2, .ref a3, .ref a4, .ref a5, .ref a6, .ref a7, .ref a8, .ref a9, .int 0, .int 0, .int 0, .int 0])), (a1, .inr (7, [.ref f0, .int 0]))] sz)) 0 0 (va_A [(h0, .inr (8, [.ref a1, .ref a2, .ref a3, .ref a4, .ref a5, .ref a6, .ref a7, .ref a8, .ref a9, .int 0, .int 0, .int 0, .int 0])), (a1, .inr (7, [.ref f0, .int 0]))] sz) := by
  refine Met.ofW (cc := cX10_far) (maxL := 6) (ret := (some .long)) (by decide) rfl ?_
  intro p e s m args below meth c s₁ B hml hv
  obtain ⟨rfl, hsz, hP, hK, hD0, hXX⟩ := hv
  have hx := B.exec
  have hb := B.bytes
  have hr := B.returns
  have hts0 := atoms_spec (ws := .code yX10_far cX10_far 6 (some .long) :: ws0) B.pre
  have hts : ∀ w9 ∈ ws0, w9.before ([.ref h0, .int i1, .int i2] : List Value).toArray s = true := fun w9 h => hts0 w9 (List.mem_cons_of_mem _ h)
  have hown : s.vm.findClass "ScaleShop" = some m.cls := findClass_of_methodNamed B.named
  have hlocks := B.notSynchronized
  subst hsz
  have hD := hD0.self (sz := s.heap.size)
  generalize hAe : va_A [(h0, .inr (8, [.ref a1, .ref a2, .ref a3, .ref a4, .ref a5, .ref a6, .ref a7, .ref a8, .ref a9, .int 0, .int 0, .int 0, .int 0])), (a1, .inr (7, [.ref f0, .int 0]))] s.heap.size = A at hD ⊢
  have hA : ∀ q : Nat, s.heap.size ≤ q → A q := fun q h => by rw [← hAe]; exact Or.inr h
  have hS : va_S A s.heap s.heap [] := va_S.rf
  have hP : va_P (dC, dI) classes [(h0, .inr (8, [.ref a1, .ref a2, .ref a3, .ref a4, .ref a5, .ref a6, .ref a7, .ref a8, .ref a9, .int 0, .int 0, .int 0, .int 0])), (a1, .inr (7, [.ref f0, .int 0]))] s.heap := hP
  have hl := lv_entry ([.ref h0, .int i1, .int i2]) (n := 6) (Nat.le_of_ble_eq_true rfl)
  rw [lg_entry_eq]
  generalize (lg_sl ([.ref h0, .int i1, .int i2]) ++ List.replicate (6 - (lg_sl ([.ref h0, .int i1, .int i2])).length) Slot.unset).toArray = ls at hl ⊢
  have hl : lv_has ls 6 [(0, .ref h0), (1, .int i1), (2, .int i2)] := hl
  refine lv_aload_n hx hb dX10_far_0 rfl (lv_at hl 0 rfl) ?_
  refine va_get (D := (dC, dI)) (ci := 8) (v := .ref a1) (C := RX10) (T := TX10) (N := 13) hx hb hts inX10 hown hK hP 0 rfl rfl 0 (by decide) (hts _ mw_309) (fun _ h9 => h9) rfl dX10_far_1 ?_
  refine lv_iload_n hx hb dX10_far_4 rfl (lv_at hl 1 rfl) ?_
  have hPc := hP.sub (ws' := [(a1, .inr (7, [.ref f0, .int 0]))]) [1] rfl
  have hDc := hD.sub (ws' := [(a1, .inr (7, [.ref f0, .int 0]))]) [1] (by decide) rfl
  have hFc := va_free (wc := [(a1, .inr (7, [.ref f0, .int 0]))]) hD hS hA [1] rfl
  refine zcall (st1 := [.null]) (va_runV (As := [.int i1]) (rest := []) ⟨hx, hb, hml, hown, hts⟩ (k_find l dC dI cI cZ cF s.heap.size a1 f0 i1 ) (cwV 1 hts (zz_gV mw_498 mw_499 mw_500 mw_100 mc_yX8_find) rfl rfl rfl (by decide +kernel) ⟨Nat.le_of_ble_eq_true rfl, Nat.le_of_ble_eq_true rfl⟩) (zPV (q0 := 0) (ci := 7) hPc hDc hK rfl rfl) rfl rfl hl.1 rfl (lv_room (Nat.le_of_ble_eq_true rfl)) dX10_far_5 ⟨Nat.le_of_ble_eq_true rfl, Nat.le_of_ble_eq_true rfl⟩) hS hFc hFc rfl (fun t H1 locs ht hB hk1 hS => ?_)
  obtain ⟨hP1, hD1⟩ := hB
  rw [ht] at hP1
  obtain ⟨hP, hD⟩ := va_join (wr := [(h0, .inr (8, [.ref a1, .ref a2, .ref a3, .ref a4, .ref a5, .ref a6, .ref a7, .ref a8, .ref a9, .int 0, .int 0, .int 0, .int 0]))]) (w1 := [(a1, .inr (7, [.ref f0, .int 0]))]) hP hD [1] [0] rfl rfl (by decide) (by decide) hk1 hFc hP1 hD1
  clear hk1 hPc hDc hFc hP1 hD1 ht
  generalize H1 = H at hP hS ⊢
  have hP : va_P (dC, dI) classes [(h0, .inr (8, [.ref a1, .ref a2, .ref a3, .ref a4, .ref a5, .ref a6, .ref a7, .ref a8, .ref a9, .int 0, .int 0, .int 0, .int 0])), (a1, .inr (7, [.ref f0, .int 0]))] H := hP
  have hD : va_D A [(h0, .inr (8, [.ref a1, .ref a2, .ref a3, .ref a4, .ref a5, .ref a6, .ref a7, .ref a8, .ref a9, .int 0, .int 0, .int 0, .int 0])), (a1, .inr (7, [.ref f0, .int 0]))] := hD
  refine lv_astore_nN (lv' := [(3, .null), (0, .ref h0), (1, .int i1), (2, .int i2)]) hx hb dX10_far_8 rfl hl (by decide) rfl (fun ls hl => ?_)
  refine lv_aload_n hx hb dX10_far_9 rfl (lv_at hl 1 rfl) ?_
  refine va_get (D := (dC, dI)) (ci := 8) (v := .ref a1) (C := RX10) (T := TX10) (N := 13) hx hb hts inX10 hown hK hP 0 rfl rfl 0 (by decide) (hts _ mw_309) (fun _ h9 => h9) rfl dX10_far_10 ?_
  refine lv_iload_n hx hb dX10_far_13 rfl (lv_at hl 2 rfl) ?_
  have hPc := hP.sub (ws' := [(a1, .inr (7, [.ref f0, .int 0]))]) [1] rfl
  have hDc := hD.sub (ws' := [(a1, .inr (7, [.ref f0, .int 0]))]) [1] (by decide) rfl
  have hFc := va_free (wc := [(a1, .inr (7, [.ref f0, .int 0]))]) hD hS hA [1] rfl
  refine zcall (st1 := [.null]) (va_runV (As := [.int i1]) (rest := []) ⟨hx, hb, hml, hown, hts⟩ (k_rowThere l dC dI cI cZ cF H.size a1 f0 i1 ) (cwV 1 hts (zz_gV mw_1027 mw_613 mw_614 mw_100 mc_yX8_rowThere) rfl rfl rfl (by decide +kernel) ⟨Nat.le_of_ble_eq_true rfl, Nat.le_of_ble_eq_true rfl⟩) (zPV (q0 := 0) (ci := 7) hPc hDc hK rfl rfl) rfl rfl hl.1 rfl (lv_room (Nat.le_of_ble_eq_true rfl)) dX10_far_14 ⟨Nat.le_of_ble_eq_true rfl, Nat.le_of_ble_eq_true rfl⟩) hS hFc hFc rfl (fun t H1 locs ht hB hk1 hS => ?_)
  obtain ⟨hP1, hD1⟩ := hB
  rw [ht] at hP1
  obtain ⟨hP, hD⟩ := va_join (wr := [(h0, .inr (8, [.ref a1, .ref a2, .ref a3, .ref a4, .ref a5, .ref a6, .ref a7, .ref a8, .ref a9, .int 0, .int 0, .int 0, .int 0]))]) (w1 := [(a1, .inr (7, [.ref f0, .int 0]))]) hP hD [1] [0] rfl rfl (by decide) (by decide) hk1 hFc hP1 hD1
  clear hk1 hPc hDc hFc hP1 hD1 ht
  generalize H1 = H at hP hS ⊢
  have hP : va_P (dC, dI) classes [(h0, .inr (8, [.ref a1, .ref a2, .ref a3, .ref a4, .ref a5, .ref a6, .ref a7, .ref a8, .ref a9, .int 0, .int 0, .int 0, .int 0])), (a1, .inr (7, [.ref f0, .int 0]))] H := hP
  have hD : va_D A [(h0, .inr (8, [.ref a1, .ref a2, .ref a3, .ref a4, .ref a5, .ref a6, .ref a7, .ref a8, .ref a9, .int 0, .int 0, .int 0, .int 0])), (a1, .inr (7, [.ref f0, .int 0]))] := hD
  refine lv_astoreN (lv' := [(4, .null), (3, .null), (0, .ref h0), (1, .int i1), (2, .int i2)]) hx hb dX10_far_17 hl (by decide) rfl (fun ls hl => ?_)
  refine lv_aload_nN hx hb dX10_far_19 rfl (lv_at hl 1 rfl) ?_
  refine lv_ifnullN (tgt := 37) hx hb dX10_far_20 (by decide) ?_
  refine lv_ldc2 hx hb hown (hts _ mw_1077) dX10_far_37 ?_
  refine W.widen (k := 0) (n := 0) (by decide) (by decide) ?_
  have hP9 := hP.sub (ws' := []) [] rfl
  have hD9 := hD.sub (ws' := []) [] (by decide) rfl
  exact W.lret (v := (-1)) hx hb hr (fun t ht hW => ⟨⟨rfl, by rw [ht]; exact hP9, hD9⟩, hS.F ht⟩) hS.2.2 dX10_far_40
set_option maxHeartbeats 4000000 in
set_option maxRecDepth 100000 in
theorem k_x_size (l : Launch) (dC : Nat → ClassId) (dI : Nat → Nat → Nat) (cI cZ cF : ClassId) (sz : Nat) (h0 : Nat) (a1 : Nat) (a2 : Nat) (a3 : Nat) (a4 : Nat) (a5 : Nat) (a6 : Nat) (a7 : Nat) (a8 : Nat) (a9 : Nat) (f0 : Nat) (i1 : Int32) : Met l yX10_size (.code yX10_size cX10_size 3 (some .long) :: ws0) ({ frames := 2, cells := 0, slots := 0, locals := 43 }) (va_Pc [.ref h0, .int i1] (zPre (dC, dI) classes (zTy cI cZ cF) [(h0, .inr (8, [.ref a1, .ref a2, .ref a3, .ref a4, .ref a5, .ref a6, .ref a7, .ref a8, .ref a9, .int 0, .int 0, .int 0, .int 0])), (a1, .inr (7, [.ref f0, .int 0]))] sz zTrue)) (zQ (some (.long (-1))) (fun t => va_P (dC, dI) classes [] t.heap ∧ va_D (va_A [(h0, .inr (8, [.ref a1, .ref a2, .ref a3, .ref a4, .ref a5, .ref a6, .ref a7, .ref a8, .ref a9, .int 0, .int 0, .int 0, .int 0])), (a1, .inr (7, [.ref f0, .int 0]))] sz) []) (va_A [(h0, .inr (8, [.ref a1, .ref a2, .ref a3, .ref a4, .ref a5, .ref a6, .ref a7, .ref a8, .ref a9, .int 0, .int 0, .int 0, .int 0])), (a1, .inr (7, [.ref f0, .int 0]))] sz)) 0 0 (va_A [(h0, .inr (8, [.ref a1, .ref a2, .ref a3, .ref a4, .ref a5, .ref a6, .ref a7, .ref a8, .ref a9, .int 0, .int 0, .int 0, .int 0])), (a1, .inr (7, [.ref f0, .int 0]))] sz) := by
  refine Met.ofW (cc := cX10_size) (maxL := 3) (ret := (some .long)) (by decide) rfl ?_
  intro p e s m args below meth c s₁ B hml hv
  obtain ⟨rfl, hsz, hP, hK, hD0, hXX⟩ := hv
  have hx := B.exec
  have hb := B.bytes
  have hr := B.returns
  have hts0 := atoms_spec (ws := .code yX10_size cX10_size 3 (some .long) :: ws0) B.pre
  have hts : ∀ w9 ∈ ws0, w9.before ([.ref h0, .int i1] : List Value).toArray s = true := fun w9 h => hts0 w9 (List.mem_cons_of_mem _ h)
  have hown : s.vm.findClass "ScaleShop" = some m.cls := findClass_of_methodNamed B.named
  have hlocks := B.notSynchronized
  subst hsz
  have hD := hD0.self (sz := s.heap.size)
  generalize hAe : va_A [(h0, .inr (8, [.ref a1, .ref a2, .ref a3, .ref a4, .ref a5, .ref a6, .ref a7, .ref a8, .ref a9, .int 0, .int 0, .int 0, .int 0])), (a1, .inr (7, [.ref f0, .int 0]))] s.heap.size = A at hD ⊢
  have hA : ∀ q : Nat, s.heap.size ≤ q → A q := fun q h => by rw [← hAe]; exact Or.inr h
  have hS : va_S A s.heap s.heap [] := va_S.rf
  have hP : va_P (dC, dI) classes [(h0, .inr (8, [.ref a1, .ref a2, .ref a3, .ref a4, .ref a5, .ref a6, .ref a7, .ref a8, .ref a9, .int 0, .int 0, .int 0, .int 0])), (a1, .inr (7, [.ref f0, .int 0]))] s.heap := hP
  have hl := lv_entry ([.ref h0, .int i1]) (n := 3) (Nat.le_of_ble_eq_true rfl)
  rw [lg_entry_eq]
  generalize (lg_sl ([.ref h0, .int i1]) ++ List.replicate (3 - (lg_sl ([.ref h0, .int i1])).length) Slot.unset).toArray = ls at hl ⊢
  have hl : lv_has ls 3 [(0, .ref h0), (1, .int i1)] := hl
  refine lv_aload_n hx hb dX10_size_0 rfl (lv_at hl 0 rfl) ?_
  refine va_get (D := (dC, dI)) (ci := 8) (v := .ref a1) (C := RX10) (T := TX10) (N := 13) hx hb hts inX10 hown hK hP 0 rfl rfl 0 (by decide) (hts _ mw_309) (fun _ h9 => h9) rfl dX10_size_1 ?_
  refine lv_iload_n hx hb dX10_size_4 rfl (lv_at hl 1 rfl) ?_
  have hPc := hP.sub (ws' := [(a1, .inr (7, [.ref f0, .int 0]))]) [1] rfl
  have hDc := hD.sub (ws' := [(a1, .inr (7, [.ref f0, .int 0]))]) [1] (by decide) rfl
  have hFc := va_free (wc := [(a1, .inr (7, [.ref f0, .int 0]))]) hD hS hA [1] rfl
  refine zcall (st1 := [.null]) (va_runV (As := [.int i1]) (rest := []) ⟨hx, hb, hml, hown, hts⟩ (k_rowThere l dC dI cI cZ cF s.heap.size a1 f0 i1 ) (cwV 1 hts (zz_gV mw_1027 mw_613 mw_614 mw_100 mc_yX8_rowThere) rfl rfl rfl (by decide +kernel) ⟨Nat.le_of_ble_eq_true rfl, Nat.le_of_ble_eq_true rfl⟩) (zPV (q0 := 0) (ci := 7) hPc hDc hK rfl rfl) rfl rfl hl.1 rfl (lv_room (Nat.le_of_ble_eq_true rfl)) dX10_size_5 ⟨Nat.le_of_ble_eq_true rfl, Nat.le_of_ble_eq_true rfl⟩) hS hFc hFc rfl (fun t H1 locs ht hB hk1 hS => ?_)
  obtain ⟨hP1, hD1⟩ := hB
  rw [ht] at hP1
  obtain ⟨hP, hD⟩ := va_join (wr := [(h0, .inr (8, [.ref a1, .ref a2, .ref a3, .ref a4, .ref a5, .ref a6, .ref a7, .ref a8, .ref a9, .int 0, .int 0, .int 0, .int 0]))]) (w1 := [(a1, .inr (7, [.ref f0, .int 0]))]) hP hD [1] [0] rfl rfl (by decide) (by decide) hk1 hFc hP1 hD1
  clear hk1 hPc hDc hFc hP1 hD1 ht
  generalize H1 = H at hP hS ⊢
  have hP : va_P (dC, dI) classes [(h0, .inr (8, [.ref a1, .ref a2, .ref a3, .ref a4, .ref a5, .ref a6, .ref a7, .ref a8, .ref a9, .int 0, .int 0, .int 0, .int 0])), (a1, .inr (7, [.ref f0, .int 0]))] H := hP
  have hD : va_D A [(h0, .inr (8, [.ref a1, .ref a2, .ref a3, .ref a4, .ref a5, .ref a6, .ref a7, .ref a8, .ref a9, .int 0, .int 0, .int 0, .int 0])), (a1, .inr (7, [.ref f0, .int 0]))] := hD
  refine lv_astore_nN (lv' := [(2, .null), (0, .ref h0), (1, .int i1)]) hx hb dX10_size_8 rfl hl (by decide) rfl (fun ls hl => ?_)
  refine lv_aload_nN hx hb dX10_size_9 rfl (lv_at hl 0 rfl) ?_
  refine lv_ifnonnullN hx hb dX10_size_10 ?_
  refine lv_ldc2 hx hb hown (hts _ mw_1077) dX10_size_13 ?_
  refine W.widen (k := 0) (n := 0) (by decide) (by decide) ?_
  have hP9 := hP.sub (ws' := []) [] rfl
  have hD9 := hD.sub (ws' := []) [] (by decide) rfl
  exact W.lret (v := (-1)) hx hb hr (fun t ht hW => ⟨⟨rfl, by rw [ht]; exact hP9, hD9⟩, hS.F ht⟩) hS.2.2 dX10_size_16
set_option maxHeartbeats 4000000 in
set_option maxRecDepth 100000 in
theorem k_x_at (l : Launch) (dC : Nat → ClassId) (dI : Nat → Nat → Nat) (cI cZ cF : ClassId) (sz : Nat) (h0 : Nat) (a1 : Nat) (a2 : Nat) (a3 : Nat) (a4 : Nat) (a5 : Nat) (a6 : Nat) (a7 : Nat) (a8 : Nat) (a9 : Nat) (f0 : Nat) (i1 : Int32) (i2 : Int32) (i3 : Int32) : Met l yX10_at (.code yX10_at cX10_at 6 (some .int) :: ws0) ({ frames := 1, cells := 0, slots := 0, locals := 21 }) (va_Pc [.ref h0, .int i1, .int i2, .int i3] (zPre (dC, dI) classes (zTy cI cZ cF) [(h0, .inr (8, [.ref a1, .ref a2, .ref a3, .ref a4, .ref a5, .ref a6, .ref a7, .ref a8, .ref a9, .int 0, .int 0, .int 0, .int 0])), (a1, .inr (7, [.ref f0, .int 0]))] sz zTrue)) (zQ (some (.int (-1))) (fun t => va_P (dC, dI) classes [] t.heap ∧ va_D (va_A [(h0, .inr (8, [.ref a1, .ref a2, .ref a3, .ref a4, .ref a5, .ref a6, .ref a7, .ref a8, .ref a9, .int 0, .int 0, .int 0, .int 0])), (a1, .inr (7, [.ref f0, .int 0]))] sz) []) (va_A [(h0, .inr (8, [.ref a1, .ref a2, .ref a3, .ref a4, .ref a5, .ref a6, .ref a7, .ref a8, .ref a9, .int 0, .int 0, .int 0, .int 0])), (a1, .inr (7, [.ref f0, .int 0]))] sz)) 0 0 (va_A [(h0, .inr (8, [.ref a1, .ref a2, .ref a3, .ref a4, .ref a5, .ref a6, .ref a7, .ref a8, .ref a9, .int 0, .int 0, .int 0, .int 0])), (a1, .inr (7, [.ref f0, .int 0]))] sz) := by
  refine Met.ofW (cc := cX10_at) (maxL := 6) (ret := (some .int)) (by decide) rfl ?_
  intro p e s m args below meth c s₁ B hml hv
  obtain ⟨rfl, hsz, hP, hK, hD0, hXX⟩ := hv
  have hx := B.exec
  have hb := B.bytes
  have hr := B.returns
  have hts0 := atoms_spec (ws := .code yX10_at cX10_at 6 (some .int) :: ws0) B.pre
  have hts : ∀ w9 ∈ ws0, w9.before ([.ref h0, .int i1, .int i2, .int i3] : List Value).toArray s = true := fun w9 h => hts0 w9 (List.mem_cons_of_mem _ h)
  have hown : s.vm.findClass "ScaleShop" = some m.cls := findClass_of_methodNamed B.named
  have hlocks := B.notSynchronized
  subst hsz
  have hD := hD0.self (sz := s.heap.size)
  generalize hAe : va_A [(h0, .inr (8, [.ref a1, .ref a2, .ref a3, .ref a4, .ref a5, .ref a6, .ref a7, .ref a8, .ref a9, .int 0, .int 0, .int 0, .int 0])), (a1, .inr (7, [.ref f0, .int 0]))] s.heap.size = A at hD ⊢
  have hA : ∀ q : Nat, s.heap.size ≤ q → A q := fun q h => by rw [← hAe]; exact Or.inr h
  have hS : va_S A s.heap s.heap [] := va_S.rf
  have hP : va_P (dC, dI) classes [(h0, .inr (8, [.ref a1, .ref a2, .ref a3, .ref a4, .ref a5, .ref a6, .ref a7, .ref a8, .ref a9, .int 0, .int 0, .int 0, .int 0])), (a1, .inr (7, [.ref f0, .int 0]))] s.heap := hP
  have hl := lv_entry ([.ref h0, .int i1, .int i2, .int i3]) (n := 6) (Nat.le_of_ble_eq_true rfl)
  rw [lg_entry_eq]
  generalize (lg_sl ([.ref h0, .int i1, .int i2, .int i3]) ++ List.replicate (6 - (lg_sl ([.ref h0, .int i1, .int i2, .int i3])).length) Slot.unset).toArray = ls at hl ⊢
  have hl : lv_has ls 6 [(0, .ref h0), (1, .int i1), (2, .int i2), (3, .int i3)] := hl
  refine lv_aload_n hx hb dX10_at_0 rfl (lv_at hl 0 rfl) ?_
  refine va_get (D := (dC, dI)) (ci := 8) (v := .ref a1) (C := RX10) (T := TX10) (N := 13) hx hb hts inX10 hown hK hP 0 rfl rfl 0 (by decide) (hts _ mw_309) (fun _ h9 => h9) rfl dX10_at_1 ?_
  refine lv_iload_n hx hb dX10_at_4 rfl (lv_at hl 1 rfl) ?_
  have hPc := hP.sub (ws' := [(a1, .inr (7, [.ref f0, .int 0]))]) [1] rfl
  have hDc := hD.sub (ws' := [(a1, .inr (7, [.ref f0, .int 0]))]) [1] (by decide) rfl
  have hFc := va_free (wc := [(a1, .inr (7, [.ref f0, .int 0]))]) hD hS hA [1] rfl
  refine zcall (st1 := [.null]) (va_runV (As := [.int i1]) (rest := []) ⟨hx, hb, hml, hown, hts⟩ (k_find l dC dI cI cZ cF s.heap.size a1 f0 i1 ) (cwV 1 hts (zz_gV mw_498 mw_499 mw_500 mw_100 mc_yX8_find) rfl rfl rfl (by decide +kernel) ⟨Nat.le_of_ble_eq_true rfl, Nat.le_of_ble_eq_true rfl⟩) (zPV (q0 := 0) (ci := 7) hPc hDc hK rfl rfl) rfl rfl hl.1 rfl (lv_room (Nat.le_of_ble_eq_true rfl)) dX10_at_5 ⟨Nat.le_of_ble_eq_true rfl, Nat.le_of_ble_eq_true rfl⟩) hS hFc hFc rfl (fun t H1 locs ht hB hk1 hS => ?_)
  obtain ⟨hP1, hD1⟩ := hB
  rw [ht] at hP1
  obtain ⟨hP, hD⟩ := va_join (wr := [(h0, .inr (8, [.ref a1, .ref a2, .ref a3, .ref a4, .ref a5, .ref a6, .ref a7, .ref a8, .ref a9, .int 0, .int 0, .int 0, .int 0]))]) (w1 := [(a1, .inr (7, [.ref f0, .int 0]))]) hP hD [1] [0] rfl rfl (by decide) (by decide) hk1 hFc hP1 hD1
  clear hk1 hPc hDc hFc hP1 hD1 ht
  generalize H1 = H at hP hS ⊢
  have hP : va_P (dC, dI) classes [(h0, .inr (8, [.ref a1, .ref a2, .ref a3, .ref a4, .ref a5, .ref a6, .ref a7, .ref a8, .ref a9, .int 0, .int 0, .int 0, .int 0])), (a1, .inr (7, [.ref f0, .int 0]))] H := hP
  have hD : va_D A [(h0, .inr (8, [.ref a1, .ref a2, .ref a3, .ref a4, .ref a5, .ref a6, .ref a7, .ref a8, .ref a9, .int 0, .int 0, .int 0, .int 0])), (a1, .inr (7, [.ref f0, .int 0]))] := hD
  refine lv_astoreN (lv' := [(4, .null), (0, .ref h0), (1, .int i1), (2, .int i2), (3, .int i3)]) hx hb dX10_at_8 hl (by decide) rfl (fun ls hl => ?_)
  refine lv_aloadN hx hb dX10_at_10 (lv_at hl 0 rfl) ?_
  refine lv_ifnullN (tgt := 24) hx hb dX10_at_12 (by decide) ?_
  refine lv_iconst (v := (-1)) hx hb dX10_at_24 (by decide) ?_
  refine W.widen (k := 0) (n := 0) (by decide) (by decide) ?_
  have hP9 := hP.sub (ws' := []) [] rfl
  have hD9 := hD.sub (ws' := []) [] (by decide) rfl
  exact W.iret (v := (-1)) hx hb hr (fun t ht hW => ⟨⟨rfl, by rw [ht]; exact hP9, hD9⟩, hS.F ht⟩) hS.2.2 dX10_at_25
set_option maxHeartbeats 4000000 in
set_option maxRecDepth 100000 in
theorem k_x_told (l : Launch) (dC : Nat → ClassId) (dI : Nat → Nat → Nat) (cI cZ cF : ClassId) (sz : Nat) (h0 : Nat) (a1 : Nat) (a2 : Nat) (a3 : Nat) (a4 : Nat) (a5 : Nat) (a6 : Nat) (a7 : Nat) (a8 : Nat) (a9 : Nat) (f0 : Nat) (i1 : Int32) (i2 : Int32) : Met l yX10_told (.code yX10_told cX10_told 4 (some .int) :: ws0) ({ frames := 1, cells := 0, slots := 0, locals := 21 }) (va_Pc [.ref h0, .int i1, .int i2] (zPre (dC, dI) classes (zTy cI cZ cF) [(h0, .inr (8, [.ref a1, .ref a2, .ref a3, .ref a4, .ref a5, .ref a6, .ref a7, .ref a8, .ref a9, .int 0, .int 0, .int 0, .int 0])), (a1, .inr (7, [.ref f0, .int 0]))] sz zTrue)) (zQ (some (.int (-1))) (fun t => va_P (dC, dI) classes [] t.heap ∧ va_D (va_A [(h0, .inr (8, [.ref a1, .ref a2, .ref a3, .ref a4, .ref a5, .ref a6, .ref a7, .ref a8, .ref a9, .int 0, .int 0, .int 0, .int 0])), (a1, .inr (7, [.ref f0, .int 0]))] sz) []) (va_A [(h0, .inr (8, [.ref a1, .ref a2, .ref a3, .ref a4, .ref a5, .ref a6, .ref a7, .ref a8, .ref a9, .int 0, .int 0, .int 0, .int 0])), (a1, .inr (7, [.ref f0, .int 0]))] sz)) 0 0 (va_A [(h0, .inr (8, [.ref a1, .ref a2, .ref a3, .ref a4, .ref a5, .ref a6, .ref a7, .ref a8, .ref a9, .int 0, .int 0, .int 0, .int 0])), (a1, .inr (7, [.ref f0, .int 0]))] sz) := by
  refine Met.ofW (cc := cX10_told) (maxL := 4) (ret := (some .int)) (by decide) rfl ?_
  intro p e s m args below meth c s₁ B hml hv
  obtain ⟨rfl, hsz, hP, hK, hD0, hXX⟩ := hv
  have hx := B.exec
  have hb := B.bytes
  have hr := B.returns
  have hts0 := atoms_spec (ws := .code yX10_told cX10_told 4 (some .int) :: ws0) B.pre
  have hts : ∀ w9 ∈ ws0, w9.before ([.ref h0, .int i1, .int i2] : List Value).toArray s = true := fun w9 h => hts0 w9 (List.mem_cons_of_mem _ h)
  have hown : s.vm.findClass "ScaleShop" = some m.cls := findClass_of_methodNamed B.named
  have hlocks := B.notSynchronized
  subst hsz
  have hD := hD0.self (sz := s.heap.size)
  generalize hAe : va_A [(h0, .inr (8, [.ref a1, .ref a2, .ref a3, .ref a4, .ref a5, .ref a6, .ref a7, .ref a8, .ref a9, .int 0, .int 0, .int 0, .int 0])), (a1, .inr (7, [.ref f0, .int 0]))] s.heap.size = A at hD ⊢
  have hA : ∀ q : Nat, s.heap.size ≤ q → A q := fun q h => by rw [← hAe]; exact Or.inr h
  have hS : va_S A s.heap s.heap [] := va_S.rf
  have hP : va_P (dC, dI) classes [(h0, .inr (8, [.ref a1, .ref a2, .ref a3, .ref a4, .ref a5, .ref a6, .ref a7, .ref a8, .ref a9, .int 0, .int 0, .int 0, .int 0])), (a1, .inr (7, [.ref f0, .int 0]))] s.heap := hP
  have hl := lv_entry ([.ref h0, .int i1, .int i2]) (n := 4) (Nat.le_of_ble_eq_true rfl)
  rw [lg_entry_eq]
  generalize (lg_sl ([.ref h0, .int i1, .int i2]) ++ List.replicate (4 - (lg_sl ([.ref h0, .int i1, .int i2])).length) Slot.unset).toArray = ls at hl ⊢
  have hl : lv_has ls 4 [(0, .ref h0), (1, .int i1), (2, .int i2)] := hl
  refine lv_aload_n hx hb dX10_told_0 rfl (lv_at hl 0 rfl) ?_
  refine va_get (D := (dC, dI)) (ci := 8) (v := .ref a1) (C := RX10) (T := TX10) (N := 13) hx hb hts inX10 hown hK hP 0 rfl rfl 0 (by decide) (hts _ mw_309) (fun _ h9 => h9) rfl dX10_told_1 ?_
  refine lv_iload_n hx hb dX10_told_4 rfl (lv_at hl 1 rfl) ?_
  have hPc := hP.sub (ws' := [(a1, .inr (7, [.ref f0, .int 0]))]) [1] rfl
  have hDc := hD.sub (ws' := [(a1, .inr (7, [.ref f0, .int 0]))]) [1] (by decide) rfl
  have hFc := va_free (wc := [(a1, .inr (7, [.ref f0, .int 0]))]) hD hS hA [1] rfl
  refine zcall (st1 := [.null]) (va_runV (As := [.int i1]) (rest := []) ⟨hx, hb, hml, hown, hts⟩ (k_find l dC dI cI cZ cF s.heap.size a1 f0 i1 ) (cwV 1 hts (zz_gV mw_498 mw_499 mw_500 mw_100 mc_yX8_find) rfl rfl rfl (by decide +kernel) ⟨Nat.le_of_ble_eq_true rfl, Nat.le_of_ble_eq_true rfl⟩) (zPV (q0 := 0) (ci := 7) hPc hDc hK rfl rfl) rfl rfl hl.1 rfl (lv_room (Nat.le_of_ble_eq_true rfl)) dX10_told_5 ⟨Nat.le_of_ble_eq_true rfl, Nat.le_of_ble_eq_true rfl⟩) hS hFc hFc rfl (fun t H1 locs ht hB hk1 hS => ?_)
  obtain ⟨hP1, hD1⟩ := hB
  rw [ht] at hP1
  obtain ⟨hP, hD⟩ := va_join (wr := [(h0, .inr (8, [.ref a1, .ref a2, .ref a3, .ref a4, .ref a5, .ref a6, .ref a7, .ref a8, .ref a9, .int 0, .int 0, .int 0, .int 0]))]) (w1 := [(a1, .inr (7, [.ref f0, .int 0]))]) hP hD [1] [0] rfl rfl (by decide) (by decide) hk1 hFc hP1 hD1
  clear hk1 hPc hDc hFc hP1 hD1 ht
  generalize H1 = H at hP hS ⊢
  have hP : va_P (dC, dI) classes [(h0, .inr (8, [.ref a1, .ref a2, .ref a3, .ref a4, .ref a5, .ref a6, .ref a7, .ref a8, .ref a9, .int 0, .int 0, .int 0, .int 0])), (a1, .inr (7, [.ref f0, .int 0]))] H := hP
  have hD : va_D A [(h0, .inr (8, [.ref a1, .ref a2, .ref a3, .ref a4, .ref a5, .ref a6, .ref a7, .ref a8, .ref a9, .int 0, .int 0, .int 0, .int 0])), (a1, .inr (7, [.ref f0, .int 0]))] := hD
  refine lv_astore_nN (lv' := [(3, .null), (0, .ref h0), (1, .int i1), (2, .int i2)]) hx hb dX10_told_8 rfl hl (by decide) rfl (fun ls hl => ?_)
  refine lv_aload_nN hx hb dX10_told_9 rfl (lv_at hl 0 rfl) ?_
  refine lv_ifnonnullN hx hb dX10_told_10 ?_
  refine lv_iconst (v := (-1)) hx hb dX10_told_13 (by decide) ?_
  refine W.widen (k := 0) (n := 0) (by decide) (by decide) ?_
  have hP9 := hP.sub (ws' := []) [] rfl
  have hD9 := hD.sub (ws' := []) [] (by decide) rfl
  exact W.iret (v := (-1)) hx hb hr (fun t ht hW => ⟨⟨rfl, by rw [ht]; exact hP9, hD9⟩, hS.F ht⟩) hS.2.2 dX10_told_14
set_option maxHeartbeats 4000000 in
set_option maxRecDepth 100000 in
theorem k_x_step (l : Launch) (dC : Nat → ClassId) (dI : Nat → Nat → Nat) (cI cZ cF : ClassId) (sz : Nat) (h0 : Nat) (a1 : Nat) (a2 : Nat) (a3 : Nat) (a4 : Nat) (a5 : Nat) (a6 : Nat) (a7 : Nat) (a8 : Nat) (a9 : Nat) (e0 : Nat) (i1 : Int32) (i2 : Int32) : Met l yX10_step (.code yX10_step cX10_step 4 (some .int) :: ws0) ({ frames := 1, cells := 0, slots := 0, locals := 20 }) (va_Pc [.ref h0, .int i1, .int i2] (zPre (dC, dI) classes (zTy cI cZ cF) [(h0, .inr (8, [.ref a1, .ref a2, .ref a3, .ref a4, .ref a5, .ref a6, .ref a7, .ref a8, .ref a9, .int 0, .int 0, .int 0, .int 0])), (a9, .inr (10, [.int 0, .ref e0, .int 0]))] sz zTrue)) (zQ (some (.int (-1))) (fun t => va_P (dC, dI) classes [] t.heap ∧ va_D (va_A [(h0, .inr (8, [.ref a1, .ref a2, .ref a3, .ref a4, .ref a5, .ref a6, .ref a7, .ref a8, .ref a9, .int 0, .int 0, .int 0, .int 0])), (a9, .inr (10, [.int 0, .ref e0, .int 0]))] sz) []) (va_A [(h0, .inr (8, [.ref a1, .ref a2, .ref a3, .ref a4, .ref a5, .ref a6, .ref a7, .ref a8, .ref a9, .int 0, .int 0, .int 0, .int 0])), (a9, .inr (10, [.int 0, .ref e0, .int 0]))] sz)) 0 0 (va_A [(h0, .inr (8, [.ref a1, .ref a2, .ref a3, .ref a4, .ref a5, .ref a6, .ref a7, .ref a8, .ref a9, .int 0, .int 0, .int 0, .int 0])), (a9, .inr (10, [.int 0, .ref e0, .int 0]))] sz) := by
  refine Met.ofW (cc := cX10_step) (maxL := 4) (ret := (some .int)) (by decide) rfl ?_
  intro p e s m args below meth c s₁ B hml hv
  obtain ⟨rfl, hsz, hP, hK, hD0, hXX⟩ := hv
  have hx := B.exec
  have hb := B.bytes
  have hr := B.returns
  have hts0 := atoms_spec (ws := .code yX10_step cX10_step 4 (some .int) :: ws0) B.pre
  have hts : ∀ w9 ∈ ws0, w9.before ([.ref h0, .int i1, .int i2] : List Value).toArray s = true := fun w9 h => hts0 w9 (List.mem_cons_of_mem _ h)
  have hown : s.vm.findClass "ScaleShop" = some m.cls := findClass_of_methodNamed B.named
  have hlocks := B.notSynchronized
  subst hsz
  have hD := hD0.self (sz := s.heap.size)
  generalize hAe : va_A [(h0, .inr (8, [.ref a1, .ref a2, .ref a3, .ref a4, .ref a5, .ref a6, .ref a7, .ref a8, .ref a9, .int 0, .int 0, .int 0, .int 0])), (a9, .inr (10, [.int 0, .ref e0, .int 0]))] s.heap.size = A at hD ⊢
  have hA : ∀ q : Nat, s.heap.size ≤ q → A q := fun q h => by rw [← hAe]; exact Or.inr h
  have hS : va_S A s.heap s.heap [] := va_S.rf
  have hP : va_P (dC, dI) classes [(h0, .inr (8, [.ref a1, .ref a2, .ref a3, .ref a4, .ref a5, .ref a6, .ref a7, .ref a8, .ref a9, .int 0, .int 0, .int 0, .int 0])), (a9, .inr (10, [.int 0, .ref e0, .int 0]))] s.heap := hP
  have hl := lv_entry ([.ref h0, .int i1, .int i2]) (n := 4) (Nat.le_of_ble_eq_true rfl)
  rw [lg_entry_eq]
  generalize (lg_sl ([.ref h0, .int i1, .int i2]) ++ List.replicate (4 - (lg_sl ([.ref h0, .int i1, .int i2])).length) Slot.unset).toArray = ls at hl ⊢
  have hl : lv_has ls 4 [(0, .ref h0), (1, .int i1), (2, .int i2)] := hl
  refine lv_iload_n hx hb dX10_step_0 rfl (lv_at hl 1 rfl) ?_
  refine lv_iconst (v := 1) hx hb dX10_step_1 (by decide) ?_
  refine lv_icmp_lt (tgt := 16) hx hb dX10_step_2 (by decide) (fun c_1 => ?_) (fun c_1 => ?_)
  · refine lv_iconst (v := (-1)) hx hb dX10_step_16 (by decide) ?_
    refine W.widen (k := 0) (n := 0) (by decide) (by decide) ?_
    have hP9 := hP.sub (ws' := []) [] rfl
    have hD9 := hD.sub (ws' := []) [] (by decide) rfl
    exact W.iret (v := (-1)) hx hb hr (fun t ht hW => ⟨⟨rfl, by rw [ht]; exact hP9, hD9⟩, hS.F ht⟩) hS.2.2 dX10_step_17
  · refine lv_iload_n hx hb dX10_step_5 rfl (lv_at hl 1 rfl) ?_
    refine lv_aload_n hx hb dX10_step_6 rfl (lv_at hl 0 rfl) ?_
    refine va_get (D := (dC, dI)) (ci := 8) (v := .ref a9) (C := RX10) (T := TX10) (N := 13) hx hb hts inX10 hown hK hP 0 rfl rfl 8 (by decide) (hts _ mw_317) (fun _ h9 => h9) rfl dX10_step_7 ?_
    have hPc := hP.sub (ws' := [(a9, .inr (10, [.int 0, .ref e0, .int 0]))]) [1] rfl
    have hDc := hD.sub (ws' := [(a9, .inr (10, [.int 0, .ref e0, .int 0]))]) [1] (by decide) rfl
    have hFc := va_free (wc := [(a9, .inr (10, [.int 0, .ref e0, .int 0]))]) hD hS hA [1] rfl
    refine zcall (st1 := [.int 0, .int i1]) (va_runV (As := []) (rest := [.int i1]) ⟨hx, hb, hml, hown, hts⟩ (k_AL_size l dC dI cI cZ cF s.heap.size a9 e0 ) (cwV 0 hts (zz_gV mw_468 mw_469 mw_470 mw_109 mc_yJx4a65c_size_8abf5) rfl rfl rfl (by decide +kernel) ⟨Nat.le_of_ble_eq_true rfl, Nat.le_of_ble_eq_true rfl⟩) (zPV (q0 := 0) (ci := 10) hPc hDc hK rfl rfl) rfl rfl hl.1 rfl (lv_room (Nat.le_of_ble_eq_true rfl)) dX10_step_10 ⟨Nat.le_of_ble_eq_true rfl, Nat.le_of_ble_eq_true rfl⟩) hS hFc hFc rfl (fun t H1 locs ht hB hk1 hS => ?_)
    obtain ⟨hP1, hD1⟩ := hB
    rw [ht] at hP1
    obtain ⟨hP, hD⟩ := va_join (wr := [(h0, .inr (8, [.ref a1, .ref a2, .ref a3, .ref a4, .ref a5, .ref a6, .ref a7, .ref a8, .ref a9, .int 0, .int 0, .int 0, .int 0]))]) (w1 := [(a9, .inr (10, [.int 0, .ref e0, .int 0]))]) hP hD [1] [0] rfl rfl (by decide) (by decide) hk1 hFc hP1 hD1
    clear hk1 hPc hDc hFc hP1 hD1 ht
    generalize H1 = H at hP hS ⊢
    have hP : va_P (dC, dI) classes [(h0, .inr (8, [.ref a1, .ref a2, .ref a3, .ref a4, .ref a5, .ref a6, .ref a7, .ref a8, .ref a9, .int 0, .int 0, .int 0, .int 0])), (a9, .inr (10, [.int 0, .ref e0, .int 0]))] H := hP
    have hD : va_D A [(h0, .inr (8, [.ref a1, .ref a2, .ref a3, .ref a4, .ref a5, .ref a6, .ref a7, .ref a8, .ref a9, .int 0, .int 0, .int 0, .int 0])), (a9, .inr (10, [.int 0, .ref e0, .int 0]))] := hD
    refine lv_icmp_le (tgt := 18) hx hb dX10_step_13 (by decide) (fun c_2 => ?_) (fun c_2 => ?_)
    · exact (zz_no10 c_1 c_2).elim
    · refine lv_iconst (v := (-1)) hx hb dX10_step_16 (by decide) ?_
      refine W.widen (k := 0) (n := 0) (by decide) (by decide) ?_
      have hP9 := hP.sub (ws' := []) [] rfl
      have hD9 := hD.sub (ws' := []) [] (by decide) rfl
      exact W.iret (v := (-1)) hx hb hr (fun t ht hW => ⟨⟨rfl, by rw [ht]; exact hP9, hD9⟩, hS.F ht⟩) hS.2.2 dX10_step_17
set_option maxHeartbeats 4000000 in
set_option maxRecDepth 100000 in
theorem k_x_count (l : Launch) (dC : Nat → ClassId) (dI : Nat → Nat → Nat) (cI cZ cF : ClassId) (sz : Nat) (h0 : Nat) (a1 : Nat) (a2 : Nat) (a3 : Nat) (a4 : Nat) (a5 : Nat) (a6 : Nat) (a7 : Nat) (a8 : Nat) (a9 : Nat) (f0 : Nat) (e0 : Nat) (i1 : Int32) : Met l yX10_count (.code yX10_count cX10_count 2 (some .int) :: ws0) ({ frames := 1, cells := 0, slots := 0, locals := 24 }) (va_Pc [.ref h0, .int i1] (zPre (dC, dI) classes (zTy cI cZ cF) [(h0, .inr (8, [.ref a1, .ref a2, .ref a3, .ref a4, .ref a5, .ref a6, .ref a7, .ref a8, .ref a9, .int 0, .int 0, .int 0, .int 0])), (a1, .inr (7, [.ref f0, .int 0])), (a9, .inr (10, [.int 0, .ref e0, .int 0]))] sz zTrue)) (zQ (some (.int (zct i1))) (fun t => va_P (dC, dI) classes [] t.heap ∧ va_D (va_A [(h0, .inr (8, [.ref a1, .ref a2, .ref a3, .ref a4, .ref a5, .ref a6, .ref a7, .ref a8, .ref a9, .int 0, .int 0, .int 0, .int 0])), (a1, .inr (7, [.ref f0, .int 0])), (a9, .inr (10, [.int 0, .ref e0, .int 0]))] sz) []) (va_A [(h0, .inr (8, [.ref a1, .ref a2, .ref a3, .ref a4, .ref a5, .ref a6, .ref a7, .ref a8, .ref a9, .int 0, .int 0, .int 0, .int 0])), (a1, .inr (7, [.ref f0, .int 0])), (a9, .inr (10, [.int 0, .ref e0, .int 0]))] sz)) 0 0 (va_A [(h0, .inr (8, [.ref a1, .ref a2, .ref a3, .ref a4, .ref a5, .ref a6, .ref a7, .ref a8, .ref a9, .int 0, .int 0, .int 0, .int 0])), (a1, .inr (7, [.ref f0, .int 0])), (a9, .inr (10, [.int 0, .ref e0, .int 0]))] sz) := by
  refine Met.ofW (cc := cX10_count) (maxL := 2) (ret := (some .int)) (by decide) rfl ?_
  intro p e s m args below meth c s₁ B hml hv
  obtain ⟨rfl, hsz, hP, hK, hD0, hXX⟩ := hv
  have hx := B.exec
  have hb := B.bytes
  have hr := B.returns
  have hts0 := atoms_spec (ws := .code yX10_count cX10_count 2 (some .int) :: ws0) B.pre
  have hts : ∀ w9 ∈ ws0, w9.before ([.ref h0, .int i1] : List Value).toArray s = true := fun w9 h => hts0 w9 (List.mem_cons_of_mem _ h)
  have hown : s.vm.findClass "ScaleShop" = some m.cls := findClass_of_methodNamed B.named
  have hlocks := B.notSynchronized
  subst hsz
  have hD := hD0.self (sz := s.heap.size)
  generalize hAe : va_A [(h0, .inr (8, [.ref a1, .ref a2, .ref a3, .ref a4, .ref a5, .ref a6, .ref a7, .ref a8, .ref a9, .int 0, .int 0, .int 0, .int 0])), (a1, .inr (7, [.ref f0, .int 0])), (a9, .inr (10, [.int 0, .ref e0, .int 0]))] s.heap.size = A at hD ⊢
  have hA : ∀ q : Nat, s.heap.size ≤ q → A q := fun q h => by rw [← hAe]; exact Or.inr h
  have hS : va_S A s.heap s.heap [] := va_S.rf
  have hP : va_P (dC, dI) classes [(h0, .inr (8, [.ref a1, .ref a2, .ref a3, .ref a4, .ref a5, .ref a6, .ref a7, .ref a8, .ref a9, .int 0, .int 0, .int 0, .int 0])), (a1, .inr (7, [.ref f0, .int 0])), (a9, .inr (10, [.int 0, .ref e0, .int 0]))] s.heap := hP
  have hl := lv_entry ([.ref h0, .int i1]) (n := 2) (Nat.le_of_ble_eq_true rfl)
  rw [lg_entry_eq]
  generalize (lg_sl ([.ref h0, .int i1]) ++ List.replicate (2 - (lg_sl ([.ref h0, .int i1])).length) Slot.unset).toArray = ls at hl ⊢
  have hl : lv_has ls 2 [(0, .ref h0), (1, .int i1)] := hl
  refine lv_iload_n hx hb dX10_count_0 rfl (lv_at hl 1 rfl) ?_
  rcases zz_cases8 i1 with rfl | rfl | rfl | rfl | rfl | rfl | rfl | rfl | h_1
  · refine lv_tableIn (tgt := 48) (off := 47) hx hb dX10_count_1 (by decide) (by decide) (by decide) (by decide) ?_
    refine lv_aload_n hx hb dX10_count_48 rfl (lv_at hl 0 rfl) ?_
    refine va_get (D := (dC, dI)) (ci := 8) (v := .ref a1) (C := RX10) (T := TX10) (N := 13) hx hb hts inX10 hown hK hP 0 rfl rfl 0 (by decide) (hts _ mw_309) (fun _ h9 => h9) rfl dX10_count_49 ?_
    refine va_get (D := (dC, dI)) (ci := 7) (v := .int 0) (C := RX8) (T := TX8) (N := 2) hx hb hts inX8 hown hK hP 1 rfl rfl 1 (by decide) (hts _ mw_140) (fun _ h9 => h9) rfl dX10_count_52 ?_
    refine W.widen (k := 0) (n := 0) (by decide) (by decide) ?_
    have hP9 := hP.sub (ws' := []) [] rfl
    have hD9 := hD.sub (ws' := []) [] (by decide) rfl
    exact W.iret (v := 0) hx hb hr (fun t ht hW => ⟨⟨(congrArg (fun z => Outcome.returned (some (Value.int z))) (show (0 : Int32) = (zct 0) from by simp [zct])), by rw [ht]; exact hP9, hD9⟩, hS.F ht⟩) hS.2.2 dX10_count_55
  · refine lv_tableIn (tgt := 56) (off := 55) hx hb dX10_count_1 (by decide) (by decide) (by decide) (by decide) ?_
    refine lv_aload_n hx hb dX10_count_56 rfl (lv_at hl 0 rfl) ?_
    refine va_get (D := (dC, dI)) (ci := 8) (v := .ref a1) (C := RX10) (T := TX10) (N := 13) hx hb hts inX10 hown hK hP 0 rfl rfl 0 (by decide) (hts _ mw_309) (fun _ h9 => h9) rfl dX10_count_57 ?_
    refine lv_iconst (v := 1) hx hb dX10_count_60 (by decide) ?_
    have hPc := hP.sub (ws' := [(a1, .inr (7, [.ref f0, .int 0]))]) [1] rfl
    have hDc := hD.sub (ws' := [(a1, .inr (7, [.ref f0, .int 0]))]) [1] (by decide) rfl
    have hFc := va_free (wc := [(a1, .inr (7, [.ref f0, .int 0]))]) hD hS hA [1] rfl
    refine zcall (st1 := [.int 0]) (va_runV (As := [.int 1]) (rest := []) ⟨hx, hb, hml, hown, hts⟩ (k_inState l dC dI cI cZ cF s.heap.size a1 f0 1 ) (cwV 1 hts (zz_gV mw_1137 mw_1138 mw_1139 mw_100 mc_yX8_inState) rfl rfl rfl (by decide +kernel) ⟨Nat.le_of_ble_eq_true rfl, Nat.le_of_ble_eq_true rfl⟩) (zPV (q0 := 0) (ci := 7) hPc hDc hK rfl rfl) rfl rfl hl.1 rfl (lv_room (Nat.le_of_ble_eq_true rfl)) dX10_count_61 ⟨Nat.le_of_ble_eq_true rfl, Nat.le_of_ble_eq_true rfl⟩) hS hFc hFc rfl (fun t H1 locs ht hB hk1 hS => ?_)
    obtain ⟨hP1, hD1⟩ := hB
    rw [ht] at hP1
    obtain ⟨hP, hD⟩ := va_join (wr := [(h0, .inr (8, [.ref a1, .ref a2, .ref a3, .ref a4, .ref a5, .ref a6, .ref a7, .ref a8, .ref a9, .int 0, .int 0, .int 0, .int 0])), (a9, .inr (10, [.int 0, .ref e0, .int 0]))]) (w1 := [(a1, .inr (7, [.ref f0, .int 0]))]) hP hD [1] [0, 2] rfl rfl (by decide) (by decide) hk1 hFc hP1 hD1
    clear hk1 hPc hDc hFc hP1 hD1 ht
    generalize H1 = H at hP hS ⊢
    have hP : va_P (dC, dI) classes [(h0, .inr (8, [.ref a1, .ref a2, .ref a3, .ref a4, .ref a5, .ref a6, .ref a7, .ref a8, .ref a9, .int 0, .int 0, .int 0, .int 0])), (a9, .inr (10, [.int 0, .ref e0, .int 0])), (a1, .inr (7, [.ref f0, .int 0]))] H := hP
    have hD : va_D A [(h0, .inr (8, [.ref a1, .ref a2, .ref a3, .ref a4, .ref a5, .ref a6, .ref a7, .ref a8, .ref a9, .int 0, .int 0, .int 0, .int 0])), (a9, .inr (10, [.int 0, .ref e0, .int 0])), (a1, .inr (7, [.ref f0, .int 0]))] := hD
    refine W.widen (k := 0) (n := 0) (by decide) (by decide) ?_
    have hP9 := hP.sub (ws' := []) [] rfl
    have hD9 := hD.sub (ws' := []) [] (by decide) rfl
    exact W.iret (v := 0) hx hb hr (fun t ht hW => ⟨⟨(congrArg (fun z => Outcome.returned (some (Value.int z))) (show (0 : Int32) = (zct 1) from by simp [zct])), by rw [ht]; exact hP9, hD9⟩, hS.F ht⟩) hS.2.2 dX10_count_64
  · refine lv_tableIn (tgt := 65) (off := 64) hx hb dX10_count_1 (by decide) (by decide) (by decide) (by decide) ?_
    refine lv_aload_n hx hb dX10_count_65 rfl (lv_at hl 0 rfl) ?_
    refine va_get (D := (dC, dI)) (ci := 8) (v := .ref a1) (C := RX10) (T := TX10) (N := 13) hx hb hts inX10 hown hK hP 0 rfl rfl 0 (by decide) (hts _ mw_309) (fun _ h9 => h9) rfl dX10_count_66 ?_
    refine lv_iconst (v := 2) hx hb dX10_count_69 (by decide) ?_
    have hPc := hP.sub (ws' := [(a1, .inr (7, [.ref f0, .int 0]))]) [1] rfl
    have hDc := hD.sub (ws' := [(a1, .inr (7, [.ref f0, .int 0]))]) [1] (by decide) rfl
    have hFc := va_free (wc := [(a1, .inr (7, [.ref f0, .int 0]))]) hD hS hA [1] rfl
    refine zcall (st1 := [.int 0]) (va_runV (As := [.int 2]) (rest := []) ⟨hx, hb, hml, hown, hts⟩ (k_inState l dC dI cI cZ cF s.heap.size a1 f0 2 ) (cwV 1 hts (zz_gV mw_1137 mw_1138 mw_1139 mw_100 mc_yX8_inState) rfl rfl rfl (by decide +kernel) ⟨Nat.le_of_ble_eq_true rfl, Nat.le_of_ble_eq_true rfl⟩) (zPV (q0 := 0) (ci := 7) hPc hDc hK rfl rfl) rfl rfl hl.1 rfl (lv_room (Nat.le_of_ble_eq_true rfl)) dX10_count_70 ⟨Nat.le_of_ble_eq_true rfl, Nat.le_of_ble_eq_true rfl⟩) hS hFc hFc rfl (fun t H1 locs ht hB hk1 hS => ?_)
    obtain ⟨hP1, hD1⟩ := hB
    rw [ht] at hP1
    obtain ⟨hP, hD⟩ := va_join (wr := [(h0, .inr (8, [.ref a1, .ref a2, .ref a3, .ref a4, .ref a5, .ref a6, .ref a7, .ref a8, .ref a9, .int 0, .int 0, .int 0, .int 0])), (a9, .inr (10, [.int 0, .ref e0, .int 0]))]) (w1 := [(a1, .inr (7, [.ref f0, .int 0]))]) hP hD [1] [0, 2] rfl rfl (by decide) (by decide) hk1 hFc hP1 hD1
    clear hk1 hPc hDc hFc hP1 hD1 ht
    generalize H1 = H at hP hS ⊢
    have hP : va_P (dC, dI) classes [(h0, .inr (8, [.ref a1, .ref a2, .ref a3, .ref a4, .ref a5, .ref a6, .ref a7, .ref a8, .ref a9, .int 0, .int 0, .int 0, .int 0])), (a9, .inr (10, [.int 0, .ref e0, .int 0])), (a1, .inr (7, [.ref f0, .int 0]))] H := hP
    have hD : va_D A [(h0, .inr (8, [.ref a1, .ref a2, .ref a3, .ref a4, .ref a5, .ref a6, .ref a7, .ref a8, .ref a9, .int 0, .int 0, .int 0, .int 0])), (a9, .inr (10, [.int 0, .ref e0, .int 0])), (a1, .inr (7, [.ref f0, .int 0]))] := hD
    refine W.widen (k := 0) (n := 0) (by decide) (by decide) ?_
    have hP9 := hP.sub (ws' := []) [] rfl
    have hD9 := hD.sub (ws' := []) [] (by decide) rfl
    exact W.iret (v := 0) hx hb hr (fun t ht hW => ⟨⟨(congrArg (fun z => Outcome.returned (some (Value.int z))) (show (0 : Int32) = (zct 2) from by simp [zct])), by rw [ht]; exact hP9, hD9⟩, hS.F ht⟩) hS.2.2 dX10_count_73
  · refine lv_tableIn (tgt := 74) (off := 73) hx hb dX10_count_1 (by decide) (by decide) (by decide) (by decide) ?_
    refine lv_aload_n hx hb dX10_count_74 rfl (lv_at hl 0 rfl) ?_
    refine va_get (D := (dC, dI)) (ci := 8) (v := .ref a1) (C := RX10) (T := TX10) (N := 13) hx hb hts inX10 hown hK hP 0 rfl rfl 0 (by decide) (hts _ mw_309) (fun _ h9 => h9) rfl dX10_count_75 ?_
    have hPc := hP.sub (ws' := [(a1, .inr (7, [.ref f0, .int 0]))]) [1] rfl
    have hDc := hD.sub (ws' := [(a1, .inr (7, [.ref f0, .int 0]))]) [1] (by decide) rfl
    have hFc := va_free (wc := [(a1, .inr (7, [.ref f0, .int 0]))]) hD hS hA [1] rfl
    refine zcall (st1 := [.int 0]) (va_runV (As := []) (rest := []) ⟨hx, hb, hml, hown, hts⟩ (k_torn l dC dI cI cZ cF s.heap.size a1 f0 ) (cwV 0 hts (zz_gV mw_1141 mw_1142 mw_1143 mw_100 mc_yX8_torn) rfl rfl rfl (by decide +kernel) ⟨Nat.le_of_ble_eq_true rfl, Nat.le_of_ble_eq_true rfl⟩) (zPV (q0 := 0) (ci := 7) hPc hDc hK rfl rfl) rfl rfl hl.1 rfl (lv_room (Nat.le_of_ble_eq_true rfl)) dX10_count_78 ⟨Nat.le_of_ble_eq_true rfl, Nat.le_of_ble_eq_true rfl⟩) hS hFc hFc rfl (fun t H1 locs ht hB hk1 hS => ?_)
    obtain ⟨hP1, hD1⟩ := hB
    rw [ht] at hP1
    obtain ⟨hP, hD⟩ := va_join (wr := [(h0, .inr (8, [.ref a1, .ref a2, .ref a3, .ref a4, .ref a5, .ref a6, .ref a7, .ref a8, .ref a9, .int 0, .int 0, .int 0, .int 0])), (a9, .inr (10, [.int 0, .ref e0, .int 0]))]) (w1 := [(a1, .inr (7, [.ref f0, .int 0]))]) hP hD [1] [0, 2] rfl rfl (by decide) (by decide) hk1 hFc hP1 hD1
    clear hk1 hPc hDc hFc hP1 hD1 ht
    generalize H1 = H at hP hS ⊢
    have hP : va_P (dC, dI) classes [(h0, .inr (8, [.ref a1, .ref a2, .ref a3, .ref a4, .ref a5, .ref a6, .ref a7, .ref a8, .ref a9, .int 0, .int 0, .int 0, .int 0])), (a9, .inr (10, [.int 0, .ref e0, .int 0])), (a1, .inr (7, [.ref f0, .int 0]))] H := hP
    have hD : va_D A [(h0, .inr (8, [.ref a1, .ref a2, .ref a3, .ref a4, .ref a5, .ref a6, .ref a7, .ref a8, .ref a9, .int 0, .int 0, .int 0, .int 0])), (a9, .inr (10, [.int 0, .ref e0, .int 0])), (a1, .inr (7, [.ref f0, .int 0]))] := hD
    refine W.widen (k := 0) (n := 0) (by decide) (by decide) ?_
    have hP9 := hP.sub (ws' := []) [] rfl
    have hD9 := hD.sub (ws' := []) [] (by decide) rfl
    exact W.iret (v := 0) hx hb hr (fun t ht hW => ⟨⟨(congrArg (fun z => Outcome.returned (some (Value.int z))) (show (0 : Int32) = (zct 3) from by simp [zct])), by rw [ht]; exact hP9, hD9⟩, hS.F ht⟩) hS.2.2 dX10_count_81
  · refine lv_tableIn (tgt := 82) (off := 81) hx hb dX10_count_1 (by decide) (by decide) (by decide) (by decide) ?_
    refine lv_aload_n hx hb dX10_count_82 rfl (lv_at hl 0 rfl) ?_
    refine va_get (D := (dC, dI)) (ci := 8) (v := .ref a1) (C := RX10) (T := TX10) (N := 13) hx hb hts inX10 hown hK hP 0 rfl rfl 0 (by decide) (hts _ mw_309) (fun _ h9 => h9) rfl dX10_count_83 ?_
    have hPc := hP.sub (ws' := [(a1, .inr (7, [.ref f0, .int 0]))]) [1] rfl
    have hDc := hD.sub (ws' := [(a1, .inr (7, [.ref f0, .int 0]))]) [1] (by decide) rfl
    have hFc := va_free (wc := [(a1, .inr (7, [.ref f0, .int 0]))]) hD hS hA [1] rfl
    refine zcall (st1 := [.int 0]) (va_runV (As := []) (rest := []) ⟨hx, hb, hml, hown, hts⟩ (k_cornersThere l dC dI cI cZ cF s.heap.size a1 f0 ) (cwV 0 hts (zz_gV mw_1145 mw_1146 mw_1147 mw_100 mc_yX8_cornersThere) rfl rfl rfl (by decide +kernel) ⟨Nat.le_of_ble_eq_true rfl, Nat.le_of_ble_eq_true rfl⟩) (zPV (q0 := 0) (ci := 7) hPc hDc hK rfl rfl) rfl rfl hl.1 rfl (lv_room (Nat.le_of_ble_eq_true rfl)) dX10_count_86 ⟨Nat.le_of_ble_eq_true rfl, Nat.le_of_ble_eq_true rfl⟩) hS hFc hFc rfl (fun t H1 locs ht hB hk1 hS => ?_)
    obtain ⟨hP1, hD1⟩ := hB
    rw [ht] at hP1
    obtain ⟨hP, hD⟩ := va_join (wr := [(h0, .inr (8, [.ref a1, .ref a2, .ref a3, .ref a4, .ref a5, .ref a6, .ref a7, .ref a8, .ref a9, .int 0, .int 0, .int 0, .int 0])), (a9, .inr (10, [.int 0, .ref e0, .int 0]))]) (w1 := [(a1, .inr (7, [.ref f0, .int 0]))]) hP hD [1] [0, 2] rfl rfl (by decide) (by decide) hk1 hFc hP1 hD1
    clear hk1 hPc hDc hFc hP1 hD1 ht
    generalize H1 = H at hP hS ⊢
    have hP : va_P (dC, dI) classes [(h0, .inr (8, [.ref a1, .ref a2, .ref a3, .ref a4, .ref a5, .ref a6, .ref a7, .ref a8, .ref a9, .int 0, .int 0, .int 0, .int 0])), (a9, .inr (10, [.int 0, .ref e0, .int 0])), (a1, .inr (7, [.ref f0, .int 0]))] H := hP
    have hD : va_D A [(h0, .inr (8, [.ref a1, .ref a2, .ref a3, .ref a4, .ref a5, .ref a6, .ref a7, .ref a8, .ref a9, .int 0, .int 0, .int 0, .int 0])), (a9, .inr (10, [.int 0, .ref e0, .int 0])), (a1, .inr (7, [.ref f0, .int 0]))] := hD
    refine W.widen (k := 0) (n := 0) (by decide) (by decide) ?_
    have hP9 := hP.sub (ws' := []) [] rfl
    have hD9 := hD.sub (ws' := []) [] (by decide) rfl
    exact W.iret (v := 0) hx hb hr (fun t ht hW => ⟨⟨(congrArg (fun z => Outcome.returned (some (Value.int z))) (show (0 : Int32) = (zct 4) from by simp [zct])), by rw [ht]; exact hP9, hD9⟩, hS.F ht⟩) hS.2.2 dX10_count_89
  · refine lv_tableIn (tgt := 90) (off := 89) hx hb dX10_count_1 (by decide) (by decide) (by decide) (by decide) ?_
    refine lv_aload_n hx hb dX10_count_90 rfl (lv_at hl 0 rfl) ?_
    refine va_get (D := (dC, dI)) (ci := 8) (v := .int 0) (C := RX10) (T := TX10) (N := 13) hx hb hts inX10 hown hK hP 0 rfl rfl 9 (by decide) (hts _ mw_318) (fun _ h9 => h9) rfl dX10_count_91 ?_
    refine W.widen (k := 0) (n := 0) (by decide) (by decide) ?_
    have hP9 := hP.sub (ws' := []) [] rfl
    have hD9 := hD.sub (ws' := []) [] (by decide) rfl
    exact W.iret (v := 0) hx hb hr (fun t ht hW => ⟨⟨(congrArg (fun z => Outcome.returned (some (Value.int z))) (show (0 : Int32) = (zct 5) from by simp [zct])), by rw [ht]; exact hP9, hD9⟩, hS.F ht⟩) hS.2.2 dX10_count_94
  · refine lv_tableIn (tgt := 95) (off := 94) hx hb dX10_count_1 (by decide) (by decide) (by decide) (by decide) ?_
    refine lv_aload_n hx hb dX10_count_95 rfl (lv_at hl 0 rfl) ?_
    refine va_get (D := (dC, dI)) (ci := 8) (v := .ref a9) (C := RX10) (T := TX10) (N := 13) hx hb hts inX10 hown hK hP 0 rfl rfl 8 (by decide) (hts _ mw_317) (fun _ h9 => h9) rfl dX10_count_96 ?_
    have hPc := hP.sub (ws' := [(a9, .inr (10, [.int 0, .ref e0, .int 0]))]) [2] rfl
    have hDc := hD.sub (ws' := [(a9, .inr (10, [.int 0, .ref e0, .int 0]))]) [2] (by decide) rfl
    have hFc := va_free (wc := [(a9, .inr (10, [.int 0, .ref e0, .int 0]))]) hD hS hA [2] rfl
    refine zcall (st1 := [.int 0]) (va_runV (As := []) (rest := []) ⟨hx, hb, hml, hown, hts⟩ (k_AL_size l dC dI cI cZ cF s.heap.size a9 e0 ) (cwV 0 hts (zz_gV mw_468 mw_469 mw_470 mw_109 mc_yJx4a65c_size_8abf5) rfl rfl rfl (by decide +kernel) ⟨Nat.le_of_ble_eq_true rfl, Nat.le_of_ble_eq_true rfl⟩) (zPV (q0 := 0) (ci := 10) hPc hDc hK rfl rfl) rfl rfl hl.1 rfl (lv_room (Nat.le_of_ble_eq_true rfl)) dX10_count_99 ⟨Nat.le_of_ble_eq_true rfl, Nat.le_of_ble_eq_true rfl⟩) hS hFc hFc rfl (fun t H1 locs ht hB hk1 hS => ?_)
    obtain ⟨hP1, hD1⟩ := hB
    rw [ht] at hP1
    obtain ⟨hP, hD⟩ := va_join (wr := [(h0, .inr (8, [.ref a1, .ref a2, .ref a3, .ref a4, .ref a5, .ref a6, .ref a7, .ref a8, .ref a9, .int 0, .int 0, .int 0, .int 0])), (a1, .inr (7, [.ref f0, .int 0]))]) (w1 := [(a9, .inr (10, [.int 0, .ref e0, .int 0]))]) hP hD [2] [0, 1] rfl rfl (by decide) (by decide) hk1 hFc hP1 hD1
    clear hk1 hPc hDc hFc hP1 hD1 ht
    generalize H1 = H at hP hS ⊢
    have hP : va_P (dC, dI) classes [(h0, .inr (8, [.ref a1, .ref a2, .ref a3, .ref a4, .ref a5, .ref a6, .ref a7, .ref a8, .ref a9, .int 0, .int 0, .int 0, .int 0])), (a1, .inr (7, [.ref f0, .int 0])), (a9, .inr (10, [.int 0, .ref e0, .int 0]))] H := hP
    have hD : va_D A [(h0, .inr (8, [.ref a1, .ref a2, .ref a3, .ref a4, .ref a5, .ref a6, .ref a7, .ref a8, .ref a9, .int 0, .int 0, .int 0, .int 0])), (a1, .inr (7, [.ref f0, .int 0])), (a9, .inr (10, [.int 0, .ref e0, .int 0]))] := hD
    refine lv_aload_n hx hb dX10_count_102 rfl (lv_at hl 0 rfl) ?_
    refine va_get (D := (dC, dI)) (ci := 8) (v := .int 0) (C := RX10) (T := TX10) (N := 13) hx hb hts inX10 hown hK hP 0 rfl rfl 9 (by decide) (hts _ mw_318) (fun _ h9 => h9) rfl dX10_count_103 ?_
    refine lv_isub hx hb dX10_count_106 ?_
    refine zz_i (v := 0) (by decide) ?_
    refine W.widen (k := 0) (n := 0) (by decide) (by decide) ?_
    have hP9 := hP.sub (ws' := []) [] rfl
    have hD9 := hD.sub (ws' := []) [] (by decide) rfl
    exact W.iret (v := 0) hx hb hr (fun t ht hW => ⟨⟨(congrArg (fun z => Outcome.returned (some (Value.int z))) (show (0 : Int32) = (zct 6) from by simp [zct])), by rw [ht]; exact hP9, hD9⟩, hS.F ht⟩) hS.2.2 dX10_count_107
  · refine lv_tableIn (tgt := 108) (off := 107) hx hb dX10_count_1 (by decide) (by decide) (by decide) (by decide) ?_
    refine lv_aload_n hx hb dX10_count_108 rfl (lv_at hl 0 rfl) ?_
    refine va_get (D := (dC, dI)) (ci := 8) (v := .int 0) (C := RX10) (T := TX10) (N := 13) hx hb hts inX10 hown hK hP 0 rfl rfl 11 (by decide) (hts _ mw_320) (fun _ h9 => h9) rfl dX10_count_109 ?_
    refine W.widen (k := 0) (n := 0) (by decide) (by decide) ?_
    have hP9 := hP.sub (ws' := []) [] rfl
    have hD9 := hD.sub (ws' := []) [] (by decide) rfl
    exact W.iret (v := 0) hx hb hr (fun t ht hW => ⟨⟨(congrArg (fun z => Outcome.returned (some (Value.int z))) (show (0 : Int32) = (zct 7) from by simp [zct])), by rw [ht]; exact hP9, hD9⟩, hS.F ht⟩) hS.2.2 dX10_count_112
  · refine lv_tableOut (tgt := 113) hx hb dX10_count_1 h_1 (by decide) ?_
    refine lv_iconst (v := (-1)) hx hb dX10_count_113 (by decide) ?_
    refine W.widen (k := 0) (n := 0) (by decide) (by decide) ?_
    have hP9 := hP.sub (ws' := []) [] rfl
    have hD9 := hD.sub (ws' := []) [] (by decide) rfl
    exact W.iret (v := (-1)) hx hb hr (fun t ht hW => ⟨⟨(congrArg (fun z => Outcome.returned (some (Value.int z))) (show ((-1) : Int32) = (zct i1) from by simp [zct, h_1])), by rw [ht]; exact hP9, hD9⟩, hS.F ht⟩) hS.2.2 dX10_count_114
set_option maxHeartbeats 4000000 in
set_option maxRecDepth 100000 in
theorem k_x_status (l : Launch) (dC : Nat → ClassId) (dI : Nat → Nat → Nat) (cI cZ cF : ClassId) (sz : Nat) (h0 : Nat) (a1 : Nat) (a2 : Nat) (a3 : Nat) (a4 : Nat) (a5 : Nat) (a6 : Nat) (a7 : Nat) (a8 : Nat) (a9 : Nat) : Met l yX10_status (.code yX10_status cX10_status 1 (some .int) :: ws0) ({ frames := 0, cells := 0, slots := 0, locals := 0 }) (va_Pc [.ref h0] (zPre (dC, dI) classes (zTy cI cZ cF) [(h0, .inr (8, [.ref a1, .ref a2, .ref a3, .ref a4, .ref a5, .ref a6, .ref a7, .ref a8, .ref a9, .int 0, .int 0, .int 0, .int 0]))] sz zTrue)) (zQ (some (.int 0)) (fun t => va_P (dC, dI) classes [] t.heap ∧ va_D (va_A [(h0, .inr (8, [.ref a1, .ref a2, .ref a3, .ref a4, .ref a5, .ref a6, .ref a7, .ref a8, .ref a9, .int 0, .int 0, .int 0, .int 0]))] sz) []) (va_A [(h0, .inr (8, [.ref a1, .ref a2, .ref a3, .ref a4, .ref a5, .ref a6, .ref a7, .ref a8, .ref a9, .int 0, .int 0, .int 0, .int 0]))] sz)) 0 0 (va_A [(h0, .inr (8, [.ref a1, .ref a2, .ref a3, .ref a4, .ref a5, .ref a6, .ref a7, .ref a8, .ref a9, .int 0, .int 0, .int 0, .int 0]))] sz) := by
  refine Met.ofW (cc := cX10_status) (maxL := 1) (ret := (some .int)) (by decide) rfl ?_
  intro p e s m args below meth c s₁ B hml hv
  obtain ⟨rfl, hsz, hP, hK, hD0, hXX⟩ := hv
  have hx := B.exec
  have hb := B.bytes
  have hr := B.returns
  have hts0 := atoms_spec (ws := .code yX10_status cX10_status 1 (some .int) :: ws0) B.pre
  have hts : ∀ w9 ∈ ws0, w9.before ([.ref h0] : List Value).toArray s = true := fun w9 h => hts0 w9 (List.mem_cons_of_mem _ h)
  have hown : s.vm.findClass "ScaleShop" = some m.cls := findClass_of_methodNamed B.named
  have hlocks := B.notSynchronized
  subst hsz
  have hD := hD0.self (sz := s.heap.size)
  generalize hAe : va_A [(h0, .inr (8, [.ref a1, .ref a2, .ref a3, .ref a4, .ref a5, .ref a6, .ref a7, .ref a8, .ref a9, .int 0, .int 0, .int 0, .int 0]))] s.heap.size = A at hD ⊢
  have hA : ∀ q : Nat, s.heap.size ≤ q → A q := fun q h => by rw [← hAe]; exact Or.inr h
  have hS : va_S A s.heap s.heap [] := va_S.rf
  have hP : va_P (dC, dI) classes [(h0, .inr (8, [.ref a1, .ref a2, .ref a3, .ref a4, .ref a5, .ref a6, .ref a7, .ref a8, .ref a9, .int 0, .int 0, .int 0, .int 0]))] s.heap := hP
  have hl := lv_entry ([.ref h0]) (n := 1) (Nat.le_of_ble_eq_true rfl)
  rw [lg_entry_eq]
  generalize (lg_sl ([.ref h0]) ++ List.replicate (1 - (lg_sl ([.ref h0])).length) Slot.unset).toArray = ls at hl ⊢
  have hl : lv_has ls 1 [(0, .ref h0)] := hl
  refine lv_aload_n hx hb dX10_status_0 rfl (lv_at hl 0 rfl) ?_
  refine va_get (D := (dC, dI)) (ci := 8) (v := .int 0) (C := RX10) (T := TX10) (N := 13) hx hb hts inX10 hown hK hP 0 rfl rfl 12 (by decide) (hts _ mw_321) (fun _ h9 => h9) rfl dX10_status_1 ?_
  refine W.widen (k := 0) (n := 0) (by decide) (by decide) ?_
  have hP9 := hP.sub (ws' := []) [] rfl
  have hD9 := hD.sub (ws' := []) [] (by decide) rfl
  exact W.iret (v := 0) hx hb hr (fun t ht hW => ⟨⟨rfl, by rw [ht]; exact hP9, hD9⟩, hS.F ht⟩) hS.2.2 dX10_status_4
