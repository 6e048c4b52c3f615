set_option maxHeartbeats 4000000 in
set_option maxRecDepth 100000 in
theorem k_M_cross (l : Launch) (dC : Nat → ClassId) (dI : Nat → Nat → Nat) (cI cZ cF : ClassId) (sz : Nat) (a1 : Int32) (a2 : Int32) (b1 : Int32) (b2 : Int32) (x : Int32) (y : Int32) (h0 : pl a1) (h1 : pl a2) (h2 : pl b1) (h3 : pl b2) (h4 : pl x) (h5 : pl y) : Met l yX11_cross (.code yX11_cross cX11_cross 12 (some .long) :: ws0) ({ frames := 0, cells := 0, slots := 0, locals := 0 } : Room) (va_Pc [.long a1.toInt64, .long a2.toInt64, .long b1.toInt64, .long b2.toInt64, .long x.toInt64, .long y.toInt64] (zPre (dC, dI) classes (zTy cI cZ cF) [] sz zXN)) (zQ (some (.long (jI (cr a1.toInt a2.toInt b1.toInt b2.toInt x.toInt y.toInt)))) (fun t => va_P (dC, dI) classes [] t.heap ∧ va_D (va_A [] sz) []) (va_A [] sz)) 0 0 (va_A [] sz) := by
  refine Met.ofW (cc := cX11_cross) (maxL := 12) (ret := (some .long)) (by decide) rfl ?_
  intro p e s m args below meth c s₁ B hml hv
  obtain ⟨rfl, hsz, hP, hK, hD0, hXN⟩ := hv
  have hx := B.exec
  have hb := B.bytes
  have hr := B.returns
  have hts0 := atoms_spec (ws := .code yX11_cross cX11_cross 12 (some .long) :: ws0) B.pre
  have hts : ∀ w9 ∈ ws0, w9.before ([.long a1.toInt64, .long a2.toInt64, .long b1.toInt64, .long b2.toInt64, .long x.toInt64, .long y.toInt64] : List Value).toArray s = true := fun w9 h => hts0 w9 (List.mem_cons_of_mem _ h)
  have hown : s.vm.findClass "ScaleShopModel" = some m.cls := findClass_of_methodNamed B.named
  have hlocks := B.notSynchronized
  subst hsz
  have hD := hD0.self (sz := s.heap.size)
  clear hD0
  generalize hAe : va_A [] s.heap.size = A at hD ⊢
  have hA : ∀ q : Nat, s.heap.size ≤ q → A q := fun q h => by rw [← hAe]; exact Or.inr h
  clear hAe
  have hS : va_S A s.heap s.heap [] := va_S.rf
  have hP : va_P (dC, dI) classes [] s.heap := hP
  obtain ⟨Q9, hQ9⟩ : ∃ Q9 : State → Prop, Q9 = MQ below (zQ (some (.long (jI (cr a1.toInt a2.toInt b1.toInt b2.toInt x.toInt y.toInt)))) (fun t => va_P (dC, dI) classes [] t.heap ∧ va_D A []) A) ([.long a1.toInt64, .long a2.toInt64, .long b1.toInt64, .long b2.toInt64, .long x.toInt64, .long y.toInt64] : List Value).toArray s 0 0 A := ⟨_, rfl⟩
  rw [← hQ9]
  have hl := lv_entry ([.long a1.toInt64, .long a2.toInt64, .long b1.toInt64, .long b2.toInt64, .long x.toInt64, .long y.toInt64]) (n := 12) (Nat.le_of_ble_eq_true rfl)
  rw [lg_entry_eq]
  generalize (lg_sl ([.long a1.toInt64, .long a2.toInt64, .long b1.toInt64, .long b2.toInt64, .long x.toInt64, .long y.toInt64]) ++ List.replicate (12 - (lg_sl ([.long a1.toInt64, .long a2.toInt64, .long b1.toInt64, .long b2.toInt64, .long x.toInt64, .long y.toInt64])).length) Slot.unset).toArray = ls at hl ⊢
  have hl : lv_has ls 12 [(0, .long a1.toInt64), (2, .long a2.toInt64), (4, .long b1.toInt64), (6, .long b2.toInt64), (8, .long x.toInt64), (10, .long y.toInt64)] := hl
  refine lv_lload hx hb dX11_cross_0 (lv_at hl 2 rfl) ?_
  refine lv_lload_n hx hb dX11_cross_2 rfl (lv_at hl 0 rfl) ?_
  refine lv_lsub hx hb dX11_cross_3 ?_
  refine lv_lload hx hb dX11_cross_4 (lv_at hl 5 rfl) ?_
  refine lv_lload_n hx hb dX11_cross_6 rfl (lv_at hl 1 rfl) ?_
  refine lv_lsub hx hb dX11_cross_7 ?_
  refine lv_lmul hx hb dX11_cross_8 ?_
  refine lv_lload hx hb dX11_cross_9 (lv_at hl 3 rfl) ?_
  refine lv_lload_n hx hb dX11_cross_11 rfl (lv_at hl 1 rfl) ?_
  refine lv_lsub hx hb dX11_cross_12 ?_
  refine lv_lload hx hb dX11_cross_13 (lv_at hl 4 rfl) ?_
  refine lv_lload_n hx hb dX11_cross_15 rfl (lv_at hl 0 rfl) ?_
  refine lv_lsub hx hb dX11_cross_16 ?_
  refine lv_lmul hx hb dX11_cross_17 ?_
  refine lv_lsub hx hb dX11_cross_18 ?_
  have hP9 := hP.sub (ws' := []) [] rfl
  have hD9 := hD.sub (ws' := []) [] (by decide) rfl
  rw [hQ9]
  exact W.lret (v := ((b1.toInt64 - a1.toInt64) * (y.toInt64 - a2.toInt64)) - ((b2.toInt64 - a2.toInt64) * (x.toInt64 - a1.toInt64))) hx hb hr (fun t ht hW => ⟨⟨congrArg (fun z => Outcome.returned (some (Value.long z))) (show (((b1.toInt64 - a1.toInt64) * (y.toInt64 - a2.toInt64)) - ((b2.toInt64 - a2.toInt64) * (x.toInt64 - a1.toInt64)) : Int64) = jI (cr a1.toInt a2.toInt b1.toInt b2.toInt x.toInt y.toInt) from crL h0 h1 h2 h3 h4 h5), by rw [ht]; exact hP9, hD9⟩, hS.F ht⟩) hS.2.2 dX11_cross_19
set_option maxHeartbeats 4000000 in
set_option maxRecDepth 100000 in
theorem k_M_signOf (l : Launch) (dC : Nat → ClassId) (dI : Nat → Nat → Nat) (cI cZ cF : ClassId) (sz : Nat) (z : Int) (hz : -2000000 ≤ z ∧ z ≤ 2000000) : Met l yX11_signOf (.code yX11_signOf cX11_signOf 2 (some .int) :: ws0) ({ frames := 0, cells := 0, slots := 0, locals := 0 } : Room) (va_Pc [.long (jI z)] (zPre (dC, dI) classes (zTy cI cZ cF) [] sz zXN)) (zQ (some (.int (iI (sg z)))) (fun t => va_P (dC, dI) classes [] t.heap ∧ va_D (va_A [] sz) []) (va_A [] sz)) 0 0 (va_A [] sz) := by
  refine Met.ofW (cc := cX11_signOf) (maxL := 2) (ret := (some .int)) (by decide) rfl ?_
  intro p e s m args below meth c s₁ B hml hv
  obtain ⟨rfl, hsz, hP, hK, hD0, hXN⟩ := hv
  have hx := B.exec
  have hb := B.bytes
  have hr := B.returns
  have hts0 := atoms_spec (ws := .code yX11_signOf cX11_signOf 2 (some .int) :: ws0) B.pre
  have hts : ∀ w9 ∈ ws0, w9.before ([.long (jI z)] : List Value).toArray s = true := fun w9 h => hts0 w9 (List.mem_cons_of_mem _ h)
  have hown : s.vm.findClass "ScaleShopModel" = some m.cls := findClass_of_methodNamed B.named
  have hlocks := B.notSynchronized
  subst hsz
  have hD := hD0.self (sz := s.heap.size)
  clear hD0
  generalize hAe : va_A [] s.heap.size = A at hD ⊢
  have hA : ∀ q : Nat, s.heap.size ≤ q → A q := fun q h => by rw [← hAe]; exact Or.inr h
  clear hAe
  have hS : va_S A s.heap s.heap [] := va_S.rf
  have hP : va_P (dC, dI) classes [] s.heap := hP
  obtain ⟨Q9, hQ9⟩ : ∃ Q9 : State → Prop, Q9 = MQ below (zQ (some (.int (iI (sg z)))) (fun t => va_P (dC, dI) classes [] t.heap ∧ va_D A []) A) ([.long (jI z)] : List Value).toArray s 0 0 A := ⟨_, rfl⟩
  rw [← hQ9]
  have hl := lv_entry ([.long (jI z)]) (n := 2) (Nat.le_of_ble_eq_true rfl)
  rw [lg_entry_eq]
  generalize (lg_sl ([.long (jI z)]) ++ List.replicate (2 - (lg_sl ([.long (jI z)])).length) Slot.unset).toArray = ls at hl ⊢
  have hl : lv_has ls 2 [(0, .long (jI z))] := hl
  refine lv_lload_n hx hb dX11_signOf_0 rfl (lv_at hl 0 rfl) ?_
  refine lv_lconst (v := 0) hx hb dX11_signOf_1 (by decide) ?_
  refine W.lcmp hx hb dX11_signOf_2 ?_
  refine lv_if_le (tgt := 10) hx hb dX11_signOf_3 (by decide) (fun c_1 => ?_) (fun c_1 => ?_)
  · have c_1 : z ≤ 0 := zl_le (jI_toInt (by omega)) (by decide) c_1
    refine lv_lload_n hx hb dX11_signOf_10 rfl (lv_at hl 0 rfl) ?_
    refine lv_lconst (v := 0) hx hb dX11_signOf_11 (by decide) ?_
    refine W.lcmp hx hb dX11_signOf_12 ?_
    refine lv_if_ge (tgt := 20) hx hb dX11_signOf_13 (by decide) (fun c_2 => ?_) (fun c_2 => ?_)
    · have c_2 : 0 ≤ z := zl_ge (jI_toInt (by omega)) (by decide) c_2
      refine lv_iconst (v := 0) hx hb dX11_signOf_20 (by decide) ?_
      have hP9 := hP.sub (ws' := []) [] rfl
      have hD9 := hD.sub (ws' := []) [] (by decide) rfl
      rw [hQ9]
      exact W.iret (v := 0) hx hb hr (fun t ht hW => ⟨⟨congrArg (fun z => Outcome.returned (some (Value.int z))) (show (0 : Int32) = iI (sg z) from by unfold sg; first | (rw [if_pos (by omega)]; rfl) | (rw [if_neg (by omega), if_pos (by omega)]; rfl) | (rw [if_neg (by omega), if_neg (by omega)]; rfl)), by rw [ht]; exact hP9, hD9⟩, hS.F ht⟩) hS.2.2 dX11_signOf_21
    · have c_2 : z < 0 := zl_nge (jI_toInt (by omega)) (by decide) c_2
      refine lv_iconst (v := (-1)) hx hb dX11_signOf_16 (by decide) ?_
      refine lv_goto (tgt := 21) hx hb dX11_signOf_17 (by decide) ?_
      have hP9 := hP.sub (ws' := []) [] rfl
      have hD9 := hD.sub (ws' := []) [] (by decide) rfl
      rw [hQ9]
      exact W.iret (v := (-1)) hx hb hr (fun t ht hW => ⟨⟨congrArg (fun z => Outcome.returned (some (Value.int z))) (show ((-1) : Int32) = iI (sg z) from by unfold sg; first | (rw [if_pos (by omega)]; rfl) | (rw [if_neg (by omega), if_pos (by omega)]; rfl) | (rw [if_neg (by omega), if_neg (by omega)]; rfl)), by rw [ht]; exact hP9, hD9⟩, hS.F ht⟩) hS.2.2 dX11_signOf_21
  · have c_1 : 0 < z := zl_nle (jI_toInt (by omega)) (by decide) c_1
    refine lv_iconst (v := 1) hx hb dX11_signOf_6 (by decide) ?_
    refine lv_goto (tgt := 21) hx hb dX11_signOf_7 (by decide) ?_
    have hP9 := hP.sub (ws' := []) [] rfl
    have hD9 := hD.sub (ws' := []) [] (by decide) rfl
    rw [hQ9]
    exact W.iret (v := 1) hx hb hr (fun t ht hW => ⟨⟨congrArg (fun z => Outcome.returned (some (Value.int z))) (show (1 : Int32) = iI (sg z) from by unfold sg; first | (rw [if_pos (by omega)]; rfl) | (rw [if_neg (by omega), if_pos (by omega)]; rfl) | (rw [if_neg (by omega), if_neg (by omega)]; rfl)), by rw [ht]; exact hP9, hD9⟩, hS.F ht⟩) hS.2.2 dX11_signOf_21
set_option maxHeartbeats 4000000 in
set_option maxRecDepth 100000 in
theorem k_M_isOn (l : Launch) (dC : Nat → ClassId) (dI : Nat → Nat → Nat) (cI cZ cF : ClassId) (sz : Nat) (a1 : Int32) (a2 : Int32) (b1 : Int32) (b2 : Int32) (x : Int32) (y : Int32) (h0 : pl a1) (h1 : pl a2) (h2 : pl b1) (h3 : pl b2) (h4 : pl x) (h5 : pl y) : Met l yX11_isOn (.code yX11_isOn cX11_isOn 6 (some .boolean) :: ws0) ({ frames := 1, cells := 0, slots := 0, locals := 31 } : Room) (va_Pc [.int a1, .int a2, .int b1, .int b2, .int x, .int y] (zPre (dC, dI) classes (zTy cI cZ cF) [] sz zXN)) (zQ (some (.int (pI (onS a1.toInt a2.toInt b1.toInt b2.toInt x.toInt y.toInt)))) (fun t => va_P (dC, dI) classes [] t.heap ∧ va_D (va_A [] sz) []) (va_A [] sz)) 0 0 (va_A [] sz) := by
  refine Met.ofW (cc := cX11_isOn) (maxL := 6) (ret := (some .boolean)) (by decide) rfl ?_
  intro p e s m args below meth c s₁ B hml hv
  obtain ⟨rfl, hsz, hP, hK, hD0, hXN⟩ := hv
  have hx := B.exec
  have hb := B.bytes
  have hr := B.returns
  have hts0 := atoms_spec (ws := .code yX11_isOn cX11_isOn 6 (some .boolean) :: ws0) B.pre
  have hts : ∀ w9 ∈ ws0, w9.before ([.int a1, .int a2, .int b1, .int b2, .int x, .int y] : List Value).toArray s = true := fun w9 h => hts0 w9 (List.mem_cons_of_mem _ h)
  have hown : s.vm.findClass "ScaleShopModel" = some m.cls := findClass_of_methodNamed B.named
  have hlocks := B.notSynchronized
  subst hsz
  have hD := hD0.self (sz := s.heap.size)
  clear hD0
  generalize hAe : va_A [] s.heap.size = A at hD ⊢
  have hA : ∀ q : Nat, s.heap.size ≤ q → A q := fun q h => by rw [← hAe]; exact Or.inr h
  clear hAe
  have hS : va_S A s.heap s.heap [] := va_S.rf
  have hP : va_P (dC, dI) classes [] s.heap := hP
  obtain ⟨Q9, hQ9⟩ : ∃ Q9 : State → Prop, Q9 = MQ below (zQ (some (.int (pI (onS a1.toInt a2.toInt b1.toInt b2.toInt x.toInt y.toInt)))) (fun t => va_P (dC, dI) classes [] t.heap ∧ va_D A []) A) ([.int a1, .int a2, .int b1, .int b2, .int x, .int y] : List Value).toArray s 0 0 A := ⟨_, rfl⟩
  rw [← hQ9]
  have hl := lv_entry ([.int a1, .int a2, .int b1, .int b2, .int x, .int y]) (n := 6) (Nat.le_of_ble_eq_true rfl)
  rw [lg_entry_eq]
  generalize (lg_sl ([.int a1, .int a2, .int b1, .int b2, .int x, .int y]) ++ List.replicate (6 - (lg_sl ([.int a1, .int a2, .int b1, .int b2, .int x, .int y])).length) Slot.unset).toArray = ls at hl ⊢
  have hl : lv_has ls 6 [(0, .int a1), (1, .int a2), (2, .int b1), (3, .int b2), (4, .int x), (5, .int y)] := hl
  have hB := crBp h0 h1 h2 h3 h4 h5
  refine lv_iload_n hx hb dX11_isOn_0 rfl (lv_at hl 0 rfl) ?_
  refine lv_i2l (v := a1.toInt64) hx hb dX11_isOn_1 (rfl) ?_
  refine lv_iload_n hx hb dX11_isOn_2 rfl (lv_at hl 1 rfl) ?_
  refine lv_i2l (v := a2.toInt64) hx hb dX11_isOn_3 (rfl) ?_
  refine lv_iload_n hx hb dX11_isOn_4 rfl (lv_at hl 2 rfl) ?_
  refine lv_i2l (v := b1.toInt64) hx hb dX11_isOn_5 (rfl) ?_
  refine lv_iload_n hx hb dX11_isOn_6 rfl (lv_at hl 3 rfl) ?_
  refine lv_i2l (v := b2.toInt64) hx hb dX11_isOn_7 (rfl) ?_
  refine lv_iload hx hb dX11_isOn_8 (lv_at hl 4 rfl) ?_
  refine lv_i2l (v := x.toInt64) hx hb dX11_isOn_10 (rfl) ?_
  refine lv_iload hx hb dX11_isOn_11 (lv_at hl 5 rfl) ?_
  refine lv_i2l (v := y.toInt64) hx hb dX11_isOn_13 (rfl) ?_
  have hPc := hP.sub (ws' := []) [] rfl
  have hDc := hD.sub (ws' := []) [] (by decide) rfl
  have hFc := va_free (wc := []) hD hS hA [] rfl
  refine zcall (st1 := [.long (jI (cr a1.toInt a2.toInt b1.toInt b2.toInt x.toInt y.toInt))]) (va_runS (As := [.long a1.toInt64, .long a2.toInt64, .long b1.toInt64, .long b2.toInt64, .long x.toInt64, .long y.toInt64]) (rest := []) ⟨hx, hb, hml, hown, hts⟩ (k_M_cross l dC dI cI cZ cF s.heap.size a1 a2 b1 b2 x y (by assumption) (by assumption) (by assumption) (by assumption) (by assumption) (by assumption)) (va_cwS 6 hts (zz_gS mw_1381 mw_1382 mw_110 mc_yX11_cross) rfl rfl rfl (by decide +kernel) ⟨Nat.le_of_ble_eq_true rfl, Nat.le_of_ble_eq_true rfl⟩) (zPS2 hPc hDc hK hXN) rfl rfl hl.1 rfl (lv_room (Nat.le_of_ble_eq_true rfl)) dX11_isOn_14 ⟨Nat.le_of_ble_eq_true rfl, Nat.le_of_ble_eq_true rfl⟩) hS hFc hFc rfl (fun t H1 locs ht hB hk1 hS => ?_)
  obtain ⟨hP1, hD1⟩ := hB
  rw [ht] at hP1
  obtain ⟨hP, hD⟩ := va_join (wr := []) (w1 := []) hP hD [] [] rfl rfl (by decide) (by decide) hk1 hFc hP1 hD1
  clear hk1 hPc hDc hFc hP1 hD1 ht
  generalize H1 = H at hP hS ⊢
  have hP : va_P (dC, dI) classes [] H := hP
  have hD : va_D A [] := hD
  refine lv_lconst (v := 0) hx hb dX11_isOn_17 (by decide) ?_
  refine W.lcmp hx hb dX11_isOn_18 ?_
  refine lv_if_eq (tgt := 24) hx hb dX11_isOn_19 (by decide) (fun c_1 => ?_) (fun c_1 => ?_)
  · have c_1 : (cr a1.toInt a2.toInt b1.toInt b2.toInt x.toInt y.toInt) = 0 := zl_eq (jI_toInt (by omega)) (by decide) c_1
    refine lv_iload hx hb dX11_isOn_24 (lv_at hl 4 rfl) ?_
    refine lv_iload_n hx hb dX11_isOn_26 rfl (lv_at hl 0 rfl) ?_
    refine lv_iload_n hx hb dX11_isOn_27 rfl (lv_at hl 2 rfl) ?_
    refine va_mmin hx hb (by rw [hml]; exact hl.1.symm) hown (hts _ mw_1397) (hts _ mw_858) (hts _ mw_103) (hts _ mw_mincode) (Nat.le_of_ble_eq_true rfl) (Nat.le_of_ble_eq_true rfl) (Nat.le_of_ble_eq_true rfl) (Nat.le_of_ble_eq_true rfl) dX11_isOn_28 ?_
    refine lv_topi (fun v_2 ev_2 => ?_)
    have hv_2 : v_2.toInt = min a1.toInt b1.toInt := zmin rfl rfl ev_2
    refine lv_icmp_lt (tgt := 68) hx hb dX11_isOn_31 (by decide) (fun c_3 => ?_) (fun c_3 => ?_)
    · have c_3 : x.toInt < v_2.toInt := zc_lt rfl rfl c_3
      refine lv_iconst (v := 0) hx hb dX11_isOn_68 (by decide) ?_
      have hP9 := hP.sub (ws' := []) [] rfl
      have hD9 := hD.sub (ws' := []) [] (by decide) rfl
      rw [hQ9]
      exact W.zret (ty := .boolean) (v := 0) hx hb hr (rfl) (fun t ht hW => ⟨⟨congrArg (fun z => Outcome.returned (some (Value.int z))) (show (0 : Int32) = pI (onS a1.toInt a2.toInt b1.toInt b2.toInt x.toInt y.toInt) from (zp_f (by unfold onS; omega)).symm), by rw [ht]; exact hP9, hD9⟩, hS.F ht⟩) hS.2.2 dX11_isOn_69
    · have c_3 : v_2.toInt ≤ x.toInt := zc_nlt rfl rfl c_3
      refine lv_iload hx hb dX11_isOn_34 (lv_at hl 4 rfl) ?_
      refine lv_iload_n hx hb dX11_isOn_36 rfl (lv_at hl 0 rfl) ?_
      refine lv_iload_n hx hb dX11_isOn_37 rfl (lv_at hl 2 rfl) ?_
      refine va_mmax hx hb (by rw [hml]; exact hl.1.symm) hown (hts _ mw_1398) (hts _ mw_159) (hts _ mw_103) (hts _ mw_maxcode) (Nat.le_of_ble_eq_true rfl) (Nat.le_of_ble_eq_true rfl) (Nat.le_of_ble_eq_true rfl) (Nat.le_of_ble_eq_true rfl) dX11_isOn_38 ?_
      refine lv_topi (fun v_4 ev_4 => ?_)
      have hv_4 : v_4.toInt = max a1.toInt b1.toInt := zmax rfl rfl ev_4
      refine lv_icmp_gt (tgt := 68) hx hb dX11_isOn_41 (by decide) (fun c_5 => ?_) (fun c_5 => ?_)
      · have c_5 : v_4.toInt < x.toInt := zc_lt rfl rfl c_5
        refine lv_iconst (v := 0) hx hb dX11_isOn_68 (by decide) ?_
        have hP9 := hP.sub (ws' := []) [] rfl
        have hD9 := hD.sub (ws' := []) [] (by decide) rfl
        rw [hQ9]
        exact W.zret (ty := .boolean) (v := 0) hx hb hr (rfl) (fun t ht hW => ⟨⟨congrArg (fun z => Outcome.returned (some (Value.int z))) (show (0 : Int32) = pI (onS a1.toInt a2.toInt b1.toInt b2.toInt x.toInt y.toInt) from (zp_f (by unfold onS; omega)).symm), by rw [ht]; exact hP9, hD9⟩, hS.F ht⟩) hS.2.2 dX11_isOn_69
      · have c_5 : x.toInt ≤ v_4.toInt := zc_nlt rfl rfl c_5
        refine lv_iload hx hb dX11_isOn_44 (lv_at hl 5 rfl) ?_
        refine lv_iload_n hx hb dX11_isOn_46 rfl (lv_at hl 1 rfl) ?_
        refine lv_iload_n hx hb dX11_isOn_47 rfl (lv_at hl 3 rfl) ?_
        refine va_mmin hx hb (by rw [hml]; exact hl.1.symm) hown (hts _ mw_1397) (hts _ mw_858) (hts _ mw_103) (hts _ mw_mincode) (Nat.le_of_ble_eq_true rfl) (Nat.le_of_ble_eq_true rfl) (Nat.le_of_ble_eq_true rfl) (Nat.le_of_ble_eq_true rfl) dX11_isOn_48 ?_
        refine lv_topi (fun v_6 ev_6 => ?_)
        have hv_6 : v_6.toInt = min a2.toInt b2.toInt := zmin rfl rfl ev_6
        refine lv_icmp_lt (tgt := 68) hx hb dX11_isOn_51 (by decide) (fun c_7 => ?_) (fun c_7 => ?_)
        · have c_7 : y.toInt < v_6.toInt := zc_lt rfl rfl c_7
          refine lv_iconst (v := 0) hx hb dX11_isOn_68 (by decide) ?_
          have hP9 := hP.sub (ws' := []) [] rfl
          have hD9 := hD.sub (ws' := []) [] (by decide) rfl
          rw [hQ9]
          exact W.zret (ty := .boolean) (v := 0) hx hb hr (rfl) (fun t ht hW => ⟨⟨congrArg (fun z => Outcome.returned (some (Value.int z))) (show (0 : Int32) = pI (onS a1.toInt a2.toInt b1.toInt b2.toInt x.toInt y.toInt) from (zp_f (by unfold onS; omega)).symm), by rw [ht]; exact hP9, hD9⟩, hS.F ht⟩) hS.2.2 dX11_isOn_69
        · have c_7 : v_6.toInt ≤ y.toInt := zc_nlt rfl rfl c_7
          refine lv_iload hx hb dX11_isOn_54 (lv_at hl 5 rfl) ?_
          refine lv_iload_n hx hb dX11_isOn_56 rfl (lv_at hl 1 rfl) ?_
          refine lv_iload_n hx hb dX11_isOn_57 rfl (lv_at hl 3 rfl) ?_
          refine va_mmax hx hb (by rw [hml]; exact hl.1.symm) hown (hts _ mw_1398) (hts _ mw_159) (hts _ mw_103) (hts _ mw_maxcode) (Nat.le_of_ble_eq_true rfl) (Nat.le_of_ble_eq_true rfl) (Nat.le_of_ble_eq_true rfl) (Nat.le_of_ble_eq_true rfl) dX11_isOn_58 ?_
          refine lv_topi (fun v_8 ev_8 => ?_)
          have hv_8 : v_8.toInt = max a2.toInt b2.toInt := zmax rfl rfl ev_8
          refine lv_icmp_gt (tgt := 68) hx hb dX11_isOn_61 (by decide) (fun c_9 => ?_) (fun c_9 => ?_)
          · have c_9 : v_8.toInt < y.toInt := zc_lt rfl rfl c_9
            refine lv_iconst (v := 0) hx hb dX11_isOn_68 (by decide) ?_
            have hP9 := hP.sub (ws' := []) [] rfl
            have hD9 := hD.sub (ws' := []) [] (by decide) rfl
            rw [hQ9]
            exact W.zret (ty := .boolean) (v := 0) hx hb hr (rfl) (fun t ht hW => ⟨⟨congrArg (fun z => Outcome.returned (some (Value.int z))) (show (0 : Int32) = pI (onS a1.toInt a2.toInt b1.toInt b2.toInt x.toInt y.toInt) from (zp_f (by unfold onS; omega)).symm), by rw [ht]; exact hP9, hD9⟩, hS.F ht⟩) hS.2.2 dX11_isOn_69
          · have c_9 : y.toInt ≤ v_8.toInt := zc_nlt rfl rfl c_9
            refine lv_iconst (v := 1) hx hb dX11_isOn_64 (by decide) ?_
            refine lv_goto (tgt := 69) hx hb dX11_isOn_65 (by decide) ?_
            have hP9 := hP.sub (ws' := []) [] rfl
            have hD9 := hD.sub (ws' := []) [] (by decide) rfl
            rw [hQ9]
            exact W.zret (ty := .boolean) (v := 1) hx hb hr (rfl) (fun t ht hW => ⟨⟨congrArg (fun z => Outcome.returned (some (Value.int z))) (show (1 : Int32) = pI (onS a1.toInt a2.toInt b1.toInt b2.toInt x.toInt y.toInt) from (zp_t (by unfold onS; omega)).symm), by rw [ht]; exact hP9, hD9⟩, hS.F ht⟩) hS.2.2 dX11_isOn_69
  · have c_1 : ¬ (cr a1.toInt a2.toInt b1.toInt b2.toInt x.toInt y.toInt) = 0 := zl_ne (jI_toInt (by omega)) (by decide) c_1
    refine lv_iconst (v := 0) hx hb dX11_isOn_22 (by decide) ?_
    have hP9 := hP.sub (ws' := []) [] rfl
    have hD9 := hD.sub (ws' := []) [] (by decide) rfl
    rw [hQ9]
    exact W.zret (ty := .boolean) (v := 0) hx hb hr (rfl) (fun t ht hW => ⟨⟨congrArg (fun z => Outcome.returned (some (Value.int z))) (show (0 : Int32) = pI (onS a1.toInt a2.toInt b1.toInt b2.toInt x.toInt y.toInt) from (zp_f (by unfold onS; omega)).symm), by rw [ht]; exact hP9, hD9⟩, hS.F ht⟩) hS.2.2 dX11_isOn_23
set_option maxHeartbeats 4000000 in
set_option maxRecDepth 100000 in
theorem k_M_touch (l : Launch) (dC : Nat → ClassId) (dI : Nat → Nat → Nat) (cI cZ cF : ClassId) (sz : Nat) (sa : Nat) (S0 : Nat → Int32) (hs : ∀ k, k < 8 → pl (S0 k)) : Met l yX11_touch (.code yX11_touch cX11_touch 6 (some .boolean) :: ws0) ({ frames := 2, cells := 0, slots := 0, locals := 56 } : Room) (va_Pc [.ref sa] (zPre (dC, dI) classes (zTy cI cZ cF) [(oa sa cI 8 S0)] sz zXN)) (zQ (some (.int (pI (mtC (S0 0).toInt (S0 1).toInt (S0 2).toInt (S0 3).toInt (S0 4).toInt (S0 5).toInt (S0 6).toInt (S0 7).toInt)))) (fun t => va_P (dC, dI) classes [(oa sa cI 8 S0)] t.heap ∧ va_D (va_A [(oa sa cI 8 S0)] sz) [(oa sa cI 8 S0)]) (va_A [(oa sa cI 8 S0)] sz)) 0 0 (va_A [(oa sa cI 8 S0)] sz) := by
  refine Met.ofW (cc := cX11_touch) (maxL := 6) (ret := (some .boolean)) (by decide) rfl ?_
  intro p e s m args below meth c s₁ B hml hv
  obtain ⟨rfl, hsz, hP, hK, hD0, hXN⟩ := hv
  have hx := B.exec
  have hb := B.bytes
  have hr := B.returns
  have hts0 := atoms_spec (ws := .code yX11_touch cX11_touch 6 (some .boolean) :: ws0) B.pre
  have hts : ∀ w9 ∈ ws0, w9.before ([.ref sa] : List Value).toArray s = true := fun w9 h => hts0 w9 (List.mem_cons_of_mem _ h)
  have hown : s.vm.findClass "ScaleShopModel" = some m.cls := findClass_of_methodNamed B.named
  have hlocks := B.notSynchronized
  subst hsz
  have hD := hD0.self (sz := s.heap.size)
  clear hD0
  generalize hAe : va_A [(oa sa cI 8 S0)] s.heap.size = A at hD ⊢
  have hA : ∀ q : Nat, s.heap.size ≤ q → A q := fun q h => by rw [← hAe]; exact Or.inr h
  clear hAe
  have hS : va_S A s.heap s.heap [] := va_S.rf
  have hP : va_P (dC, dI) classes [(oa sa cI 8 S0)] s.heap := hP
  obtain ⟨Q9, hQ9⟩ : ∃ Q9 : State → Prop, Q9 = MQ below (zQ (some (.int (pI (mtC (S0 0).toInt (S0 1).toInt (S0 2).toInt (S0 3).toInt (S0 4).toInt (S0 5).toInt (S0 6).toInt (S0 7).toInt)))) (fun t => va_P (dC, dI) classes [(oa sa cI 8 S0)] t.heap ∧ va_D A [(oa sa cI 8 S0)]) A) ([.ref sa] : List Value).toArray s 0 0 A := ⟨_, rfl⟩
  rw [← hQ9]
  have hl := lv_entry ([.ref sa]) (n := 6) (Nat.le_of_ble_eq_true rfl)
  rw [lg_entry_eq]
  generalize (lg_sl ([.ref sa]) ++ List.replicate (6 - (lg_sl ([.ref sa])).length) Slot.unset).toArray = ls at hl ⊢
  have hl : lv_has ls 6 [(0, .ref sa)] := hl
  have hB012345 := crBp (hs 0 (by omega)) (hs 1 (by omega)) (hs 2 (by omega)) (hs 3 (by omega)) (hs 4 (by omega)) (hs 5 (by omega))
  have hB012367 := crBp (hs 0 (by omega)) (hs 1 (by omega)) (hs 2 (by omega)) (hs 3 (by omega)) (hs 6 (by omega)) (hs 7 (by omega))
  have hB456701 := crBp (hs 4 (by omega)) (hs 5 (by omega)) (hs 6 (by omega)) (hs 7 (by omega)) (hs 0 (by omega)) (hs 1 (by omega))
  have hB456723 := crBp (hs 4 (by omega)) (hs 5 (by omega)) (hs 6 (by omega)) (hs 7 (by omega)) (hs 2 (by omega)) (hs 3 (by omega))
  refine lv_aload_n hx hb dX11_touch_0 rfl (lv_at hl 0 rfl) ?_
  refine lv_iconst (v := 0) hx hb dX11_touch_1 (by decide) ?_
  refine z_iald hx hb hK hP 0 0 rfl rfl (e := 0) rfl (by omega) (by omega) dX11_touch_2 ?_
  refine lv_i2l (v := (S0 0).toInt64) hx hb dX11_touch_3 (rfl) ?_
  refine lv_aload_n hx hb dX11_touch_4 rfl (lv_at hl 0 rfl) ?_
  refine lv_iconst (v := 1) hx hb dX11_touch_5 (by decide) ?_
  refine z_iald hx hb hK hP 0 0 rfl rfl (e := 1) rfl (by omega) (by omega) dX11_touch_6 ?_
  refine lv_i2l (v := (S0 1).toInt64) hx hb dX11_touch_7 (rfl) ?_
  refine lv_aload_n hx hb dX11_touch_8 rfl (lv_at hl 0 rfl) ?_
  refine lv_iconst (v := 2) hx hb dX11_touch_9 (by decide) ?_
  refine z_iald hx hb hK hP 0 0 rfl rfl (e := 2) rfl (by omega) (by omega) dX11_touch_10 ?_
  refine lv_i2l (v := (S0 2).toInt64) hx hb dX11_touch_11 (rfl) ?_
  refine lv_aload_n hx hb dX11_touch_12 rfl (lv_at hl 0 rfl) ?_
  refine lv_iconst (v := 3) hx hb dX11_touch_13 (by decide) ?_
  refine z_iald hx hb hK hP 0 0 rfl rfl (e := 3) rfl (by omega) (by omega) dX11_touch_14 ?_
  refine lv_i2l (v := (S0 3).toInt64) hx hb dX11_touch_15 (rfl) ?_
  refine lv_aload_n hx hb dX11_touch_16 rfl (lv_at hl 0 rfl) ?_
  refine lv_iconst (v := 4) hx hb dX11_touch_17 (by decide) ?_
  refine z_iald hx hb hK hP 0 0 rfl rfl (e := 4) rfl (by omega) (by omega) dX11_touch_18 ?_
  refine lv_i2l (v := (S0 4).toInt64) hx hb dX11_touch_19 (rfl) ?_
  refine lv_aload_n hx hb dX11_touch_20 rfl (lv_at hl 0 rfl) ?_
  refine lv_iconst (v := 5) hx hb dX11_touch_21 (by decide) ?_
  refine z_iald hx hb hK hP 0 0 rfl rfl (e := 5) rfl (by omega) (by omega) dX11_touch_22 ?_
  refine lv_i2l (v := (S0 5).toInt64) hx hb dX11_touch_23 (rfl) ?_
  have hPc := hP.sub (ws' := []) [] rfl
  have hDc := hD.sub (ws' := []) [] (by decide) rfl
  have hFc := va_free (wc := []) hD hS hA [] rfl
  refine zcall (st1 := [.long (jI (cr (S0 0).toInt (S0 1).toInt (S0 2).toInt (S0 3).toInt (S0 4).toInt (S0 5).toInt))]) (va_runS (As := [.long ((S0 0).toInt64), .long ((S0 1).toInt64), .long ((S0 2).toInt64), .long ((S0 3).toInt64), .long ((S0 4).toInt64), .long ((S0 5).toInt64)]) (rest := []) ⟨hx, hb, hml, hown, hts⟩ (k_M_cross l dC dI cI cZ cF s.heap.size (S0 0) (S0 1) (S0 2) (S0 3) (S0 4) (S0 5) (hs _ (by omega)) (hs _ (by omega)) (hs _ (by omega)) (hs _ (by omega)) (hs _ (by omega)) (hs _ (by omega))) (va_cwS 6 hts (zz_gS mw_1381 mw_1382 mw_110 mc_yX11_cross) rfl rfl rfl (by decide +kernel) ⟨Nat.le_of_ble_eq_true rfl, Nat.le_of_ble_eq_true rfl⟩) (zPS2 hPc hDc hK hXN) rfl rfl hl.1 rfl (lv_room (Nat.le_of_ble_eq_true rfl)) dX11_touch_24 ⟨Nat.le_of_ble_eq_true rfl, Nat.le_of_ble_eq_true rfl⟩) hS hFc hFc rfl (fun t H1 locs ht hB hk1 hS => ?_)
  obtain ⟨hP1, hD1⟩ := hB
  rw [ht] at hP1
  obtain ⟨hP, hD⟩ := va_join (wr := [(oa sa cI 8 S0)]) (w1 := []) hP hD [] [0] rfl rfl (by decide) (by decide) hk1 hFc hP1 hD1
  clear hk1 hPc hDc hFc hP1 hD1 ht
  generalize H1 = H at hP hS ⊢
  have hP : va_P (dC, dI) classes [(oa sa cI 8 S0)] H := hP
  have hD : va_D A [(oa sa cI 8 S0)] := hD
  have hPc := hP.sub (ws' := []) [] rfl
  have hDc := hD.sub (ws' := []) [] (by decide) rfl
  have hFc := va_free (wc := []) hD hS hA [] rfl
  refine zcall (st1 := [.int (iI (sg (cr (S0 0).toInt (S0 1).toInt (S0 2).toInt (S0 3).toInt (S0 4).toInt (S0 5).toInt)))]) (va_runS (As := [.long (jI (cr (S0 0).toInt (S0 1).toInt (S0 2).toInt (S0 3).toInt (S0 4).toInt (S0 5).toInt))]) (rest := []) ⟨hx, hb, hml, hown, hts⟩ (k_M_signOf l dC dI cI cZ cF H.size (cr (S0 0).toInt (S0 1).toInt (S0 2).toInt (S0 3).toInt (S0 4).toInt (S0 5).toInt) (by omega)) (va_cwS 1 hts (zz_gS mw_1391 mw_1392 mw_110 mc_yX11_signOf) rfl rfl rfl (by decide +kernel) ⟨Nat.le_of_ble_eq_true rfl, Nat.le_of_ble_eq_true rfl⟩) (zPS2 hPc hDc hK hXN) rfl rfl hl.1 rfl (lv_room (Nat.le_of_ble_eq_true rfl)) dX11_touch_27 ⟨Nat.le_of_ble_eq_true rfl, Nat.le_of_ble_eq_true rfl⟩) hS hFc hFc rfl (fun t H1 locs ht hB hk1 hS => ?_)
  obtain ⟨hP1, hD1⟩ := hB
  rw [ht] at hP1
  obtain ⟨hP, hD⟩ := va_join (wr := [(oa sa cI 8 S0)]) (w1 := []) hP hD [] [0] rfl rfl (by decide) (by decide) hk1 hFc hP1 hD1
  clear hk1 hPc hDc hFc hP1 hD1 ht
  generalize H1 = H at hP hS ⊢
  have hP : va_P (dC, dI) classes [(oa sa cI 8 S0)] H := hP
  have hD : va_D A [(oa sa cI 8 S0)] := hD
  refine lv_istore_n (lv' := [(1, .int (iI (sg (cr (S0 0).toInt (S0 1).toInt (S0 2).toInt (S0 3).toInt (S0 4).toInt (S0 5).toInt)))), (0, .ref sa)]) hx hb dX11_touch_30 rfl hl (by decide) rfl (fun ls hl => ?_)
  refine lv_aload_n hx hb dX11_touch_31 rfl (lv_at hl 1 rfl) ?_
  refine lv_iconst (v := 0) hx hb dX11_touch_32 (by decide) ?_
  refine z_iald hx hb hK hP 0 0 rfl rfl (e := 0) rfl (by omega) (by omega) dX11_touch_33 ?_
  refine lv_i2l (v := (S0 0).toInt64) hx hb dX11_touch_34 (rfl) ?_
  refine lv_aload_n hx hb dX11_touch_35 rfl (lv_at hl 1 rfl) ?_
  refine lv_iconst (v := 1) hx hb dX11_touch_36 (by decide) ?_
  refine z_iald hx hb hK hP 0 0 rfl rfl (e := 1) rfl (by omega) (by omega) dX11_touch_37 ?_
  refine lv_i2l (v := (S0 1).toInt64) hx hb dX11_touch_38 (rfl) ?_
  refine lv_aload_n hx hb dX11_touch_39 rfl (lv_at hl 1 rfl) ?_
  refine lv_iconst (v := 2) hx hb dX11_touch_40 (by decide) ?_
  refine z_iald hx hb hK hP 0 0 rfl rfl (e := 2) rfl (by omega) (by omega) dX11_touch_41 ?_
  refine lv_i2l (v := (S0 2).toInt64) hx hb dX11_touch_42 (rfl) ?_
  refine lv_aload_n hx hb dX11_touch_43 rfl (lv_at hl 1 rfl) ?_
  refine lv_iconst (v := 3) hx hb dX11_touch_44 (by decide) ?_
  refine z_iald hx hb hK hP 0 0 rfl rfl (e := 3) rfl (by omega) (by omega) dX11_touch_45 ?_
  refine lv_i2l (v := (S0 3).toInt64) hx hb dX11_touch_46 (rfl) ?_
  refine lv_aload_n hx hb dX11_touch_47 rfl (lv_at hl 1 rfl) ?_
  refine lv_bipush (v := 6) hx hb dX11_touch_48 (by decide) ?_
  refine z_iald hx hb hK hP 0 0 rfl rfl (e := 6) rfl (by omega) (by omega) dX11_touch_50 ?_
  refine lv_i2l (v := (S0 6).toInt64) hx hb dX11_touch_51 (rfl) ?_
  refine lv_aload_n hx hb dX11_touch_52 rfl (lv_at hl 1 rfl) ?_
  refine lv_bipush (v := 7) hx hb dX11_touch_53 (by decide) ?_
  refine z_iald hx hb hK hP 0 0 rfl rfl (e := 7) rfl (by omega) (by omega) dX11_touch_55 ?_
  refine lv_i2l (v := (S0 7).toInt64) hx hb dX11_touch_56 (rfl) ?_
  have hPc := hP.sub (ws' := []) [] rfl
  have hDc := hD.sub (ws' := []) [] (by decide) rfl
  have hFc := va_free (wc := []) hD hS hA [] rfl
  refine zcall (st1 := [.long (jI (cr (S0 0).toInt (S0 1).toInt (S0 2).toInt (S0 3).toInt (S0 6).toInt (S0 7).toInt))]) (va_runS (As := [.long ((S0 0).toInt64), .long ((S0 1).toInt64), .long ((S0 2).toInt64), .long ((S0 3).toInt64), .long ((S0 6).toInt64), .long ((S0 7).toInt64)]) (rest := []) ⟨hx, hb, hml, hown, hts⟩ (k_M_cross l dC dI cI cZ cF H.size (S0 0) (S0 1) (S0 2) (S0 3) (S0 6) (S0 7) (hs _ (by omega)) (hs _ (by omega)) (hs _ (by omega)) (hs _ (by omega)) (hs _ (by omega)) (hs _ (by omega))) (va_cwS 6 hts (zz_gS mw_1381 mw_1382 mw_110 mc_yX11_cross) rfl rfl rfl (by decide +kernel) ⟨Nat.le_of_ble_eq_true rfl, Nat.le_of_ble_eq_true rfl⟩) (zPS2 hPc hDc hK hXN) rfl rfl hl.1 rfl (lv_room (Nat.le_of_ble_eq_true rfl)) dX11_touch_57 ⟨Nat.le_of_ble_eq_true rfl, Nat.le_of_ble_eq_true rfl⟩) hS hFc hFc rfl (fun t H1 locs ht hB hk1 hS => ?_)
  obtain ⟨hP1, hD1⟩ := hB
  rw [ht] at hP1
  obtain ⟨hP, hD⟩ := va_join (wr := [(oa sa cI 8 S0)]) (w1 := []) hP hD [] [0] rfl rfl (by decide) (by decide) hk1 hFc hP1 hD1
  clear hk1 hPc hDc hFc hP1 hD1 ht
  generalize H1 = H at hP hS ⊢
  have hP : va_P (dC, dI) classes [(oa sa cI 8 S0)] H := hP
  have hD : va_D A [(oa sa cI 8 S0)] := hD
  have hPc := hP.sub (ws' := []) [] rfl
  have hDc := hD.sub (ws' := []) [] (by decide) rfl
  have hFc := va_free (wc := []) hD hS hA [] rfl
  refine zcall (st1 := [.int (iI (sg (cr (S0 0).toInt (S0 1).toInt (S0 2).toInt (S0 3).toInt (S0 6).toInt (S0 7).toInt)))]) (va_runS (As := [.long (jI (cr (S0 0).toInt (S0 1).toInt (S0 2).toInt (S0 3).toInt (S0 6).toInt (S0 7).toInt))]) (rest := []) ⟨hx, hb, hml, hown, hts⟩ (k_M_signOf l dC dI cI cZ cF H.size (cr (S0 0).toInt (S0 1).toInt (S0 2).toInt (S0 3).toInt (S0 6).toInt (S0 7).toInt) (by omega)) (va_cwS 1 hts (zz_gS mw_1391 mw_1392 mw_110 mc_yX11_signOf) rfl rfl rfl (by decide +kernel) ⟨Nat.le_of_ble_eq_true rfl, Nat.le_of_ble_eq_true rfl⟩) (zPS2 hPc hDc hK hXN) rfl rfl hl.1 rfl (lv_room (Nat.le_of_ble_eq_true rfl)) dX11_touch_60 ⟨Nat.le_of_ble_eq_true rfl, Nat.le_of_ble_eq_true rfl⟩) hS hFc hFc rfl (fun t H1 locs ht hB hk1 hS => ?_)
  obtain ⟨hP1, hD1⟩ := hB
  rw [ht] at hP1
  obtain ⟨hP, hD⟩ := va_join (wr := [(oa sa cI 8 S0)]) (w1 := []) hP hD [] [0] rfl rfl (by decide) (by decide) hk1 hFc hP1 hD1
  clear hk1 hPc hDc hFc hP1 hD1 ht
  generalize H1 = H at hP hS ⊢
  have hP : va_P (dC, dI) classes [(oa sa cI 8 S0)] H := hP
  have hD : va_D A [(oa sa cI 8 S0)] := hD
  refine lv_istore_n (lv' := [(2, .int (iI (sg (cr (S0 0).toInt (S0 1).toInt (S0 2).toInt (S0 3).toInt (S0 6).toInt (S0 7).toInt)))), (1, .int (iI (sg (cr (S0 0).toInt (S0 1).toInt (S0 2).toInt (S0 3).toInt (S0 4).toInt (S0 5).toInt)))), (0, .ref sa)]) hx hb dX11_touch_63 rfl hl (by decide) rfl (fun ls hl => ?_)
  refine lv_aload_n hx hb dX11_touch_64 rfl (lv_at hl 2 rfl) ?_
  refine lv_iconst (v := 4) hx hb dX11_touch_65 (by decide) ?_
  refine z_iald hx hb hK hP 0 0 rfl rfl (e := 4) rfl (by omega) (by omega) dX11_touch_66 ?_
  refine lv_i2l (v := (S0 4).toInt64) hx hb dX11_touch_67 (rfl) ?_
  refine lv_aload_n hx hb dX11_touch_68 rfl (lv_at hl 2 rfl) ?_
  refine lv_iconst (v := 5) hx hb dX11_touch_69 (by decide) ?_
  refine z_iald hx hb hK hP 0 0 rfl rfl (e := 5) rfl (by omega) (by omega) dX11_touch_70 ?_
  refine lv_i2l (v := (S0 5).toInt64) hx hb dX11_touch_71 (rfl) ?_
  refine lv_aload_n hx hb dX11_touch_72 rfl (lv_at hl 2 rfl) ?_
  refine lv_bipush (v := 6) hx hb dX11_touch_73 (by decide) ?_
  refine z_iald hx hb hK hP 0 0 rfl rfl (e := 6) rfl (by omega) (by omega) dX11_touch_75 ?_
  refine lv_i2l (v := (S0 6).toInt64) hx hb dX11_touch_76 (rfl) ?_
  refine lv_aload_n hx hb dX11_touch_77 rfl (lv_at hl 2 rfl) ?_
  refine lv_bipush (v := 7) hx hb dX11_touch_78 (by decide) ?_
  refine z_iald hx hb hK hP 0 0 rfl rfl (e := 7) rfl (by omega) (by omega) dX11_touch_80 ?_
  refine lv_i2l (v := (S0 7).toInt64) hx hb dX11_touch_81 (rfl) ?_
  refine lv_aload_n hx hb dX11_touch_82 rfl (lv_at hl 2 rfl) ?_
  refine lv_iconst (v := 0) hx hb dX11_touch_83 (by decide) ?_
  refine z_iald hx hb hK hP 0 0 rfl rfl (e := 0) rfl (by omega) (by omega) dX11_touch_84 ?_
  refine lv_i2l (v := (S0 0).toInt64) hx hb dX11_touch_85 (rfl) ?_
  refine lv_aload_n hx hb dX11_touch_86 rfl (lv_at hl 2 rfl) ?_
  refine lv_iconst (v := 1) hx hb dX11_touch_87 (by decide) ?_
  refine z_iald hx hb hK hP 0 0 rfl rfl (e := 1) rfl (by omega) (by omega) dX11_touch_88 ?_
  refine lv_i2l (v := (S0 1).toInt64) hx hb dX11_touch_89 (rfl) ?_
  have hPc := hP.sub (ws' := []) [] rfl
  have hDc := hD.sub (ws' := []) [] (by decide) rfl
  have hFc := va_free (wc := []) hD hS hA [] rfl
  refine zcall (st1 := [.long (jI (cr (S0 4).toInt (S0 5).toInt (S0 6).toInt (S0 7).toInt (S0 0).toInt (S0 1).toInt))]) (va_runS (As := [.long ((S0 4).toInt64), .long ((S0 5).toInt64), .long ((S0 6).toInt64), .long ((S0 7).toInt64), .long ((S0 0).toInt64), .long ((S0 1).toInt64)]) (rest := []) ⟨hx, hb, hml, hown, hts⟩ (k_M_cross l dC dI cI cZ cF H.size (S0 4) (S0 5) (S0 6) (S0 7) (S0 0) (S0 1) (hs _ (by omega)) (hs _ (by omega)) (hs _ (by omega)) (hs _ (by omega)) (hs _ (by omega)) (hs _ (by omega))) (va_cwS 6 hts (zz_gS mw_1381 mw_1382 mw_110 mc_yX11_cross) rfl rfl rfl (by decide +kernel) ⟨Nat.le_of_ble_eq_true rfl, Nat.le_of_ble_eq_true rfl⟩) (zPS2 hPc hDc hK hXN) rfl rfl hl.1 rfl (lv_room (Nat.le_of_ble_eq_true rfl)) dX11_touch_90 ⟨Nat.le_of_ble_eq_true rfl, Nat.le_of_ble_eq_true rfl⟩) hS hFc hFc rfl (fun t H1 locs ht hB hk1 hS => ?_)
  obtain ⟨hP1, hD1⟩ := hB
  rw [ht] at hP1
  obtain ⟨hP, hD⟩ := va_join (wr := [(oa sa cI 8 S0)]) (w1 := []) hP hD [] [0] rfl rfl (by decide) (by decide) hk1 hFc hP1 hD1
  clear hk1 hPc hDc hFc hP1 hD1 ht
  generalize H1 = H at hP hS ⊢
  have hP : va_P (dC, dI) classes [(oa sa cI 8 S0)] H := hP
  have hD : va_D A [(oa sa cI 8 S0)] := hD
  have hPc := hP.sub (ws' := []) [] rfl
  have hDc := hD.sub (ws' := []) [] (by decide) rfl
  have hFc := va_free (wc := []) hD hS hA [] rfl
  refine zcall (st1 := [.int (iI (sg (cr (S0 4).toInt (S0 5).toInt (S0 6).toInt (S0 7).toInt (S0 0).toInt (S0 1).toInt)))]) (va_runS (As := [.long (jI (cr (S0 4).toInt (S0 5).toInt (S0 6).toInt (S0 7).toInt (S0 0).toInt (S0 1).toInt))]) (rest := []) ⟨hx, hb, hml, hown, hts⟩ (k_M_signOf l dC dI cI cZ cF H.size (cr (S0 4).toInt (S0 5).toInt (S0 6).toInt (S0 7).toInt (S0 0).toInt (S0 1).toInt) (by omega)) (va_cwS 1 hts (zz_gS mw_1391 mw_1392 mw_110 mc_yX11_signOf) rfl rfl rfl (by decide +kernel) ⟨Nat.le_of_ble_eq_true rfl, Nat.le_of_ble_eq_true rfl⟩) (zPS2 hPc hDc hK hXN) rfl rfl hl.1 rfl (lv_room (Nat.le_of_ble_eq_true rfl)) dX11_touch_93 ⟨Nat.le_of_ble_eq_true rfl, Nat.le_of_ble_eq_true rfl⟩) hS hFc hFc rfl (fun t H1 locs ht hB hk1 hS => ?_)
  obtain ⟨hP1, hD1⟩ := hB
  rw [ht] at hP1
  obtain ⟨hP, hD⟩ := va_join (wr := [(oa sa cI 8 S0)]) (w1 := []) hP hD [] [0] rfl rfl (by decide) (by decide) hk1 hFc hP1 hD1
  clear hk1 hPc hDc hFc hP1 hD1 ht
  generalize H1 = H at hP hS ⊢
  have hP : va_P (dC, dI) classes [(oa sa cI 8 S0)] H := hP
  have hD : va_D A [(oa sa cI 8 S0)] := hD
  refine lv_istore_n (lv' := [(3, .int (iI (sg (cr (S0 4).toInt (S0 5).toInt (S0 6).toInt (S0 7).toInt (S0 0).toInt (S0 1).toInt)))), (2, .int (iI (sg (cr (S0 0).toInt (S0 1).toInt (S0 2).toInt (S0 3).toInt (S0 6).toInt (S0 7).toInt)))), (1, .int (iI (sg (cr (S0 0).toInt (S0 1).toInt (S0 2).toInt (S0 3).toInt (S0 4).toInt (S0 5).toInt)))), (0, .ref sa)]) hx hb dX11_touch_96 rfl hl (by decide) rfl (fun ls hl => ?_)
  refine lv_aload_n hx hb dX11_touch_97 rfl (lv_at hl 3 rfl) ?_
  refine lv_iconst (v := 4) hx hb dX11_touch_98 (by decide) ?_
  refine z_iald hx hb hK hP 0 0 rfl rfl (e := 4) rfl (by omega) (by omega) dX11_touch_99 ?_
  refine lv_i2l (v := (S0 4).toInt64) hx hb dX11_touch_100 (rfl) ?_
  refine lv_aload_n hx hb dX11_touch_101 rfl (lv_at hl 3 rfl) ?_
  refine lv_iconst (v := 5) hx hb dX11_touch_102 (by decide) ?_
  refine z_iald hx hb hK hP 0 0 rfl rfl (e := 5) rfl (by omega) (by omega) dX11_touch_103 ?_
  refine lv_i2l (v := (S0 5).toInt64) hx hb dX11_touch_104 (rfl) ?_
  refine lv_aload_n hx hb dX11_touch_105 rfl (lv_at hl 3 rfl) ?_
  refine lv_bipush (v := 6) hx hb dX11_touch_106 (by decide) ?_
  refine z_iald hx hb hK hP 0 0 rfl rfl (e := 6) rfl (by omega) (by omega) dX11_touch_108 ?_
  refine lv_i2l (v := (S0 6).toInt64) hx hb dX11_touch_109 (rfl) ?_
  refine lv_aload_n hx hb dX11_touch_110 rfl (lv_at hl 3 rfl) ?_
  refine lv_bipush (v := 7) hx hb dX11_touch_111 (by decide) ?_
  refine z_iald hx hb hK hP 0 0 rfl rfl (e := 7) rfl (by omega) (by omega) dX11_touch_113 ?_
  refine lv_i2l (v := (S0 7).toInt64) hx hb dX11_touch_114 (rfl) ?_
  refine lv_aload_n hx hb dX11_touch_115 rfl (lv_at hl 3 rfl) ?_
  refine lv_iconst (v := 2) hx hb dX11_touch_116 (by decide) ?_
  refine z_iald hx hb hK hP 0 0 rfl rfl (e := 2) rfl (by omega) (by omega) dX11_touch_117 ?_
  refine lv_i2l (v := (S0 2).toInt64) hx hb dX11_touch_118 (rfl) ?_
  refine lv_aload_n hx hb dX11_touch_119 rfl (lv_at hl 3 rfl) ?_
  refine lv_iconst (v := 3) hx hb dX11_touch_120 (by decide) ?_
  refine z_iald hx hb hK hP 0 0 rfl rfl (e := 3) rfl (by omega) (by omega) dX11_touch_121 ?_
  refine lv_i2l (v := (S0 3).toInt64) hx hb dX11_touch_122 (rfl) ?_
  have hPc := hP.sub (ws' := []) [] rfl
  have hDc := hD.sub (ws' := []) [] (by decide) rfl
  have hFc := va_free (wc := []) hD hS hA [] rfl
  refine zcall (st1 := [.long (jI (cr (S0 4).toInt (S0 5).toInt (S0 6).toInt (S0 7).toInt (S0 2).toInt (S0 3).toInt))]) (va_runS (As := [.long ((S0 4).toInt64), .long ((S0 5).toInt64), .long ((S0 6).toInt64), .long ((S0 7).toInt64), .long ((S0 2).toInt64), .long ((S0 3).toInt64)]) (rest := []) ⟨hx, hb, hml, hown, hts⟩ (k_M_cross l dC dI cI cZ cF H.size (S0 4) (S0 5) (S0 6) (S0 7) (S0 2) (S0 3) (hs _ (by omega)) (hs _ (by omega)) (hs _ (by omega)) (hs _ (by omega)) (hs _ (by omega)) (hs _ (by omega))) (va_cwS 6 hts (zz_gS mw_1381 mw_1382 mw_110 mc_yX11_cross) rfl rfl rfl (by decide +kernel) ⟨Nat.le_of_ble_eq_true rfl, Nat.le_of_ble_eq_true rfl⟩) (zPS2 hPc hDc hK hXN) rfl rfl hl.1 rfl (lv_room (Nat.le_of_ble_eq_true rfl)) dX11_touch_123 ⟨Nat.le_of_ble_eq_true rfl, Nat.le_of_ble_eq_true rfl⟩) hS hFc hFc rfl (fun t H1 locs ht hB hk1 hS => ?_)
  obtain ⟨hP1, hD1⟩ := hB
  rw [ht] at hP1
  obtain ⟨hP, hD⟩ := va_join (wr := [(oa sa cI 8 S0)]) (w1 := []) hP hD [] [0] rfl rfl (by decide) (by decide) hk1 hFc hP1 hD1
  clear hk1 hPc hDc hFc hP1 hD1 ht
  generalize H1 = H at hP hS ⊢
  have hP : va_P (dC, dI) classes [(oa sa cI 8 S0)] H := hP
  have hD : va_D A [(oa sa cI 8 S0)] := hD
  have hPc := hP.sub (ws' := []) [] rfl
  have hDc := hD.sub (ws' := []) [] (by decide) rfl
  have hFc := va_free (wc := []) hD hS hA [] rfl
  refine zcall (st1 := [.int (iI (sg (cr (S0 4).toInt (S0 5).toInt (S0 6).toInt (S0 7).toInt (S0 2).toInt (S0 3).toInt)))]) (va_runS (As := [.long (jI (cr (S0 4).toInt (S0 5).toInt (S0 6).toInt (S0 7).toInt (S0 2).toInt (S0 3).toInt))]) (rest := []) ⟨hx, hb, hml, hown, hts⟩ (k_M_signOf l dC dI cI cZ cF H.size (cr (S0 4).toInt (S0 5).toInt (S0 6).toInt (S0 7).toInt (S0 2).toInt (S0 3).toInt) (by omega)) (va_cwS 1 hts (zz_gS mw_1391 mw_1392 mw_110 mc_yX11_signOf) rfl rfl rfl (by decide +kernel) ⟨Nat.le_of_ble_eq_true rfl, Nat.le_of_ble_eq_true rfl⟩) (zPS2 hPc hDc hK hXN) rfl rfl hl.1 rfl (lv_room (Nat.le_of_ble_eq_true rfl)) dX11_touch_126 ⟨Nat.le_of_ble_eq_true rfl, Nat.le_of_ble_eq_true rfl⟩) hS hFc hFc rfl (fun t H1 locs ht hB hk1 hS => ?_)
  obtain ⟨hP1, hD1⟩ := hB
  rw [ht] at hP1
  obtain ⟨hP, hD⟩ := va_join (wr := [(oa sa cI 8 S0)]) (w1 := []) hP hD [] [0] rfl rfl (by decide) (by decide) hk1 hFc hP1 hD1
  clear hk1 hPc hDc hFc hP1 hD1 ht
  generalize H1 = H at hP hS ⊢
  have hP : va_P (dC, dI) classes [(oa sa cI 8 S0)] H := hP
  have hD : va_D A [(oa sa cI 8 S0)] := hD
  refine lv_istore (lv' := [(4, .int (iI (sg (cr (S0 4).toInt (S0 5).toInt (S0 6).toInt (S0 7).toInt (S0 2).toInt (S0 3).toInt)))), (3, .int (iI (sg (cr (S0 4).toInt (S0 5).toInt (S0 6).toInt (S0 7).toInt (S0 0).toInt (S0 1).toInt)))), (2, .int (iI (sg (cr (S0 0).toInt (S0 1).toInt (S0 2).toInt (S0 3).toInt (S0 6).toInt (S0 7).toInt)))), (1, .int (iI (sg (cr (S0 0).toInt (S0 1).toInt (S0 2).toInt (S0 3).toInt (S0 4).toInt (S0 5).toInt)))), (0, .ref sa)]) hx hb dX11_touch_129 hl (by decide) rfl (fun ls hl => ?_)
  refine lv_iload_n hx hb dX11_touch_131 rfl (lv_at hl 3 rfl) ?_
  refine lv_iload_n hx hb dX11_touch_132 rfl (lv_at hl 2 rfl) ?_
  refine lv_imul hx hb dX11_touch_133 ?_
  refine zz_i (v := iI (sg (cr (S0 0).toInt (S0 1).toInt (S0 2).toInt (S0 3).toInt (S0 4).toInt (S0 5).toInt) * sg (cr (S0 0).toInt (S0 1).toInt (S0 2).toInt (S0 3).toInt (S0 6).toInt (S0 7).toInt))) (sg_mul _ _) ?_
  have hm1 := sgmB (cr (S0 0).toInt (S0 1).toInt (S0 2).toInt (S0 3).toInt (S0 4).toInt (S0 5).toInt) (cr (S0 0).toInt (S0 1).toInt (S0 2).toInt (S0 3).toInt (S0 6).toInt (S0 7).toInt)
  refine lv_if_ge (tgt := 146) hx hb dX11_touch_134 (by decide) (fun c_1 => ?_) (fun c_1 => ?_)
  · have c_1 : 0 ≤ (sg (cr (S0 0).toInt (S0 1).toInt (S0 2).toInt (S0 3).toInt (S0 4).toInt (S0 5).toInt) * sg (cr (S0 0).toInt (S0 1).toInt (S0 2).toInt (S0 3).toInt (S0 6).toInt (S0 7).toInt)) := zc_le (by decide) (iI_toInt (by omega)) c_1
    refine lv_aload_n hx hb dX11_touch_146 rfl (lv_at hl 4 rfl) ?_
    refine lv_iconst (v := 0) hx hb dX11_touch_147 (by decide) ?_
    refine z_iald hx hb hK hP 0 0 rfl rfl (e := 0) rfl (by omega) (by omega) dX11_touch_148 ?_
    refine lv_aload_n hx hb dX11_touch_149 rfl (lv_at hl 4 rfl) ?_
    refine lv_iconst (v := 1) hx hb dX11_touch_150 (by decide) ?_
    refine z_iald hx hb hK hP 0 0 rfl rfl (e := 1) rfl (by omega) (by omega) dX11_touch_151 ?_
    refine lv_aload_n hx hb dX11_touch_152 rfl (lv_at hl 4 rfl) ?_
    refine lv_iconst (v := 2) hx hb dX11_touch_153 (by decide) ?_
    refine z_iald hx hb hK hP 0 0 rfl rfl (e := 2) rfl (by omega) (by omega) dX11_touch_154 ?_
    refine lv_aload_n hx hb dX11_touch_155 rfl (lv_at hl 4 rfl) ?_
    refine lv_iconst (v := 3) hx hb dX11_touch_156 (by decide) ?_
    refine z_iald hx hb hK hP 0 0 rfl rfl (e := 3) rfl (by omega) (by omega) dX11_touch_157 ?_
    refine lv_aload_n hx hb dX11_touch_158 rfl (lv_at hl 4 rfl) ?_
    refine lv_iconst (v := 4) hx hb dX11_touch_159 (by decide) ?_
    refine z_iald hx hb hK hP 0 0 rfl rfl (e := 4) rfl (by omega) (by omega) dX11_touch_160 ?_
    refine lv_aload_n hx hb dX11_touch_161 rfl (lv_at hl 4 rfl) ?_
    refine lv_iconst (v := 5) hx hb dX11_touch_162 (by decide) ?_
    refine z_iald hx hb hK hP 0 0 rfl rfl (e := 5) rfl (by omega) (by omega) dX11_touch_163 ?_
    have hPc := hP.sub (ws' := []) [] rfl
    have hDc := hD.sub (ws' := []) [] (by decide) rfl
    have hFc := va_free (wc := []) hD hS hA [] rfl
    refine zcall (st1 := [.int (pI (onS (S0 0).toInt (S0 1).toInt (S0 2).toInt (S0 3).toInt (S0 4).toInt (S0 5).toInt))]) (va_runS (As := [.int (S0 0), .int (S0 1), .int (S0 2), .int (S0 3), .int (S0 4), .int (S0 5)]) (rest := []) ⟨hx, hb, hml, hown, hts⟩ (k_M_isOn l dC dI cI cZ cF H.size (S0 0) (S0 1) (S0 2) (S0 3) (S0 4) (S0 5) (hs _ (by omega)) (hs _ (by omega)) (hs _ (by omega)) (hs _ (by omega)) (hs _ (by omega)) (hs _ (by omega))) (va_cwS 6 hts (zz_gS mw_1394 mw_1395 mw_110 mc_yX11_isOn) rfl rfl rfl (by decide +kernel) ⟨Nat.le_of_ble_eq_true rfl, Nat.le_of_ble_eq_true rfl⟩) (zPS2 hPc hDc hK hXN) rfl rfl hl.1 rfl (lv_room (Nat.le_of_ble_eq_true rfl)) dX11_touch_164 ⟨Nat.le_of_ble_eq_true rfl, Nat.le_of_ble_eq_true rfl⟩) hS hFc hFc rfl (fun t H1 locs ht hB hk1 hS => ?_)
    obtain ⟨hP1, hD1⟩ := hB
    rw [ht] at hP1
    obtain ⟨hP, hD⟩ := va_join (wr := [(oa sa cI 8 S0)]) (w1 := []) hP hD [] [0] rfl rfl (by decide) (by decide) hk1 hFc hP1 hD1
    clear hk1 hPc hDc hFc hP1 hD1 ht
    generalize H1 = H at hP hS ⊢
    have hP : va_P (dC, dI) classes [(oa sa cI 8 S0)] H := hP
    have hD : va_D A [(oa sa cI 8 S0)] := hD
    refine lv_if_ne (tgt := 196) hx hb dX11_touch_167 (by decide) (fun c_2 => ?_) (fun c_2 => ?_)
    · have c_2 : onS (S0 0).toInt (S0 1).toInt (S0 2).toInt (S0 3).toInt (S0 4).toInt (S0 5).toInt := zp_1 c_2
      refine lv_iconst (v := 1) hx hb dX11_touch_196 (by decide) ?_
      refine lv_goto (tgt := 201) hx hb dX11_touch_197 (by decide) ?_
      refine lv_istore (lv' := [(5, .int 1), (4, .int (iI (sg (cr (S0 4).toInt (S0 5).toInt (S0 6).toInt (S0 7).toInt (S0 2).toInt (S0 3).toInt)))), (3, .int (iI (sg (cr (S0 4).toInt (S0 5).toInt (S0 6).toInt (S0 7).toInt (S0 0).toInt (S0 1).toInt)))), (2, .int (iI (sg (cr (S0 0).toInt (S0 1).toInt (S0 2).toInt (S0 3).toInt (S0 6).toInt (S0 7).toInt)))), (1, .int (iI (sg (cr (S0 0).toInt (S0 1).toInt (S0 2).toInt (S0 3).toInt (S0 4).toInt (S0 5).toInt)))), (0, .ref sa)]) hx hb dX11_touch_201 hl (by decide) rfl (fun ls hl => ?_)
      refine lv_iload hx hb dX11_touch_203 (lv_at hl 0 rfl) ?_
      refine lv_if_ne (tgt := 260) hx hb dX11_touch_205 (by decide) (fun c_3 => ?_) (fun c_3 => ?_)
      · refine lv_iconst (v := 1) hx hb dX11_touch_260 (by decide) ?_
        refine lv_goto (tgt := 265) hx hb dX11_touch_261 (by decide) ?_
        have hP9 := hP.sub (ws' := [(oa sa cI 8 S0)]) [0] rfl
        have hD9 := hD.sub (ws' := [(oa sa cI 8 S0)]) [0] (by decide) rfl
        rw [hQ9]
        exact W.zret (ty := .boolean) (v := 1) hx hb hr (rfl) (fun t ht hW => ⟨⟨congrArg (fun z => Outcome.returned (some (Value.int z))) (show (1 : Int32) = pI (mtC (S0 0).toInt (S0 1).toInt (S0 2).toInt (S0 3).toInt (S0 4).toInt (S0 5).toInt (S0 6).toInt (S0 7).toInt) from (zp_t (by rw [← mtM_iff]; unfold mtM; first | (simp only [*, true_or, or_true]; done) | (rw [← sg_neg, ← sg_neg]; omega) | (rw [← sg_neg, ← sg_neg]; intro h; rcases h with h | h | h | h | h <;> first | contradiction | omega))).symm), by rw [ht]; exact hP9, hD9⟩, hS.F ht⟩) hS.2.2 dX11_touch_265
      · exact absurd c_3 (by decide)
    · have c_2 : ¬ (onS (S0 0).toInt (S0 1).toInt (S0 2).toInt (S0 3).toInt (S0 4).toInt (S0 5).toInt) := zp_0 c_2
      refine lv_aload_n hx hb dX11_touch_170 rfl (lv_at hl 4 rfl) ?_
      refine lv_iconst (v := 0) hx hb dX11_touch_171 (by decide) ?_
      refine z_iald hx hb hK hP 0 0 rfl rfl (e := 0) rfl (by omega) (by omega) dX11_touch_172 ?_
      refine lv_aload_n hx hb dX11_touch_173 rfl (lv_at hl 4 rfl) ?_
      refine lv_iconst (v := 1) hx hb dX11_touch_174 (by decide) ?_
      refine z_iald hx hb hK hP 0 0 rfl rfl (e := 1) rfl (by omega) (by omega) dX11_touch_175 ?_
      refine lv_aload_n hx hb dX11_touch_176 rfl (lv_at hl 4 rfl) ?_
      refine lv_iconst (v := 2) hx hb dX11_touch_177 (by decide) ?_
      refine z_iald hx hb hK hP 0 0 rfl rfl (e := 2) rfl (by omega) (by omega) dX11_touch_178 ?_
      refine lv_aload_n hx hb dX11_touch_179 rfl (lv_at hl 4 rfl) ?_
      refine lv_iconst (v := 3) hx hb dX11_touch_180 (by decide) ?_
      refine z_iald hx hb hK hP 0 0 rfl rfl (e := 3) rfl (by omega) (by omega) dX11_touch_181 ?_
      refine lv_aload_n hx hb dX11_touch_182 rfl (lv_at hl 4 rfl) ?_
      refine lv_bipush (v := 6) hx hb dX11_touch_183 (by decide) ?_
      refine z_iald hx hb hK hP 0 0 rfl rfl (e := 6) rfl (by omega) (by omega) dX11_touch_185 ?_
      refine lv_aload_n hx hb dX11_touch_186 rfl (lv_at hl 4 rfl) ?_
      refine lv_bipush (v := 7) hx hb dX11_touch_187 (by decide) ?_
      refine z_iald hx hb hK hP 0 0 rfl rfl (e := 7) rfl (by omega) (by omega) dX11_touch_189 ?_
      have hPc := hP.sub (ws' := []) [] rfl
      have hDc := hD.sub (ws' := []) [] (by decide) rfl
      have hFc := va_free (wc := []) hD hS hA [] rfl
      refine zcall (st1 := [.int (pI (onS (S0 0).toInt (S0 1).toInt (S0 2).toInt (S0 3).toInt (S0 6).toInt (S0 7).toInt))]) (va_runS (As := [.int (S0 0), .int (S0 1), .int (S0 2), .int (S0 3), .int (S0 6), .int (S0 7)]) (rest := []) ⟨hx, hb, hml, hown, hts⟩ (k_M_isOn l dC dI cI cZ cF H.size (S0 0) (S0 1) (S0 2) (S0 3) (S0 6) (S0 7) (hs _ (by omega)) (hs _ (by omega)) (hs _ (by omega)) (hs _ (by omega)) (hs _ (by omega)) (hs _ (by omega))) (va_cwS 6 hts (zz_gS mw_1394 mw_1395 mw_110 mc_yX11_isOn) rfl rfl rfl (by decide +kernel) ⟨Nat.le_of_ble_eq_true rfl, Nat.le_of_ble_eq_true rfl⟩) (zPS2 hPc hDc hK hXN) rfl rfl hl.1 rfl (lv_room (Nat.le_of_ble_eq_true rfl)) dX11_touch_190 ⟨Nat.le_of_ble_eq_true rfl, Nat.le_of_ble_eq_true rfl⟩) hS hFc hFc rfl (fun t H1 locs ht hB hk1 hS => ?_)
      obtain ⟨hP1, hD1⟩ := hB
      rw [ht] at hP1
      obtain ⟨hP, hD⟩ := va_join (wr := [(oa sa cI 8 S0)]) (w1 := []) hP hD [] [0] rfl rfl (by decide) (by decide) hk1 hFc hP1 hD1
      clear hk1 hPc hDc hFc hP1 hD1 ht
      generalize H1 = H at hP hS ⊢
      have hP : va_P (dC, dI) classes [(oa sa cI 8 S0)] H := hP
      have hD : va_D A [(oa sa cI 8 S0)] := hD
      refine lv_if_eq (tgt := 200) hx hb dX11_touch_193 (by decide) (fun c_4 => ?_) (fun c_4 => ?_)
      · have c_4 : ¬ (onS (S0 0).toInt (S0 1).toInt (S0 2).toInt (S0 3).toInt (S0 6).toInt (S0 7).toInt) := zp_0 c_4
        refine lv_iconst (v := 0) hx hb dX11_touch_200 (by decide) ?_
        refine lv_istore (lv' := [(5, .int 0), (4, .int (iI (sg (cr (S0 4).toInt (S0 5).toInt (S0 6).toInt (S0 7).toInt (S0 2).toInt (S0 3).toInt)))), (3, .int (iI (sg (cr (S0 4).toInt (S0 5).toInt (S0 6).toInt (S0 7).toInt (S0 0).toInt (S0 1).toInt)))), (2, .int (iI (sg (cr (S0 0).toInt (S0 1).toInt (S0 2).toInt (S0 3).toInt (S0 6).toInt (S0 7).toInt)))), (1, .int (iI (sg (cr (S0 0).toInt (S0 1).toInt (S0 2).toInt (S0 3).toInt (S0 4).toInt (S0 5).toInt)))), (0, .ref sa)]) hx hb dX11_touch_201 hl (by decide) rfl (fun ls hl => ?_)
        refine lv_iload hx hb dX11_touch_203 (lv_at hl 0 rfl) ?_
        refine lv_if_ne (tgt := 260) hx hb dX11_touch_205 (by decide) (fun c_5 => ?_) (fun c_5 => ?_)
        · exact absurd (by decide) c_5
        · refine lv_aload_n hx hb dX11_touch_208 rfl (lv_at hl 5 rfl) ?_
          refine lv_iconst (v := 4) hx hb dX11_touch_209 (by decide) ?_
          refine z_iald hx hb hK hP 0 0 rfl rfl (e := 4) rfl (by omega) (by omega) dX11_touch_210 ?_
          refine lv_aload_n hx hb dX11_touch_211 rfl (lv_at hl 5 rfl) ?_
          refine lv_iconst (v := 5) hx hb dX11_touch_212 (by decide) ?_
          refine z_iald hx hb hK hP 0 0 rfl rfl (e := 5) rfl (by omega) (by omega) dX11_touch_213 ?_
          refine lv_aload_n hx hb dX11_touch_214 rfl (lv_at hl 5 rfl) ?_
          refine lv_bipush (v := 6) hx hb dX11_touch_215 (by decide) ?_
          refine z_iald hx hb hK hP 0 0 rfl rfl (e := 6) rfl (by omega) (by omega) dX11_touch_217 ?_
          refine lv_aload_n hx hb dX11_touch_218 rfl (lv_at hl 5 rfl) ?_
          refine lv_bipush (v := 7) hx hb dX11_touch_219 (by decide) ?_
          refine z_iald hx hb hK hP 0 0 rfl rfl (e := 7) rfl (by omega) (by omega) dX11_touch_221 ?_
          refine lv_aload_n hx hb dX11_touch_222 rfl (lv_at hl 5 rfl) ?_
          refine lv_iconst (v := 0) hx hb dX11_touch_223 (by decide) ?_
          refine z_iald hx hb hK hP 0 0 rfl rfl (e := 0) rfl (by omega) (by omega) dX11_touch_224 ?_
          refine lv_aload_n hx hb dX11_touch_225 rfl (lv_at hl 5 rfl) ?_
          refine lv_iconst (v := 1) hx hb dX11_touch_226 (by decide) ?_
          refine z_iald hx hb hK hP 0 0 rfl rfl (e := 1) rfl (by omega) (by omega) dX11_touch_227 ?_
          have hPc := hP.sub (ws' := []) [] rfl
          have hDc := hD.sub (ws' := []) [] (by decide) rfl
          have hFc := va_free (wc := []) hD hS hA [] rfl
          refine zcall (st1 := [.int (pI (onS (S0 4).toInt (S0 5).toInt (S0 6).toInt (S0 7).toInt (S0 0).toInt (S0 1).toInt))]) (va_runS (As := [.int (S0 4), .int (S0 5), .int (S0 6), .int (S0 7), .int (S0 0), .int (S0 1)]) (rest := []) ⟨hx, hb, hml, hown, hts⟩ (k_M_isOn l dC dI cI cZ cF H.size (S0 4) (S0 5) (S0 6) (S0 7) (S0 0) (S0 1) (hs _ (by omega)) (hs _ (by omega)) (hs _ (by omega)) (hs _ (by omega)) (hs _ (by omega)) (hs _ (by omega))) (va_cwS 6 hts (zz_gS mw_1394 mw_1395 mw_110 mc_yX11_isOn) rfl rfl rfl (by decide +kernel) ⟨Nat.le_of_ble_eq_true rfl, Nat.le_of_ble_eq_true rfl⟩) (zPS2 hPc hDc hK hXN) rfl rfl hl.1 rfl (lv_room (Nat.le_of_ble_eq_true rfl)) dX11_touch_228 ⟨Nat.le_of_ble_eq_true rfl, Nat.le_of_ble_eq_true rfl⟩) hS hFc hFc rfl (fun t H1 locs ht hB hk1 hS => ?_)
          obtain ⟨hP1, hD1⟩ := hB
          rw [ht] at hP1
          obtain ⟨hP, hD⟩ := va_join (wr := [(oa sa cI 8 S0)]) (w1 := []) hP hD [] [0] rfl rfl (by decide) (by decide) hk1 hFc hP1 hD1
          clear hk1 hPc hDc hFc hP1 hD1 ht
          generalize H1 = H at hP hS ⊢
          have hP : va_P (dC, dI) classes [(oa sa cI 8 S0)] H := hP
          have hD : va_D A [(oa sa cI 8 S0)] := hD
          refine lv_if_ne (tgt := 260) hx hb dX11_touch_231 (by decide) (fun c_6 => ?_) (fun c_6 => ?_)
          · have c_6 : onS (S0 4).toInt (S0 5).toInt (S0 6).toInt (S0 7).toInt (S0 0).toInt (S0 1).toInt := zp_1 c_6
            refine lv_iconst (v := 1) hx hb dX11_touch_260 (by decide) ?_
            refine lv_goto (tgt := 265) hx hb dX11_touch_261 (by decide) ?_
            have hP9 := hP.sub (ws' := [(oa sa cI 8 S0)]) [0] rfl
            have hD9 := hD.sub (ws' := [(oa sa cI 8 S0)]) [0] (by decide) rfl
            rw [hQ9]
            exact W.zret (ty := .boolean) (v := 1) hx hb hr (rfl) (fun t ht hW => ⟨⟨congrArg (fun z => Outcome.returned (some (Value.int z))) (show (1 : Int32) = pI (mtC (S0 0).toInt (S0 1).toInt (S0 2).toInt (S0 3).toInt (S0 4).toInt (S0 5).toInt (S0 6).toInt (S0 7).toInt) from (zp_t (by rw [← mtM_iff]; unfold mtM; first | (simp only [*, true_or, or_true]; done) | (rw [← sg_neg, ← sg_neg]; omega) | (rw [← sg_neg, ← sg_neg]; intro h; rcases h with h | h | h | h | h <;> first | contradiction | omega))).symm), by rw [ht]; exact hP9, hD9⟩, hS.F ht⟩) hS.2.2 dX11_touch_265
          · have c_6 : ¬ (onS (S0 4).toInt (S0 5).toInt (S0 6).toInt (S0 7).toInt (S0 0).toInt (S0 1).toInt) := zp_0 c_6
            refine lv_aload_n hx hb dX11_touch_234 rfl (lv_at hl 5 rfl) ?_
            refine lv_iconst (v := 4) hx hb dX11_touch_235 (by decide) ?_
            refine z_iald hx hb hK hP 0 0 rfl rfl (e := 4) rfl (by omega) (by omega) dX11_touch_236 ?_
            refine lv_aload_n hx hb dX11_touch_237 rfl (lv_at hl 5 rfl) ?_
            refine lv_iconst (v := 5) hx hb dX11_touch_238 (by decide) ?_
            refine z_iald hx hb hK hP 0 0 rfl rfl (e := 5) rfl (by omega) (by omega) dX11_touch_239 ?_
            refine lv_aload_n hx hb dX11_touch_240 rfl (lv_at hl 5 rfl) ?_
            refine lv_bipush (v := 6) hx hb dX11_touch_241 (by decide) ?_
            refine z_iald hx hb hK hP 0 0 rfl rfl (e := 6) rfl (by omega) (by omega) dX11_touch_243 ?_
            refine lv_aload_n hx hb dX11_touch_244 rfl (lv_at hl 5 rfl) ?_
            refine lv_bipush (v := 7) hx hb dX11_touch_245 (by decide) ?_
            refine z_iald hx hb hK hP 0 0 rfl rfl (e := 7) rfl (by omega) (by omega) dX11_touch_247 ?_
            refine lv_aload_n hx hb dX11_touch_248 rfl (lv_at hl 5 rfl) ?_
            refine lv_iconst (v := 2) hx hb dX11_touch_249 (by decide) ?_
            refine z_iald hx hb hK hP 0 0 rfl rfl (e := 2) rfl (by omega) (by omega) dX11_touch_250 ?_
            refine lv_aload_n hx hb dX11_touch_251 rfl (lv_at hl 5 rfl) ?_
            refine lv_iconst (v := 3) hx hb dX11_touch_252 (by decide) ?_
            refine z_iald hx hb hK hP 0 0 rfl rfl (e := 3) rfl (by omega) (by omega) dX11_touch_253 ?_
            have hPc := hP.sub (ws' := []) [] rfl
            have hDc := hD.sub (ws' := []) [] (by decide) rfl
            have hFc := va_free (wc := []) hD hS hA [] rfl
            refine zcall (st1 := [.int (pI (onS (S0 4).toInt (S0 5).toInt (S0 6).toInt (S0 7).toInt (S0 2).toInt (S0 3).toInt))]) (va_runS (As := [.int (S0 4), .int (S0 5), .int (S0 6), .int (S0 7), .int (S0 2), .int (S0 3)]) (rest := []) ⟨hx, hb, hml, hown, hts⟩ (k_M_isOn l dC dI cI cZ cF H.size (S0 4) (S0 5) (S0 6) (S0 7) (S0 2) (S0 3) (hs _ (by omega)) (hs _ (by omega)) (hs _ (by omega)) (hs _ (by omega)) (hs _ (by omega)) (hs _ (by omega))) (va_cwS 6 hts (zz_gS mw_1394 mw_1395 mw_110 mc_yX11_isOn) rfl rfl rfl (by decide +kernel) ⟨Nat.le_of_ble_eq_true rfl, Nat.le_of_ble_eq_true rfl⟩) (zPS2 hPc hDc hK hXN) rfl rfl hl.1 rfl (lv_room (Nat.le_of_ble_eq_true rfl)) dX11_touch_254 ⟨Nat.le_of_ble_eq_true rfl, Nat.le_of_ble_eq_true rfl⟩) hS hFc hFc rfl (fun t H1 locs ht hB hk1 hS => ?_)
            obtain ⟨hP1, hD1⟩ := hB
            rw [ht] at hP1
            obtain ⟨hP, hD⟩ := va_join (wr := [(oa sa cI 8 S0)]) (w1 := []) hP hD [] [0] rfl rfl (by decide) (by decide) hk1 hFc hP1 hD1
            clear hk1 hPc hDc hFc hP1 hD1 ht
            generalize H1 = H at hP hS ⊢
            have hP : va_P (dC, dI) classes [(oa sa cI 8 S0)] H := hP
            have hD : va_D A [(oa sa cI 8 S0)] := hD
            refine lv_if_eq (tgt := 264) hx hb dX11_touch_257 (by decide) (fun c_7 => ?_) (fun c_7 => ?_)
            · have c_7 : ¬ (onS (S0 4).toInt (S0 5).toInt (S0 6).toInt (S0 7).toInt (S0 2).toInt (S0 3).toInt) := zp_0 c_7
              refine lv_iconst (v := 0) hx hb dX11_touch_264 (by decide) ?_
              have hP9 := hP.sub (ws' := [(oa sa cI 8 S0)]) [0] rfl
              have hD9 := hD.sub (ws' := [(oa sa cI 8 S0)]) [0] (by decide) rfl
              rw [hQ9]
              exact W.zret (ty := .boolean) (v := 0) hx hb hr (rfl) (fun t ht hW => ⟨⟨congrArg (fun z => Outcome.returned (some (Value.int z))) (show (0 : Int32) = pI (mtC (S0 0).toInt (S0 1).toInt (S0 2).toInt (S0 3).toInt (S0 4).toInt (S0 5).toInt (S0 6).toInt (S0 7).toInt) from (zp_f (by rw [← mtM_iff]; unfold mtM; first | (simp only [*, true_or, or_true]; done) | (rw [← sg_neg, ← sg_neg]; omega) | (rw [← sg_neg, ← sg_neg]; intro h; rcases h with h | h | h | h | h <;> first | contradiction | omega))).symm), by rw [ht]; exact hP9, hD9⟩, hS.F ht⟩) hS.2.2 dX11_touch_265
            · have c_7 : onS (S0 4).toInt (S0 5).toInt (S0 6).toInt (S0 7).toInt (S0 2).toInt (S0 3).toInt := zp_1 c_7
              refine lv_iconst (v := 1) hx hb dX11_touch_260 (by decide) ?_
              refine lv_goto (tgt := 265) hx hb dX11_touch_261 (by decide) ?_
              have hP9 := hP.sub (ws' := [(oa sa cI 8 S0)]) [0] rfl
              have hD9 := hD.sub (ws' := [(oa sa cI 8 S0)]) [0] (by decide) rfl
              rw [hQ9]
              exact W.zret (ty := .boolean) (v := 1) hx hb hr (rfl) (fun t ht hW => ⟨⟨congrArg (fun z => Outcome.returned (some (Value.int z))) (show (1 : Int32) = pI (mtC (S0 0).toInt (S0 1).toInt (S0 2).toInt (S0 3).toInt (S0 4).toInt (S0 5).toInt (S0 6).toInt (S0 7).toInt) from (zp_t (by rw [← mtM_iff]; unfold mtM; first | (simp only [*, true_or, or_true]; done) | (rw [← sg_neg, ← sg_neg]; omega) | (rw [← sg_neg, ← sg_neg]; intro h; rcases h with h | h | h | h | h <;> first | contradiction | omega))).symm), by rw [ht]; exact hP9, hD9⟩, hS.F ht⟩) hS.2.2 dX11_touch_265
      · have c_4 : onS (S0 0).toInt (S0 1).toInt (S0 2).toInt (S0 3).toInt (S0 6).toInt (S0 7).toInt := zp_1 c_4
        refine lv_iconst (v := 1) hx hb dX11_touch_196 (by decide) ?_
        refine lv_goto (tgt := 201) hx hb dX11_touch_197 (by decide) ?_
        refine lv_istore (lv' := [(5, .int 1), (4, .int (iI (sg (cr (S0 4).toInt (S0 5).toInt (S0 6).toInt (S0 7).toInt (S0 2).toInt (S0 3).toInt)))), (3, .int (iI (sg (cr (S0 4).toInt (S0 5).toInt (S0 6).toInt (S0 7).toInt (S0 0).toInt (S0 1).toInt)))), (2, .int (iI (sg (cr (S0 0).toInt (S0 1).toInt (S0 2).toInt (S0 3).toInt (S0 6).toInt (S0 7).toInt)))), (1, .int (iI (sg (cr (S0 0).toInt (S0 1).toInt (S0 2).toInt (S0 3).toInt (S0 4).toInt (S0 5).toInt)))), (0, .ref sa)]) hx hb dX11_touch_201 hl (by decide) rfl (fun ls hl => ?_)
        refine lv_iload hx hb dX11_touch_203 (lv_at hl 0 rfl) ?_
        refine lv_if_ne (tgt := 260) hx hb dX11_touch_205 (by decide) (fun c_8 => ?_) (fun c_8 => ?_)
        · refine lv_iconst (v := 1) hx hb dX11_touch_260 (by decide) ?_
          refine lv_goto (tgt := 265) hx hb dX11_touch_261 (by decide) ?_
          have hP9 := hP.sub (ws' := [(oa sa cI 8 S0)]) [0] rfl
          have hD9 := hD.sub (ws' := [(oa sa cI 8 S0)]) [0] (by decide) rfl
          rw [hQ9]
          exact W.zret (ty := .boolean) (v := 1) hx hb hr (rfl) (fun t ht hW => ⟨⟨congrArg (fun z => Outcome.returned (some (Value.int z))) (show (1 : Int32) = pI (mtC (S0 0).toInt (S0 1).toInt (S0 2).toInt (S0 3).toInt (S0 4).toInt (S0 5).toInt (S0 6).toInt (S0 7).toInt) from (zp_t (by rw [← mtM_iff]; unfold mtM; first | (simp only [*, true_or, or_true]; done) | (rw [← sg_neg, ← sg_neg]; omega) | (rw [← sg_neg, ← sg_neg]; intro h; rcases h with h | h | h | h | h <;> first | contradiction | omega))).symm), by rw [ht]; exact hP9, hD9⟩, hS.F ht⟩) hS.2.2 dX11_touch_265
        · exact absurd c_8 (by decide)
  · have c_1 : (sg (cr (S0 0).toInt (S0 1).toInt (S0 2).toInt (S0 3).toInt (S0 4).toInt (S0 5).toInt) * sg (cr (S0 0).toInt (S0 1).toInt (S0 2).toInt (S0 3).toInt (S0 6).toInt (S0 7).toInt)) < 0 := zc_nle (by decide) (iI_toInt (by omega)) c_1
    refine lv_iload_n hx hb dX11_touch_137 rfl (lv_at hl 1 rfl) ?_
    refine lv_iload hx hb dX11_touch_138 (lv_at hl 0 rfl) ?_
    refine lv_imul hx hb dX11_touch_140 ?_
    refine zz_i (v := iI (sg (cr (S0 4).toInt (S0 5).toInt (S0 6).toInt (S0 7).toInt (S0 0).toInt (S0 1).toInt) * sg (cr (S0 4).toInt (S0 5).toInt (S0 6).toInt (S0 7).toInt (S0 2).toInt (S0 3).toInt))) (sg_mul _ _) ?_
    have hm2 := sgmB (cr (S0 4).toInt (S0 5).toInt (S0 6).toInt (S0 7).toInt (S0 0).toInt (S0 1).toInt) (cr (S0 4).toInt (S0 5).toInt (S0 6).toInt (S0 7).toInt (S0 2).toInt (S0 3).toInt)
    refine lv_if_ge (tgt := 146) hx hb dX11_touch_141 (by decide) (fun c_9 => ?_) (fun c_9 => ?_)
    · have c_9 : 0 ≤ (sg (cr (S0 4).toInt (S0 5).toInt (S0 6).toInt (S0 7).toInt (S0 0).toInt (S0 1).toInt) * sg (cr (S0 4).toInt (S0 5).toInt (S0 6).toInt (S0 7).toInt (S0 2).toInt (S0 3).toInt)) := zc_le (by decide) (iI_toInt (by omega)) c_9
      refine lv_aload_n hx hb dX11_touch_146 rfl (lv_at hl 4 rfl) ?_
      refine lv_iconst (v := 0) hx hb dX11_touch_147 (by decide) ?_
      refine z_iald hx hb hK hP 0 0 rfl rfl (e := 0) rfl (by omega) (by omega) dX11_touch_148 ?_
      refine lv_aload_n hx hb dX11_touch_149 rfl (lv_at hl 4 rfl) ?_
      refine lv_iconst (v := 1) hx hb dX11_touch_150 (by decide) ?_
      refine z_iald hx hb hK hP 0 0 rfl rfl (e := 1) rfl (by omega) (by omega) dX11_touch_151 ?_
      refine lv_aload_n hx hb dX11_touch_152 rfl (lv_at hl 4 rfl) ?_
      refine lv_iconst (v := 2) hx hb dX11_touch_153 (by decide) ?_
      refine z_iald hx hb hK hP 0 0 rfl rfl (e := 2) rfl (by omega) (by omega) dX11_touch_154 ?_
      refine lv_aload_n hx hb dX11_touch_155 rfl (lv_at hl 4 rfl) ?_
      refine lv_iconst (v := 3) hx hb dX11_touch_156 (by decide) ?_
      refine z_iald hx hb hK hP 0 0 rfl rfl (e := 3) rfl (by omega) (by omega) dX11_touch_157 ?_
      refine lv_aload_n hx hb dX11_touch_158 rfl (lv_at hl 4 rfl) ?_
      refine lv_iconst (v := 4) hx hb dX11_touch_159 (by decide) ?_
      refine z_iald hx hb hK hP 0 0 rfl rfl (e := 4) rfl (by omega) (by omega) dX11_touch_160 ?_
      refine lv_aload_n hx hb dX11_touch_161 rfl (lv_at hl 4 rfl) ?_
      refine lv_iconst (v := 5) hx hb dX11_touch_162 (by decide) ?_
      refine z_iald hx hb hK hP 0 0 rfl rfl (e := 5) rfl (by omega) (by omega) dX11_touch_163 ?_
      have hPc := hP.sub (ws' := []) [] rfl
      have hDc := hD.sub (ws' := []) [] (by decide) rfl
      have hFc := va_free (wc := []) hD hS hA [] rfl
      refine zcall (st1 := [.int (pI (onS (S0 0).toInt (S0 1).toInt (S0 2).toInt (S0 3).toInt (S0 4).toInt (S0 5).toInt))]) (va_runS (As := [.int (S0 0), .int (S0 1), .int (S0 2), .int (S0 3), .int (S0 4), .int (S0 5)]) (rest := []) ⟨hx, hb, hml, hown, hts⟩ (k_M_isOn l dC dI cI cZ cF H.size (S0 0) (S0 1) (S0 2) (S0 3) (S0 4) (S0 5) (hs _ (by omega)) (hs _ (by omega)) (hs _ (by omega)) (hs _ (by omega)) (hs _ (by omega)) (hs _ (by omega))) (va_cwS 6 hts (zz_gS mw_1394 mw_1395 mw_110 mc_yX11_isOn) rfl rfl rfl (by decide +kernel) ⟨Nat.le_of_ble_eq_true rfl, Nat.le_of_ble_eq_true rfl⟩) (zPS2 hPc hDc hK hXN) rfl rfl hl.1 rfl (lv_room (Nat.le_of_ble_eq_true rfl)) dX11_touch_164 ⟨Nat.le_of_ble_eq_true rfl, Nat.le_of_ble_eq_true rfl⟩) hS hFc hFc rfl (fun t H1 locs ht hB hk1 hS => ?_)
      obtain ⟨hP1, hD1⟩ := hB
      rw [ht] at hP1
      obtain ⟨hP, hD⟩ := va_join (wr := [(oa sa cI 8 S0)]) (w1 := []) hP hD [] [0] rfl rfl (by decide) (by decide) hk1 hFc hP1 hD1
      clear hk1 hPc hDc hFc hP1 hD1 ht
      generalize H1 = H at hP hS ⊢
      have hP : va_P (dC, dI) classes [(oa sa cI 8 S0)] H := hP
      have hD : va_D A [(oa sa cI 8 S0)] := hD
      refine lv_if_ne (tgt := 196) hx hb dX11_touch_167 (by decide) (fun c_10 => ?_) (fun c_10 => ?_)
      · have c_10 : onS (S0 0).toInt (S0 1).toInt (S0 2).toInt (S0 3).toInt (S0 4).toInt (S0 5).toInt := zp_1 c_10
        refine lv_iconst (v := 1) hx hb dX11_touch_196 (by decide) ?_
        refine lv_goto (tgt := 201) hx hb dX11_touch_197 (by decide) ?_
        refine lv_istore (lv' := [(5, .int 1), (4, .int (iI (sg (cr (S0 4).toInt (S0 5).toInt (S0 6).toInt (S0 7).toInt (S0 2).toInt (S0 3).toInt)))), (3, .int (iI (sg (cr (S0 4).toInt (S0 5).toInt (S0 6).toInt (S0 7).toInt (S0 0).toInt (S0 1).toInt)))), (2, .int (iI (sg (cr (S0 0).toInt (S0 1).toInt (S0 2).toInt (S0 3).toInt (S0 6).toInt (S0 7).toInt)))), (1, .int (iI (sg (cr (S0 0).toInt (S0 1).toInt (S0 2).toInt (S0 3).toInt (S0 4).toInt (S0 5).toInt)))), (0, .ref sa)]) hx hb dX11_touch_201 hl (by decide) rfl (fun ls hl => ?_)
        refine lv_iload hx hb dX11_touch_203 (lv_at hl 0 rfl) ?_
        refine lv_if_ne (tgt := 260) hx hb dX11_touch_205 (by decide) (fun c_11 => ?_) (fun c_11 => ?_)
        · refine lv_iconst (v := 1) hx hb dX11_touch_260 (by decide) ?_
          refine lv_goto (tgt := 265) hx hb dX11_touch_261 (by decide) ?_
          have hP9 := hP.sub (ws' := [(oa sa cI 8 S0)]) [0] rfl
          have hD9 := hD.sub (ws' := [(oa sa cI 8 S0)]) [0] (by decide) rfl
          rw [hQ9]
          exact W.zret (ty := .boolean) (v := 1) hx hb hr (rfl) (fun t ht hW => ⟨⟨congrArg (fun z => Outcome.returned (some (Value.int z))) (show (1 : Int32) = pI (mtC (S0 0).toInt (S0 1).toInt (S0 2).toInt (S0 3).toInt (S0 4).toInt (S0 5).toInt (S0 6).toInt (S0 7).toInt) from (zp_t (by rw [← mtM_iff]; unfold mtM; first | (simp only [*, true_or, or_true]; done) | (rw [← sg_neg, ← sg_neg]; omega) | (rw [← sg_neg, ← sg_neg]; intro h; rcases h with h | h | h | h | h <;> first | contradiction | omega))).symm), by rw [ht]; exact hP9, hD9⟩, hS.F ht⟩) hS.2.2 dX11_touch_265
        · exact absurd c_11 (by decide)
      · have c_10 : ¬ (onS (S0 0).toInt (S0 1).toInt (S0 2).toInt (S0 3).toInt (S0 4).toInt (S0 5).toInt) := zp_0 c_10
        refine lv_aload_n hx hb dX11_touch_170 rfl (lv_at hl 4 rfl) ?_
        refine lv_iconst (v := 0) hx hb dX11_touch_171 (by decide) ?_
        refine z_iald hx hb hK hP 0 0 rfl rfl (e := 0) rfl (by omega) (by omega) dX11_touch_172 ?_
        refine lv_aload_n hx hb dX11_touch_173 rfl (lv_at hl 4 rfl) ?_
        refine lv_iconst (v := 1) hx hb dX11_touch_174 (by decide) ?_
        refine z_iald hx hb hK hP 0 0 rfl rfl (e := 1) rfl (by omega) (by omega) dX11_touch_175 ?_
        refine lv_aload_n hx hb dX11_touch_176 rfl (lv_at hl 4 rfl) ?_
        refine lv_iconst (v := 2) hx hb dX11_touch_177 (by decide) ?_
        refine z_iald hx hb hK hP 0 0 rfl rfl (e := 2) rfl (by omega) (by omega) dX11_touch_178 ?_
        refine lv_aload_n hx hb dX11_touch_179 rfl (lv_at hl 4 rfl) ?_
        refine lv_iconst (v := 3) hx hb dX11_touch_180 (by decide) ?_
        refine z_iald hx hb hK hP 0 0 rfl rfl (e := 3) rfl (by omega) (by omega) dX11_touch_181 ?_
        refine lv_aload_n hx hb dX11_touch_182 rfl (lv_at hl 4 rfl) ?_
        refine lv_bipush (v := 6) hx hb dX11_touch_183 (by decide) ?_
        refine z_iald hx hb hK hP 0 0 rfl rfl (e := 6) rfl (by omega) (by omega) dX11_touch_185 ?_
        refine lv_aload_n hx hb dX11_touch_186 rfl (lv_at hl 4 rfl) ?_
        refine lv_bipush (v := 7) hx hb dX11_touch_187 (by decide) ?_
        refine z_iald hx hb hK hP 0 0 rfl rfl (e := 7) rfl (by omega) (by omega) dX11_touch_189 ?_
        have hPc := hP.sub (ws' := []) [] rfl
        have hDc := hD.sub (ws' := []) [] (by decide) rfl
        have hFc := va_free (wc := []) hD hS hA [] rfl
        refine zcall (st1 := [.int (pI (onS (S0 0).toInt (S0 1).toInt (S0 2).toInt (S0 3).toInt (S0 6).toInt (S0 7).toInt))]) (va_runS (As := [.int (S0 0), .int (S0 1), .int (S0 2), .int (S0 3), .int (S0 6), .int (S0 7)]) (rest := []) ⟨hx, hb, hml, hown, hts⟩ (k_M_isOn l dC dI cI cZ cF H.size (S0 0) (S0 1) (S0 2) (S0 3) (S0 6) (S0 7) (hs _ (by omega)) (hs _ (by omega)) (hs _ (by omega)) (hs _ (by omega)) (hs _ (by omega)) (hs _ (by omega))) (va_cwS 6 hts (zz_gS mw_1394 mw_1395 mw_110 mc_yX11_isOn) rfl rfl rfl (by decide +kernel) ⟨Nat.le_of_ble_eq_true rfl, Nat.le_of_ble_eq_true rfl⟩) (zPS2 hPc hDc hK hXN) rfl rfl hl.1 rfl (lv_room (Nat.le_of_ble_eq_true rfl)) dX11_touch_190 ⟨Nat.le_of_ble_eq_true rfl, Nat.le_of_ble_eq_true rfl⟩) hS hFc hFc rfl (fun t H1 locs ht hB hk1 hS => ?_)
        obtain ⟨hP1, hD1⟩ := hB
        rw [ht] at hP1
        obtain ⟨hP, hD⟩ := va_join (wr := [(oa sa cI 8 S0)]) (w1 := []) hP hD [] [0] rfl rfl (by decide) (by decide) hk1 hFc hP1 hD1
        clear hk1 hPc hDc hFc hP1 hD1 ht
        generalize H1 = H at hP hS ⊢
        have hP : va_P (dC, dI) classes [(oa sa cI 8 S0)] H := hP
        have hD : va_D A [(oa sa cI 8 S0)] := hD
        refine lv_if_eq (tgt := 200) hx hb dX11_touch_193 (by decide) (fun c_12 => ?_) (fun c_12 => ?_)
        · have c_12 : ¬ (onS (S0 0).toInt (S0 1).toInt (S0 2).toInt (S0 3).toInt (S0 6).toInt (S0 7).toInt) := zp_0 c_12
          refine lv_iconst (v := 0) hx hb dX11_touch_200 (by decide) ?_
          refine lv_istore (lv' := [(5, .int 0), (4, .int (iI (sg (cr (S0 4).toInt (S0 5).toInt (S0 6).toInt (S0 7).toInt (S0 2).toInt (S0 3).toInt)))), (3, .int (iI (sg (cr (S0 4).toInt (S0 5).toInt (S0 6).toInt (S0 7).toInt (S0 0).toInt (S0 1).toInt)))), (2, .int (iI (sg (cr (S0 0).toInt (S0 1).toInt (S0 2).toInt (S0 3).toInt (S0 6).toInt (S0 7).toInt)))), (1, .int (iI (sg (cr (S0 0).toInt (S0 1).toInt (S0 2).toInt (S0 3).toInt (S0 4).toInt (S0 5).toInt)))), (0, .ref sa)]) hx hb dX11_touch_201 hl (by decide) rfl (fun ls hl => ?_)
          refine lv_iload hx hb dX11_touch_203 (lv_at hl 0 rfl) ?_
          refine lv_if_ne (tgt := 260) hx hb dX11_touch_205 (by decide) (fun c_13 => ?_) (fun c_13 => ?_)
          · exact absurd (by decide) c_13
          · refine lv_aload_n hx hb dX11_touch_208 rfl (lv_at hl 5 rfl) ?_
            refine lv_iconst (v := 4) hx hb dX11_touch_209 (by decide) ?_
            refine z_iald hx hb hK hP 0 0 rfl rfl (e := 4) rfl (by omega) (by omega) dX11_touch_210 ?_
            refine lv_aload_n hx hb dX11_touch_211 rfl (lv_at hl 5 rfl) ?_
            refine lv_iconst (v := 5) hx hb dX11_touch_212 (by decide) ?_
            refine z_iald hx hb hK hP 0 0 rfl rfl (e := 5) rfl (by omega) (by omega) dX11_touch_213 ?_
            refine lv_aload_n hx hb dX11_touch_214 rfl (lv_at hl 5 rfl) ?_
            refine lv_bipush (v := 6) hx hb dX11_touch_215 (by decide) ?_
            refine z_iald hx hb hK hP 0 0 rfl rfl (e := 6) rfl (by omega) (by omega) dX11_touch_217 ?_
            refine lv_aload_n hx hb dX11_touch_218 rfl (lv_at hl 5 rfl) ?_
            refine lv_bipush (v := 7) hx hb dX11_touch_219 (by decide) ?_
            refine z_iald hx hb hK hP 0 0 rfl rfl (e := 7) rfl (by omega) (by omega) dX11_touch_221 ?_
            refine lv_aload_n hx hb dX11_touch_222 rfl (lv_at hl 5 rfl) ?_
            refine lv_iconst (v := 0) hx hb dX11_touch_223 (by decide) ?_
            refine z_iald hx hb hK hP 0 0 rfl rfl (e := 0) rfl (by omega) (by omega) dX11_touch_224 ?_
            refine lv_aload_n hx hb dX11_touch_225 rfl (lv_at hl 5 rfl) ?_
            refine lv_iconst (v := 1) hx hb dX11_touch_226 (by decide) ?_
            refine z_iald hx hb hK hP 0 0 rfl rfl (e := 1) rfl (by omega) (by omega) dX11_touch_227 ?_
            have hPc := hP.sub (ws' := []) [] rfl
            have hDc := hD.sub (ws' := []) [] (by decide) rfl
            have hFc := va_free (wc := []) hD hS hA [] rfl
            refine zcall (st1 := [.int (pI (onS (S0 4).toInt (S0 5).toInt (S0 6).toInt (S0 7).toInt (S0 0).toInt (S0 1).toInt))]) (va_runS (As := [.int (S0 4), .int (S0 5), .int (S0 6), .int (S0 7), .int (S0 0), .int (S0 1)]) (rest := []) ⟨hx, hb, hml, hown, hts⟩ (k_M_isOn l dC dI cI cZ cF H.size (S0 4) (S0 5) (S0 6) (S0 7) (S0 0) (S0 1) (hs _ (by omega)) (hs _ (by omega)) (hs _ (by omega)) (hs _ (by omega)) (hs _ (by omega)) (hs _ (by omega))) (va_cwS 6 hts (zz_gS mw_1394 mw_1395 mw_110 mc_yX11_isOn) rfl rfl rfl (by decide +kernel) ⟨Nat.le_of_ble_eq_true rfl, Nat.le_of_ble_eq_true rfl⟩) (zPS2 hPc hDc hK hXN) rfl rfl hl.1 rfl (lv_room (Nat.le_of_ble_eq_true rfl)) dX11_touch_228 ⟨Nat.le_of_ble_eq_true rfl, Nat.le_of_ble_eq_true rfl⟩) hS hFc hFc rfl (fun t H1 locs ht hB hk1 hS => ?_)
            obtain ⟨hP1, hD1⟩ := hB
            rw [ht] at hP1
            obtain ⟨hP, hD⟩ := va_join (wr := [(oa sa cI 8 S0)]) (w1 := []) hP hD [] [0] rfl rfl (by decide) (by decide) hk1 hFc hP1 hD1
            clear hk1 hPc hDc hFc hP1 hD1 ht
            generalize H1 = H at hP hS ⊢
            have hP : va_P (dC, dI) classes [(oa sa cI 8 S0)] H := hP
            have hD : va_D A [(oa sa cI 8 S0)] := hD
            refine lv_if_ne (tgt := 260) hx hb dX11_touch_231 (by decide) (fun c_14 => ?_) (fun c_14 => ?_)
            · have c_14 : onS (S0 4).toInt (S0 5).toInt (S0 6).toInt (S0 7).toInt (S0 0).toInt (S0 1).toInt := zp_1 c_14
              refine lv_iconst (v := 1) hx hb dX11_touch_260 (by decide) ?_
              refine lv_goto (tgt := 265) hx hb dX11_touch_261 (by decide) ?_
              have hP9 := hP.sub (ws' := [(oa sa cI 8 S0)]) [0] rfl
              have hD9 := hD.sub (ws' := [(oa sa cI 8 S0)]) [0] (by decide) rfl
              rw [hQ9]
              exact W.zret (ty := .boolean) (v := 1) hx hb hr (rfl) (fun t ht hW => ⟨⟨congrArg (fun z => Outcome.returned (some (Value.int z))) (show (1 : Int32) = pI (mtC (S0 0).toInt (S0 1).toInt (S0 2).toInt (S0 3).toInt (S0 4).toInt (S0 5).toInt (S0 6).toInt (S0 7).toInt) from (zp_t (by rw [← mtM_iff]; unfold mtM; first | (simp only [*, true_or, or_true]; done) | (rw [← sg_neg, ← sg_neg]; omega) | (rw [← sg_neg, ← sg_neg]; intro h; rcases h with h | h | h | h | h <;> first | contradiction | omega))).symm), by rw [ht]; exact hP9, hD9⟩, hS.F ht⟩) hS.2.2 dX11_touch_265
            · have c_14 : ¬ (onS (S0 4).toInt (S0 5).toInt (S0 6).toInt (S0 7).toInt (S0 0).toInt (S0 1).toInt) := zp_0 c_14
              refine lv_aload_n hx hb dX11_touch_234 rfl (lv_at hl 5 rfl) ?_
              refine lv_iconst (v := 4) hx hb dX11_touch_235 (by decide) ?_
              refine z_iald hx hb hK hP 0 0 rfl rfl (e := 4) rfl (by omega) (by omega) dX11_touch_236 ?_
              refine lv_aload_n hx hb dX11_touch_237 rfl (lv_at hl 5 rfl) ?_
              refine lv_iconst (v := 5) hx hb dX11_touch_238 (by decide) ?_
              refine z_iald hx hb hK hP 0 0 rfl rfl (e := 5) rfl (by omega) (by omega) dX11_touch_239 ?_
              refine lv_aload_n hx hb dX11_touch_240 rfl (lv_at hl 5 rfl) ?_
              refine lv_bipush (v := 6) hx hb dX11_touch_241 (by decide) ?_
              refine z_iald hx hb hK hP 0 0 rfl rfl (e := 6) rfl (by omega) (by omega) dX11_touch_243 ?_
              refine lv_aload_n hx hb dX11_touch_244 rfl (lv_at hl 5 rfl) ?_
              refine lv_bipush (v := 7) hx hb dX11_touch_245 (by decide) ?_
              refine z_iald hx hb hK hP 0 0 rfl rfl (e := 7) rfl (by omega) (by omega) dX11_touch_247 ?_
              refine lv_aload_n hx hb dX11_touch_248 rfl (lv_at hl 5 rfl) ?_
              refine lv_iconst (v := 2) hx hb dX11_touch_249 (by decide) ?_
              refine z_iald hx hb hK hP 0 0 rfl rfl (e := 2) rfl (by omega) (by omega) dX11_touch_250 ?_
              refine lv_aload_n hx hb dX11_touch_251 rfl (lv_at hl 5 rfl) ?_
              refine lv_iconst (v := 3) hx hb dX11_touch_252 (by decide) ?_
              refine z_iald hx hb hK hP 0 0 rfl rfl (e := 3) rfl (by omega) (by omega) dX11_touch_253 ?_
              have hPc := hP.sub (ws' := []) [] rfl
              have hDc := hD.sub (ws' := []) [] (by decide) rfl
              have hFc := va_free (wc := []) hD hS hA [] rfl
              refine zcall (st1 := [.int (pI (onS (S0 4).toInt (S0 5).toInt (S0 6).toInt (S0 7).toInt (S0 2).toInt (S0 3).toInt))]) (va_runS (As := [.int (S0 4), .int (S0 5), .int (S0 6), .int (S0 7), .int (S0 2), .int (S0 3)]) (rest := []) ⟨hx, hb, hml, hown, hts⟩ (k_M_isOn l dC dI cI cZ cF H.size (S0 4) (S0 5) (S0 6) (S0 7) (S0 2) (S0 3) (hs _ (by omega)) (hs _ (by omega)) (hs _ (by omega)) (hs _ (by omega)) (hs _ (by omega)) (hs _ (by omega))) (va_cwS 6 hts (zz_gS mw_1394 mw_1395 mw_110 mc_yX11_isOn) rfl rfl rfl (by decide +kernel) ⟨Nat.le_of_ble_eq_true rfl, Nat.le_of_ble_eq_true rfl⟩) (zPS2 hPc hDc hK hXN) rfl rfl hl.1 rfl (lv_room (Nat.le_of_ble_eq_true rfl)) dX11_touch_254 ⟨Nat.le_of_ble_eq_true rfl, Nat.le_of_ble_eq_true rfl⟩) hS hFc hFc rfl (fun t H1 locs ht hB hk1 hS => ?_)
              obtain ⟨hP1, hD1⟩ := hB
              rw [ht] at hP1
              obtain ⟨hP, hD⟩ := va_join (wr := [(oa sa cI 8 S0)]) (w1 := []) hP hD [] [0] rfl rfl (by decide) (by decide) hk1 hFc hP1 hD1
              clear hk1 hPc hDc hFc hP1 hD1 ht
              generalize H1 = H at hP hS ⊢
              have hP : va_P (dC, dI) classes [(oa sa cI 8 S0)] H := hP
              have hD : va_D A [(oa sa cI 8 S0)] := hD
              refine lv_if_eq (tgt := 264) hx hb dX11_touch_257 (by decide) (fun c_15 => ?_) (fun c_15 => ?_)
              · have c_15 : ¬ (onS (S0 4).toInt (S0 5).toInt (S0 6).toInt (S0 7).toInt (S0 2).toInt (S0 3).toInt) := zp_0 c_15
                refine lv_iconst (v := 0) hx hb dX11_touch_264 (by decide) ?_
                have hP9 := hP.sub (ws' := [(oa sa cI 8 S0)]) [0] rfl
                have hD9 := hD.sub (ws' := [(oa sa cI 8 S0)]) [0] (by decide) rfl
                rw [hQ9]
                exact W.zret (ty := .boolean) (v := 0) hx hb hr (rfl) (fun t ht hW => ⟨⟨congrArg (fun z => Outcome.returned (some (Value.int z))) (show (0 : Int32) = pI (mtC (S0 0).toInt (S0 1).toInt (S0 2).toInt (S0 3).toInt (S0 4).toInt (S0 5).toInt (S0 6).toInt (S0 7).toInt) from (zp_f (by rw [← mtM_iff]; unfold mtM; first | (simp only [*, true_or, or_true]; done) | (rw [← sg_neg, ← sg_neg]; omega) | (rw [← sg_neg, ← sg_neg]; intro h; rcases h with h | h | h | h | h <;> first | contradiction | omega))).symm), by rw [ht]; exact hP9, hD9⟩, hS.F ht⟩) hS.2.2 dX11_touch_265
              · have c_15 : onS (S0 4).toInt (S0 5).toInt (S0 6).toInt (S0 7).toInt (S0 2).toInt (S0 3).toInt := zp_1 c_15
                refine lv_iconst (v := 1) hx hb dX11_touch_260 (by decide) ?_
                refine lv_goto (tgt := 265) hx hb dX11_touch_261 (by decide) ?_
                have hP9 := hP.sub (ws' := [(oa sa cI 8 S0)]) [0] rfl
                have hD9 := hD.sub (ws' := [(oa sa cI 8 S0)]) [0] (by decide) rfl
                rw [hQ9]
                exact W.zret (ty := .boolean) (v := 1) hx hb hr (rfl) (fun t ht hW => ⟨⟨congrArg (fun z => Outcome.returned (some (Value.int z))) (show (1 : Int32) = pI (mtC (S0 0).toInt (S0 1).toInt (S0 2).toInt (S0 3).toInt (S0 4).toInt (S0 5).toInt (S0 6).toInt (S0 7).toInt) from (zp_t (by rw [← mtM_iff]; unfold mtM; first | (simp only [*, true_or, or_true]; done) | (rw [← sg_neg, ← sg_neg]; omega) | (rw [← sg_neg, ← sg_neg]; intro h; rcases h with h | h | h | h | h <;> first | contradiction | omega))).symm), by rw [ht]; exact hP9, hD9⟩, hS.F ht⟩) hS.2.2 dX11_touch_265
        · have c_12 : onS (S0 0).toInt (S0 1).toInt (S0 2).toInt (S0 3).toInt (S0 6).toInt (S0 7).toInt := zp_1 c_12
          refine lv_iconst (v := 1) hx hb dX11_touch_196 (by decide) ?_
          refine lv_goto (tgt := 201) hx hb dX11_touch_197 (by decide) ?_
          refine lv_istore (lv' := [(5, .int 1), (4, .int (iI (sg (cr (S0 4).toInt (S0 5).toInt (S0 6).toInt (S0 7).toInt (S0 2).toInt (S0 3).toInt)))), (3, .int (iI (sg (cr (S0 4).toInt (S0 5).toInt (S0 6).toInt (S0 7).toInt (S0 0).toInt (S0 1).toInt)))), (2, .int (iI (sg (cr (S0 0).toInt (S0 1).toInt (S0 2).toInt (S0 3).toInt (S0 6).toInt (S0 7).toInt)))), (1, .int (iI (sg (cr (S0 0).toInt (S0 1).toInt (S0 2).toInt (S0 3).toInt (S0 4).toInt (S0 5).toInt)))), (0, .ref sa)]) hx hb dX11_touch_201 hl (by decide) rfl (fun ls hl => ?_)
          refine lv_iload hx hb dX11_touch_203 (lv_at hl 0 rfl) ?_
          refine lv_if_ne (tgt := 260) hx hb dX11_touch_205 (by decide) (fun c_16 => ?_) (fun c_16 => ?_)
          · refine lv_iconst (v := 1) hx hb dX11_touch_260 (by decide) ?_
            refine lv_goto (tgt := 265) hx hb dX11_touch_261 (by decide) ?_
            have hP9 := hP.sub (ws' := [(oa sa cI 8 S0)]) [0] rfl
            have hD9 := hD.sub (ws' := [(oa sa cI 8 S0)]) [0] (by decide) rfl
            rw [hQ9]
            exact W.zret (ty := .boolean) (v := 1) hx hb hr (rfl) (fun t ht hW => ⟨⟨congrArg (fun z => Outcome.returned (some (Value.int z))) (show (1 : Int32) = pI (mtC (S0 0).toInt (S0 1).toInt (S0 2).toInt (S0 3).toInt (S0 4).toInt (S0 5).toInt (S0 6).toInt (S0 7).toInt) from (zp_t (by rw [← mtM_iff]; unfold mtM; first | (simp only [*, true_or, or_true]; done) | (rw [← sg_neg, ← sg_neg]; omega) | (rw [← sg_neg, ← sg_neg]; intro h; rcases h with h | h | h | h | h <;> first | contradiction | omega))).symm), by rw [ht]; exact hP9, hD9⟩, hS.F ht⟩) hS.2.2 dX11_touch_265
          · exact absurd c_16 (by decide)
    · have c_9 : (sg (cr (S0 4).toInt (S0 5).toInt (S0 6).toInt (S0 7).toInt (S0 0).toInt (S0 1).toInt) * sg (cr (S0 4).toInt (S0 5).toInt (S0 6).toInt (S0 7).toInt (S0 2).toInt (S0 3).toInt)) < 0 := zc_nle (by decide) (iI_toInt (by omega)) c_9
      refine lv_iconst (v := 1) hx hb dX11_touch_144 (by decide) ?_
      have hP9 := hP.sub (ws' := [(oa sa cI 8 S0)]) [0] rfl
      have hD9 := hD.sub (ws' := [(oa sa cI 8 S0)]) [0] (by decide) rfl
      rw [hQ9]
      exact W.zret (ty := .boolean) (v := 1) hx hb hr (rfl) (fun t ht hW => ⟨⟨congrArg (fun z => Outcome.returned (some (Value.int z))) (show (1 : Int32) = pI (mtC (S0 0).toInt (S0 1).toInt (S0 2).toInt (S0 3).toInt (S0 4).toInt (S0 5).toInt (S0 6).toInt (S0 7).toInt) from (zp_t (mtM_iff.mp (Or.inl ⟨sg_neg.mp (by assumption), sg_neg.mp (by assumption)⟩))).symm), by rw [ht]; exact hP9, hD9⟩, hS.F ht⟩) hS.2.2 dX11_touch_145
