set_option maxHeartbeats 4000000 in
set_option maxRecDepth 100000 in
theorem k_isWithin (l : Launch) (dC : Nat → ClassId) (dI : Nat → Nat → Nat) (cI cZ cF : ClassId) (sz : Nat) (v : Int32) (a : Int32) (b : Int32) : Met l yX10_isWithin (.code yX10_isWithin cX10_isWithin 3 (some .boolean) :: ws0) ({ frames := 0, cells := 0, slots := 0, locals := 0 }) (va_Pc [.int v, .int a, .int b] (zPre (dC, dI) classes (zTy cI cZ cF) [] sz zTrue)) (zQ (some (.int (zw v a b))) (fun t => va_P (dC, dI) classes [] t.heap ∧ va_D (va_A [] sz) []) (va_A [] sz)) 0 0 (va_A [] sz) := by
  refine Met.ofW (cc := cX10_isWithin) (maxL := 3) (ret := (some .boolean)) (by decide) rfl ?_
  intro p e s m args below meth c s₁ B hml hv
  obtain ⟨rfl, hsz, hP, hK, hD0, hXX⟩ := hv
  have hx := B.exec
  have hb := B.bytes
  have hr := B.returns
  have hts0 := atoms_spec (ws := .code yX10_isWithin cX10_isWithin 3 (some .boolean) :: ws0) B.pre
  have hts : ∀ w9 ∈ ws0, w9.before ([.int v, .int a, .int b] : List Value).toArray s = true := fun w9 h => hts0 w9 (List.mem_cons_of_mem _ h)
  have hown : s.vm.findClass "ScaleShop" = some m.cls := findClass_of_methodNamed B.named
  have hlocks := B.notSynchronized
  subst hsz
  have hD := hD0.self (sz := s.heap.size)
  generalize hAe : va_A [] s.heap.size = A at hD ⊢
  have hA : ∀ q : Nat, s.heap.size ≤ q → A q := fun q h => by rw [← hAe]; exact Or.inr h
  have hS : va_S A s.heap s.heap [] := va_S.rf
  have hP : va_P (dC, dI) classes [] s.heap := hP
  have hl := lv_entry ([.int v, .int a, .int b]) (n := 3) (Nat.le_of_ble_eq_true rfl)
  rw [lg_entry_eq]
  generalize (lg_sl ([.int v, .int a, .int b]) ++ List.replicate (3 - (lg_sl ([.int v, .int a, .int b])).length) Slot.unset).toArray = ls at hl ⊢
  have hl : lv_has ls 3 [(0, .int v), (1, .int a), (2, .int b)] := hl
  refine lv_iload_n hx hb dX10_isWithin_0 rfl (lv_at hl 0 rfl) ?_
  refine lv_iload_n hx hb dX10_isWithin_1 rfl (lv_at hl 1 rfl) ?_
  refine lv_icmp_lt (tgt := 14) hx hb dX10_isWithin_2 (by decide) (fun c_1 => ?_) (fun c_1 => ?_)
  · refine lv_iconst (v := 0) hx hb dX10_isWithin_14 (by decide) ?_
    refine W.widen (k := 0) (n := 0) (by decide) (by decide) ?_
    have hP9 := hP.sub (ws' := []) [] rfl
    have hD9 := hD.sub (ws' := []) [] (by decide) rfl
    exact W.zret (ty := .boolean) (v := 0) hx hb hr rfl (fun t ht hW => ⟨⟨(congrArg (fun z => Outcome.returned (some (Value.int z))) (show (0 : Int32) = (zw v a b) from by simp [zw, c_1])), by rw [ht]; exact hP9, hD9⟩, hS.F ht⟩) hS.2.2 dX10_isWithin_15
  · refine lv_iload_n hx hb dX10_isWithin_5 rfl (lv_at hl 0 rfl) ?_
    refine lv_iload_n hx hb dX10_isWithin_6 rfl (lv_at hl 2 rfl) ?_
    refine lv_icmp_gt (tgt := 14) hx hb dX10_isWithin_7 (by decide) (fun c_2 => ?_) (fun c_2 => ?_)
    · refine lv_iconst (v := 0) hx hb dX10_isWithin_14 (by decide) ?_
      refine W.widen (k := 0) (n := 0) (by decide) (by decide) ?_
      have hP9 := hP.sub (ws' := []) [] rfl
      have hD9 := hD.sub (ws' := []) [] (by decide) rfl
      exact W.zret (ty := .boolean) (v := 0) hx hb hr rfl (fun t ht hW => ⟨⟨(congrArg (fun z => Outcome.returned (some (Value.int z))) (show (0 : Int32) = (zw v a b) from by simp [zw, c_1, c_2])), by rw [ht]; exact hP9, hD9⟩, hS.F ht⟩) hS.2.2 dX10_isWithin_15
    · refine lv_iconst (v := 1) hx hb dX10_isWithin_10 (by decide) ?_
      refine lv_goto (tgt := 15) hx hb dX10_isWithin_11 (by decide) ?_
      refine W.widen (k := 0) (n := 0) (by decide) (by decide) ?_
      have hP9 := hP.sub (ws' := []) [] rfl
      have hD9 := hD.sub (ws' := []) [] (by decide) rfl
      exact W.zret (ty := .boolean) (v := 1) hx hb hr rfl (fun t ht hW => ⟨⟨(congrArg (fun z => Outcome.returned (some (Value.int z))) (show (1 : Int32) = (zw v a b) from by simp [zw, c_1, c_2])), by rw [ht]; exact hP9, hD9⟩, hS.F ht⟩) hS.2.2 dX10_isWithin_15
set_option maxHeartbeats 4000000 in
set_option maxRecDepth 100000 in
theorem k_mostCorners (l : Launch) (dC : Nat → ClassId) (dI : Nat → Nat → Nat) (cI cZ cF : ClassId) (sz : Nat) (v : Int32) : Met l yX10_mostCorners (.code yX10_mostCorners cX10_mostCorners 1 (some .int) :: ws0) ({ frames := 0, cells := 0, slots := 0, locals := 0 }) (va_Pc [.int v] (zPre (dC, dI) classes (zTy cI cZ cF) [] sz zTrue)) (zQ (some (.int (zmc v))) (fun t => va_P (dC, dI) classes [] t.heap ∧ va_D (va_A [] sz) []) (va_A [] sz)) 0 0 (va_A [] sz) := by
  refine Met.ofW (cc := cX10_mostCorners) (maxL := 1) (ret := (some .int)) (by decide) rfl ?_
  intro p e s m args below meth c s₁ B hml hv
  obtain ⟨rfl, hsz, hP, hK, hD0, hXX⟩ := hv
  have hx := B.exec
  have hb := B.bytes
  have hr := B.returns
  have hts0 := atoms_spec (ws := .code yX10_mostCorners cX10_mostCorners 1 (some .int) :: ws0) B.pre
  have hts : ∀ w9 ∈ ws0, w9.before ([.int v] : List Value).toArray s = true := fun w9 h => hts0 w9 (List.mem_cons_of_mem _ h)
  have hown : s.vm.findClass "ScaleShop" = some m.cls := findClass_of_methodNamed B.named
  have hlocks := B.notSynchronized
  subst hsz
  have hD := hD0.self (sz := s.heap.size)
  generalize hAe : va_A [] s.heap.size = A at hD ⊢
  have hA : ∀ q : Nat, s.heap.size ≤ q → A q := fun q h => by rw [← hAe]; exact Or.inr h
  have hS : va_S A s.heap s.heap [] := va_S.rf
  have hP : va_P (dC, dI) classes [] s.heap := hP
  have hl := lv_entry ([.int v]) (n := 1) (Nat.le_of_ble_eq_true rfl)
  rw [lg_entry_eq]
  generalize (lg_sl ([.int v]) ++ List.replicate (1 - (lg_sl ([.int v])).length) Slot.unset).toArray = ls at hl ⊢
  have hl : lv_has ls 1 [(0, .int v)] := hl
  refine lv_iload_n hx hb dX10_mostCorners_0 rfl (lv_at hl 0 rfl) ?_
  refine lv_if_ne (tgt := 8) hx hb dX10_mostCorners_1 (by decide) (fun c_1 => ?_) (fun c_1 => ?_)
  · refine lv_bipush (v := 40) hx hb dX10_mostCorners_8 (by decide) ?_
    refine W.widen (k := 0) (n := 0) (by decide) (by decide) ?_
    have hP9 := hP.sub (ws' := []) [] rfl
    have hD9 := hD.sub (ws' := []) [] (by decide) rfl
    exact W.iret (v := 40) hx hb hr (fun t ht hW => ⟨⟨(congrArg (fun z => Outcome.returned (some (Value.int z))) (show (40 : Int32) = (zmc v) from by simp [zmc, c_1])), by rw [ht]; exact hP9, hD9⟩, hS.F ht⟩) hS.2.2 dX10_mostCorners_10
  · refine lv_iconst (v := 1) hx hb dX10_mostCorners_4 (by decide) ?_
    refine lv_goto (tgt := 10) hx hb dX10_mostCorners_5 (by decide) ?_
    refine W.widen (k := 0) (n := 0) (by decide) (by decide) ?_
    have hP9 := hP.sub (ws' := []) [] rfl
    have hD9 := hD.sub (ws' := []) [] (by decide) rfl
    exact W.iret (v := 1) hx hb hr (fun t ht hW => ⟨⟨(congrArg (fun z => Outcome.returned (some (Value.int z))) (show (1 : Int32) = (zmc v) from by simp [zmc, c_1])), by rw [ht]; exact hP9, hD9⟩, hS.F ht⟩) hS.2.2 dX10_mostCorners_10
set_option maxHeartbeats 4000000 in
set_option maxRecDepth 100000 in
theorem k_refuse (l : Launch) (dC : Nat → ClassId) (dI : Nat → Nat → Nat) (cI cZ cF : ClassId) (sz : Nat) (h0 : Nat) (a1 : Nat) (a2 : Nat) (a3 : Nat) (a4 : Nat) (a5 : Nat) (a6 : Nat) (a7 : Nat) (a8 : Nat) (a9 : Nat) (w : Int32) (h7 : ¬ w = 7) : Met l yX10_refuse (.code yX10_refuse cX10_refuse 2 (some .int) :: ws0) ({ frames := 0, cells := 0, slots := 0, locals := 0 }) (va_Pc [.ref h0, .int w] (zPre (dC, dI) classes (zTy cI cZ cF) [(h0, .inr (8, [.ref a1, .ref a2, .ref a3, .ref a4, .ref a5, .ref a6, .ref a7, .ref a8, .ref a9, .int 0, .int 0, .int 0, .int 0]))] sz zTrue)) (zQ (some (.int (-1))) (fun t => va_P (dC, dI) classes [(h0, .inr (8, [.ref a1, .ref a2, .ref a3, .ref a4, .ref a5, .ref a6, .ref a7, .ref a8, .ref a9, .int 0, .int 0, .int 0, .int w]))] t.heap ∧ va_D (va_A [(h0, .inr (8, [.ref a1, .ref a2, .ref a3, .ref a4, .ref a5, .ref a6, .ref a7, .ref a8, .ref a9, .int 0, .int 0, .int 0, .int 0]))] sz) [(h0, .inr (8, [.ref a1, .ref a2, .ref a3, .ref a4, .ref a5, .ref a6, .ref a7, .ref a8, .ref a9, .int 0, .int 0, .int 0, .int w]))]) (va_A [(h0, .inr (8, [.ref a1, .ref a2, .ref a3, .ref a4, .ref a5, .ref a6, .ref a7, .ref a8, .ref a9, .int 0, .int 0, .int 0, .int 0]))] sz)) 0 0 (va_A [(h0, .inr (8, [.ref a1, .ref a2, .ref a3, .ref a4, .ref a5, .ref a6, .ref a7, .ref a8, .ref a9, .int 0, .int 0, .int 0, .int 0]))] sz) := by
  refine Met.ofW (cc := cX10_refuse) (maxL := 2) (ret := (some .int)) (by decide) rfl ?_
  intro p e s m args below meth c s₁ B hml hv
  obtain ⟨rfl, hsz, hP, hK, hD0, hXX⟩ := hv
  have hx := B.exec
  have hb := B.bytes
  have hr := B.returns
  have hts0 := atoms_spec (ws := .code yX10_refuse cX10_refuse 2 (some .int) :: ws0) B.pre
  have hts : ∀ w9 ∈ ws0, w9.before ([.ref h0, .int w] : List Value).toArray s = true := fun w9 h => hts0 w9 (List.mem_cons_of_mem _ h)
  have hown : s.vm.findClass "ScaleShop" = some m.cls := findClass_of_methodNamed B.named
  have hlocks := B.notSynchronized
  subst hsz
  have hD := hD0.self (sz := s.heap.size)
  generalize hAe : va_A [(h0, .inr (8, [.ref a1, .ref a2, .ref a3, .ref a4, .ref a5, .ref a6, .ref a7, .ref a8, .ref a9, .int 0, .int 0, .int 0, .int 0]))] s.heap.size = A at hD ⊢
  have hA : ∀ q : Nat, s.heap.size ≤ q → A q := fun q h => by rw [← hAe]; exact Or.inr h
  have hS : va_S A s.heap s.heap [] := va_S.rf
  have hP : va_P (dC, dI) classes [(h0, .inr (8, [.ref a1, .ref a2, .ref a3, .ref a4, .ref a5, .ref a6, .ref a7, .ref a8, .ref a9, .int 0, .int 0, .int 0, .int 0]))] s.heap := hP
  have hl := lv_entry ([.ref h0, .int w]) (n := 2) (Nat.le_of_ble_eq_true rfl)
  rw [lg_entry_eq]
  generalize (lg_sl ([.ref h0, .int w]) ++ List.replicate (2 - (lg_sl ([.ref h0, .int w])).length) Slot.unset).toArray = ls at hl ⊢
  have hl : lv_has ls 2 [(0, .ref h0), (1, .int w)] := hl
  refine lv_aload_n hx hb dX10_refuse_0 rfl (lv_at hl 0 rfl) ?_
  refine lv_iload_n hx hb dX10_refuse_1 rfl (lv_at hl 1 rfl) ?_
  refine va_put (D := (dC, dI)) (ci := 8) (v := .int w) (ty := .int) (C := RX10) (T := TX10) (N := 13) hx hb hts inX10 tyX10 tyX10_ok nmX10 hown hK hP hD hS 0 rfl rfl 12 (by decide) (hts _ mw_321) (fun _ h9 => h9) rfl (by decide +kernel) rfl rfl (Nat.le_of_ble_eq_true rfl) dX10_refuse_2 (fun H locs hP hD hS => ?_)
  have hP : va_P (dC, dI) classes [(h0, .inr (8, [.ref a1, .ref a2, .ref a3, .ref a4, .ref a5, .ref a6, .ref a7, .ref a8, .ref a9, .int 0, .int 0, .int 0, .int w]))] H := hP
  have hD : va_D A [(h0, .inr (8, [.ref a1, .ref a2, .ref a3, .ref a4, .ref a5, .ref a6, .ref a7, .ref a8, .ref a9, .int 0, .int 0, .int 0, .int w]))] := hD
  refine lv_iload_n hx hb dX10_refuse_5 rfl (lv_at hl 1 rfl) ?_
  refine lv_bipush (v := 7) hx hb dX10_refuse_6 (by decide) ?_
  refine lv_icmp_ne (tgt := 21) hx hb dX10_refuse_8 (by decide) (fun c_1 => ?_) (fun c_1 => ?_)
  · refine lv_iconst (v := (-1)) hx hb dX10_refuse_21 (by decide) ?_
    refine W.widen (k := 0) (n := 0) (by decide) (by decide) ?_
    have hP9 := hP.sub (ws' := [(h0, .inr (8, [.ref a1, .ref a2, .ref a3, .ref a4, .ref a5, .ref a6, .ref a7, .ref a8, .ref a9, .int 0, .int 0, .int 0, .int w]))]) [0] rfl
    have hD9 := hD.sub (ws' := [(h0, .inr (8, [.ref a1, .ref a2, .ref a3, .ref a4, .ref a5, .ref a6, .ref a7, .ref a8, .ref a9, .int 0, .int 0, .int 0, .int w]))]) [0] (by decide) rfl
    exact W.iret (v := (-1)) hx hb hr (fun t ht hW => ⟨⟨rfl, by rw [ht]; exact hP9, hD9⟩, hS.F ht⟩) hS.2.2 dX10_refuse_22
  · exact absurd c_1 h7
set_option maxHeartbeats 4000000 in
set_option maxRecDepth 100000 in
theorem k_deny (l : Launch) (dC : Nat → ClassId) (dI : Nat → Nat → Nat) (cI cZ cF : ClassId) (sz : Nat) (h0 : Nat) (a1 : Nat) (a2 : Nat) (a3 : Nat) (a4 : Nat) (a5 : Nat) (a6 : Nat) (a7 : Nat) (a8 : Nat) (a9 : Nat) (w : Int32) (h7 : ¬ w = 7) : Met l yX10_deny (.code yX10_deny cX10_deny 2 (some .boolean) :: ws0) ({ frames := 1, cells := 0, slots := 0, locals := 21 }) (va_Pc [.ref h0, .int w] (zPre (dC, dI) classes (zTy cI cZ cF) [(h0, .inr (8, [.ref a1, .ref a2, .ref a3, .ref a4, .ref a5, .ref a6, .ref a7, .ref a8, .ref a9, .int 0, .int 0, .int 0, .int 0]))] sz zTrue)) (zQ (some (.int 0)) (fun t => va_P (dC, dI) classes [(h0, .inr (8, [.ref a1, .ref a2, .ref a3, .ref a4, .ref a5, .ref a6, .ref a7, .ref a8, .ref a9, .int 0, .int 0, .int 0, .int w]))] t.heap ∧ va_D (va_A [(h0, .inr (8, [.ref a1, .ref a2, .ref a3, .ref a4, .ref a5, .ref a6, .ref a7, .ref a8, .ref a9, .int 0, .int 0, .int 0, .int 0]))] sz) [(h0, .inr (8, [.ref a1, .ref a2, .ref a3, .ref a4, .ref a5, .ref a6, .ref a7, .ref a8, .ref a9, .int 0, .int 0, .int 0, .int w]))]) (va_A [(h0, .inr (8, [.ref a1, .ref a2, .ref a3, .ref a4, .ref a5, .ref a6, .ref a7, .ref a8, .ref a9, .int 0, .int 0, .int 0, .int 0]))] sz)) 0 0 (va_A [(h0, .inr (8, [.ref a1, .ref a2, .ref a3, .ref a4, .ref a5, .ref a6, .ref a7, .ref a8, .ref a9, .int 0, .int 0, .int 0, .int 0]))] sz) := by
  refine Met.ofW (cc := cX10_deny) (maxL := 2) (ret := (some .boolean)) (by decide) rfl ?_
  intro p e s m args below meth c s₁ B hml hv
  obtain ⟨rfl, hsz, hP, hK, hD0, hXX⟩ := hv
  have hx := B.exec
  have hb := B.bytes
  have hr := B.returns
  have hts0 := atoms_spec (ws := .code yX10_deny cX10_deny 2 (some .boolean) :: ws0) B.pre
  have hts : ∀ w9 ∈ ws0, w9.before ([.ref h0, .int w] : List Value).toArray s = true := fun w9 h => hts0 w9 (List.mem_cons_of_mem _ h)
  have hown : s.vm.findClass "ScaleShop" = some m.cls := findClass_of_methodNamed B.named
  have hlocks := B.notSynchronized
  subst hsz
  have hD := hD0.self (sz := s.heap.size)
  generalize hAe : va_A [(h0, .inr (8, [.ref a1, .ref a2, .ref a3, .ref a4, .ref a5, .ref a6, .ref a7, .ref a8, .ref a9, .int 0, .int 0, .int 0, .int 0]))] s.heap.size = A at hD ⊢
  have hA : ∀ q : Nat, s.heap.size ≤ q → A q := fun q h => by rw [← hAe]; exact Or.inr h
  have hS : va_S A s.heap s.heap [] := va_S.rf
  have hP : va_P (dC, dI) classes [(h0, .inr (8, [.ref a1, .ref a2, .ref a3, .ref a4, .ref a5, .ref a6, .ref a7, .ref a8, .ref a9, .int 0, .int 0, .int 0, .int 0]))] s.heap := hP
  have hl := lv_entry ([.ref h0, .int w]) (n := 2) (Nat.le_of_ble_eq_true rfl)
  rw [lg_entry_eq]
  generalize (lg_sl ([.ref h0, .int w]) ++ List.replicate (2 - (lg_sl ([.ref h0, .int w])).length) Slot.unset).toArray = ls at hl ⊢
  have hl : lv_has ls 2 [(0, .ref h0), (1, .int w)] := hl
  refine lv_aload_n hx hb dX10_deny_0 rfl (lv_at hl 0 rfl) ?_
  refine lv_iload_n hx hb dX10_deny_1 rfl (lv_at hl 1 rfl) ?_
  have hPc := hP.sub (ws' := [(h0, .inr (8, [.ref a1, .ref a2, .ref a3, .ref a4, .ref a5, .ref a6, .ref a7, .ref a8, .ref a9, .int 0, .int 0, .int 0, .int 0]))]) [0] rfl
  have hDc := hD.sub (ws' := [(h0, .inr (8, [.ref a1, .ref a2, .ref a3, .ref a4, .ref a5, .ref a6, .ref a7, .ref a8, .ref a9, .int 0, .int 0, .int 0, .int 0]))]) [0] (by decide) rfl
  have hFc := va_free (wc := [(h0, .inr (8, [.ref a1, .ref a2, .ref a3, .ref a4, .ref a5, .ref a6, .ref a7, .ref a8, .ref a9, .int 0, .int 0, .int 0, .int 0]))]) hD hS hA [0] rfl
  refine zcall (st1 := [.int (-1)]) (va_runV (As := [.int w]) (rest := []) ⟨hx, hb, hml, hown, hts⟩ (k_refuse l dC dI cI cZ cF s.heap.size h0 a1 a2 a3 a4 a5 a6 a7 a8 a9 w (h7)) (cwV 1 hts (zz_gV mw_356 mw_358 mw_0 mw_99 mc_yX10_refuse) rfl rfl rfl (by decide +kernel) ⟨Nat.le_of_ble_eq_true rfl, Nat.le_of_ble_eq_true rfl⟩) (zPV (q0 := 0) (ci := 8) hPc hDc hK rfl rfl) rfl rfl hl.1 rfl (lv_room (Nat.le_of_ble_eq_true rfl)) dX10_deny_2 ⟨Nat.le_of_ble_eq_true rfl, Nat.le_of_ble_eq_true rfl⟩) hS hFc hFc rfl (fun t H1 locs ht hB hk1 hS => ?_)
  obtain ⟨hP1, hD1⟩ := hB
  rw [ht] at hP1
  obtain ⟨hP, hD⟩ := va_join (wr := []) (w1 := [(h0, .inr (8, [.ref a1, .ref a2, .ref a3, .ref a4, .ref a5, .ref a6, .ref a7, .ref a8, .ref a9, .int 0, .int 0, .int 0, .int w]))]) hP hD [0] [] rfl rfl (by decide) (by decide) hk1 hFc hP1 hD1
  clear hk1 hPc hDc hFc hP1 hD1 ht
  generalize H1 = H at hP hS ⊢
  have hP : va_P (dC, dI) classes [(h0, .inr (8, [.ref a1, .ref a2, .ref a3, .ref a4, .ref a5, .ref a6, .ref a7, .ref a8, .ref a9, .int 0, .int 0, .int 0, .int w]))] H := hP
  have hD : va_D A [(h0, .inr (8, [.ref a1, .ref a2, .ref a3, .ref a4, .ref a5, .ref a6, .ref a7, .ref a8, .ref a9, .int 0, .int 0, .int 0, .int w]))] := hD
  refine lv_pop hx hb dX10_deny_5 rfl ?_
  refine lv_iconst (v := 0) hx hb dX10_deny_6 (by decide) ?_
  refine W.widen (k := 0) (n := 0) (by decide) (by decide) ?_
  have hP9 := hP.sub (ws' := [(h0, .inr (8, [.ref a1, .ref a2, .ref a3, .ref a4, .ref a5, .ref a6, .ref a7, .ref a8, .ref a9, .int 0, .int 0, .int 0, .int w]))]) [0] rfl
  have hD9 := hD.sub (ws' := [(h0, .inr (8, [.ref a1, .ref a2, .ref a3, .ref a4, .ref a5, .ref a6, .ref a7, .ref a8, .ref a9, .int 0, .int 0, .int 0, .int w]))]) [0] (by decide) rfl
  exact W.zret (ty := .boolean) (v := 0) hx hb hr rfl (fun t ht hW => ⟨⟨rfl, by rw [ht]; exact hP9, hD9⟩, hS.F ht⟩) hS.2.2 dX10_deny_7
set_option maxHeartbeats 4000000 in
set_option maxRecDepth 100000 in
theorem k_AL_size (l : Launch) (dC : Nat → ClassId) (dI : Nat → Nat → Nat) (cI cZ cF : ClassId) (sz : Nat) (a9 : Nat) (e0 : Nat) : Met l yJx4a65c_size_8abf5 (.code yJx4a65c_size_8abf5 cJx4a65c_size_8abf5 1 (some .int) :: ws0) ({ frames := 0, cells := 0, slots := 0, locals := 0 }) (va_Pc [.ref a9] (zPre (dC, dI) classes (zTy cI cZ cF) [(a9, .inr (10, [.int 0, .ref e0, .int 0]))] sz zTrue)) (zQ (some (.int 0)) (fun t => va_P (dC, dI) classes [(a9, .inr (10, [.int 0, .ref e0, .int 0]))] t.heap ∧ va_D (va_A [(a9, .inr (10, [.int 0, .ref e0, .int 0]))] sz) [(a9, .inr (10, [.int 0, .ref e0, .int 0]))]) (va_A [(a9, .inr (10, [.int 0, .ref e0, .int 0]))] sz)) 0 0 (va_A [(a9, .inr (10, [.int 0, .ref e0, .int 0]))] sz) := by
  refine Met.ofW (cc := cJx4a65c_size_8abf5) (maxL := 1) (ret := (some .int)) (by decide) rfl ?_
  intro p e s m args below meth c s₁ B hml hv
  obtain ⟨rfl, hsz, hP, hK, hD0, hXX⟩ := hv
  have hx := B.exec
  have hb := B.bytes
  have hr := B.returns
  have hts0 := atoms_spec (ws := .code yJx4a65c_size_8abf5 cJx4a65c_size_8abf5 1 (some .int) :: ws0) B.pre
  have hts : ∀ w9 ∈ ws0, w9.before ([.ref a9] : List Value).toArray s = true := fun w9 h => hts0 w9 (List.mem_cons_of_mem _ h)
  have hown : s.vm.findClass "java/util/ArrayList" = some m.cls := findClass_of_methodNamed B.named
  have hlocks := B.notSynchronized
  subst hsz
  have hD := hD0.self (sz := s.heap.size)
  generalize hAe : va_A [(a9, .inr (10, [.int 0, .ref e0, .int 0]))] s.heap.size = A at hD ⊢
  have hA : ∀ q : Nat, s.heap.size ≤ q → A q := fun q h => by rw [← hAe]; exact Or.inr h
  have hS : va_S A s.heap s.heap [] := va_S.rf
  have hP : va_P (dC, dI) classes [(a9, .inr (10, [.int 0, .ref e0, .int 0]))] s.heap := hP
  have hl := lv_entry ([.ref a9]) (n := 1) (Nat.le_of_ble_eq_true rfl)
  rw [lg_entry_eq]
  generalize (lg_sl ([.ref a9]) ++ List.replicate (1 - (lg_sl ([.ref a9])).length) Slot.unset).toArray = ls at hl ⊢
  have hl : lv_has ls 1 [(0, .ref a9)] := hl
  refine lv_aload_n hx hb dJx4a65c_size_8abf5_0 rfl (lv_at hl 0 rfl) ?_
  refine va_get (D := (dC, dI)) (ci := 10) (v := .int 0) (C := RJx4a65c) (T := TJx4a65c) (N := 3) hx hb hts inJx4a65c hown hK hP 0 rfl rfl 2 (by decide) (hts _ mw_297) (fun _ h9 => h9) rfl dJx4a65c_size_8abf5_1 ?_
  refine W.widen (k := 0) (n := 0) (by decide) (by decide) ?_
  have hP9 := hP.sub (ws' := [(a9, .inr (10, [.int 0, .ref e0, .int 0]))]) [0] rfl
  have hD9 := hD.sub (ws' := [(a9, .inr (10, [.int 0, .ref e0, .int 0]))]) [0] (by decide) rfl
  exact W.iret (v := 0) hx hb hr (fun t ht hW => ⟨⟨rfl, by rw [ht]; exact hP9, hD9⟩, hS.F ht⟩) hS.2.2 dJx4a65c_size_8abf5_4
set_option maxHeartbeats 4000000 in
set_option maxRecDepth 100000 in
theorem k_forgetUndone (l : Launch) (dC : Nat → ClassId) (dI : Nat → Nat → Nat) (cI cZ cF : ClassId) (sz : Nat) (h0 : Nat) (a1 : Nat) (a2 : Nat) (a3 : Nat) (a4 : Nat) (a5 : Nat) (a6 : Nat) (a7 : Nat) (a8 : Nat) (a9 : Nat) (e0 : Nat) : Met l yX10_forgetUndone (.code yX10_forgetUndone cX10_forgetUndone 2 none :: ws0) ({ frames := 1, cells := 0, slots := 0, locals := 20 }) (va_Pc [.ref h0] (zPre (dC, dI) classes (zTy cI cZ cF) [(h0, .inr (8, [.ref a1, .ref a2, .ref a3, .ref a4, .ref a5, .ref a6, .ref a7, .ref a8, .ref a9, .int 0, .int 0, .int 0, .int 0])), (a9, .inr (10, [.int 0, .ref e0, .int 0]))] sz zTrue)) (zQ none (fun t => va_P (dC, dI) classes [(h0, .inr (8, [.ref a1, .ref a2, .ref a3, .ref a4, .ref a5, .ref a6, .ref a7, .ref a8, .ref a9, .int 0, .int 0, .int 0, .int 0])), (a9, .inr (10, [.int 0, .ref e0, .int 0]))] t.heap ∧ va_D (va_A [(h0, .inr (8, [.ref a1, .ref a2, .ref a3, .ref a4, .ref a5, .ref a6, .ref a7, .ref a8, .ref a9, .int 0, .int 0, .int 0, .int 0])), (a9, .inr (10, [.int 0, .ref e0, .int 0]))] sz) [(h0, .inr (8, [.ref a1, .ref a2, .ref a3, .ref a4, .ref a5, .ref a6, .ref a7, .ref a8, .ref a9, .int 0, .int 0, .int 0, .int 0])), (a9, .inr (10, [.int 0, .ref e0, .int 0]))]) (va_A [(h0, .inr (8, [.ref a1, .ref a2, .ref a3, .ref a4, .ref a5, .ref a6, .ref a7, .ref a8, .ref a9, .int 0, .int 0, .int 0, .int 0])), (a9, .inr (10, [.int 0, .ref e0, .int 0]))] sz)) 0 0 (va_A [(h0, .inr (8, [.ref a1, .ref a2, .ref a3, .ref a4, .ref a5, .ref a6, .ref a7, .ref a8, .ref a9, .int 0, .int 0, .int 0, .int 0])), (a9, .inr (10, [.int 0, .ref e0, .int 0]))] sz) := by
  refine Met.ofW (cc := cX10_forgetUndone) (maxL := 2) (ret := none) (by decide) rfl ?_
  intro p e s m args below meth c s₁ B hml hv
  obtain ⟨rfl, hsz, hP, hK, hD0, hXX⟩ := hv
  have hx := B.exec
  have hb := B.bytes
  have hr := B.returns
  have hts0 := atoms_spec (ws := .code yX10_forgetUndone cX10_forgetUndone 2 none :: ws0) B.pre
  have hts : ∀ w9 ∈ ws0, w9.before ([.ref h0] : List Value).toArray s = true := fun w9 h => hts0 w9 (List.mem_cons_of_mem _ h)
  have hown : s.vm.findClass "ScaleShop" = some m.cls := findClass_of_methodNamed B.named
  have hlocks := B.notSynchronized
  subst hsz
  have hD := hD0.self (sz := s.heap.size)
  generalize hAe : va_A [(h0, .inr (8, [.ref a1, .ref a2, .ref a3, .ref a4, .ref a5, .ref a6, .ref a7, .ref a8, .ref a9, .int 0, .int 0, .int 0, .int 0])), (a9, .inr (10, [.int 0, .ref e0, .int 0]))] s.heap.size = A at hD ⊢
  have hA : ∀ q : Nat, s.heap.size ≤ q → A q := fun q h => by rw [← hAe]; exact Or.inr h
  have hS : va_S A s.heap s.heap [] := va_S.rf
  have hP : va_P (dC, dI) classes [(h0, .inr (8, [.ref a1, .ref a2, .ref a3, .ref a4, .ref a5, .ref a6, .ref a7, .ref a8, .ref a9, .int 0, .int 0, .int 0, .int 0])), (a9, .inr (10, [.int 0, .ref e0, .int 0]))] s.heap := hP
  have hl := lv_entry ([.ref h0]) (n := 2) (Nat.le_of_ble_eq_true rfl)
  rw [lg_entry_eq]
  generalize (lg_sl ([.ref h0]) ++ List.replicate (2 - (lg_sl ([.ref h0])).length) Slot.unset).toArray = ls at hl ⊢
  have hl : lv_has ls 2 [(0, .ref h0)] := hl
  refine lv_aload_n hx hb dX10_forgetUndone_0 rfl (lv_at hl 0 rfl) ?_
  refine va_get (D := (dC, dI)) (ci := 8) (v := .ref a9) (C := RX10) (T := TX10) (N := 13) hx hb hts inX10 hown hK hP 0 rfl rfl 8 (by decide) (hts _ mw_317) (fun _ h9 => h9) rfl dX10_forgetUndone_1 ?_
  have hPc := hP.sub (ws' := [(a9, .inr (10, [.int 0, .ref e0, .int 0]))]) [1] rfl
  have hDc := hD.sub (ws' := [(a9, .inr (10, [.int 0, .ref e0, .int 0]))]) [1] (by decide) rfl
  have hFc := va_free (wc := [(a9, .inr (10, [.int 0, .ref e0, .int 0]))]) hD hS hA [1] rfl
  refine zcall (st1 := [.int 0]) (va_runV (As := []) (rest := []) ⟨hx, hb, hml, hown, hts⟩ (k_AL_size l dC dI cI cZ cF s.heap.size a9 e0 ) (cwV 0 hts (zz_gV mw_468 mw_469 mw_470 mw_109 mc_yJx4a65c_size_8abf5) rfl rfl rfl (by decide +kernel) ⟨Nat.le_of_ble_eq_true rfl, Nat.le_of_ble_eq_true rfl⟩) (zPV (q0 := 0) (ci := 10) hPc hDc hK rfl rfl) rfl rfl hl.1 rfl (lv_room (Nat.le_of_ble_eq_true rfl)) dX10_forgetUndone_4 ⟨Nat.le_of_ble_eq_true rfl, Nat.le_of_ble_eq_true rfl⟩) hS hFc hFc rfl (fun t H1 locs ht hB hk1 hS => ?_)
  obtain ⟨hP1, hD1⟩ := hB
  rw [ht] at hP1
  obtain ⟨hP, hD⟩ := va_join (wr := [(h0, .inr (8, [.ref a1, .ref a2, .ref a3, .ref a4, .ref a5, .ref a6, .ref a7, .ref a8, .ref a9, .int 0, .int 0, .int 0, .int 0]))]) (w1 := [(a9, .inr (10, [.int 0, .ref e0, .int 0]))]) hP hD [1] [0] rfl rfl (by decide) (by decide) hk1 hFc hP1 hD1
  clear hk1 hPc hDc hFc hP1 hD1 ht
  generalize H1 = H at hP hS ⊢
  have hP : va_P (dC, dI) classes [(h0, .inr (8, [.ref a1, .ref a2, .ref a3, .ref a4, .ref a5, .ref a6, .ref a7, .ref a8, .ref a9, .int 0, .int 0, .int 0, .int 0])), (a9, .inr (10, [.int 0, .ref e0, .int 0]))] H := hP
  have hD : va_D A [(h0, .inr (8, [.ref a1, .ref a2, .ref a3, .ref a4, .ref a5, .ref a6, .ref a7, .ref a8, .ref a9, .int 0, .int 0, .int 0, .int 0])), (a9, .inr (10, [.int 0, .ref e0, .int 0]))] := hD
  refine lv_iconst (v := 1) hx hb dX10_forgetUndone_7 (by decide) ?_
  refine lv_isub hx hb dX10_forgetUndone_8 ?_
  refine zz_i (v := (-1)) (by decide) ?_
  refine lv_istore_n (lv' := [(1, .int (-1)), (0, .ref h0)]) hx hb dX10_forgetUndone_9 rfl hl (by decide) rfl (fun ls hl => ?_)
  refine lv_iload_n hx hb dX10_forgetUndone_10 rfl (lv_at hl 0 rfl) ?_
  refine lv_aload_n hx hb dX10_forgetUndone_11 rfl (lv_at hl 1 rfl) ?_
  refine va_get (D := (dC, dI)) (ci := 8) (v := .int 0) (C := RX10) (T := TX10) (N := 13) hx hb hts inX10 hown hK hP 0 rfl rfl 9 (by decide) (hts _ mw_318) (fun _ h9 => h9) rfl dX10_forgetUndone_12 ?_
  refine lv_icmp_lt (tgt := 37) hx hb dX10_forgetUndone_15 (by decide) (fun c_1 => ?_) (fun c_1 => ?_)
  · refine W.widen (k := 0) (n := 0) (by decide) (by decide) ?_
    have hP9 := hP.sub (ws' := [(h0, .inr (8, [.ref a1, .ref a2, .ref a3, .ref a4, .ref a5, .ref a6, .ref a7, .ref a8, .ref a9, .int 0, .int 0, .int 0, .int 0])), (a9, .inr (10, [.int 0, .ref e0, .int 0]))]) [0, 1] rfl
    have hD9 := hD.sub (ws' := [(h0, .inr (8, [.ref a1, .ref a2, .ref a3, .ref a4, .ref a5, .ref a6, .ref a7, .ref a8, .ref a9, .int 0, .int 0, .int 0, .int 0])), (a9, .inr (10, [.int 0, .ref e0, .int 0]))]) [0, 1] (by decide) rfl
    exact W.vret hx hb hr (fun t ht hW => ⟨⟨rfl, by rw [ht]; exact hP9, hD9⟩, hS.F ht⟩) hS.2.2 dX10_forgetUndone_37
  · exact absurd (by decide) c_1
set_option maxHeartbeats 4000000 in
set_option maxRecDepth 100000 in
theorem k_seal (l : Launch) (dC : Nat → ClassId) (dI : Nat → Nat → Nat) (cI cZ cF : ClassId) (sz : Nat) (h0 : Nat) (a1 : Nat) (a2 : Nat) (a3 : Nat) (a4 : Nat) (a5 : Nat) (a6 : Nat) (a7 : Nat) (a8 : Nat) (a9 : Nat) (e0 : Nat) : Met l yX10_seal (.code yX10_seal cX10_seal 1 (some .boolean) :: ws0) ({ frames := 2, cells := 0, slots := 0, locals := 41 }) (va_Pc [.ref h0] (zPre (dC, dI) classes (zTy cI cZ cF) [(h0, .inr (8, [.ref a1, .ref a2, .ref a3, .ref a4, .ref a5, .ref a6, .ref a7, .ref a8, .ref a9, .int 0, .int 0, .int 0, .int 0])), (a9, .inr (10, [.int 0, .ref e0, .int 0]))] sz zTrue)) (zQ (some (.int 1)) (fun t => va_P (dC, dI) classes [(h0, .inr (8, [.ref a1, .ref a2, .ref a3, .ref a4, .ref a5, .ref a6, .ref a7, .ref a8, .ref a9, .int 0, .int 0, .int 0, .int 0])), (a9, .inr (10, [.int 0, .ref e0, .int 0]))] t.heap ∧ va_D (va_A [(h0, .inr (8, [.ref a1, .ref a2, .ref a3, .ref a4, .ref a5, .ref a6, .ref a7, .ref a8, .ref a9, .int 0, .int 0, .int 0, .int 0])), (a9, .inr (10, [.int 0, .ref e0, .int 0]))] sz) [(h0, .inr (8, [.ref a1, .ref a2, .ref a3, .ref a4, .ref a5, .ref a6, .ref a7, .ref a8, .ref a9, .int 0, .int 0, .int 0, .int 0])), (a9, .inr (10, [.int 0, .ref e0, .int 0]))]) (va_A [(h0, .inr (8, [.ref a1, .ref a2, .ref a3, .ref a4, .ref a5, .ref a6, .ref a7, .ref a8, .ref a9, .int 0, .int 0, .int 0, .int 0])), (a9, .inr (10, [.int 0, .ref e0, .int 0]))] sz)) 0 0 (va_A [(h0, .inr (8, [.ref a1, .ref a2, .ref a3, .ref a4, .ref a5, .ref a6, .ref a7, .ref a8, .ref a9, .int 0, .int 0, .int 0, .int 0])), (a9, .inr (10, [.int 0, .ref e0, .int 0]))] sz) := by
  refine Met.ofW (cc := cX10_seal) (maxL := 1) (ret := (some .boolean)) (by decide) rfl ?_
  intro p e s m args below meth c s₁ B hml hv
  obtain ⟨rfl, hsz, hP, hK, hD0, hXX⟩ := hv
  have hx := B.exec
  have hb := B.bytes
  have hr := B.returns
  have hts0 := atoms_spec (ws := .code yX10_seal cX10_seal 1 (some .boolean) :: ws0) B.pre
  have hts : ∀ w9 ∈ ws0, w9.before ([.ref h0] : List Value).toArray s = true := fun w9 h => hts0 w9 (List.mem_cons_of_mem _ h)
  have hown : s.vm.findClass "ScaleShop" = some m.cls := findClass_of_methodNamed B.named
  have hlocks := B.notSynchronized
  subst hsz
  have hD := hD0.self (sz := s.heap.size)
  generalize hAe : va_A [(h0, .inr (8, [.ref a1, .ref a2, .ref a3, .ref a4, .ref a5, .ref a6, .ref a7, .ref a8, .ref a9, .int 0, .int 0, .int 0, .int 0])), (a9, .inr (10, [.int 0, .ref e0, .int 0]))] s.heap.size = A at hD ⊢
  have hA : ∀ q : Nat, s.heap.size ≤ q → A q := fun q h => by rw [← hAe]; exact Or.inr h
  have hS : va_S A s.heap s.heap [] := va_S.rf
  have hP : va_P (dC, dI) classes [(h0, .inr (8, [.ref a1, .ref a2, .ref a3, .ref a4, .ref a5, .ref a6, .ref a7, .ref a8, .ref a9, .int 0, .int 0, .int 0, .int 0])), (a9, .inr (10, [.int 0, .ref e0, .int 0]))] s.heap := hP
  have hl := lv_entry ([.ref h0]) (n := 1) (Nat.le_of_ble_eq_true rfl)
  rw [lg_entry_eq]
  generalize (lg_sl ([.ref h0]) ++ List.replicate (1 - (lg_sl ([.ref h0])).length) Slot.unset).toArray = ls at hl ⊢
  have hl : lv_has ls 1 [(0, .ref h0)] := hl
  refine lv_aload_n hx hb dX10_seal_0 rfl (lv_at hl 0 rfl) ?_
  have hPc := hP.sub (ws' := [(h0, .inr (8, [.ref a1, .ref a2, .ref a3, .ref a4, .ref a5, .ref a6, .ref a7, .ref a8, .ref a9, .int 0, .int 0, .int 0, .int 0])), (a9, .inr (10, [.int 0, .ref e0, .int 0]))]) [0, 1] rfl
  have hDc := hD.sub (ws' := [(h0, .inr (8, [.ref a1, .ref a2, .ref a3, .ref a4, .ref a5, .ref a6, .ref a7, .ref a8, .ref a9, .int 0, .int 0, .int 0, .int 0])), (a9, .inr (10, [.int 0, .ref e0, .int 0]))]) [0, 1] (by decide) rfl
  have hFc := va_free (wc := [(h0, .inr (8, [.ref a1, .ref a2, .ref a3, .ref a4, .ref a5, .ref a6, .ref a7, .ref a8, .ref a9, .int 0, .int 0, .int 0, .int 0])), (a9, .inr (10, [.int 0, .ref e0, .int 0]))]) hD hS hA [0, 1] rfl
  refine zcall (st1 := []) (va_runV (As := []) (rest := []) ⟨hx, hb, hml, hown, hts⟩ (k_forgetUndone l dC dI cI cZ cF s.heap.size h0 a1 a2 a3 a4 a5 a6 a7 a8 a9 e0 ) (cwV 0 hts (zz_gV mw_464 mw_466 mw_2 mw_99 mc_yX10_forgetUndone) rfl rfl rfl (by decide +kernel) ⟨Nat.le_of_ble_eq_true rfl, Nat.le_of_ble_eq_true rfl⟩) (zPV (q0 := 0) (ci := 8) hPc hDc hK rfl rfl) rfl rfl hl.1 rfl (lv_room (Nat.le_of_ble_eq_true rfl)) dX10_seal_1 ⟨Nat.le_of_ble_eq_true rfl, Nat.le_of_ble_eq_true rfl⟩) hS hFc hFc rfl (fun t H1 locs ht hB hk1 hS => ?_)
  obtain ⟨hP1, hD1⟩ := hB
  rw [ht] at hP1
  obtain ⟨hP, hD⟩ := va_join (wr := []) (w1 := [(h0, .inr (8, [.ref a1, .ref a2, .ref a3, .ref a4, .ref a5, .ref a6, .ref a7, .ref a8, .ref a9, .int 0, .int 0, .int 0, .int 0])), (a9, .inr (10, [.int 0, .ref e0, .int 0]))]) hP hD [0, 1] [] rfl rfl (by decide) (by decide) hk1 hFc hP1 hD1
  clear hk1 hPc hDc hFc hP1 hD1 ht
  generalize H1 = H at hP hS ⊢
  have hP : va_P (dC, dI) classes [(h0, .inr (8, [.ref a1, .ref a2, .ref a3, .ref a4, .ref a5, .ref a6, .ref a7, .ref a8, .ref a9, .int 0, .int 0, .int 0, .int 0])), (a9, .inr (10, [.int 0, .ref e0, .int 0]))] H := hP
  have hD : va_D A [(h0, .inr (8, [.ref a1, .ref a2, .ref a3, .ref a4, .ref a5, .ref a6, .ref a7, .ref a8, .ref a9, .int 0, .int 0, .int 0, .int 0])), (a9, .inr (10, [.int 0, .ref e0, .int 0]))] := hD
  refine lv_aload_n hx hb dX10_seal_4 rfl (lv_at hl 0 rfl) ?_
  refine lv_aload_n hx hb dX10_seal_5 rfl (lv_at hl 0 rfl) ?_
  refine va_get (D := (dC, dI)) (ci := 8) (v := .int 0) (C := RX10) (T := TX10) (N := 13) hx hb hts inX10 hown hK hP 0 rfl rfl 9 (by decide) (hts _ mw_318) (fun _ h9 => h9) rfl dX10_seal_6 ?_
  refine va_put (D := (dC, dI)) (ci := 8) (v := .int 0) (ty := .int) (C := RX10) (T := TX10) (N := 13) hx hb hts inX10 tyX10 tyX10_ok nmX10 hown hK hP hD hS 0 rfl rfl 10 (by decide) (hts _ mw_319) (fun _ h9 => h9) rfl (by decide +kernel) rfl rfl (Nat.le_of_ble_eq_true rfl) dX10_seal_9 (fun H locs hP hD hS => ?_)
  have hP : va_P (dC, dI) classes [(h0, .inr (8, [.ref a1, .ref a2, .ref a3, .ref a4, .ref a5, .ref a6, .ref a7, .ref a8, .ref a9, .int 0, .int 0, .int 0, .int 0])), (a9, .inr (10, [.int 0, .ref e0, .int 0]))] H := hP
  have hD : va_D A [(h0, .inr (8, [.ref a1, .ref a2, .ref a3, .ref a4, .ref a5, .ref a6, .ref a7, .ref a8, .ref a9, .int 0, .int 0, .int 0, .int 0])), (a9, .inr (10, [.int 0, .ref e0, .int 0]))] := hD
  refine lv_aload_n hx hb dX10_seal_12 rfl (lv_at hl 0 rfl) ?_
  refine lv_iconst (v := 0) hx hb dX10_seal_13 (by decide) ?_
  refine va_put (D := (dC, dI)) (ci := 8) (v := .int 0) (ty := .int) (C := RX10) (T := TX10) (N := 13) hx hb hts inX10 tyX10 tyX10_ok nmX10 hown hK hP hD hS 0 rfl rfl 12 (by decide) (hts _ mw_321) (fun _ h9 => h9) rfl (by decide +kernel) rfl rfl (Nat.le_of_ble_eq_true rfl) dX10_seal_14 (fun H locs hP hD hS => ?_)
  have hP : va_P (dC, dI) classes [(h0, .inr (8, [.ref a1, .ref a2, .ref a3, .ref a4, .ref a5, .ref a6, .ref a7, .ref a8, .ref a9, .int 0, .int 0, .int 0, .int 0])), (a9, .inr (10, [.int 0, .ref e0, .int 0]))] H := hP
  have hD : va_D A [(h0, .inr (8, [.ref a1, .ref a2, .ref a3, .ref a4, .ref a5, .ref a6, .ref a7, .ref a8, .ref a9, .int 0, .int 0, .int 0, .int 0])), (a9, .inr (10, [.int 0, .ref e0, .int 0]))] := hD
  refine lv_iconst (v := 1) hx hb dX10_seal_17 (by decide) ?_
  refine W.widen (k := 0) (n := 0) (by decide) (by decide) ?_
  have hP9 := hP.sub (ws' := [(h0, .inr (8, [.ref a1, .ref a2, .ref a3, .ref a4, .ref a5, .ref a6, .ref a7, .ref a8, .ref a9, .int 0, .int 0, .int 0, .int 0])), (a9, .inr (10, [.int 0, .ref e0, .int 0]))]) [0, 1] rfl
  have hD9 := hD.sub (ws' := [(h0, .inr (8, [.ref a1, .ref a2, .ref a3, .ref a4, .ref a5, .ref a6, .ref a7, .ref a8, .ref a9, .int 0, .int 0, .int 0, .int 0])), (a9, .inr (10, [.int 0, .ref e0, .int 0]))]) [0, 1] (by decide) rfl
  exact W.zret (ty := .boolean) (v := 1) hx hb hr rfl (fun t ht hW => ⟨⟨rfl, by rw [ht]; exact hP9, hD9⟩, hS.F ht⟩) hS.2.2 dX10_seal_18
set_option maxHeartbeats 4000000 in
set_option maxRecDepth 100000 in
theorem k_isFull (l : Launch) (dC : Nat → ClassId) (dI : Nat → Nat → Nat) (cI cZ cF : ClassId) (sz : Nat) (a1 : Nat) (f0 : Nat) : Met l yX8_isFull (.code yX8_isFull cX8_isFull 1 (some .boolean) :: ws0) ({ frames := 0, cells := 0, slots := 0, locals := 0 }) (va_Pc [.ref a1] (zPre (dC, dI) classes (zTy cI cZ cF) [(a1, .inr (7, [.ref f0, .int 0])), (f0, .inl (cF, 200, .inr (.inr (.inr (.inr (fun _ => none))))))] sz zTrue)) (zQ (some (.int 0)) (fun t => va_P (dC, dI) classes [(a1, .inr (7, [.ref f0, .int 0])), (f0, .inl (cF, 200, .inr (.inr (.inr (.inr (fun _ => none))))))] t.heap ∧ va_D (va_A [(a1, .inr (7, [.ref f0, .int 0])), (f0, .inl (cF, 200, .inr (.inr (.inr (.inr (fun _ => none))))))] sz) [(a1, .inr (7, [.ref f0, .int 0])), (f0, .inl (cF, 200, .inr (.inr (.inr (.inr (fun _ => none))))))]) (va_A [(a1, .inr (7, [.ref f0, .int 0])), (f0, .inl (cF, 200, .inr (.inr (.inr (.inr (fun _ => none))))))] sz)) 0 0 (va_A [(a1, .inr (7, [.ref f0, .int 0])), (f0, .inl (cF, 200, .inr (.inr (.inr (.inr (fun _ => none))))))] sz) := by
  refine Met.ofW (cc := cX8_isFull) (maxL := 1) (ret := (some .boolean)) (by decide) rfl ?_
  intro p e s m args below meth c s₁ B hml hv
  obtain ⟨rfl, hsz, hP, hK, hD0, hXX⟩ := hv
  have hx := B.exec
  have hb := B.bytes
  have hr := B.returns
  have hts0 := atoms_spec (ws := .code yX8_isFull cX8_isFull 1 (some .boolean) :: ws0) B.pre
  have hts : ∀ w9 ∈ ws0, w9.before ([.ref a1] : List Value).toArray s = true := fun w9 h => hts0 w9 (List.mem_cons_of_mem _ h)
  have hown : s.vm.findClass "ScaleShop$Sheet" = some m.cls := findClass_of_methodNamed B.named
  have hlocks := B.notSynchronized
  subst hsz
  have hD := hD0.self (sz := s.heap.size)
  generalize hAe : va_A [(a1, .inr (7, [.ref f0, .int 0])), (f0, .inl (cF, 200, .inr (.inr (.inr (.inr (fun _ => none))))))] s.heap.size = A at hD ⊢
  have hA : ∀ q : Nat, s.heap.size ≤ q → A q := fun q h => by rw [← hAe]; exact Or.inr h
  have hS : va_S A s.heap s.heap [] := va_S.rf
  have hP : va_P (dC, dI) classes [(a1, .inr (7, [.ref f0, .int 0])), (f0, .inl (cF, 200, .inr (.inr (.inr (.inr (fun _ => none))))))] s.heap := hP
  have hl := lv_entry ([.ref a1]) (n := 1) (Nat.le_of_ble_eq_true rfl)
  rw [lg_entry_eq]
  generalize (lg_sl ([.ref a1]) ++ List.replicate (1 - (lg_sl ([.ref a1])).length) Slot.unset).toArray = ls at hl ⊢
  have hl : lv_has ls 1 [(0, .ref a1)] := hl
  refine lv_aload_n hx hb dX8_isFull_0 rfl (lv_at hl 0 rfl) ?_
  refine va_get (D := (dC, dI)) (ci := 7) (v := .int 0) (C := RX8) (T := TX8) (N := 2) hx hb hts inX8 hown hK hP 0 rfl rfl 1 (by decide) (hts _ mw_137) (fun _ h9 => h9) rfl dX8_isFull_1 ?_
  refine lv_aload_n hx hb dX8_isFull_4 rfl (lv_at hl 0 rfl) ?_
  refine va_get (D := (dC, dI)) (ci := 7) (v := .ref f0) (C := RX8) (T := TX8) (N := 2) hx hb hts inX8 hown hK hP 0 rfl rfl 0 (by decide) (hts _ mw_136) (fun _ h9 => h9) rfl dX8_isFull_5 ?_
  refine va_alen (v := 200) hx hb hK hP 1 2 rfl rfl (by decide) dX8_isFull_8 ?_
  refine lv_icmp_lt (tgt := 16) hx hb dX8_isFull_9 (by decide) (fun c_1 => ?_) (fun c_1 => ?_)
  · refine lv_iconst (v := 0) hx hb dX8_isFull_16 (by decide) ?_
    refine W.widen (k := 0) (n := 0) (by decide) (by decide) ?_
    have hP9 := hP.sub (ws' := [(a1, .inr (7, [.ref f0, .int 0])), (f0, .inl (cF, 200, .inr (.inr (.inr (.inr (fun _ => none))))))]) [0, 1] rfl
    have hD9 := hD.sub (ws' := [(a1, .inr (7, [.ref f0, .int 0])), (f0, .inl (cF, 200, .inr (.inr (.inr (.inr (fun _ => none))))))]) [0, 1] (by decide) rfl
    exact W.zret (ty := .boolean) (v := 0) hx hb hr rfl (fun t ht hW => ⟨⟨rfl, by rw [ht]; exact hP9, hD9⟩, hS.F ht⟩) hS.2.2 dX8_isFull_17
  · exact absurd (by decide) c_1
set_option maxHeartbeats 4000000 in
set_option maxRecDepth 100000 in
theorem k_add (l : Launch) (dC : Nat → ClassId) (dI : Nat → Nat → Nat) (cI cZ cF : ClassId) (sz : Nat) (a1 : Nat) (f0 : Nat) (g0 : Nat) (l0 : Nat) (k0 : Nat) (rk : Int32) (wd : Int32) (tn : Int32) : Met l yX8_add (.code yX8_add cX8_add 2 (some .int) :: ws0) ({ frames := 1, cells := 0, slots := 0, locals := 20 }) (va_Pc [.ref a1, .ref g0] (zPre (dC, dI) classes (zTy cI cZ cF) [(a1, .inr (7, [.ref f0, .int 0])), (f0, .inl (cF, 200, .inr (.inr (.inr (.inr (fun _ => none)))))), (g0, .inr (1, [.int rk, .int wd, .int tn, .int (-1), .int (-1), .ref l0, .ref k0, .null]))] sz zTrue)) (zQ (some (.int 0)) (fun t => va_P (dC, dI) classes [] t.heap ∧ va_D (va_A [(a1, .inr (7, [.ref f0, .int 0])), (f0, .inl (cF, 200, .inr (.inr (.inr (.inr (fun _ => none)))))), (g0, .inr (1, [.int rk, .int wd, .int tn, .int (-1), .int (-1), .ref l0, .ref k0, .null]))] sz) []) (va_A [(a1, .inr (7, [.ref f0, .int 0])), (f0, .inl (cF, 200, .inr (.inr (.inr (.inr (fun _ => none)))))), (g0, .inr (1, [.int rk, .int wd, .int tn, .int (-1), .int (-1), .ref l0, .ref k0, .null]))] sz)) 0 0 (va_A [(a1, .inr (7, [.ref f0, .int 0])), (f0, .inl (cF, 200, .inr (.inr (.inr (.inr (fun _ => none)))))), (g0, .inr (1, [.int rk, .int wd, .int tn, .int (-1), .int (-1), .ref l0, .ref k0, .null]))] sz) := by
  refine Met.ofW (cc := cX8_add) (maxL := 2) (ret := (some .int)) (by decide) rfl ?_
  intro p e s m args below meth c s₁ B hml hv
  obtain ⟨rfl, hsz, hP, hK, hD0, hXX⟩ := hv
  have hx := B.exec
  have hb := B.bytes
  have hr := B.returns
  have hts0 := atoms_spec (ws := .code yX8_add cX8_add 2 (some .int) :: ws0) B.pre
  have hts : ∀ w9 ∈ ws0, w9.before ([.ref a1, .ref g0] : List Value).toArray s = true := fun w9 h => hts0 w9 (List.mem_cons_of_mem _ h)
  have hown : s.vm.findClass "ScaleShop$Sheet" = some m.cls := findClass_of_methodNamed B.named
  have hlocks := B.notSynchronized
  subst hsz
  have hD := hD0.self (sz := s.heap.size)
  generalize hAe : va_A [(a1, .inr (7, [.ref f0, .int 0])), (f0, .inl (cF, 200, .inr (.inr (.inr (.inr (fun _ => none)))))), (g0, .inr (1, [.int rk, .int wd, .int tn, .int (-1), .int (-1), .ref l0, .ref k0, .null]))] s.heap.size = A at hD ⊢
  have hA : ∀ q : Nat, s.heap.size ≤ q → A q := fun q h => by rw [← hAe]; exact Or.inr h
  have hS : va_S A s.heap s.heap [] := va_S.rf
  have hP : va_P (dC, dI) classes [(a1, .inr (7, [.ref f0, .int 0])), (f0, .inl (cF, 200, .inr (.inr (.inr (.inr (fun _ => none)))))), (g0, .inr (1, [.int rk, .int wd, .int tn, .int (-1), .int (-1), .ref l0, .ref k0, .null]))] s.heap := hP
  have hl := lv_entry ([.ref a1, .ref g0]) (n := 2) (Nat.le_of_ble_eq_true rfl)
  rw [lg_entry_eq]
  generalize (lg_sl ([.ref a1, .ref g0]) ++ List.replicate (2 - (lg_sl ([.ref a1, .ref g0])).length) Slot.unset).toArray = ls at hl ⊢
  have hl : lv_has ls 2 [(0, .ref a1), (1, .ref g0)] := hl
  refine lv_aload_n hx hb dX8_add_0 rfl (lv_at hl 0 rfl) ?_
  have hPc := hP.sub (ws' := [(a1, .inr (7, [.ref f0, .int 0])), (f0, .inl (cF, 200, .inr (.inr (.inr (.inr (fun _ => none))))))]) [0, 1] rfl
  have hDc := hD.sub (ws' := [(a1, .inr (7, [.ref f0, .int 0])), (f0, .inl (cF, 200, .inr (.inr (.inr (.inr (fun _ => none))))))]) [0, 1] (by decide) rfl
  have hFc := va_free (wc := [(a1, .inr (7, [.ref f0, .int 0])), (f0, .inl (cF, 200, .inr (.inr (.inr (.inr (fun _ => none))))))]) hD hS hA [0, 1] rfl
  refine zcall (st1 := [.int 0]) (va_runV (As := []) (rest := []) ⟨hx, hb, hml, hown, hts⟩ (k_isFull l dC dI cI cZ cF s.heap.size a1 f0 ) (cwV 0 hts (zz_gV mw_493 mw_361 mw_362 mw_100 mc_yX8_isFull) rfl rfl rfl (by decide +kernel) ⟨Nat.le_of_ble_eq_true rfl, Nat.le_of_ble_eq_true rfl⟩) (zPV (q0 := 0) (ci := 7) hPc hDc hK rfl rfl) rfl rfl hl.1 rfl (lv_room (Nat.le_of_ble_eq_true rfl)) dX8_add_1 ⟨Nat.le_of_ble_eq_true rfl, Nat.le_of_ble_eq_true rfl⟩) hS hFc hFc rfl (fun t H1 locs ht hB hk1 hS => ?_)
  obtain ⟨hP1, hD1⟩ := hB
  rw [ht] at hP1
  obtain ⟨hP, hD⟩ := va_join (wr := [(g0, .inr (1, [.int rk, .int wd, .int tn, .int (-1), .int (-1), .ref l0, .ref k0, .null]))]) (w1 := [(a1, .inr (7, [.ref f0, .int 0])), (f0, .inl (cF, 200, .inr (.inr (.inr (.inr (fun _ => none))))))]) hP hD [0, 1] [2] rfl rfl (by decide) (by decide) hk1 hFc hP1 hD1
  clear hk1 hPc hDc hFc hP1 hD1 ht
  generalize H1 = H at hP hS ⊢
  have hP : va_P (dC, dI) classes [(g0, .inr (1, [.int rk, .int wd, .int tn, .int (-1), .int (-1), .ref l0, .ref k0, .null])), (a1, .inr (7, [.ref f0, .int 0])), (f0, .inl (cF, 200, .inr (.inr (.inr (.inr (fun _ => none))))))] H := hP
  have hD : va_D A [(g0, .inr (1, [.int rk, .int wd, .int tn, .int (-1), .int (-1), .ref l0, .ref k0, .null])), (a1, .inr (7, [.ref f0, .int 0])), (f0, .inl (cF, 200, .inr (.inr (.inr (.inr (fun _ => none))))))] := hD
  refine lv_if_eq (tgt := 9) hx hb dX8_add_4 (by decide) (fun c_1 => ?_) (fun c_1 => ?_)
  · refine lv_aload_n hx hb dX8_add_9 rfl (lv_at hl 0 rfl) ?_
    refine va_get (D := (dC, dI)) (ci := 7) (v := .ref f0) (C := RX8) (T := TX8) (N := 2) hx hb hts inX8 hown hK hP 1 rfl rfl 0 (by decide) (hts _ mw_136) (fun _ h9 => h9) rfl dX8_add_10 ?_
    refine lv_aload_n hx hb dX8_add_13 rfl (lv_at hl 0 rfl) ?_
    refine va_get (D := (dC, dI)) (ci := 7) (v := .int 0) (C := RX8) (T := TX8) (N := 2) hx hb hts inX8 hown hK hP 1 rfl rfl 1 (by decide) (hts _ mw_137) (fun _ h9 => h9) rfl dX8_add_14 ?_
    refine lv_aload_n hx hb dX8_add_17 rfl (lv_at hl 1 rfl) ?_
    refine va_astq hx hb hK hP hD hS 2 2 0 1 rfl rfl rfl rfl (i := 0) (show vp_in 0 200 from by unfold vp_in; decide) dX8_add_18 (fun H locs hP hD hS => ?_)
    have hP := hP.sub (ws' := [(g0, .inr (1, [.int rk, .int wd, .int tn, .int (-1), .int (-1), .ref l0, .ref k0, .null])), (a1, .inr (7, [.ref f0, .int 0]))]) [0, 1] rfl
    have hD := hD.sub (ws' := [(g0, .inr (1, [.int rk, .int wd, .int tn, .int (-1), .int (-1), .ref l0, .ref k0, .null])), (a1, .inr (7, [.ref f0, .int 0]))]) [0, 1] (by decide) rfl
    refine lv_aload_n hx hb dX8_add_19 rfl (lv_at hl 0 rfl) ?_
    refine lv_dup hx hb dX8_add_20 rfl ?_
    refine va_get (D := (dC, dI)) (ci := 7) (v := .int 0) (C := RX8) (T := TX8) (N := 2) hx hb hts inX8 hown hK hP 1 rfl rfl 1 (by decide) (hts _ mw_137) (fun _ h9 => h9) rfl dX8_add_21 ?_
    refine lv_iconst (v := 1) hx hb dX8_add_24 (by decide) ?_
    refine lv_iadd hx hb dX8_add_25 ?_
    refine zz_i (v := 1) (by decide) ?_
    refine va_put (D := (dC, dI)) (ci := 7) (v := .int 1) (ty := .int) (C := RX8) (T := TX8) (N := 2) hx hb hts inX8 tyX8 tyX8_ok nmX8 hown hK hP hD hS 1 rfl rfl 1 (by decide) (hts _ mw_137) (fun _ h9 => h9) rfl (by decide +kernel) rfl rfl (Nat.le_of_ble_eq_true rfl) dX8_add_26 (fun H locs hP hD hS => ?_)
    have hP : va_P (dC, dI) classes [(g0, .inr (1, [.int rk, .int wd, .int tn, .int (-1), .int (-1), .ref l0, .ref k0, .null])), (a1, .inr (7, [.ref f0, .int 1]))] H := hP
    have hD : va_D A [(g0, .inr (1, [.int rk, .int wd, .int tn, .int (-1), .int (-1), .ref l0, .ref k0, .null])), (a1, .inr (7, [.ref f0, .int 1]))] := hD
    refine lv_aload_n hx hb dX8_add_29 rfl (lv_at hl 0 rfl) ?_
    refine va_get (D := (dC, dI)) (ci := 7) (v := .int 1) (C := RX8) (T := TX8) (N := 2) hx hb hts inX8 hown hK hP 1 rfl rfl 1 (by decide) (hts _ mw_137) (fun _ h9 => h9) rfl dX8_add_30 ?_
    refine lv_iconst (v := 1) hx hb dX8_add_33 (by decide) ?_
    refine lv_isub hx hb dX8_add_34 ?_
    refine zz_i (v := 0) (by decide) ?_
    refine W.widen (k := 0) (n := 0) (by decide) (by decide) ?_
    have hP9 := hP.sub (ws' := []) [] rfl
    have hD9 := hD.sub (ws' := []) [] (by decide) rfl
    exact W.iret (v := 0) hx hb hr (fun t ht hW => ⟨⟨rfl, by rw [ht]; exact hP9, hD9⟩, hS.F ht⟩) hS.2.2 dX8_add_35
  · exact absurd (by decide) c_1
set_option maxHeartbeats 4000000 in
set_option maxRecDepth 100000 in
theorem k_find (l : Launch) (dC : Nat → ClassId) (dI : Nat → Nat → Nat) (cI cZ cF : ClassId) (sz : Nat) (a1 : Nat) (f0 : Nat) (i : Int32) : Met l yX8_find (.code yX8_find cX8_find 2 (some (.object "ScaleShop$Feature")) :: ws0) ({ frames := 0, cells := 0, slots := 0, locals := 0 }) (va_Pc [.ref a1, .int i] (zPre (dC, dI) classes (zTy cI cZ cF) [(a1, .inr (7, [.ref f0, .int 0]))] sz zTrue)) (zQ (some (.null)) (fun t => va_P (dC, dI) classes [(a1, .inr (7, [.ref f0, .int 0]))] t.heap ∧ va_D (va_A [(a1, .inr (7, [.ref f0, .int 0]))] sz) [(a1, .inr (7, [.ref f0, .int 0]))]) (va_A [(a1, .inr (7, [.ref f0, .int 0]))] sz)) 0 0 (va_A [(a1, .inr (7, [.ref f0, .int 0]))] sz) := by
  refine Met.ofW (cc := cX8_find) (maxL := 2) (ret := (some (.object "ScaleShop$Feature"))) (by decide) rfl ?_
  intro p e s m args below meth c s₁ B hml hv
  obtain ⟨rfl, hsz, hP, hK, hD0, hXX⟩ := hv
  have hx := B.exec
  have hb := B.bytes
  have hr := B.returns
  have hts0 := atoms_spec (ws := .code yX8_find cX8_find 2 (some (.object "ScaleShop$Feature")) :: ws0) B.pre
  have hts : ∀ w9 ∈ ws0, w9.before ([.ref a1, .int i] : List Value).toArray s = true := fun w9 h => hts0 w9 (List.mem_cons_of_mem _ h)
  have hown : s.vm.findClass "ScaleShop$Sheet" = some m.cls := findClass_of_methodNamed B.named
  have hlocks := B.notSynchronized
  subst hsz
  have hD := hD0.self (sz := s.heap.size)
  generalize hAe : va_A [(a1, .inr (7, [.ref f0, .int 0]))] s.heap.size = A at hD ⊢
  have hA : ∀ q : Nat, s.heap.size ≤ q → A q := fun q h => by rw [← hAe]; exact Or.inr h
  have hS : va_S A s.heap s.heap [] := va_S.rf
  have hP : va_P (dC, dI) classes [(a1, .inr (7, [.ref f0, .int 0]))] s.heap := hP
  have hl := lv_entry ([.ref a1, .int i]) (n := 2) (Nat.le_of_ble_eq_true rfl)
  rw [lg_entry_eq]
  generalize (lg_sl ([.ref a1, .int i]) ++ List.replicate (2 - (lg_sl ([.ref a1, .int i])).length) Slot.unset).toArray = ls at hl ⊢
  have hl : lv_has ls 2 [(0, .ref a1), (1, .int i)] := hl
  refine lv_iload_n hx hb dX8_find_0 rfl (lv_at hl 1 rfl) ?_
  refine lv_if_lt (tgt := 21) hx hb dX8_find_1 (by decide) (fun c_1 => ?_) (fun c_1 => ?_)
  · refine lv_null hx hb dX8_find_21 ?_
    refine W.widen (k := 0) (n := 0) (by decide) (by decide) ?_
    have hP9 := hP.sub (ws' := [(a1, .inr (7, [.ref f0, .int 0]))]) [0] rfl
    have hD9 := hD.sub (ws' := [(a1, .inr (7, [.ref f0, .int 0]))]) [0] (by decide) rfl
    exact W.aret hx hb hr (Or.inl ⟨_, rfl⟩) (Or.inl rfl) (fun t ht hW => ⟨⟨rfl, by rw [ht]; exact hP9, hD9⟩, hS.F ht⟩) hS.2.2 dX8_find_22
  · refine lv_iload_n hx hb dX8_find_4 rfl (lv_at hl 1 rfl) ?_
    refine lv_aload_n hx hb dX8_find_5 rfl (lv_at hl 0 rfl) ?_
    refine va_get (D := (dC, dI)) (ci := 7) (v := .int 0) (C := RX8) (T := TX8) (N := 2) hx hb hts inX8 hown hK hP 0 rfl rfl 1 (by decide) (hts _ mw_137) (fun _ h9 => h9) rfl dX8_find_6 ?_
    refine lv_icmp_ge (tgt := 21) hx hb dX8_find_9 (by decide) (fun c_2 => ?_) (fun c_2 => ?_)
    · refine lv_null hx hb dX8_find_21 ?_
      refine W.widen (k := 0) (n := 0) (by decide) (by decide) ?_
      have hP9 := hP.sub (ws' := [(a1, .inr (7, [.ref f0, .int 0]))]) [0] rfl
      have hD9 := hD.sub (ws' := [(a1, .inr (7, [.ref f0, .int 0]))]) [0] (by decide) rfl
      exact W.aret hx hb hr (Or.inl ⟨_, rfl⟩) (Or.inl rfl) (fun t ht hW => ⟨⟨rfl, by rw [ht]; exact hP9, hD9⟩, hS.F ht⟩) hS.2.2 dX8_find_22
    · exact absurd (Int32.not_lt.mp c_1) c_2
set_option maxHeartbeats 4000000 in
set_option maxRecDepth 100000 in
theorem k_rowThere (l : Launch) (dC : Nat → ClassId) (dI : Nat → Nat → Nat) (cI cZ cF : ClassId) (sz : Nat) (a1 : Nat) (f0 : Nat) (i : Int32) : Met l yX8_rowThere (.code yX8_rowThere cX8_rowThere 3 (some (.object "ScaleShop$Row")) :: ws0) ({ frames := 1, cells := 0, slots := 0, locals := 21 }) (va_Pc [.ref a1, .int i] (zPre (dC, dI) classes (zTy cI cZ cF) [(a1, .inr (7, [.ref f0, .int 0]))] sz zTrue)) (zQ (some (.null)) (fun t => va_P (dC, dI) classes [(a1, .inr (7, [.ref f0, .int 0]))] t.heap ∧ va_D (va_A [(a1, .inr (7, [.ref f0, .int 0]))] sz) [(a1, .inr (7, [.ref f0, .int 0]))]) (va_A [(a1, .inr (7, [.ref f0, .int 0]))] sz)) 0 0 (va_A [(a1, .inr (7, [.ref f0, .int 0]))] sz) := by
  refine Met.ofW (cc := cX8_rowThere) (maxL := 3) (ret := (some (.object "ScaleShop$Row"))) (by decide) rfl ?_
  intro p e s m args below meth c s₁ B hml hv
  obtain ⟨rfl, hsz, hP, hK, hD0, hXX⟩ := hv
  have hx := B.exec
  have hb := B.bytes
  have hr := B.returns
  have hts0 := atoms_spec (ws := .code yX8_rowThere cX8_rowThere 3 (some (.object "ScaleShop$Row")) :: ws0) B.pre
  have hts : ∀ w9 ∈ ws0, w9.before ([.ref a1, .int i] : List Value).toArray s = true := fun w9 h => hts0 w9 (List.mem_cons_of_mem _ h)
  have hown : s.vm.findClass "ScaleShop$Sheet" = some m.cls := findClass_of_methodNamed B.named
  have hlocks := B.notSynchronized
  subst hsz
  have hD := hD0.self (sz := s.heap.size)
  generalize hAe : va_A [(a1, .inr (7, [.ref f0, .int 0]))] s.heap.size = A at hD ⊢
  have hA : ∀ q : Nat, s.heap.size ≤ q → A q := fun q h => by rw [← hAe]; exact Or.inr h
  have hS : va_S A s.heap s.heap [] := va_S.rf
  have hP : va_P (dC, dI) classes [(a1, .inr (7, [.ref f0, .int 0]))] s.heap := hP
  have hl := lv_entry ([.ref a1, .int i]) (n := 3) (Nat.le_of_ble_eq_true rfl)
  rw [lg_entry_eq]
  generalize (lg_sl ([.ref a1, .int i]) ++ List.replicate (3 - (lg_sl ([.ref a1, .int i])).length) Slot.unset).toArray = ls at hl ⊢
  have hl : lv_has ls 3 [(0, .ref a1), (1, .int i)] := hl
  refine lv_aload_n hx hb dX8_rowThere_0 rfl (lv_at hl 0 rfl) ?_
  refine lv_iload_n hx hb dX8_rowThere_1 rfl (lv_at hl 1 rfl) ?_
  have hPc := hP.sub (ws' := [(a1, .inr (7, [.ref f0, .int 0]))]) [0] rfl
  have hDc := hD.sub (ws' := [(a1, .inr (7, [.ref f0, .int 0]))]) [0] (by decide) rfl
  have hFc := va_free (wc := [(a1, .inr (7, [.ref f0, .int 0]))]) hD hS hA [0] rfl
  refine zcall (st1 := [.null]) (va_runV (As := [.int i]) (rest := []) ⟨hx, hb, hml, hown, hts⟩ (k_find l dC dI cI cZ cF s.heap.size a1 f0 i ) (cwV 1 hts (zz_gV mw_616 mw_499 mw_500 mw_100 mc_yX8_find) rfl rfl rfl (by decide +kernel) ⟨Nat.le_of_ble_eq_true rfl, Nat.le_of_ble_eq_true rfl⟩) (zPV (q0 := 0) (ci := 7) hPc hDc hK rfl rfl) rfl rfl hl.1 rfl (lv_room (Nat.le_of_ble_eq_true rfl)) dX8_rowThere_2 ⟨Nat.le_of_ble_eq_true rfl, Nat.le_of_ble_eq_true rfl⟩) hS hFc hFc rfl (fun t H1 locs ht hB hk1 hS => ?_)
  obtain ⟨hP1, hD1⟩ := hB
  rw [ht] at hP1
  obtain ⟨hP, hD⟩ := va_join (wr := []) (w1 := [(a1, .inr (7, [.ref f0, .int 0]))]) hP hD [0] [] rfl rfl (by decide) (by decide) hk1 hFc hP1 hD1
  clear hk1 hPc hDc hFc hP1 hD1 ht
  generalize H1 = H at hP hS ⊢
  have hP : va_P (dC, dI) classes [(a1, .inr (7, [.ref f0, .int 0]))] H := hP
  have hD : va_D A [(a1, .inr (7, [.ref f0, .int 0]))] := hD
  refine lv_astore_nN (lv' := [(2, .null), (0, .ref a1), (1, .int i)]) hx hb dX8_rowThere_5 rfl hl (by decide) rfl (fun ls hl => ?_)
  refine lv_aload_nN hx hb dX8_rowThere_6 rfl (lv_at hl 0 rfl) ?_
  refine lv_ifnullN (tgt := 31) hx hb dX8_rowThere_7 (by decide) ?_
  refine lv_null hx hb dX8_rowThere_31 ?_
  refine W.widen (k := 0) (n := 0) (by decide) (by decide) ?_
  have hP9 := hP.sub (ws' := [(a1, .inr (7, [.ref f0, .int 0]))]) [0] rfl
  have hD9 := hD.sub (ws' := [(a1, .inr (7, [.ref f0, .int 0]))]) [0] (by decide) rfl
  exact W.aret hx hb hr (Or.inl ⟨_, rfl⟩) (Or.inl rfl) (fun t ht hW => ⟨⟨rfl, by rw [ht]; exact hP9, hD9⟩, hS.F ht⟩) hS.2.2 dX8_rowThere_32
set_option maxHeartbeats 4000000 in
set_option maxRecDepth 100000 in
theorem k_inState (l : Launch) (dC : Nat → ClassId) (dI : Nat → Nat → Nat) (cI cZ cF : ClassId) (sz : Nat) (a1 : Nat) (f0 : Nat) (i : Int32) : Met l yX8_inState (.code yX8_inState cX8_inState 5 (some .int) :: ws0) ({ frames := 0, cells := 0, slots := 0, locals := 0 }) (va_Pc [.ref a1, .int i] (zPre (dC, dI) classes (zTy cI cZ cF) [(a1, .inr (7, [.ref f0, .int 0]))] sz zTrue)) (zQ (some (.int 0)) (fun t => va_P (dC, dI) classes [(a1, .inr (7, [.ref f0, .int 0]))] t.heap ∧ va_D (va_A [(a1, .inr (7, [.ref f0, .int 0]))] sz) [(a1, .inr (7, [.ref f0, .int 0]))]) (va_A [(a1, .inr (7, [.ref f0, .int 0]))] sz)) 0 0 (va_A [(a1, .inr (7, [.ref f0, .int 0]))] sz) := by
  refine Met.ofW (cc := cX8_inState) (maxL := 5) (ret := (some .int)) (by decide) rfl ?_
  intro p e s m args below meth c s₁ B hml hv
  obtain ⟨rfl, hsz, hP, hK, hD0, hXX⟩ := hv
  have hx := B.exec
  have hb := B.bytes
  have hr := B.returns
  have hts0 := atoms_spec (ws := .code yX8_inState cX8_inState 5 (some .int) :: ws0) B.pre
  have hts : ∀ w9 ∈ ws0, w9.before ([.ref a1, .int i] : List Value).toArray s = true := fun w9 h => hts0 w9 (List.mem_cons_of_mem _ h)
  have hown : s.vm.findClass "ScaleShop$Sheet" = some m.cls := findClass_of_methodNamed B.named
  have hlocks := B.notSynchronized
  subst hsz
  have hD := hD0.self (sz := s.heap.size)
  generalize hAe : va_A [(a1, .inr (7, [.ref f0, .int 0]))] s.heap.size = A at hD ⊢
  have hA : ∀ q : Nat, s.heap.size ≤ q → A q := fun q h => by rw [← hAe]; exact Or.inr h
  have hS : va_S A s.heap s.heap [] := va_S.rf
  have hP : va_P (dC, dI) classes [(a1, .inr (7, [.ref f0, .int 0]))] s.heap := hP
  have hl := lv_entry ([.ref a1, .int i]) (n := 5) (Nat.le_of_ble_eq_true rfl)
  rw [lg_entry_eq]
  generalize (lg_sl ([.ref a1, .int i]) ++ List.replicate (5 - (lg_sl ([.ref a1, .int i])).length) Slot.unset).toArray = ls at hl ⊢
  have hl : lv_has ls 5 [(0, .ref a1), (1, .int i)] := hl
  refine lv_iconst (v := 0) hx hb dX8_inState_0 (by decide) ?_
  refine lv_istore_n (lv' := [(2, .int 0), (0, .ref a1), (1, .int i)]) hx hb dX8_inState_1 rfl hl (by decide) rfl (fun ls hl => ?_)
  refine lv_iconst (v := 0) hx hb dX8_inState_2 (by decide) ?_
  refine lv_istore_n (lv' := [(3, .int 0), (2, .int 0), (0, .ref a1), (1, .int i)]) hx hb dX8_inState_3 rfl hl (by decide) rfl (fun ls hl => ?_)
  refine lv_iload_n hx hb dX8_inState_4 rfl (lv_at hl 0 rfl) ?_
  refine lv_aload_n hx hb dX8_inState_5 rfl (lv_at hl 2 rfl) ?_
  refine va_get (D := (dC, dI)) (ci := 7) (v := .int 0) (C := RX8) (T := TX8) (N := 2) hx hb hts inX8 hown hK hP 0 rfl rfl 1 (by decide) (hts _ mw_137) (fun _ h9 => h9) rfl dX8_inState_6 ?_
  refine lv_icmp_ge (tgt := 45) hx hb dX8_inState_9 (by decide) (fun c_1 => ?_) (fun c_1 => ?_)
  · refine lv_iload_n hx hb dX8_inState_45 rfl (lv_at hl 1 rfl) ?_
    refine W.widen (k := 0) (n := 0) (by decide) (by decide) ?_
    have hP9 := hP.sub (ws' := [(a1, .inr (7, [.ref f0, .int 0]))]) [0] rfl
    have hD9 := hD.sub (ws' := [(a1, .inr (7, [.ref f0, .int 0]))]) [0] (by decide) rfl
    exact W.iret (v := 0) hx hb hr (fun t ht hW => ⟨⟨rfl, by rw [ht]; exact hP9, hD9⟩, hS.F ht⟩) hS.2.2 dX8_inState_46
  · exact absurd (by decide) c_1
set_option maxHeartbeats 4000000 in
set_option maxRecDepth 100000 in
theorem k_torn (l : Launch) (dC : Nat → ClassId) (dI : Nat → Nat → Nat) (cI cZ cF : ClassId) (sz : Nat) (a1 : Nat) (f0 : Nat) : Met l yX8_torn (.code yX8_torn cX8_torn 4 (some .int) :: ws0) ({ frames := 0, cells := 0, slots := 0, locals := 0 }) (va_Pc [.ref a1] (zPre (dC, dI) classes (zTy cI cZ cF) [(a1, .inr (7, [.ref f0, .int 0]))] sz zTrue)) (zQ (some (.int 0)) (fun t => va_P (dC, dI) classes [(a1, .inr (7, [.ref f0, .int 0]))] t.heap ∧ va_D (va_A [(a1, .inr (7, [.ref f0, .int 0]))] sz) [(a1, .inr (7, [.ref f0, .int 0]))]) (va_A [(a1, .inr (7, [.ref f0, .int 0]))] sz)) 0 0 (va_A [(a1, .inr (7, [.ref f0, .int 0]))] sz) := by
  refine Met.ofW (cc := cX8_torn) (maxL := 4) (ret := (some .int)) (by decide) rfl ?_
  intro p e s m args below meth c s₁ B hml hv
  obtain ⟨rfl, hsz, hP, hK, hD0, hXX⟩ := hv
  have hx := B.exec
  have hb := B.bytes
  have hr := B.returns
  have hts0 := atoms_spec (ws := .code yX8_torn cX8_torn 4 (some .int) :: ws0) B.pre
  have hts : ∀ w9 ∈ ws0, w9.before ([.ref a1] : List Value).toArray s = true := fun w9 h => hts0 w9 (List.mem_cons_of_mem _ h)
  have hown : s.vm.findClass "ScaleShop$Sheet" = some m.cls := findClass_of_methodNamed B.named
  have hlocks := B.notSynchronized
  subst hsz
  have hD := hD0.self (sz := s.heap.size)
  generalize hAe : va_A [(a1, .inr (7, [.ref f0, .int 0]))] s.heap.size = A at hD ⊢
  have hA : ∀ q : Nat, s.heap.size ≤ q → A q := fun q h => by rw [← hAe]; exact Or.inr h
  have hS : va_S A s.heap s.heap [] := va_S.rf
  have hP : va_P (dC, dI) classes [(a1, .inr (7, [.ref f0, .int 0]))] s.heap := hP
  have hl := lv_entry ([.ref a1]) (n := 4) (Nat.le_of_ble_eq_true rfl)
  rw [lg_entry_eq]
  generalize (lg_sl ([.ref a1]) ++ List.replicate (4 - (lg_sl ([.ref a1])).length) Slot.unset).toArray = ls at hl ⊢
  have hl : lv_has ls 4 [(0, .ref a1)] := hl
  refine lv_iconst (v := 0) hx hb dX8_torn_0 (by decide) ?_
  refine lv_istore_n (lv' := [(1, .int 0), (0, .ref a1)]) hx hb dX8_torn_1 rfl hl (by decide) rfl (fun ls hl => ?_)
  refine lv_iconst (v := 0) hx hb dX8_torn_2 (by decide) ?_
  refine lv_istore_n (lv' := [(2, .int 0), (1, .int 0), (0, .ref a1)]) hx hb dX8_torn_3 rfl hl (by decide) rfl (fun ls hl => ?_)
  refine lv_iload_n hx hb dX8_torn_4 rfl (lv_at hl 0 rfl) ?_
  refine lv_aload_n hx hb dX8_torn_5 rfl (lv_at hl 2 rfl) ?_
  refine va_get (D := (dC, dI)) (ci := 7) (v := .int 0) (C := RX8) (T := TX8) (N := 2) hx hb hts inX8 hown hK hP 0 rfl rfl 1 (by decide) (hts _ mw_137) (fun _ h9 => h9) rfl dX8_torn_6 ?_
  refine lv_icmp_ge (tgt := 41) hx hb dX8_torn_9 (by decide) (fun c_1 => ?_) (fun c_1 => ?_)
  · refine lv_iload_n hx hb dX8_torn_41 rfl (lv_at hl 1 rfl) ?_
    refine W.widen (k := 0) (n := 0) (by decide) (by decide) ?_
    have hP9 := hP.sub (ws' := [(a1, .inr (7, [.ref f0, .int 0]))]) [0] rfl
    have hD9 := hD.sub (ws' := [(a1, .inr (7, [.ref f0, .int 0]))]) [0] (by decide) rfl
    exact W.iret (v := 0) hx hb hr (fun t ht hW => ⟨⟨rfl, by rw [ht]; exact hP9, hD9⟩, hS.F ht⟩) hS.2.2 dX8_torn_42
  · exact absurd (by decide) c_1
set_option maxHeartbeats 4000000 in
set_option maxRecDepth 100000 in
theorem k_cornersThere (l : Launch) (dC : Nat → ClassId) (dI : Nat → Nat → Nat) (cI cZ cF : ClassId) (sz : Nat) (a1 : Nat) (f0 : Nat) : Met l yX8_cornersThere (.code yX8_cornersThere cX8_cornersThere 4 (some .int) :: ws0) ({ frames := 0, cells := 0, slots := 0, locals := 0 }) (va_Pc [.ref a1] (zPre (dC, dI) classes (zTy cI cZ cF) [(a1, .inr (7, [.ref f0, .int 0]))] sz zTrue)) (zQ (some (.int 0)) (fun t => va_P (dC, dI) classes [(a1, .inr (7, [.ref f0, .int 0]))] t.heap ∧ va_D (va_A [(a1, .inr (7, [.ref f0, .int 0]))] sz) [(a1, .inr (7, [.ref f0, .int 0]))]) (va_A [(a1, .inr (7, [.ref f0, .int 0]))] sz)) 0 0 (va_A [(a1, .inr (7, [.ref f0, .int 0]))] sz) := by
  refine Met.ofW (cc := cX8_cornersThere) (maxL := 4) (ret := (some .int)) (by decide) rfl ?_
  intro p e s m args below meth c s₁ B hml hv
  obtain ⟨rfl, hsz, hP, hK, hD0, hXX⟩ := hv
  have hx := B.exec
  have hb := B.bytes
  have hr := B.returns
  have hts0 := atoms_spec (ws := .code yX8_cornersThere cX8_cornersThere 4 (some .int) :: ws0) B.pre
  have hts : ∀ w9 ∈ ws0, w9.before ([.ref a1] : List Value).toArray s = true := fun w9 h => hts0 w9 (List.mem_cons_of_mem _ h)
  have hown : s.vm.findClass "ScaleShop$Sheet" = some m.cls := findClass_of_methodNamed B.named
  have hlocks := B.notSynchronized
  subst hsz
  have hD := hD0.self (sz := s.heap.size)
  generalize hAe : va_A [(a1, .inr (7, [.ref f0, .int 0]))] s.heap.size = A at hD ⊢
  have hA : ∀ q : Nat, s.heap.size ≤ q → A q := fun q h => by rw [← hAe]; exact Or.inr h
  have hS : va_S A s.heap s.heap [] := va_S.rf
  have hP : va_P (dC, dI) classes [(a1, .inr (7, [.ref f0, .int 0]))] s.heap := hP
  have hl := lv_entry ([.ref a1]) (n := 4) (Nat.le_of_ble_eq_true rfl)
  rw [lg_entry_eq]
  generalize (lg_sl ([.ref a1]) ++ List.replicate (4 - (lg_sl ([.ref a1])).length) Slot.unset).toArray = ls at hl ⊢
  have hl : lv_has ls 4 [(0, .ref a1)] := hl
  refine lv_iconst (v := 0) hx hb dX8_cornersThere_0 (by decide) ?_
  refine lv_istore_n (lv' := [(1, .int 0), (0, .ref a1)]) hx hb dX8_cornersThere_1 rfl hl (by decide) rfl (fun ls hl => ?_)
  refine lv_iconst (v := 0) hx hb dX8_cornersThere_2 (by decide) ?_
  refine lv_istore_n (lv' := [(2, .int 0), (1, .int 0), (0, .ref a1)]) hx hb dX8_cornersThere_3 rfl hl (by decide) rfl (fun ls hl => ?_)
  refine lv_iload_n hx hb dX8_cornersThere_4 rfl (lv_at hl 0 rfl) ?_
  refine lv_aload_n hx hb dX8_cornersThere_5 rfl (lv_at hl 2 rfl) ?_
  refine va_get (D := (dC, dI)) (ci := 7) (v := .int 0) (C := RX8) (T := TX8) (N := 2) hx hb hts inX8 hown hK hP 0 rfl rfl 1 (by decide) (hts _ mw_137) (fun _ h9 => h9) rfl dX8_cornersThere_6 ?_
  refine lv_icmp_ge (tgt := 39) hx hb dX8_cornersThere_9 (by decide) (fun c_1 => ?_) (fun c_1 => ?_)
  · refine lv_iload_n hx hb dX8_cornersThere_39 rfl (lv_at hl 1 rfl) ?_
    refine W.widen (k := 0) (n := 0) (by decide) (by decide) ?_
    have hP9 := hP.sub (ws' := [(a1, .inr (7, [.ref f0, .int 0]))]) [0] rfl
    have hD9 := hD.sub (ws' := [(a1, .inr (7, [.ref f0, .int 0]))]) [0] (by decide) rfl
    exact W.iret (v := 0) hx hb hr (fun t ht hW => ⟨⟨rfl, by rw [ht]; exact hP9, hD9⟩, hS.F ht⟩) hS.2.2 dX8_cornersThere_40
  · exact absurd (by decide) c_1
set_option maxHeartbeats 4000000 in
set_option maxRecDepth 100000 in
theorem k_Look_init (l : Launch) (dC : Nat → ClassId) (dI : Nat → Nat → Nat) (cI cZ cF : ClassId) (sz : Nat) (h0 : Nat) (kk : Int32) : Met l yX5_init (.code yX5_init cX5_init 2 none :: ws0) ({ frames := 1, cells := 0, slots := 0, locals := 12 }) (va_Pc [.ref h0, .int kk] (zPre (dC, dI) classes (zTy cI cZ cF) [(h0, .inr (4, [.int 0, .int 0, .null, .int 0, .int 0, .int 0]))] sz zTrue)) (zQ none (fun t => va_P (dC, dI) classes [(h0, .inr (4, [.int kk, .int 0, .null, .int 0, .int (-1), .int 0]))] t.heap ∧ va_D (va_A [(h0, .inr (4, [.int 0, .int 0, .null, .int 0, .int 0, .int 0]))] sz) [(h0, .inr (4, [.int kk, .int 0, .null, .int 0, .int (-1), .int 0]))]) (va_A [(h0, .inr (4, [.int 0, .int 0, .null, .int 0, .int 0, .int 0]))] sz)) 0 0 (va_A [(h0, .inr (4, [.int 0, .int 0, .null, .int 0, .int 0, .int 0]))] sz) := by
  refine Met.ofW (cc := cX5_init) (maxL := 2) (ret := none) (by decide) rfl ?_
  intro p e s m args below meth c s₁ B hml hv
  obtain ⟨rfl, hsz, hP, hK, hD0, hXX⟩ := hv
  have hx := B.exec
  have hb := B.bytes
  have hr := B.returns
  have hts0 := atoms_spec (ws := .code yX5_init cX5_init 2 none :: ws0) B.pre
  have hts : ∀ w9 ∈ ws0, w9.before ([.ref h0, .int kk] : List Value).toArray s = true := fun w9 h => hts0 w9 (List.mem_cons_of_mem _ h)
  have hown : s.vm.findClass "ScaleShop$Look" = some m.cls := findClass_of_methodNamed B.named
  have hlocks := B.notSynchronized
  have hin : meth.name = "<init>" := (name_of_methodNamed B.named B.method).1
  subst hsz
  have hD := hD0.self (sz := s.heap.size)
  generalize hAe : va_A [(h0, .inr (4, [.int 0, .int 0, .null, .int 0, .int 0, .int 0]))] s.heap.size = A at hD ⊢
  have hA : ∀ q : Nat, s.heap.size ≤ q → A q := fun q h => by rw [← hAe]; exact Or.inr h
  have hS : va_S A s.heap s.heap [] := va_S.rf
  have hP : va_P (dC, dI) classes [(h0, .inr (4, [.int 0, .int 0, .null, .int 0, .int 0, .int 0]))] s.heap := hP
  have hl := lv_entry ([.ref h0, .int kk]) (n := 2) (Nat.le_of_ble_eq_true rfl)
  rw [lg_entry_eq]
  generalize (lg_sl ([.ref h0, .int kk]) ++ List.replicate (2 - (lg_sl ([.ref h0, .int kk])).length) Slot.unset).toArray = ls at hl ⊢
  have hl : lv_has ls 2 [(0, .ref h0), (1, .int kk)] := hl
  refine lv_aload_n hx hb dX5_init_0 rfl (lv_at hl 0 rfl) ?_
  refine W.objInit hx hb hown (hts _ mw_377) (hts _ mw_126) (hts _ mw_objcode) rfl (by rw [hml]; exact hl.1) rfl dX5_init_1 (Nat.le_of_ble_eq_true rfl) (Nat.le_of_ble_eq_true rfl) ?_
  refine W.eq (g2 := F0 m 4 ls []) rfl ?_
  refine lv_aload_n hx hb dX5_init_4 rfl (lv_at hl 0 rfl) ?_
  refine lv_iconst (v := 0) hx hb dX5_init_5 (by decide) ?_
  refine va_put (D := (dC, dI)) (ci := 4) (v := .int 0) (ty := .int) (C := RX5) (T := TX5) (N := 6) hx hb hts inX5 tyX5 tyX5_ok nmX5 hown hK hP hD hS 0 rfl rfl 1 (by decide) (hts _ mw_384) (fun _ h9 => h9) rfl (by decide +kernel) rfl rfl (Nat.le_of_ble_eq_true rfl) dX5_init_6 (fun H locs hP hD hS => ?_)
  have hP : va_P (dC, dI) classes [(h0, .inr (4, [.int 0, .int 0, .null, .int 0, .int 0, .int 0]))] H := hP
  have hD : va_D A [(h0, .inr (4, [.int 0, .int 0, .null, .int 0, .int 0, .int 0]))] := hD
  refine lv_aload_n hx hb dX5_init_9 rfl (lv_at hl 0 rfl) ?_
  refine lv_null hx hb dX5_init_10 ?_
  refine va_put (D := (dC, dI)) (ci := 4) (v := .null) (ty := .object "ScaleShop$Row") (C := RX5) (T := TX5) (N := 6) hx hb hts inX5 tyX5 tyX5_ok nmX5 hown hK hP hD hS 0 rfl rfl 2 (by decide) (hts _ mw_388) (fun _ h9 => h9) rfl (by decide +kernel) rfl rfl (Nat.le_of_ble_eq_true rfl) dX5_init_11 (fun H locs hP hD hS => ?_)
  have hP : va_P (dC, dI) classes [(h0, .inr (4, [.int 0, .int 0, .null, .int 0, .int 0, .int 0]))] H := hP
  have hD : va_D A [(h0, .inr (4, [.int 0, .int 0, .null, .int 0, .int 0, .int 0]))] := hD
  refine lv_aload_n hx hb dX5_init_14 rfl (lv_at hl 0 rfl) ?_
  refine lv_iconst (v := 0) hx hb dX5_init_15 (by decide) ?_
  refine va_put (D := (dC, dI)) (ci := 4) (v := .int 0) (ty := .int) (C := RX5) (T := TX5) (N := 6) hx hb hts inX5 tyX5 tyX5_ok nmX5 hown hK hP hD hS 0 rfl rfl 3 (by decide) (hts _ mw_394) (fun _ h9 => h9) rfl (by decide +kernel) rfl rfl (Nat.le_of_ble_eq_true rfl) dX5_init_16 (fun H locs hP hD hS => ?_)
  have hP : va_P (dC, dI) classes [(h0, .inr (4, [.int 0, .int 0, .null, .int 0, .int 0, .int 0]))] H := hP
  have hD : va_D A [(h0, .inr (4, [.int 0, .int 0, .null, .int 0, .int 0, .int 0]))] := hD
  refine lv_aload_n hx hb dX5_init_19 rfl (lv_at hl 0 rfl) ?_
  refine lv_iconst (v := (-1)) hx hb dX5_init_20 (by decide) ?_
  refine va_put (D := (dC, dI)) (ci := 4) (v := .int (-1)) (ty := .int) (C := RX5) (T := TX5) (N := 6) hx hb hts inX5 tyX5 tyX5_ok nmX5 hown hK hP hD hS 0 rfl rfl 4 (by decide) (hts _ mw_397) (fun _ h9 => h9) rfl (by decide +kernel) rfl rfl (Nat.le_of_ble_eq_true rfl) dX5_init_21 (fun H locs hP hD hS => ?_)
  have hP : va_P (dC, dI) classes [(h0, .inr (4, [.int 0, .int 0, .null, .int 0, .int (-1), .int 0]))] H := hP
  have hD : va_D A [(h0, .inr (4, [.int 0, .int 0, .null, .int 0, .int (-1), .int 0]))] := hD
  refine lv_aload_n hx hb dX5_init_24 rfl (lv_at hl 0 rfl) ?_
  refine lv_iconst (v := 0) hx hb dX5_init_25 (by decide) ?_
  refine va_put (D := (dC, dI)) (ci := 4) (v := .int 0) (ty := .int) (C := RX5) (T := TX5) (N := 6) hx hb hts inX5 tyX5 tyX5_ok nmX5 hown hK hP hD hS 0 rfl rfl 5 (by decide) (hts _ mw_399) (fun _ h9 => h9) rfl (by decide +kernel) rfl rfl (Nat.le_of_ble_eq_true rfl) dX5_init_26 (fun H locs hP hD hS => ?_)
  have hP : va_P (dC, dI) classes [(h0, .inr (4, [.int 0, .int 0, .null, .int 0, .int (-1), .int 0]))] H := hP
  have hD : va_D A [(h0, .inr (4, [.int 0, .int 0, .null, .int 0, .int (-1), .int 0]))] := hD
  refine lv_aload_n hx hb dX5_init_29 rfl (lv_at hl 0 rfl) ?_
  refine lv_iload_n hx hb dX5_init_30 rfl (lv_at hl 1 rfl) ?_
  refine va_put (D := (dC, dI)) (ci := 4) (v := .int kk) (ty := .int) (C := RX5) (T := TX5) (N := 6) hx hb hts inX5 tyX5 tyX5_ok nmX5 hown hK hP hD hS 0 rfl rfl 0 (by decide) (hts _ mw_378) (fun _ h9 => h9) rfl (by decide +kernel) rfl rfl (Nat.le_of_ble_eq_true rfl) dX5_init_31 (fun H locs hP hD hS => ?_)
  have hP : va_P (dC, dI) classes [(h0, .inr (4, [.int kk, .int 0, .null, .int 0, .int (-1), .int 0]))] H := hP
  have hD : va_D A [(h0, .inr (4, [.int kk, .int 0, .null, .int 0, .int (-1), .int 0]))] := hD
  refine W.widen (k := 0) (n := 0) (by decide) (by decide) ?_
  have hP9 := hP.sub (ws' := [(h0, .inr (4, [.int kk, .int 0, .null, .int 0, .int (-1), .int 0]))]) [0] rfl
  have hD9 := hD.sub (ws' := [(h0, .inr (4, [.int kk, .int 0, .null, .int 0, .int (-1), .int 0]))]) [0] (by decide) rfl
  exact W.vret hx hb hr (fun t ht hW => ⟨⟨rfl, by rw [ht]; exact hP9, hD9⟩, hS.F ht⟩) hS.2.2 dX5_init_34
set_option maxHeartbeats 4000000 in
set_option maxRecDepth 100000 in
theorem k_Feature_init (l : Launch) (dC : Nat → ClassId) (dI : Nat → Nat → Nat) (cI cZ cF : ClassId) (sz : Nat) (h0 : Nat) (kk : Int32) (rk : Int32) (wd : Int32) (tn : Int32) : Met l yX2_init (.code yX2_init cX2_init 5 none :: ws0) ({ frames := 2, cells := 4, slots := 90, locals := 36 }) (va_Pc [.ref h0, .int kk, .int rk, .int wd, .int tn] (zPre (dC, dI) classes (zTy cI cZ cF) [(h0, .inr (1, [.int 0, .int 0, .int 0, .int 0, .int 0, .null, .null, .null]))] sz zTrue)) (zQ none (fun t => ∃ (n1 n2 : Nat), va_P (dC, dI) classes [(h0, .inr (1, [.int rk, .int wd, .int tn, .int (-1), .int (-1), .ref n1, .ref n2, .null])), (n2, .inr (4, [.int kk, .int 0, .null, .int 0, .int (-1), .int 0]))] t.heap ∧ va_D (va_A [(h0, .inr (1, [.int 0, .int 0, .int 0, .int 0, .int 0, .null, .null, .null]))] sz) [(h0, .inr (1, [.int rk, .int wd, .int tn, .int (-1), .int (-1), .ref n1, .ref n2, .null])), (n2, .inr (4, [.int kk, .int 0, .null, .int 0, .int (-1), .int 0]))]) (va_A [(h0, .inr (1, [.int 0, .int 0, .int 0, .int 0, .int 0, .null, .null, .null]))] sz)) 4 90 (va_A [(h0, .inr (1, [.int 0, .int 0, .int 0, .int 0, .int 0, .null, .null, .null]))] sz) := by
  refine Met.ofW (cc := cX2_init) (maxL := 5) (ret := none) (by decide) rfl ?_
  intro p e s m args below meth c s₁ B hml hv
  obtain ⟨rfl, hsz, hP, hK, hD0, hXX⟩ := hv
  have hx := B.exec
  have hb := B.bytes
  have hr := B.returns
  have hts0 := atoms_spec (ws := .code yX2_init cX2_init 5 none :: ws0) B.pre
  have hts : ∀ w9 ∈ ws0, w9.before ([.ref h0, .int kk, .int rk, .int wd, .int tn] : List Value).toArray s = true := fun w9 h => hts0 w9 (List.mem_cons_of_mem _ h)
  have hown : s.vm.findClass "ScaleShop$Feature" = some m.cls := findClass_of_methodNamed B.named
  have hlocks := B.notSynchronized
  have hin : meth.name = "<init>" := (name_of_methodNamed B.named B.method).1
  subst hsz
  have hD := hD0.self (sz := s.heap.size)
  generalize hAe : va_A [(h0, .inr (1, [.int 0, .int 0, .int 0, .int 0, .int 0, .null, .null, .null]))] s.heap.size = A at hD ⊢
  have hA : ∀ q : Nat, s.heap.size ≤ q → A q := fun q h => by rw [← hAe]; exact Or.inr h
  have hS : va_S A s.heap s.heap [] := va_S.rf
  have hP : va_P (dC, dI) classes [(h0, .inr (1, [.int 0, .int 0, .int 0, .int 0, .int 0, .null, .null, .null]))] s.heap := hP
  have hl := lv_entry ([.ref h0, .int kk, .int rk, .int wd, .int tn]) (n := 5) (Nat.le_of_ble_eq_true rfl)
  rw [lg_entry_eq]
  generalize (lg_sl ([.ref h0, .int kk, .int rk, .int wd, .int tn]) ++ List.replicate (5 - (lg_sl ([.ref h0, .int kk, .int rk, .int wd, .int tn])).length) Slot.unset).toArray = ls at hl ⊢
  have hl : lv_has ls 5 [(0, .ref h0), (1, .int kk), (2, .int rk), (3, .int wd), (4, .int tn)] := hl
  refine lv_aload_n hx hb dX2_init_0 rfl (lv_at hl 0 rfl) ?_
  refine W.objInit hx hb hown (hts _ mw_369) (hts _ mw_126) (hts _ mw_objcode) rfl (by rw [hml]; exact hl.1) rfl dX2_init_1 (Nat.le_of_ble_eq_true rfl) (Nat.le_of_ble_eq_true rfl) ?_
  refine W.eq (g2 := F0 m 4 ls []) rfl ?_
  refine lv_aload_n hx hb dX2_init_4 rfl (lv_at hl 0 rfl) ?_
  refine lv_iconst (v := (-1)) hx hb dX2_init_5 (by decide) ?_
  refine va_put (D := (dC, dI)) (ci := 1) (v := .int (-1)) (ty := .int) (C := RX2) (T := TX2) (N := 8) hx hb hts inX2 tyX2 tyX2_ok nmX2 hown hK hP hD hS 0 rfl rfl 3 (by decide) (hts _ mw_422) (fun _ h9 => h9) rfl (by decide +kernel) rfl rfl (Nat.le_of_ble_eq_true rfl) dX2_init_6 (fun H locs hP hD hS => ?_)
  have hP : va_P (dC, dI) classes [(h0, .inr (1, [.int 0, .int 0, .int 0, .int (-1), .int 0, .null, .null, .null]))] H := hP
  have hD : va_D A [(h0, .inr (1, [.int 0, .int 0, .int 0, .int (-1), .int 0, .null, .null, .null]))] := hD
  refine lv_aload_n hx hb dX2_init_9 rfl (lv_at hl 0 rfl) ?_
  refine lv_iconst (v := (-1)) hx hb dX2_init_10 (by decide) ?_
  refine va_put (D := (dC, dI)) (ci := 1) (v := .int (-1)) (ty := .int) (C := RX2) (T := TX2) (N := 8) hx hb hts inX2 tyX2 tyX2_ok nmX2 hown hK hP hD hS 0 rfl rfl 4 (by decide) (hts _ mw_424) (fun _ h9 => h9) rfl (by decide +kernel) rfl rfl (Nat.le_of_ble_eq_true rfl) dX2_init_11 (fun H locs hP hD hS => ?_)
  have hP : va_P (dC, dI) classes [(h0, .inr (1, [.int 0, .int 0, .int 0, .int (-1), .int (-1), .null, .null, .null]))] H := hP
  have hD : va_D A [(h0, .inr (1, [.int 0, .int 0, .int 0, .int (-1), .int (-1), .null, .null, .null]))] := hD
  refine lv_aload_n hx hb dX2_init_14 rfl (lv_at hl 0 rfl) ?_
  refine lv_null hx hb dX2_init_15 ?_
  refine va_put (D := (dC, dI)) (ci := 1) (v := .null) (ty := .object "ScaleShop$Look") (C := RX2) (T := TX2) (N := 8) hx hb hts inX2 tyX2 tyX2_ok nmX2 hown hK hP hD hS 0 rfl rfl 7 (by decide) (hts _ mw_436) (fun _ h9 => h9) rfl (by decide +kernel) rfl rfl (Nat.le_of_ble_eq_true rfl) dX2_init_16 (fun H locs hP hD hS => ?_)
  have hP : va_P (dC, dI) classes [(h0, .inr (1, [.int 0, .int 0, .int 0, .int (-1), .int (-1), .null, .null, .null]))] H := hP
  have hD : va_D A [(h0, .inr (1, [.int 0, .int 0, .int 0, .int (-1), .int (-1), .null, .null, .null]))] := hD
  refine lv_aload_n hx hb dX2_init_19 rfl (lv_at hl 0 rfl) ?_
  refine lv_iload_n hx hb dX2_init_20 rfl (lv_at hl 2 rfl) ?_
  refine va_putF (D := (dC, dI)) (ci := 1) (v := .int rk) (ty := .int) (C := RX2) (T := TX2) (N := 8) hx hb hts inX2 tyX2 tyX2_ok nmX2 hown hK hP hD hS 0 rfl rfl 0 (by decide) (hts _ mw_415) (fun _ h9 => h9) rfl hin rfl (by decide +kernel) rfl rfl (Nat.le_of_ble_eq_true rfl) dX2_init_21 (fun H locs hP hD hS => ?_)
  have hP : va_P (dC, dI) classes [(h0, .inr (1, [.int rk, .int 0, .int 0, .int (-1), .int (-1), .null, .null, .null]))] H := hP
  have hD : va_D A [(h0, .inr (1, [.int rk, .int 0, .int 0, .int (-1), .int (-1), .null, .null, .null]))] := hD
  refine lv_aload_n hx hb dX2_init_24 rfl (lv_at hl 0 rfl) ?_
  refine lv_iload_n hx hb dX2_init_25 rfl (lv_at hl 3 rfl) ?_
  refine va_putF (D := (dC, dI)) (ci := 1) (v := .int wd) (ty := .int) (C := RX2) (T := TX2) (N := 8) hx hb hts inX2 tyX2 tyX2_ok nmX2 hown hK hP hD hS 0 rfl rfl 1 (by decide) (hts _ mw_418) (fun _ h9 => h9) rfl hin rfl (by decide +kernel) rfl rfl (Nat.le_of_ble_eq_true rfl) dX2_init_26 (fun H locs hP hD hS => ?_)
  have hP : va_P (dC, dI) classes [(h0, .inr (1, [.int rk, .int wd, .int 0, .int (-1), .int (-1), .null, .null, .null]))] H := hP
  have hD : va_D A [(h0, .inr (1, [.int rk, .int wd, .int 0, .int (-1), .int (-1), .null, .null, .null]))] := hD
  refine lv_aload_n hx hb dX2_init_29 rfl (lv_at hl 0 rfl) ?_
  refine lv_iload hx hb dX2_init_30 (lv_at hl 4 rfl) ?_
  refine va_putF (D := (dC, dI)) (ci := 1) (v := .int tn) (ty := .int) (C := RX2) (T := TX2) (N := 8) hx hb hts inX2 tyX2 tyX2_ok nmX2 hown hK hP hD hS 0 rfl rfl 2 (by decide) (hts _ mw_420) (fun _ h9 => h9) rfl hin rfl (by decide +kernel) rfl rfl (Nat.le_of_ble_eq_true rfl) dX2_init_32 (fun H locs hP hD hS => ?_)
  have hP : va_P (dC, dI) classes [(h0, .inr (1, [.int rk, .int wd, .int tn, .int (-1), .int (-1), .null, .null, .null]))] H := hP
  have hD : va_D A [(h0, .inr (1, [.int rk, .int wd, .int tn, .int (-1), .int (-1), .null, .null, .null]))] := hD
  refine lv_aload_n hx hb dX2_init_35 rfl (lv_at hl 0 rfl) ?_
  refine va_new (ci := 6) (fs := [.null, .null, .int 0, .int 0]) (C := RX7) (T := TX7) (N := 4) hx hb hts inX7 tyX7 tyX7_ok hown (hts _ mw_370) (hts _ mw_153) (hts _ mw_102) hK hP hD hS hA rfl dfX7 (Nat.le_of_ble_eq_true rfl) (Nat.le_of_ble_eq_true rfl) dX2_init_36 (fun q_1 H hP hD hS => ?_)
  have hP : va_P (dC, dI) classes [(h0, .inr (1, [.int rk, .int wd, .int tn, .int (-1), .int (-1), .null, .null, .null])), (q_1, .inr (6, [.null, .null, .int 0, .int 0]))] H := hP
  have hD : va_D A [(h0, .inr (1, [.int rk, .int wd, .int tn, .int (-1), .int (-1), .null, .null, .null])), (q_1, .inr (6, [.null, .null, .int 0, .int 0]))] := hD
  refine lv_dup hx hb dX2_init_39 rfl ?_
  refine lv_iload_n hx hb dX2_init_40 rfl (lv_at hl 1 rfl) ?_
  refine lv_if_le (tgt := 54) hx hb dX2_init_41 (by decide) (fun c_2 => ?_) (fun c_2 => ?_)
  · refine lv_iconst (v := 1) hx hb dX2_init_54 (by decide) ?_
    refine lv_iconst (v := 0) hx hb dX2_init_55 (by decide) ?_
    have hPc := hP.sub (ws' := [(q_1, .inr (6, [.null, .null, .int 0, .int 0]))]) [1] rfl
    have hDc := hD.sub (ws' := [(q_1, .inr (6, [.null, .null, .int 0, .int 0]))]) [1] (by decide) rfl
    have hFc := va_free (wc := [(q_1, .inr (6, [.null, .null, .int 0, .int 0]))]) hD hS hA [1] rfl
    refine zcall (st1 := [.ref q_1, .ref h0]) (va_runI (As := [.int 1, .int 0]) (rest := [.ref q_1, .ref h0]) ⟨hx, hb, hml, hown, hts⟩ (k_Row_init_1_0 l dC dI cI cZ cF H.size q_1 ) (cwI 2 hts (zz_gC mc_yX7_init) rfl rfl rfl (hts _ mw_102) (hts _ mw_371) (hts _ mw_155) rfl (by decide +kernel) ⟨Nat.le_of_ble_eq_true rfl, Nat.le_of_ble_eq_true rfl⟩) (zPS hPc hDc hK) rfl rfl hl.1 rfl (lv_room (Nat.le_of_ble_eq_true rfl)) dX2_init_56 ⟨Nat.le_of_ble_eq_true rfl, Nat.le_of_ble_eq_true rfl⟩) hS hFc hFc rfl (fun t H1 locs ht hB hk1 hS => ?_)
    obtain ⟨hP1, hD1⟩ := hB
    rw [ht] at hP1
    obtain ⟨hP, hD⟩ := va_join (wr := [(h0, .inr (1, [.int rk, .int wd, .int tn, .int (-1), .int (-1), .null, .null, .null]))]) (w1 := []) hP hD [1] [0] rfl rfl (by decide) (by decide) hk1 hFc hP1 hD1
    clear hk1 hPc hDc hFc hP1 hD1 ht
    generalize H1 = H at hP hS ⊢
    have hP : va_P (dC, dI) classes [(h0, .inr (1, [.int rk, .int wd, .int tn, .int (-1), .int (-1), .null, .null, .null]))] H := hP
    have hD : va_D A [(h0, .inr (1, [.int rk, .int wd, .int tn, .int (-1), .int (-1), .null, .null, .null]))] := hD
    refine va_putF (D := (dC, dI)) (ci := 1) (v := .ref q_1) (ty := .object "ScaleShop$Row") (C := RX2) (T := TX2) (N := 8) hx hb hts inX2 tyX2 tyX2_ok nmX2 hown hK hP hD hS 0 rfl rfl 5 (by decide) (hts _ mw_426) (fun _ h9 => h9) rfl hin rfl (by decide +kernel) rfl rfl (Nat.le_of_ble_eq_true rfl) dX2_init_59 (fun H locs hP hD hS => ?_)
    have hP : va_P (dC, dI) classes [(h0, .inr (1, [.int rk, .int wd, .int tn, .int (-1), .int (-1), .ref q_1, .null, .null]))] H := hP
    have hD : va_D A [(h0, .inr (1, [.int rk, .int wd, .int tn, .int (-1), .int (-1), .ref q_1, .null, .null]))] := hD
    refine lv_aload_n hx hb dX2_init_62 rfl (lv_at hl 0 rfl) ?_
    refine va_new (ci := 4) (fs := [.int 0, .int 0, .null, .int 0, .int 0, .int 0]) (C := RX5) (T := TX5) (N := 6) hx hb hts inX5 tyX5 tyX5_ok hown (hts _ mw_372) (hts _ mw_373) (hts _ mw_112) hK hP hD hS hA rfl dfX5 (Nat.le_of_ble_eq_true rfl) (Nat.le_of_ble_eq_true rfl) dX2_init_63 (fun q_3 H hP hD hS => ?_)
    have hP : va_P (dC, dI) classes [(h0, .inr (1, [.int rk, .int wd, .int tn, .int (-1), .int (-1), .ref q_1, .null, .null])), (q_3, .inr (4, [.int 0, .int 0, .null, .int 0, .int 0, .int 0]))] H := hP
    have hD : va_D A [(h0, .inr (1, [.int rk, .int wd, .int tn, .int (-1), .int (-1), .ref q_1, .null, .null])), (q_3, .inr (4, [.int 0, .int 0, .null, .int 0, .int 0, .int 0]))] := hD
    refine lv_dup hx hb dX2_init_66 rfl ?_
    refine lv_iload_n hx hb dX2_init_67 rfl (lv_at hl 1 rfl) ?_
    have hPc := hP.sub (ws' := [(q_3, .inr (4, [.int 0, .int 0, .null, .int 0, .int 0, .int 0]))]) [1] rfl
    have hDc := hD.sub (ws' := [(q_3, .inr (4, [.int 0, .int 0, .null, .int 0, .int 0, .int 0]))]) [1] (by decide) rfl
    have hFc := va_free (wc := [(q_3, .inr (4, [.int 0, .int 0, .null, .int 0, .int 0, .int 0]))]) hD hS hA [1] rfl
    refine zcall (st1 := [.ref q_3, .ref h0]) (va_runI (As := [.int kk]) (rest := [.ref q_3, .ref h0]) ⟨hx, hb, hml, hown, hts⟩ (k_Look_init l dC dI cI cZ cF H.size q_3 kk ) (cwI 1 hts (zz_gC mc_yX5_init) rfl rfl rfl (hts _ mw_112) (hts _ mw_374) (hts _ mw_375) rfl (by decide +kernel) ⟨Nat.le_of_ble_eq_true rfl, Nat.le_of_ble_eq_true rfl⟩) (zPS hPc hDc hK) rfl rfl hl.1 rfl (lv_room (Nat.le_of_ble_eq_true rfl)) dX2_init_68 ⟨Nat.le_of_ble_eq_true rfl, Nat.le_of_ble_eq_true rfl⟩) hS hFc hFc rfl (fun t H1 locs ht hB hk1 hS => ?_)
    obtain ⟨hP1, hD1⟩ := hB
    rw [ht] at hP1
    obtain ⟨hP, hD⟩ := va_join (wr := [(h0, .inr (1, [.int rk, .int wd, .int tn, .int (-1), .int (-1), .ref q_1, .null, .null]))]) (w1 := [(q_3, .inr (4, [.int kk, .int 0, .null, .int 0, .int (-1), .int 0]))]) hP hD [1] [0] rfl rfl (by decide) (by decide) hk1 hFc hP1 hD1
    clear hk1 hPc hDc hFc hP1 hD1 ht
    generalize H1 = H at hP hS ⊢
    have hP : va_P (dC, dI) classes [(h0, .inr (1, [.int rk, .int wd, .int tn, .int (-1), .int (-1), .ref q_1, .null, .null])), (q_3, .inr (4, [.int kk, .int 0, .null, .int 0, .int (-1), .int 0]))] H := hP
    have hD : va_D A [(h0, .inr (1, [.int rk, .int wd, .int tn, .int (-1), .int (-1), .ref q_1, .null, .null])), (q_3, .inr (4, [.int kk, .int 0, .null, .int 0, .int (-1), .int 0]))] := hD
    refine va_put (D := (dC, dI)) (ci := 1) (v := .ref q_3) (ty := .object "ScaleShop$Look") (C := RX2) (T := TX2) (N := 8) hx hb hts inX2 tyX2 tyX2_ok nmX2 hown hK hP hD hS 0 rfl rfl 6 (by decide) (hts _ mw_429) (fun _ h9 => h9) rfl (by decide +kernel) rfl rfl (Nat.le_of_ble_eq_true rfl) dX2_init_71 (fun H locs hP hD hS => ?_)
    have hP : va_P (dC, dI) classes [(h0, .inr (1, [.int rk, .int wd, .int tn, .int (-1), .int (-1), .ref q_1, .ref q_3, .null])), (q_3, .inr (4, [.int kk, .int 0, .null, .int 0, .int (-1), .int 0]))] H := hP
    have hD : va_D A [(h0, .inr (1, [.int rk, .int wd, .int tn, .int (-1), .int (-1), .ref q_1, .ref q_3, .null])), (q_3, .inr (4, [.int kk, .int 0, .null, .int 0, .int (-1), .int 0]))] := hD
    refine W.widen (k := 4) (n := 90) (by decide) (by decide) ?_
    have hP9 := hP.sub (ws' := [(h0, .inr (1, [.int rk, .int wd, .int tn, .int (-1), .int (-1), .ref q_1, .ref q_3, .null])), (q_3, .inr (4, [.int kk, .int 0, .null, .int 0, .int (-1), .int 0]))]) [0, 1] rfl
    have hD9 := hD.sub (ws' := [(h0, .inr (1, [.int rk, .int wd, .int tn, .int (-1), .int (-1), .ref q_1, .ref q_3, .null])), (q_3, .inr (4, [.int kk, .int 0, .null, .int 0, .int (-1), .int 0]))]) [0, 1] (by decide) rfl
    exact W.vret hx hb hr (fun t ht hW => ⟨⟨rfl, q_1, q_3, by rw [ht]; exact hP9, hD9⟩, hS.F ht⟩) hS.2.2 dX2_init_74
  · refine lv_iload_n hx hb dX2_init_44 rfl (lv_at hl 1 rfl) ?_
    refine lv_iconst (v := 5) hx hb dX2_init_45 (by decide) ?_
    refine lv_icmp_gt (tgt := 54) hx hb dX2_init_46 (by decide) (fun c_4 => ?_) (fun c_4 => ?_)
    · refine lv_iconst (v := 1) hx hb dX2_init_54 (by decide) ?_
      refine lv_iconst (v := 0) hx hb dX2_init_55 (by decide) ?_
      have hPc := hP.sub (ws' := [(q_1, .inr (6, [.null, .null, .int 0, .int 0]))]) [1] rfl
      have hDc := hD.sub (ws' := [(q_1, .inr (6, [.null, .null, .int 0, .int 0]))]) [1] (by decide) rfl
      have hFc := va_free (wc := [(q_1, .inr (6, [.null, .null, .int 0, .int 0]))]) hD hS hA [1] rfl
      refine zcall (st1 := [.ref q_1, .ref h0]) (va_runI (As := [.int 1, .int 0]) (rest := [.ref q_1, .ref h0]) ⟨hx, hb, hml, hown, hts⟩ (k_Row_init_1_0 l dC dI cI cZ cF H.size q_1 ) (cwI 2 hts (zz_gC mc_yX7_init) rfl rfl rfl (hts _ mw_102) (hts _ mw_371) (hts _ mw_155) rfl (by decide +kernel) ⟨Nat.le_of_ble_eq_true rfl, Nat.le_of_ble_eq_true rfl⟩) (zPS hPc hDc hK) rfl rfl hl.1 rfl (lv_room (Nat.le_of_ble_eq_true rfl)) dX2_init_56 ⟨Nat.le_of_ble_eq_true rfl, Nat.le_of_ble_eq_true rfl⟩) hS hFc hFc rfl (fun t H1 locs ht hB hk1 hS => ?_)
      obtain ⟨hP1, hD1⟩ := hB
      rw [ht] at hP1
      obtain ⟨hP, hD⟩ := va_join (wr := [(h0, .inr (1, [.int rk, .int wd, .int tn, .int (-1), .int (-1), .null, .null, .null]))]) (w1 := []) hP hD [1] [0] rfl rfl (by decide) (by decide) hk1 hFc hP1 hD1
      clear hk1 hPc hDc hFc hP1 hD1 ht
      generalize H1 = H at hP hS ⊢
      have hP : va_P (dC, dI) classes [(h0, .inr (1, [.int rk, .int wd, .int tn, .int (-1), .int (-1), .null, .null, .null]))] H := hP
      have hD : va_D A [(h0, .inr (1, [.int rk, .int wd, .int tn, .int (-1), .int (-1), .null, .null, .null]))] := hD
      refine va_putF (D := (dC, dI)) (ci := 1) (v := .ref q_1) (ty := .object "ScaleShop$Row") (C := RX2) (T := TX2) (N := 8) hx hb hts inX2 tyX2 tyX2_ok nmX2 hown hK hP hD hS 0 rfl rfl 5 (by decide) (hts _ mw_426) (fun _ h9 => h9) rfl hin rfl (by decide +kernel) rfl rfl (Nat.le_of_ble_eq_true rfl) dX2_init_59 (fun H locs hP hD hS => ?_)
      have hP : va_P (dC, dI) classes [(h0, .inr (1, [.int rk, .int wd, .int tn, .int (-1), .int (-1), .ref q_1, .null, .null]))] H := hP
      have hD : va_D A [(h0, .inr (1, [.int rk, .int wd, .int tn, .int (-1), .int (-1), .ref q_1, .null, .null]))] := hD
      refine lv_aload_n hx hb dX2_init_62 rfl (lv_at hl 0 rfl) ?_
      refine va_new (ci := 4) (fs := [.int 0, .int 0, .null, .int 0, .int 0, .int 0]) (C := RX5) (T := TX5) (N := 6) hx hb hts inX5 tyX5 tyX5_ok hown (hts _ mw_372) (hts _ mw_373) (hts _ mw_112) hK hP hD hS hA rfl dfX5 (Nat.le_of_ble_eq_true rfl) (Nat.le_of_ble_eq_true rfl) dX2_init_63 (fun q_5 H hP hD hS => ?_)
      have hP : va_P (dC, dI) classes [(h0, .inr (1, [.int rk, .int wd, .int tn, .int (-1), .int (-1), .ref q_1, .null, .null])), (q_5, .inr (4, [.int 0, .int 0, .null, .int 0, .int 0, .int 0]))] H := hP
      have hD : va_D A [(h0, .inr (1, [.int rk, .int wd, .int tn, .int (-1), .int (-1), .ref q_1, .null, .null])), (q_5, .inr (4, [.int 0, .int 0, .null, .int 0, .int 0, .int 0]))] := hD
      refine lv_dup hx hb dX2_init_66 rfl ?_
      refine lv_iload_n hx hb dX2_init_67 rfl (lv_at hl 1 rfl) ?_
      have hPc := hP.sub (ws' := [(q_5, .inr (4, [.int 0, .int 0, .null, .int 0, .int 0, .int 0]))]) [1] rfl
      have hDc := hD.sub (ws' := [(q_5, .inr (4, [.int 0, .int 0, .null, .int 0, .int 0, .int 0]))]) [1] (by decide) rfl
      have hFc := va_free (wc := [(q_5, .inr (4, [.int 0, .int 0, .null, .int 0, .int 0, .int 0]))]) hD hS hA [1] rfl
      refine zcall (st1 := [.ref q_5, .ref h0]) (va_runI (As := [.int kk]) (rest := [.ref q_5, .ref h0]) ⟨hx, hb, hml, hown, hts⟩ (k_Look_init l dC dI cI cZ cF H.size q_5 kk ) (cwI 1 hts (zz_gC mc_yX5_init) rfl rfl rfl (hts _ mw_112) (hts _ mw_374) (hts _ mw_375) rfl (by decide +kernel) ⟨Nat.le_of_ble_eq_true rfl, Nat.le_of_ble_eq_true rfl⟩) (zPS hPc hDc hK) rfl rfl hl.1 rfl (lv_room (Nat.le_of_ble_eq_true rfl)) dX2_init_68 ⟨Nat.le_of_ble_eq_true rfl, Nat.le_of_ble_eq_true rfl⟩) hS hFc hFc rfl (fun t H1 locs ht hB hk1 hS => ?_)
      obtain ⟨hP1, hD1⟩ := hB
      rw [ht] at hP1
      obtain ⟨hP, hD⟩ := va_join (wr := [(h0, .inr (1, [.int rk, .int wd, .int tn, .int (-1), .int (-1), .ref q_1, .null, .null]))]) (w1 := [(q_5, .inr (4, [.int kk, .int 0, .null, .int 0, .int (-1), .int 0]))]) hP hD [1] [0] rfl rfl (by decide) (by decide) hk1 hFc hP1 hD1
      clear hk1 hPc hDc hFc hP1 hD1 ht
      generalize H1 = H at hP hS ⊢
      have hP : va_P (dC, dI) classes [(h0, .inr (1, [.int rk, .int wd, .int tn, .int (-1), .int (-1), .ref q_1, .null, .null])), (q_5, .inr (4, [.int kk, .int 0, .null, .int 0, .int (-1), .int 0]))] H := hP
      have hD : va_D A [(h0, .inr (1, [.int rk, .int wd, .int tn, .int (-1), .int (-1), .ref q_1, .null, .null])), (q_5, .inr (4, [.int kk, .int 0, .null, .int 0, .int (-1), .int 0]))] := hD
      refine va_put (D := (dC, dI)) (ci := 1) (v := .ref q_5) (ty := .object "ScaleShop$Look") (C := RX2) (T := TX2) (N := 8) hx hb hts inX2 tyX2 tyX2_ok nmX2 hown hK hP hD hS 0 rfl rfl 6 (by decide) (hts _ mw_429) (fun _ h9 => h9) rfl (by decide +kernel) rfl rfl (Nat.le_of_ble_eq_true rfl) dX2_init_71 (fun H locs hP hD hS => ?_)
      have hP : va_P (dC, dI) classes [(h0, .inr (1, [.int rk, .int wd, .int tn, .int (-1), .int (-1), .ref q_1, .ref q_5, .null])), (q_5, .inr (4, [.int kk, .int 0, .null, .int 0, .int (-1), .int 0]))] H := hP
      have hD : va_D A [(h0, .inr (1, [.int rk, .int wd, .int tn, .int (-1), .int (-1), .ref q_1, .ref q_5, .null])), (q_5, .inr (4, [.int kk, .int 0, .null, .int 0, .int (-1), .int 0]))] := hD
      refine W.widen (k := 4) (n := 90) (by decide) (by decide) ?_
      have hP9 := hP.sub (ws' := [(h0, .inr (1, [.int rk, .int wd, .int tn, .int (-1), .int (-1), .ref q_1, .ref q_5, .null])), (q_5, .inr (4, [.int kk, .int 0, .null, .int 0, .int (-1), .int 0]))]) [0, 1] rfl
      have hD9 := hD.sub (ws' := [(h0, .inr (1, [.int rk, .int wd, .int tn, .int (-1), .int (-1), .ref q_1, .ref q_5, .null])), (q_5, .inr (4, [.int kk, .int 0, .null, .int 0, .int (-1), .int 0]))]) [0, 1] (by decide) rfl
      exact W.vret hx hb hr (fun t ht hW => ⟨⟨rfl, q_1, q_5, by rw [ht]; exact hP9, hD9⟩, hS.F ht⟩) hS.2.2 dX2_init_74
    · refine lv_bipush (v := 40) hx hb dX2_init_49 (by decide) ?_
      refine lv_goto (tgt := 55) hx hb dX2_init_51 (by decide) ?_
      refine lv_iconst (v := 0) hx hb dX2_init_55 (by decide) ?_
      have hPc := hP.sub (ws' := [(q_1, .inr (6, [.null, .null, .int 0, .int 0]))]) [1] rfl
      have hDc := hD.sub (ws' := [(q_1, .inr (6, [.null, .null, .int 0, .int 0]))]) [1] (by decide) rfl
      have hFc := va_free (wc := [(q_1, .inr (6, [.null, .null, .int 0, .int 0]))]) hD hS hA [1] rfl
      refine zcall (st1 := [.ref q_1, .ref h0]) (va_runI (As := [.int 40, .int 0]) (rest := [.ref q_1, .ref h0]) ⟨hx, hb, hml, hown, hts⟩ (k_Row_init_40_0 l dC dI cI cZ cF H.size q_1 ) (cwI 2 hts (zz_gC mc_yX7_init) rfl rfl rfl (hts _ mw_102) (hts _ mw_371) (hts _ mw_155) rfl (by decide +kernel) ⟨Nat.le_of_ble_eq_true rfl, Nat.le_of_ble_eq_true rfl⟩) (zPS hPc hDc hK) rfl rfl hl.1 rfl (lv_room (Nat.le_of_ble_eq_true rfl)) dX2_init_56 ⟨Nat.le_of_ble_eq_true rfl, Nat.le_of_ble_eq_true rfl⟩) hS hFc hFc rfl (fun t H1 locs ht hB hk1 hS => ?_)
      obtain ⟨hP1, hD1⟩ := hB
      rw [ht] at hP1
      obtain ⟨hP, hD⟩ := va_join (wr := [(h0, .inr (1, [.int rk, .int wd, .int tn, .int (-1), .int (-1), .null, .null, .null]))]) (w1 := []) hP hD [1] [0] rfl rfl (by decide) (by decide) hk1 hFc hP1 hD1
      clear hk1 hPc hDc hFc hP1 hD1 ht
      generalize H1 = H at hP hS ⊢
      have hP : va_P (dC, dI) classes [(h0, .inr (1, [.int rk, .int wd, .int tn, .int (-1), .int (-1), .null, .null, .null]))] H := hP
      have hD : va_D A [(h0, .inr (1, [.int rk, .int wd, .int tn, .int (-1), .int (-1), .null, .null, .null]))] := hD
      refine va_putF (D := (dC, dI)) (ci := 1) (v := .ref q_1) (ty := .object "ScaleShop$Row") (C := RX2) (T := TX2) (N := 8) hx hb hts inX2 tyX2 tyX2_ok nmX2 hown hK hP hD hS 0 rfl rfl 5 (by decide) (hts _ mw_426) (fun _ h9 => h9) rfl hin rfl (by decide +kernel) rfl rfl (Nat.le_of_ble_eq_true rfl) dX2_init_59 (fun H locs hP hD hS => ?_)
      have hP : va_P (dC, dI) classes [(h0, .inr (1, [.int rk, .int wd, .int tn, .int (-1), .int (-1), .ref q_1, .null, .null]))] H := hP
      have hD : va_D A [(h0, .inr (1, [.int rk, .int wd, .int tn, .int (-1), .int (-1), .ref q_1, .null, .null]))] := hD
      refine lv_aload_n hx hb dX2_init_62 rfl (lv_at hl 0 rfl) ?_
      refine va_new (ci := 4) (fs := [.int 0, .int 0, .null, .int 0, .int 0, .int 0]) (C := RX5) (T := TX5) (N := 6) hx hb hts inX5 tyX5 tyX5_ok hown (hts _ mw_372) (hts _ mw_373) (hts _ mw_112) hK hP hD hS hA rfl dfX5 (Nat.le_of_ble_eq_true rfl) (Nat.le_of_ble_eq_true rfl) dX2_init_63 (fun q_6 H hP hD hS => ?_)
      have hP : va_P (dC, dI) classes [(h0, .inr (1, [.int rk, .int wd, .int tn, .int (-1), .int (-1), .ref q_1, .null, .null])), (q_6, .inr (4, [.int 0, .int 0, .null, .int 0, .int 0, .int 0]))] H := hP
      have hD : va_D A [(h0, .inr (1, [.int rk, .int wd, .int tn, .int (-1), .int (-1), .ref q_1, .null, .null])), (q_6, .inr (4, [.int 0, .int 0, .null, .int 0, .int 0, .int 0]))] := hD
      refine lv_dup hx hb dX2_init_66 rfl ?_
      refine lv_iload_n hx hb dX2_init_67 rfl (lv_at hl 1 rfl) ?_
      have hPc := hP.sub (ws' := [(q_6, .inr (4, [.int 0, .int 0, .null, .int 0, .int 0, .int 0]))]) [1] rfl
      have hDc := hD.sub (ws' := [(q_6, .inr (4, [.int 0, .int 0, .null, .int 0, .int 0, .int 0]))]) [1] (by decide) rfl
      have hFc := va_free (wc := [(q_6, .inr (4, [.int 0, .int 0, .null, .int 0, .int 0, .int 0]))]) hD hS hA [1] rfl
      refine zcall (st1 := [.ref q_6, .ref h0]) (va_runI (As := [.int kk]) (rest := [.ref q_6, .ref h0]) ⟨hx, hb, hml, hown, hts⟩ (k_Look_init l dC dI cI cZ cF H.size q_6 kk ) (cwI 1 hts (zz_gC mc_yX5_init) rfl rfl rfl (hts _ mw_112) (hts _ mw_374) (hts _ mw_375) rfl (by decide +kernel) ⟨Nat.le_of_ble_eq_true rfl, Nat.le_of_ble_eq_true rfl⟩) (zPS hPc hDc hK) rfl rfl hl.1 rfl (lv_room (Nat.le_of_ble_eq_true rfl)) dX2_init_68 ⟨Nat.le_of_ble_eq_true rfl, Nat.le_of_ble_eq_true rfl⟩) hS hFc hFc rfl (fun t H1 locs ht hB hk1 hS => ?_)
      obtain ⟨hP1, hD1⟩ := hB
      rw [ht] at hP1
      obtain ⟨hP, hD⟩ := va_join (wr := [(h0, .inr (1, [.int rk, .int wd, .int tn, .int (-1), .int (-1), .ref q_1, .null, .null]))]) (w1 := [(q_6, .inr (4, [.int kk, .int 0, .null, .int 0, .int (-1), .int 0]))]) hP hD [1] [0] rfl rfl (by decide) (by decide) hk1 hFc hP1 hD1
      clear hk1 hPc hDc hFc hP1 hD1 ht
      generalize H1 = H at hP hS ⊢
      have hP : va_P (dC, dI) classes [(h0, .inr (1, [.int rk, .int wd, .int tn, .int (-1), .int (-1), .ref q_1, .null, .null])), (q_6, .inr (4, [.int kk, .int 0, .null, .int 0, .int (-1), .int 0]))] H := hP
      have hD : va_D A [(h0, .inr (1, [.int rk, .int wd, .int tn, .int (-1), .int (-1), .ref q_1, .null, .null])), (q_6, .inr (4, [.int kk, .int 0, .null, .int 0, .int (-1), .int 0]))] := hD
      refine va_put (D := (dC, dI)) (ci := 1) (v := .ref q_6) (ty := .object "ScaleShop$Look") (C := RX2) (T := TX2) (N := 8) hx hb hts inX2 tyX2 tyX2_ok nmX2 hown hK hP hD hS 0 rfl rfl 6 (by decide) (hts _ mw_429) (fun _ h9 => h9) rfl (by decide +kernel) rfl rfl (Nat.le_of_ble_eq_true rfl) dX2_init_71 (fun H locs hP hD hS => ?_)
      have hP : va_P (dC, dI) classes [(h0, .inr (1, [.int rk, .int wd, .int tn, .int (-1), .int (-1), .ref q_1, .ref q_6, .null])), (q_6, .inr (4, [.int kk, .int 0, .null, .int 0, .int (-1), .int 0]))] H := hP
      have hD : va_D A [(h0, .inr (1, [.int rk, .int wd, .int tn, .int (-1), .int (-1), .ref q_1, .ref q_6, .null])), (q_6, .inr (4, [.int kk, .int 0, .null, .int 0, .int (-1), .int 0]))] := hD
      refine W.widen (k := 4) (n := 90) (by decide) (by decide) ?_
      have hP9 := hP.sub (ws' := [(h0, .inr (1, [.int rk, .int wd, .int tn, .int (-1), .int (-1), .ref q_1, .ref q_6, .null])), (q_6, .inr (4, [.int kk, .int 0, .null, .int 0, .int (-1), .int 0]))]) [0, 1] rfl
      have hD9 := hD.sub (ws' := [(h0, .inr (1, [.int rk, .int wd, .int tn, .int (-1), .int (-1), .ref q_1, .ref q_6, .null])), (q_6, .inr (4, [.int kk, .int 0, .null, .int 0, .int (-1), .int 0]))]) [0, 1] (by decide) rfl
      exact W.vret hx hb hr (fun t ht hW => ⟨⟨rfl, q_1, q_6, by rw [ht]; exact hP9, hD9⟩, hS.F ht⟩) hS.2.2 dX2_init_74
set_option maxHeartbeats 4000000 in
set_option maxRecDepth 100000 in
theorem k_gather (l : Launch) (dC : Nat → ClassId) (dI : Nat → Nat → Nat) (cI cZ cF : ClassId) (sz : Nat) (a3 : Nat) (a1 : Nat) (f0 : Nat) (r1 : Nat) (r2 : Nat) (r3 : Nat) (r4 : Nat) (r5 : Nat) : Met l yX6_gather (.code yX6_gather cX6_gather 5 none :: ws0) ({ frames := 0, cells := 0, slots := 0, locals := 0 }) (va_Pc [.ref a3, .ref a1] (zPre (dC, dI) classes (zTy cI cZ cF) [(a3, .inr (5, [.ref r1, .ref r2, .ref r3, .ref r4, .ref r5, .int 0])), (a1, .inr (7, [.ref f0, .int 0]))] sz zTrue)) (zQ none (fun t => va_P (dC, dI) classes [(a3, .inr (5, [.ref r1, .ref r2, .ref r3, .ref r4, .ref r5, .int 0])), (a1, .inr (7, [.ref f0, .int 0]))] t.heap ∧ va_D (va_A [(a3, .inr (5, [.ref r1, .ref r2, .ref r3, .ref r4, .ref r5, .int 0])), (a1, .inr (7, [.ref f0, .int 0]))] sz) [(a3, .inr (5, [.ref r1, .ref r2, .ref r3, .ref r4, .ref r5, .int 0])), (a1, .inr (7, [.ref f0, .int 0]))]) (va_A [(a3, .inr (5, [.ref r1, .ref r2, .ref r3, .ref r4, .ref r5, .int 0])), (a1, .inr (7, [.ref f0, .int 0]))] sz)) 0 0 (va_A [(a3, .inr (5, [.ref r1, .ref r2, .ref r3, .ref r4, .ref r5, .int 0])), (a1, .inr (7, [.ref f0, .int 0]))] sz) := by
  refine Met.ofW (cc := cX6_gather) (maxL := 5) (ret := none) (by decide) rfl ?_
  intro p e s m args below meth c s₁ B hml hv
  obtain ⟨rfl, hsz, hP, hK, hD0, hXX⟩ := hv
  have hx := B.exec
  have hb := B.bytes
  have hr := B.returns
  have hts0 := atoms_spec (ws := .code yX6_gather cX6_gather 5 none :: ws0) B.pre
  have hts : ∀ w9 ∈ ws0, w9.before ([.ref a3, .ref a1] : List Value).toArray s = true := fun w9 h => hts0 w9 (List.mem_cons_of_mem _ h)
  have hown : s.vm.findClass "ScaleShop$Roads" = some m.cls := findClass_of_methodNamed B.named
  have hlocks := B.notSynchronized
  subst hsz
  have hD := hD0.self (sz := s.heap.size)
  generalize hAe : va_A [(a3, .inr (5, [.ref r1, .ref r2, .ref r3, .ref r4, .ref r5, .int 0])), (a1, .inr (7, [.ref f0, .int 0]))] s.heap.size = A at hD ⊢
  have hA : ∀ q : Nat, s.heap.size ≤ q → A q := fun q h => by rw [← hAe]; exact Or.inr h
  have hS : va_S A s.heap s.heap [] := va_S.rf
  have hP : va_P (dC, dI) classes [(a3, .inr (5, [.ref r1, .ref r2, .ref r3, .ref r4, .ref r5, .int 0])), (a1, .inr (7, [.ref f0, .int 0]))] s.heap := hP
  have hl := lv_entry ([.ref a3, .ref a1]) (n := 5) (Nat.le_of_ble_eq_true rfl)
  rw [lg_entry_eq]
  generalize (lg_sl ([.ref a3, .ref a1]) ++ List.replicate (5 - (lg_sl ([.ref a3, .ref a1])).length) Slot.unset).toArray = ls at hl ⊢
  have hl : lv_has ls 5 [(0, .ref a3), (1, .ref a1)] := hl
  refine lv_aload_n hx hb dX6_gather_0 rfl (lv_at hl 0 rfl) ?_
  refine lv_iconst (v := 0) hx hb dX6_gather_1 (by decide) ?_
  refine va_put (D := (dC, dI)) (ci := 5) (v := .int 0) (ty := .int) (C := RX6) (T := TX6) (N := 6) hx hb hts inX6 tyX6 tyX6_ok nmX6 hown hK hP hD hS 0 rfl rfl 5 (by decide) (hts _ mw_251) (fun _ h9 => h9) rfl (by decide +kernel) rfl rfl (Nat.le_of_ble_eq_true rfl) dX6_gather_2 (fun H locs hP hD hS => ?_)
  have hP : va_P (dC, dI) classes [(a3, .inr (5, [.ref r1, .ref r2, .ref r3, .ref r4, .ref r5, .int 0])), (a1, .inr (7, [.ref f0, .int 0]))] H := hP
  have hD : va_D A [(a3, .inr (5, [.ref r1, .ref r2, .ref r3, .ref r4, .ref r5, .int 0])), (a1, .inr (7, [.ref f0, .int 0]))] := hD
  refine lv_iconst (v := 0) hx hb dX6_gather_5 (by decide) ?_
  refine lv_istore_n (lv' := [(2, .int 0), (0, .ref a3), (1, .ref a1)]) hx hb dX6_gather_6 rfl hl (by decide) rfl (fun ls hl => ?_)
  refine lv_iload_n hx hb dX6_gather_7 rfl (lv_at hl 0 rfl) ?_
  refine lv_aload_n hx hb dX6_gather_8 rfl (lv_at hl 2 rfl) ?_
  refine va_get (D := (dC, dI)) (ci := 7) (v := .int 0) (C := RX8) (T := TX8) (N := 2) hx hb hts inX8 hown hK hP 1 rfl rfl 1 (by decide) (hts _ mw_138) (fun _ h9 => h9) rfl dX6_gather_9 ?_
  refine lv_icmp_ge (tgt := 71) hx hb dX6_gather_12 (by decide) (fun c_1 => ?_) (fun c_1 => ?_)
  · refine lv_iconst (v := 0) hx hb dX6_gather_71 (by decide) ?_
    refine lv_istore_n (lv' := [(2, .int 0), (0, .ref a3), (1, .ref a1)]) hx hb dX6_gather_72 rfl hl (by decide) rfl (fun ls hl => ?_)
    refine lv_iload_n hx hb dX6_gather_73 rfl (lv_at hl 0 rfl) ?_
    refine lv_aload_n hx hb dX6_gather_74 rfl (lv_at hl 1 rfl) ?_
    refine va_get (D := (dC, dI)) (ci := 5) (v := .int 0) (C := RX6) (T := TX6) (N := 6) hx hb hts inX6 hown hK hP 0 rfl rfl 5 (by decide) (hts _ mw_251) (fun _ h9 => h9) rfl dX6_gather_75 ?_
    refine lv_icmp_ge (tgt := 174) hx hb dX6_gather_78 (by decide) (fun c_2 => ?_) (fun c_2 => ?_)
    · refine W.widen (k := 0) (n := 0) (by decide) (by decide) ?_
      have hP9 := hP.sub (ws' := [(a3, .inr (5, [.ref r1, .ref r2, .ref r3, .ref r4, .ref r5, .int 0])), (a1, .inr (7, [.ref f0, .int 0]))]) [0, 1] rfl
      have hD9 := hD.sub (ws' := [(a3, .inr (5, [.ref r1, .ref r2, .ref r3, .ref r4, .ref r5, .int 0])), (a1, .inr (7, [.ref f0, .int 0]))]) [0, 1] (by decide) rfl
      exact W.vret hx hb hr (fun t ht hW => ⟨⟨rfl, by rw [ht]; exact hP9, hD9⟩, hS.F ht⟩) hS.2.2 dX6_gather_174
    · exact absurd (by decide) c_2
  · exact absurd (by decide) c_1
set_option maxHeartbeats 4000000 in
set_option maxRecDepth 100000 in
theorem k_leaveOut (l : Launch) (dC : Nat → ClassId) (dI : Nat → Nat → Nat) (cI cZ cF : ClassId) (sz : Nat) (a3 : Nat) (r1 : Nat) (r2 : Nat) (r3 : Nat) (r4 : Nat) (r5 : Nat) (i : Int32) : Met l yX6_leaveOut (.code yX6_leaveOut cX6_leaveOut 6 (some .int) :: ws0) ({ frames := 0, cells := 0, slots := 0, locals := 0 }) (va_Pc [.ref a3, .int i] (zPre (dC, dI) classes (zTy cI cZ cF) [(a3, .inr (5, [.ref r1, .ref r2, .ref r3, .ref r4, .ref r5, .int 0]))] sz zTrue)) (zQ (some (.int 0)) (fun t => va_P (dC, dI) classes [(a3, .inr (5, [.ref r1, .ref r2, .ref r3, .ref r4, .ref r5, .int 0]))] t.heap ∧ va_D (va_A [(a3, .inr (5, [.ref r1, .ref r2, .ref r3, .ref r4, .ref r5, .int 0]))] sz) [(a3, .inr (5, [.ref r1, .ref r2, .ref r3, .ref r4, .ref r5, .int 0]))]) (va_A [(a3, .inr (5, [.ref r1, .ref r2, .ref r3, .ref r4, .ref r5, .int 0]))] sz)) 0 0 (va_A [(a3, .inr (5, [.ref r1, .ref r2, .ref r3, .ref r4, .ref r5, .int 0]))] sz) := by
  refine Met.ofW (cc := cX6_leaveOut) (maxL := 6) (ret := (some .int)) (by decide) rfl ?_
  intro p e s m args below meth c s₁ B hml hv
  obtain ⟨rfl, hsz, hP, hK, hD0, hXX⟩ := hv
  have hx := B.exec
  have hb := B.bytes
  have hr := B.returns
  have hts0 := atoms_spec (ws := .code yX6_leaveOut cX6_leaveOut 6 (some .int) :: ws0) B.pre
  have hts : ∀ w9 ∈ ws0, w9.before ([.ref a3, .int i] : List Value).toArray s = true := fun w9 h => hts0 w9 (List.mem_cons_of_mem _ h)
  have hown : s.vm.findClass "ScaleShop$Roads" = some m.cls := findClass_of_methodNamed B.named
  have hlocks := B.notSynchronized
  subst hsz
  have hD := hD0.self (sz := s.heap.size)
  generalize hAe : va_A [(a3, .inr (5, [.ref r1, .ref r2, .ref r3, .ref r4, .ref r5, .int 0]))] s.heap.size = A at hD ⊢
  have hA : ∀ q : Nat, s.heap.size ≤ q → A q := fun q h => by rw [← hAe]; exact Or.inr h
  have hS : va_S A s.heap s.heap [] := va_S.rf
  have hP : va_P (dC, dI) classes [(a3, .inr (5, [.ref r1, .ref r2, .ref r3, .ref r4, .ref r5, .int 0]))] s.heap := hP
  have hl := lv_entry ([.ref a3, .int i]) (n := 6) (Nat.le_of_ble_eq_true rfl)
  rw [lg_entry_eq]
  generalize (lg_sl ([.ref a3, .int i]) ++ List.replicate (6 - (lg_sl ([.ref a3, .int i])).length) Slot.unset).toArray = ls at hl ⊢
  have hl : lv_has ls 6 [(0, .ref a3), (1, .int i)] := hl
  refine lv_iconst (v := 0) hx hb dX6_leaveOut_0 (by decide) ?_
  refine lv_istore_n (lv' := [(2, .int 0), (0, .ref a3), (1, .int i)]) hx hb dX6_leaveOut_1 rfl hl (by decide) rfl (fun ls hl => ?_)
  refine lv_iconst (v := 0) hx hb dX6_leaveOut_2 (by decide) ?_
  refine lv_istore_n (lv' := [(3, .int 0), (2, .int 0), (0, .ref a3), (1, .int i)]) hx hb dX6_leaveOut_3 rfl hl (by decide) rfl (fun ls hl => ?_)
  refine lv_iload_n hx hb dX6_leaveOut_4 rfl (lv_at hl 0 rfl) ?_
  refine lv_aload_n hx hb dX6_leaveOut_5 rfl (lv_at hl 2 rfl) ?_
  refine va_get (D := (dC, dI)) (ci := 5) (v := .int 0) (C := RX6) (T := TX6) (N := 6) hx hb hts inX6 hown hK hP 0 rfl rfl 5 (by decide) (hts _ mw_251) (fun _ h9 => h9) rfl dX6_leaveOut_6 ?_
  refine lv_icmp_ge (tgt := 80) hx hb dX6_leaveOut_9 (by decide) (fun c_1 => ?_) (fun c_1 => ?_)
  · refine lv_iload_n hx hb dX6_leaveOut_80 rfl (lv_at hl 1 rfl) ?_
    refine W.widen (k := 0) (n := 0) (by decide) (by decide) ?_
    have hP9 := hP.sub (ws' := [(a3, .inr (5, [.ref r1, .ref r2, .ref r3, .ref r4, .ref r5, .int 0]))]) [0] rfl
    have hD9 := hD.sub (ws' := [(a3, .inr (5, [.ref r1, .ref r2, .ref r3, .ref r4, .ref r5, .int 0]))]) [0] (by decide) rfl
    exact W.iret (v := 0) hx hb hr (fun t ht hW => ⟨⟨rfl, by rw [ht]; exact hP9, hD9⟩, hS.F ht⟩) hS.2.2 dX6_leaveOut_81
  · exact absurd (by decide) c_1
set_option maxHeartbeats 4000000 in
set_option maxRecDepth 100000 in
theorem k_nextClash (l : Launch) (dC : Nat → ClassId) (dI : Nat → Nat → Nat) (cI cZ cF : ClassId) (sz : Nat) (h0 : Nat) (a1 : Nat) (a2 : Nat) (a3 : Nat) (a4 : Nat) (a5 : Nat) (a6 : Nat) (a7 : Nat) (a8 : Nat) (a9 : Nat) (f0 : Nat) (i : Int32) : Met l yX10_nextClash (.code yX10_nextClash cX10_nextClash 7 (some .int) :: ws0) ({ frames := 0, cells := 0, slots := 0, locals := 0 }) (va_Pc [.ref h0, .int i, .int 0] (zPre (dC, dI) classes (zTy cI cZ cF) [(h0, .inr (8, [.ref a1, .ref a2, .ref a3, .ref a4, .ref a5, .ref a6, .ref a7, .ref a8, .ref a9, .int 0, .int 0, .int 0, .int 0])), (a1, .inr (7, [.ref f0, .int 0]))] sz zTrue)) (zQ (some (.int (-1))) (fun t => va_P (dC, dI) classes [(h0, .inr (8, [.ref a1, .ref a2, .ref a3, .ref a4, .ref a5, .ref a6, .ref a7, .ref a8, .ref a9, .int 0, .int 0, .int 0, .int 0])), (a1, .inr (7, [.ref f0, .int 0]))] t.heap ∧ va_D (va_A [(h0, .inr (8, [.ref a1, .ref a2, .ref a3, .ref a4, .ref a5, .ref a6, .ref a7, .ref a8, .ref a9, .int 0, .int 0, .int 0, .int 0])), (a1, .inr (7, [.ref f0, .int 0]))] sz) [(h0, .inr (8, [.ref a1, .ref a2, .ref a3, .ref a4, .ref a5, .ref a6, .ref a7, .ref a8, .ref a9, .int 0, .int 0, .int 0, .int 0])), (a1, .inr (7, [.ref f0, .int 0]))]) (va_A [(h0, .inr (8, [.ref a1, .ref a2, .ref a3, .ref a4, .ref a5, .ref a6, .ref a7, .ref a8, .ref a9, .int 0, .int 0, .int 0, .int 0])), (a1, .inr (7, [.ref f0, .int 0]))] sz)) 0 0 (va_A [(h0, .inr (8, [.ref a1, .ref a2, .ref a3, .ref a4, .ref a5, .ref a6, .ref a7, .ref a8, .ref a9, .int 0, .int 0, .int 0, .int 0])), (a1, .inr (7, [.ref f0, .int 0]))] sz) := by
  refine Met.ofW (cc := cX10_nextClash) (maxL := 7) (ret := (some .int)) (by decide) rfl ?_
  intro p e s m args below meth c s₁ B hml hv
  obtain ⟨rfl, hsz, hP, hK, hD0, hXX⟩ := hv
  have hx := B.exec
  have hb := B.bytes
  have hr := B.returns
  have hts0 := atoms_spec (ws := .code yX10_nextClash cX10_nextClash 7 (some .int) :: ws0) B.pre
  have hts : ∀ w9 ∈ ws0, w9.before ([.ref h0, .int i, .int 0] : List Value).toArray s = true := fun w9 h => hts0 w9 (List.mem_cons_of_mem _ h)
  have hown : s.vm.findClass "ScaleShop" = some m.cls := findClass_of_methodNamed B.named
  have hlocks := B.notSynchronized
  subst hsz
  have hD := hD0.self (sz := s.heap.size)
  generalize hAe : va_A [(h0, .inr (8, [.ref a1, .ref a2, .ref a3, .ref a4, .ref a5, .ref a6, .ref a7, .ref a8, .ref a9, .int 0, .int 0, .int 0, .int 0])), (a1, .inr (7, [.ref f0, .int 0]))] s.heap.size = A at hD ⊢
  have hA : ∀ q : Nat, s.heap.size ≤ q → A q := fun q h => by rw [← hAe]; exact Or.inr h
  have hS : va_S A s.heap s.heap [] := va_S.rf
  have hP : va_P (dC, dI) classes [(h0, .inr (8, [.ref a1, .ref a2, .ref a3, .ref a4, .ref a5, .ref a6, .ref a7, .ref a8, .ref a9, .int 0, .int 0, .int 0, .int 0])), (a1, .inr (7, [.ref f0, .int 0]))] s.heap := hP
  have hl := lv_entry ([.ref h0, .int i, .int 0]) (n := 7) (Nat.le_of_ble_eq_true rfl)
  rw [lg_entry_eq]
  generalize (lg_sl ([.ref h0, .int i, .int 0]) ++ List.replicate (7 - (lg_sl ([.ref h0, .int i, .int 0])).length) Slot.unset).toArray = ls at hl ⊢
  have hl : lv_has ls 7 [(0, .ref h0), (1, .int i), (2, .int 0)] := hl
  refine lv_iload_n hx hb dX10_nextClash_0 rfl (lv_at hl 2 rfl) ?_
  refine lv_sipush (v := 200) hx hb dX10_nextClash_1 (by decide) ?_
  refine lv_idiv hx hb dX10_nextClash_4 (by decide) ?_
  refine zz_i (v := 0) (by decide) ?_
  refine lv_istore_n (lv' := [(3, .int 0), (0, .ref h0), (1, .int i), (2, .int 0)]) hx hb dX10_nextClash_5 rfl hl (by decide) rfl (fun ls hl => ?_)
  refine lv_iload_n hx hb dX10_nextClash_6 rfl (lv_at hl 0 rfl) ?_
  refine lv_istore (lv' := [(4, .int 0), (3, .int 0), (0, .ref h0), (1, .int i), (2, .int 0)]) hx hb dX10_nextClash_7 hl (by decide) rfl (fun ls hl => ?_)
  refine lv_iload hx hb dX10_nextClash_9 (lv_at hl 0 rfl) ?_
  refine lv_aload_n hx hb dX10_nextClash_11 rfl (lv_at hl 2 rfl) ?_
  refine va_get (D := (dC, dI)) (ci := 8) (v := .ref a1) (C := RX10) (T := TX10) (N := 13) hx hb hts inX10 hown hK hP 0 rfl rfl 0 (by decide) (hts _ mw_309) (fun _ h9 => h9) rfl dX10_nextClash_12 ?_
  refine va_get (D := (dC, dI)) (ci := 7) (v := .int 0) (C := RX8) (T := TX8) (N := 2) hx hb hts inX8 hown hK hP 1 rfl rfl 1 (by decide) (hts _ mw_140) (fun _ h9 => h9) rfl dX10_nextClash_15 ?_
  refine lv_icmp_ge (tgt := 91) hx hb dX10_nextClash_18 (by decide) (fun c_1 => ?_) (fun c_1 => ?_)
  · refine lv_iconst (v := (-1)) hx hb dX10_nextClash_91 (by decide) ?_
    refine W.widen (k := 0) (n := 0) (by decide) (by decide) ?_
    have hP9 := hP.sub (ws' := [(h0, .inr (8, [.ref a1, .ref a2, .ref a3, .ref a4, .ref a5, .ref a6, .ref a7, .ref a8, .ref a9, .int 0, .int 0, .int 0, .int 0])), (a1, .inr (7, [.ref f0, .int 0]))]) [0, 1] rfl
    have hD9 := hD.sub (ws' := [(h0, .inr (8, [.ref a1, .ref a2, .ref a3, .ref a4, .ref a5, .ref a6, .ref a7, .ref a8, .ref a9, .int 0, .int 0, .int 0, .int 0])), (a1, .inr (7, [.ref f0, .int 0]))]) [0, 1] (by decide) rfl
    exact W.iret (v := (-1)) hx hb hr (fun t ht hW => ⟨⟨rfl, by rw [ht]; exact hP9, hD9⟩, hS.F ht⟩) hS.2.2 dX10_nextClash_92
  · exact absurd (by decide) c_1
