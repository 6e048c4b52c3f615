set_option maxHeartbeats 4000000 in
set_option maxRecDepth 100000 in
theorem k_M_size_x (l : Launch) (dC : Nat → ClassId) (dI : Nat → Nat → Nat) (cI cZ cF : ClassId) (sz : Nat) (k0 : Nat) (a : Nat → Nat) (I0 : Nat → Int32) (J0 : Nat → Int64) (ft : Nat) (v : Int32) (hft : I0 0 = nI ft) (h200 : ft ≤ 200) (hv : ¬ (0 ≤ v.toInt ∧ v.toInt < (ft : Int))) : Met l yX11_size (.code yX11_size cX11_size 2 (some .long) :: ws0) ({ frames := 2, cells := 0, slots := 0, locals := 42 } : Room) (va_Pc [.ref k0, .int v] (zPre (dC, dI) classes (zTy cI cZ cF) [(om k0 a I0 J0)] sz zXN)) (zQ (some (.long (-1))) (fun t => va_P (dC, dI) classes [(om k0 a I0 J0)] t.heap ∧ va_D (va_A [(om k0 a I0 J0)] sz) [(om k0 a I0 J0)]) (va_A [(om k0 a I0 J0)] sz)) 0 0 (va_A [(om k0 a I0 J0)] sz) := by
  refine Met.ofW (cc := cX11_size) (maxL := 2) (ret := (some .long)) (by decide) rfl ?_
  intro p e s m args below meth c s₁ B hml hv
  obtain ⟨rfl, hsz, hP, hK, hD0, hXN⟩ := hv
  have hx := B.exec
  have hb := B.bytes
  have hr := B.returns
  have hts0 := atoms_spec (ws := .code yX11_size cX11_size 2 (some .long) :: ws0) B.pre
  have hts : ∀ w9 ∈ ws0, w9.before ([.ref k0, .int v] : List Value).toArray s = true := fun w9 h => hts0 w9 (List.mem_cons_of_mem _ h)
  have hown : s.vm.findClass "ScaleShopModel" = some m.cls := findClass_of_methodNamed B.named
  have hlocks := B.notSynchronized
  subst hsz
  have hD := hD0.self (sz := s.heap.size)
  clear hD0
  generalize hAe : va_A [(om k0 a I0 J0)] s.heap.size = A at hD ⊢
  have hA : ∀ q : Nat, s.heap.size ≤ q → A q := fun q h => by rw [← hAe]; exact Or.inr h
  clear hAe
  have hS : va_S A s.heap s.heap [] := va_S.rf
  have hP : va_P (dC, dI) classes [(om k0 a I0 J0)] s.heap := hP
  obtain ⟨Q9, hQ9⟩ : ∃ Q9 : State → Prop, Q9 = MQ below (zQ (some (.long (-1))) (fun t => va_P (dC, dI) classes [(om k0 a I0 J0)] t.heap ∧ va_D A [(om k0 a I0 J0)]) A) ([.ref k0, .int v] : List Value).toArray s 0 0 A := ⟨_, rfl⟩
  rw [← hQ9]
  have hl := lv_entry ([.ref k0, .int v]) (n := 2) (Nat.le_of_ble_eq_true rfl)
  rw [lg_entry_eq]
  generalize (lg_sl ([.ref k0, .int v]) ++ List.replicate (2 - (lg_sl ([.ref k0, .int v])).length) Slot.unset).toArray = ls at hl ⊢
  have hl : lv_has ls 2 [(0, .ref k0), (1, .int v)] := hl
  refine lv_aload_n hx hb dX11_size_0 rfl (lv_at hl 0 rfl) ?_
  refine lv_iload_n hx hb dX11_size_1 rfl (lv_at hl 1 rfl) ?_
  have hPc := hP.sub (ws' := [(om k0 a I0 J0)]) [0] rfl
  have hDc := hD.sub (ws' := [(om k0 a I0 J0)]) [0] (by decide) rfl
  have hFc := va_free (wc := [(om k0 a I0 J0)]) hD hS hA [0] rfl
  refine zcall (st1 := [.int 0]) (va_runV (As := [.int v]) (rest := []) ⟨hx, hb, hml, hown, hts⟩ (k_M_is_x l dC dI cI cZ cF s.heap.size k0 a I0 J0 ft v (by assumption) (by omega) (by assumption)) (cwV 1 hts (zz_gV mw_1447 mw_1449 mw_56 mw_110 mc_yX11_is) rfl rfl rfl (by decide +kernel) ⟨Nat.le_of_ble_eq_true rfl, Nat.le_of_ble_eq_true rfl⟩) (zPV2 (q0 := 0) (ci := 9) hPc hDc hK hXN rfl rfl) rfl rfl hl.1 rfl (lv_room (Nat.le_of_ble_eq_true rfl)) dX11_size_2 ⟨Nat.le_of_ble_eq_true rfl, Nat.le_of_ble_eq_true rfl⟩) hS hFc hFc rfl (fun t H1 locs ht hB hk1 hS => ?_)
  obtain ⟨hP1, hD1⟩ := hB
  rw [ht] at hP1
  obtain ⟨hP, hD⟩ := va_join (wr := []) (w1 := [(om k0 a I0 J0)]) hP hD [0] [] rfl rfl (by decide) (by decide) hk1 hFc hP1 hD1
  clear hk1 hPc hDc hFc hP1 hD1 ht
  generalize H1 = H at hP hS ⊢
  have hP : va_P (dC, dI) classes [(om k0 a I0 J0)] H := hP
  have hD : va_D A [(om k0 a I0 J0)] := hD
  refine lv_if_ne (tgt := 12) hx hb dX11_size_5 (by decide) (fun c_1 => ?_) (fun c_1 => ?_)
  · exact absurd (by decide) c_1
  · refine lv_ldc2 hx hb hown (hts _ mw_1620) dX11_size_8 ?_
    have hP9 := hP.sub (ws' := [(om k0 a I0 J0)]) [0] rfl
    have hD9 := hD.sub (ws' := [(om k0 a I0 J0)]) [0] (by decide) rfl
    rw [hQ9]
    exact W.lret (v := (-1)) hx hb hr (fun t ht hW => ⟨⟨rfl, by rw [ht]; exact hP9, hD9⟩, hS.F ht⟩) hS.2.2 dX11_size_11
set_option maxHeartbeats 4000000 in
set_option maxRecDepth 100000 in
theorem k_M_size_r (l : Launch) (dC : Nat → ClassId) (dI : Nat → Nat → Nat) (cI cZ cF : ClassId) (sz : Nat) (k0 : Nat) (a : Nat → Nat) (I0 : Nat → Int32) (J0 : Nat → Int64) (f : Nat) (ft : Nat) (st : Nat → Int32) (tn : Nat → Int32) (hft : I0 0 = nI ft) (h200 : ft ≤ 200) (hf_t : f < ft) (hbad : ¬ lvF ft st tn f) : Met l yX11_size (.code yX11_size cX11_size 2 (some .long) :: ws0) ({ frames := 2, cells := 0, slots := 0, locals := 42 } : Room) (va_Pc [.ref k0, .int (nI f)] (zPre (dC, dI) classes (zTy cI cZ cF) [(om k0 a I0 J0), (oa (a 5) cI 201 st), (oa (a 6) cZ 201 tn)] sz zXN)) (zQ (some (.long (-1))) (fun t => va_P (dC, dI) classes [(om k0 a I0 J0), (oa (a 5) cI 201 st), (oa (a 6) cZ 201 tn)] t.heap ∧ va_D (va_A [(om k0 a I0 J0), (oa (a 5) cI 201 st), (oa (a 6) cZ 201 tn)] sz) [(om k0 a I0 J0), (oa (a 5) cI 201 st), (oa (a 6) cZ 201 tn)]) (va_A [(om k0 a I0 J0), (oa (a 5) cI 201 st), (oa (a 6) cZ 201 tn)] sz)) 0 0 (va_A [(om k0 a I0 J0), (oa (a 5) cI 201 st), (oa (a 6) cZ 201 tn)] sz) := by
  refine Met.ofW (cc := cX11_size) (maxL := 2) (ret := (some .long)) (by decide) rfl ?_
  intro p e s m args below meth c s₁ B hml hv
  obtain ⟨rfl, hsz, hP, hK, hD0, hXN⟩ := hv
  have hx := B.exec
  have hb := B.bytes
  have hr := B.returns
  have hts0 := atoms_spec (ws := .code yX11_size cX11_size 2 (some .long) :: ws0) B.pre
  have hts : ∀ w9 ∈ ws0, w9.before ([.ref k0, .int (nI f)] : List Value).toArray s = true := fun w9 h => hts0 w9 (List.mem_cons_of_mem _ h)
  have hown : s.vm.findClass "ScaleShopModel" = some m.cls := findClass_of_methodNamed B.named
  have hlocks := B.notSynchronized
  subst hsz
  have hD := hD0.self (sz := s.heap.size)
  clear hD0
  generalize hAe : va_A [(om k0 a I0 J0), (oa (a 5) cI 201 st), (oa (a 6) cZ 201 tn)] s.heap.size = A at hD ⊢
  have hA : ∀ q : Nat, s.heap.size ≤ q → A q := fun q h => by rw [← hAe]; exact Or.inr h
  clear hAe
  have hS : va_S A s.heap s.heap [] := va_S.rf
  have hP : va_P (dC, dI) classes [(om k0 a I0 J0), (oa (a 5) cI 201 st), (oa (a 6) cZ 201 tn)] s.heap := hP
  obtain ⟨Q9, hQ9⟩ : ∃ Q9 : State → Prop, Q9 = MQ below (zQ (some (.long (-1))) (fun t => va_P (dC, dI) classes [(om k0 a I0 J0), (oa (a 5) cI 201 st), (oa (a 6) cZ 201 tn)] t.heap ∧ va_D A [(om k0 a I0 J0), (oa (a 5) cI 201 st), (oa (a 6) cZ 201 tn)]) A) ([.ref k0, .int (nI f)] : List Value).toArray s 0 0 A := ⟨_, rfl⟩
  rw [← hQ9]
  have hl := lv_entry ([.ref k0, .int (nI f)]) (n := 2) (Nat.le_of_ble_eq_true rfl)
  rw [lg_entry_eq]
  generalize (lg_sl ([.ref k0, .int (nI f)]) ++ List.replicate (2 - (lg_sl ([.ref k0, .int (nI f)])).length) Slot.unset).toArray = ls at hl ⊢
  have hl : lv_has ls 2 [(0, .ref k0), (1, .int (nI f))] := hl
  refine lv_aload_n hx hb dX11_size_0 rfl (lv_at hl 0 rfl) ?_
  refine lv_iload_n hx hb dX11_size_1 rfl (lv_at hl 1 rfl) ?_
  have hPc := hP.sub (ws' := [(om k0 a I0 J0), (oa (a 5) cI 201 st), (oa (a 6) cZ 201 tn)]) [0, 1, 2] rfl
  have hDc := hD.sub (ws' := [(om k0 a I0 J0), (oa (a 5) cI 201 st), (oa (a 6) cZ 201 tn)]) [0, 1, 2] (by decide) rfl
  have hFc := va_free (wc := [(om k0 a I0 J0), (oa (a 5) cI 201 st), (oa (a 6) cZ 201 tn)]) hD hS hA [0, 1, 2] rfl
  refine zcall (st1 := [.int (pI (f < ft ∧ (st f).toInt = 1 ∧ (tn f).toInt = 0))]) (va_runV (As := [.int (nI f)]) (rest := []) ⟨hx, hb, hml, hown, hts⟩ (k_M_is_n l dC dI cI cZ cF s.heap.size k0 a I0 J0 f ft st tn (by assumption) (by omega) (by omega)) (cwV 1 hts (zz_gV mw_1447 mw_1449 mw_56 mw_110 mc_yX11_is) rfl rfl rfl (by decide +kernel) ⟨Nat.le_of_ble_eq_true rfl, Nat.le_of_ble_eq_true rfl⟩) (zPV2 (q0 := 0) (ci := 9) hPc hDc hK hXN rfl rfl) rfl rfl hl.1 rfl (lv_room (Nat.le_of_ble_eq_true rfl)) dX11_size_2 ⟨Nat.le_of_ble_eq_true rfl, Nat.le_of_ble_eq_true rfl⟩) hS hFc hFc rfl (fun t H1 locs ht hB hk1 hS => ?_)
  obtain ⟨hP1, hD1⟩ := hB
  rw [ht] at hP1
  obtain ⟨hP, hD⟩ := va_join (wr := []) (w1 := [(om k0 a I0 J0), (oa (a 5) cI 201 st), (oa (a 6) cZ 201 tn)]) hP hD [0, 1, 2] [] rfl rfl (by decide) (by decide) hk1 hFc hP1 hD1
  clear hk1 hPc hDc hFc hP1 hD1 ht
  generalize H1 = H at hP hS ⊢
  have hP : va_P (dC, dI) classes [(om k0 a I0 J0), (oa (a 5) cI 201 st), (oa (a 6) cZ 201 tn)] H := hP
  have hD : va_D A [(om k0 a I0 J0), (oa (a 5) cI 201 st), (oa (a 6) cZ 201 tn)] := hD
  refine lv_if_ne (tgt := 12) hx hb dX11_size_5 (by decide) (fun c_1 => ?_) (fun c_1 => ?_)
  · have c_1 : f < ft ∧ (st f).toInt = 1 ∧ (tn f).toInt = 0 := zp_1 c_1
    exfalso; exact absurd (by assumption) hbad
  · have c_1 : ¬ (f < ft ∧ (st f).toInt = 1 ∧ (tn f).toInt = 0) := zp_0 c_1
    refine lv_ldc2 hx hb hown (hts _ mw_1620) dX11_size_8 ?_
    have hP9 := hP.sub (ws' := [(om k0 a I0 J0), (oa (a 5) cI 201 st), (oa (a 6) cZ 201 tn)]) [0, 1, 2] rfl
    have hD9 := hD.sub (ws' := [(om k0 a I0 J0), (oa (a 5) cI 201 st), (oa (a 6) cZ 201 tn)]) [0, 1, 2] (by decide) rfl
    rw [hQ9]
    exact W.lret (v := (-1)) hx hb hr (fun t ht hW => ⟨⟨rfl, by rw [ht]; exact hP9, hD9⟩, hS.F ht⟩) hS.2.2 dX11_size_11
set_option maxHeartbeats 4000000 in
set_option maxRecDepth 100000 in
theorem k_M_size_p (l : Launch) (dC : Nat → ClassId) (dI : Nat → Nat → Nat) (cI cZ cF : ClassId) (sz : Nat) (k0 : Nat) (a : Nat → Nat) (I0 : Nat → Int32) (J0 : Nat → Int64) (f : Nat) (ft : Nat) (st : Nat → Int32) (tn : Nat → Int32) (kd : Nat → Int32) (hft : I0 0 = nI ft) (h200 : ft ≤ 200) (hf_t : f < ft) (hlv : lvF ft st tn f) (hk0 : (kd f).toInt = 0) : Met l yX11_size (.code yX11_size cX11_size 2 (some .long) :: ws0) ({ frames := 2, cells := 0, slots := 0, locals := 42 } : Room) (va_Pc [.ref k0, .int (nI f)] (zPre (dC, dI) classes (zTy cI cZ cF) [(om k0 a I0 J0), (oa (a 5) cI 201 st), (oa (a 6) cZ 201 tn), (oa (a 1) cI 201 kd)] sz zXN)) (zQ (some (.long 0)) (fun t => va_P (dC, dI) classes [(om k0 a I0 J0), (oa (a 5) cI 201 st), (oa (a 6) cZ 201 tn), (oa (a 1) cI 201 kd)] t.heap ∧ va_D (va_A [(om k0 a I0 J0), (oa (a 5) cI 201 st), (oa (a 6) cZ 201 tn), (oa (a 1) cI 201 kd)] sz) [(om k0 a I0 J0), (oa (a 5) cI 201 st), (oa (a 6) cZ 201 tn), (oa (a 1) cI 201 kd)]) (va_A [(om k0 a I0 J0), (oa (a 5) cI 201 st), (oa (a 6) cZ 201 tn), (oa (a 1) cI 201 kd)] sz)) 0 0 (va_A [(om k0 a I0 J0), (oa (a 5) cI 201 st), (oa (a 6) cZ 201 tn), (oa (a 1) cI 201 kd)] sz) := by
  refine Met.ofW (cc := cX11_size) (maxL := 2) (ret := (some .long)) (by decide) rfl ?_
  intro p e s m args below meth c s₁ B hml hv
  obtain ⟨rfl, hsz, hP, hK, hD0, hXN⟩ := hv
  have hx := B.exec
  have hb := B.bytes
  have hr := B.returns
  have hts0 := atoms_spec (ws := .code yX11_size cX11_size 2 (some .long) :: ws0) B.pre
  have hts : ∀ w9 ∈ ws0, w9.before ([.ref k0, .int (nI f)] : List Value).toArray s = true := fun w9 h => hts0 w9 (List.mem_cons_of_mem _ h)
  have hown : s.vm.findClass "ScaleShopModel" = some m.cls := findClass_of_methodNamed B.named
  have hlocks := B.notSynchronized
  subst hsz
  have hD := hD0.self (sz := s.heap.size)
  clear hD0
  generalize hAe : va_A [(om k0 a I0 J0), (oa (a 5) cI 201 st), (oa (a 6) cZ 201 tn), (oa (a 1) cI 201 kd)] s.heap.size = A at hD ⊢
  have hA : ∀ q : Nat, s.heap.size ≤ q → A q := fun q h => by rw [← hAe]; exact Or.inr h
  clear hAe
  have hS : va_S A s.heap s.heap [] := va_S.rf
  have hP : va_P (dC, dI) classes [(om k0 a I0 J0), (oa (a 5) cI 201 st), (oa (a 6) cZ 201 tn), (oa (a 1) cI 201 kd)] s.heap := hP
  obtain ⟨Q9, hQ9⟩ : ∃ Q9 : State → Prop, Q9 = MQ below (zQ (some (.long 0)) (fun t => va_P (dC, dI) classes [(om k0 a I0 J0), (oa (a 5) cI 201 st), (oa (a 6) cZ 201 tn), (oa (a 1) cI 201 kd)] t.heap ∧ va_D A [(om k0 a I0 J0), (oa (a 5) cI 201 st), (oa (a 6) cZ 201 tn), (oa (a 1) cI 201 kd)]) A) ([.ref k0, .int (nI f)] : List Value).toArray s 0 0 A := ⟨_, rfl⟩
  rw [← hQ9]
  have hl := lv_entry ([.ref k0, .int (nI f)]) (n := 2) (Nat.le_of_ble_eq_true rfl)
  rw [lg_entry_eq]
  generalize (lg_sl ([.ref k0, .int (nI f)]) ++ List.replicate (2 - (lg_sl ([.ref k0, .int (nI f)])).length) Slot.unset).toArray = ls at hl ⊢
  have hl : lv_has ls 2 [(0, .ref k0), (1, .int (nI f))] := hl
  refine lv_aload_n hx hb dX11_size_0 rfl (lv_at hl 0 rfl) ?_
  refine lv_iload_n hx hb dX11_size_1 rfl (lv_at hl 1 rfl) ?_
  have hPc := hP.sub (ws' := [(om k0 a I0 J0), (oa (a 5) cI 201 st), (oa (a 6) cZ 201 tn)]) [0, 1, 2] rfl
  have hDc := hD.sub (ws' := [(om k0 a I0 J0), (oa (a 5) cI 201 st), (oa (a 6) cZ 201 tn)]) [0, 1, 2] (by decide) rfl
  have hFc := va_free (wc := [(om k0 a I0 J0), (oa (a 5) cI 201 st), (oa (a 6) cZ 201 tn)]) hD hS hA [0, 1, 2] rfl
  refine zcall (st1 := [.int (pI (f < ft ∧ (st f).toInt = 1 ∧ (tn f).toInt = 0))]) (va_runV (As := [.int (nI f)]) (rest := []) ⟨hx, hb, hml, hown, hts⟩ (k_M_is_n l dC dI cI cZ cF s.heap.size k0 a I0 J0 f ft st tn (by assumption) (by omega) (by omega)) (cwV 1 hts (zz_gV mw_1447 mw_1449 mw_56 mw_110 mc_yX11_is) rfl rfl rfl (by decide +kernel) ⟨Nat.le_of_ble_eq_true rfl, Nat.le_of_ble_eq_true rfl⟩) (zPV2 (q0 := 0) (ci := 9) hPc hDc hK hXN rfl rfl) rfl rfl hl.1 rfl (lv_room (Nat.le_of_ble_eq_true rfl)) dX11_size_2 ⟨Nat.le_of_ble_eq_true rfl, Nat.le_of_ble_eq_true rfl⟩) hS hFc hFc rfl (fun t H1 locs ht hB hk1 hS => ?_)
  obtain ⟨hP1, hD1⟩ := hB
  rw [ht] at hP1
  obtain ⟨hP, hD⟩ := va_join (wr := [(oa (a 1) cI 201 kd)]) (w1 := [(om k0 a I0 J0), (oa (a 5) cI 201 st), (oa (a 6) cZ 201 tn)]) hP hD [0, 1, 2] [3] rfl rfl (by decide) (by decide) hk1 hFc hP1 hD1
  clear hk1 hPc hDc hFc hP1 hD1 ht
  generalize H1 = H at hP hS ⊢
  have hP := hP.sub (ws' := [(om k0 a I0 J0), (oa (a 5) cI 201 st), (oa (a 6) cZ 201 tn), (oa (a 1) cI 201 kd)]) [1, 2, 3, 0] rfl
  have hD := hD.sub (ws' := [(om k0 a I0 J0), (oa (a 5) cI 201 st), (oa (a 6) cZ 201 tn), (oa (a 1) cI 201 kd)]) [1, 2, 3, 0] (by decide) rfl
  have hP : va_P (dC, dI) classes [(om k0 a I0 J0), (oa (a 5) cI 201 st), (oa (a 6) cZ 201 tn), (oa (a 1) cI 201 kd)] H := hP
  have hD : va_D A [(om k0 a I0 J0), (oa (a 5) cI 201 st), (oa (a 6) cZ 201 tn), (oa (a 1) cI 201 kd)] := hD
  refine lv_if_ne (tgt := 12) hx hb dX11_size_5 (by decide) (fun c_1 => ?_) (fun c_1 => ?_)
  · have c_1 : f < ft ∧ (st f).toInt = 1 ∧ (tn f).toInt = 0 := zp_1 c_1
    refine lv_aload_n hx hb dX11_size_12 rfl (lv_at hl 0 rfl) ?_
    refine va_get (D := (dC, dI)) (ci := 9) (v := .ref (a 1)) (C := RX11) (T := TX11) (N := 55) hx hb hts inX11 hown hK hP 0 rfl rfl 1 (by decide) (hts _ mw_1160) (fun _ h9 => h9) rfl dX11_size_13 ?_
    refine lv_iload_n hx hb dX11_size_16 rfl (lv_at hl 1 rfl) ?_
    refine z_iald hx hb hK hP 3 0 rfl rfl (e := f) rfl (by omega) (by omega) dX11_size_17 ?_
    refine lv_if_ne (tgt := 25) hx hb dX11_size_18 (by decide) (fun c_2 => ?_) (fun c_2 => ?_)
    · have c_2 : ¬ (kd f).toInt = 0 := zc_ne rfl (by decide) c_2
      exfalso; omega
    · have c_2 : (kd f).toInt = 0 := zc_eq rfl (by decide) c_2
      refine lv_lconst (v := 0) hx hb dX11_size_21 (by decide) ?_
      refine lv_goto (tgt := 46) hx hb dX11_size_22 (by decide) ?_
      have hP9 := hP.sub (ws' := [(om k0 a I0 J0), (oa (a 5) cI 201 st), (oa (a 6) cZ 201 tn), (oa (a 1) cI 201 kd)]) [0, 1, 2, 3] rfl
      have hD9 := hD.sub (ws' := [(om k0 a I0 J0), (oa (a 5) cI 201 st), (oa (a 6) cZ 201 tn), (oa (a 1) cI 201 kd)]) [0, 1, 2, 3] (by decide) rfl
      rw [hQ9]
      exact W.lret (v := 0) hx hb hr (fun t ht hW => ⟨⟨rfl, by rw [ht]; exact hP9, hD9⟩, hS.F ht⟩) hS.2.2 dX11_size_46
  · have c_1 : ¬ (f < ft ∧ (st f).toInt = 1 ∧ (tn f).toInt = 0) := zp_0 c_1
    exfalso; exact absurd hlv (by assumption)
set_option maxHeartbeats 4000000 in
set_option maxRecDepth 100000 in
theorem k_M_size_a (l : Launch) (dC : Nat → ClassId) (dI : Nat → Nat → Nat) (cI cZ cF : ClassId) (sz : Nat) (k0 : Nat) (a : Nat → Nat) (I0 : Nat → Int32) (J0 : Nat → Int64) (f : Nat) (ft : Nat) (st : Nat → Int32) (tn : Nat → Int32) (kd : Nat → Int32) (mn : Nat → Int32) (cx : Nat → Int32) (cy : Nat → Int32) (S0 : Nat → Int32) (hft : I0 0 = nI ft) (h200 : ft ≤ 200) (hwf : ∀ q, lvF ft st tn q → wfM mn cx cy q) (hf_t : f < ft) (hlv : lvF ft st tn f) (hk5 : 5 ≤ (kd f).toInt) : Met l yX11_size (.code yX11_size cX11_size 2 (some .long) :: ws0) ({ frames := 2, cells := 0, slots := 0, locals := 49 } : Room) (va_Pc [.ref k0, .int (nI f)] (zPre (dC, dI) classes (zTy cI cZ cF) [(om k0 a I0 J0), (oa (a 5) cI 201 st), (oa (a 6) cZ 201 tn), (oa (a 1) cI 201 kd), (oa (a 11) cI 201 mn), (oa (a 12) cI 8040 cx), (oa (a 13) cI 8040 cy), (oa (a 32) cI 8 S0)] sz zXN)) (zQ (some (.long (jI ((arF mn cx cy f : Nat) : Int)))) (fun t => ∃ (S1 : Nat → Int32), va_P (dC, dI) classes [(om k0 a I0 J0), (oa (a 5) cI 201 st), (oa (a 6) cZ 201 tn), (oa (a 1) cI 201 kd), (oa (a 11) cI 201 mn), (oa (a 12) cI 8040 cx), (oa (a 13) cI 8040 cy), (oa (a 32) cI 8 S1)] t.heap ∧ va_D (va_A [(om k0 a I0 J0), (oa (a 5) cI 201 st), (oa (a 6) cZ 201 tn), (oa (a 1) cI 201 kd), (oa (a 11) cI 201 mn), (oa (a 12) cI 8040 cx), (oa (a 13) cI 8040 cy), (oa (a 32) cI 8 S0)] sz) [(om k0 a I0 J0), (oa (a 5) cI 201 st), (oa (a 6) cZ 201 tn), (oa (a 1) cI 201 kd), (oa (a 11) cI 201 mn), (oa (a 12) cI 8040 cx), (oa (a 13) cI 8040 cy), (oa (a 32) cI 8 S1)]) (va_A [(om k0 a I0 J0), (oa (a 5) cI 201 st), (oa (a 6) cZ 201 tn), (oa (a 1) cI 201 kd), (oa (a 11) cI 201 mn), (oa (a 12) cI 8040 cx), (oa (a 13) cI 8040 cy), (oa (a 32) cI 8 S0)] sz)) 0 0 (va_A [(om k0 a I0 J0), (oa (a 5) cI 201 st), (oa (a 6) cZ 201 tn), (oa (a 1) cI 201 kd), (oa (a 11) cI 201 mn), (oa (a 12) cI 8040 cx), (oa (a 13) cI 8040 cy), (oa (a 32) cI 8 S0)] sz) := by
  refine Met.ofW (cc := cX11_size) (maxL := 2) (ret := (some .long)) (by decide) rfl ?_
  intro p e s m args below meth c s₁ B hml hv
  obtain ⟨rfl, hsz, hP, hK, hD0, hXN⟩ := hv
  have hx := B.exec
  have hb := B.bytes
  have hr := B.returns
  have hts0 := atoms_spec (ws := .code yX11_size cX11_size 2 (some .long) :: ws0) B.pre
  have hts : ∀ w9 ∈ ws0, w9.before ([.ref k0, .int (nI f)] : List Value).toArray s = true := fun w9 h => hts0 w9 (List.mem_cons_of_mem _ h)
  have hown : s.vm.findClass "ScaleShopModel" = some m.cls := findClass_of_methodNamed B.named
  have hlocks := B.notSynchronized
  subst hsz
  have hD := hD0.self (sz := s.heap.size)
  clear hD0
  generalize hAe : va_A [(om k0 a I0 J0), (oa (a 5) cI 201 st), (oa (a 6) cZ 201 tn), (oa (a 1) cI 201 kd), (oa (a 11) cI 201 mn), (oa (a 12) cI 8040 cx), (oa (a 13) cI 8040 cy), (oa (a 32) cI 8 S0)] s.heap.size = A at hD ⊢
  have hA : ∀ q : Nat, s.heap.size ≤ q → A q := fun q h => by rw [← hAe]; exact Or.inr h
  clear hAe
  have hS : va_S A s.heap s.heap [] := va_S.rf
  have hP : va_P (dC, dI) classes [(om k0 a I0 J0), (oa (a 5) cI 201 st), (oa (a 6) cZ 201 tn), (oa (a 1) cI 201 kd), (oa (a 11) cI 201 mn), (oa (a 12) cI 8040 cx), (oa (a 13) cI 8040 cy), (oa (a 32) cI 8 S0)] s.heap := hP
  obtain ⟨Q9, hQ9⟩ : ∃ Q9 : State → Prop, Q9 = MQ below (zQ (some (.long (jI ((arF mn cx cy f : Nat) : Int)))) (fun t => ∃ (S1 : Nat → Int32), va_P (dC, dI) classes [(om k0 a I0 J0), (oa (a 5) cI 201 st), (oa (a 6) cZ 201 tn), (oa (a 1) cI 201 kd), (oa (a 11) cI 201 mn), (oa (a 12) cI 8040 cx), (oa (a 13) cI 8040 cy), (oa (a 32) cI 8 S1)] t.heap ∧ va_D A [(om k0 a I0 J0), (oa (a 5) cI 201 st), (oa (a 6) cZ 201 tn), (oa (a 1) cI 201 kd), (oa (a 11) cI 201 mn), (oa (a 12) cI 8040 cx), (oa (a 13) cI 8040 cy), (oa (a 32) cI 8 S1)]) A) ([.ref k0, .int (nI f)] : List Value).toArray s 0 0 A := ⟨_, rfl⟩
  rw [← hQ9]
  have hl := lv_entry ([.ref k0, .int (nI f)]) (n := 2) (Nat.le_of_ble_eq_true rfl)
  rw [lg_entry_eq]
  generalize (lg_sl ([.ref k0, .int (nI f)]) ++ List.replicate (2 - (lg_sl ([.ref k0, .int (nI f)])).length) Slot.unset).toArray = ls at hl ⊢
  have hl : lv_has ls 2 [(0, .ref k0), (1, .int (nI f))] := hl
  refine lv_aload_n hx hb dX11_size_0 rfl (lv_at hl 0 rfl) ?_
  refine lv_iload_n hx hb dX11_size_1 rfl (lv_at hl 1 rfl) ?_
  have hPc := hP.sub (ws' := [(om k0 a I0 J0), (oa (a 5) cI 201 st), (oa (a 6) cZ 201 tn)]) [0, 1, 2] rfl
  have hDc := hD.sub (ws' := [(om k0 a I0 J0), (oa (a 5) cI 201 st), (oa (a 6) cZ 201 tn)]) [0, 1, 2] (by decide) rfl
  have hFc := va_free (wc := [(om k0 a I0 J0), (oa (a 5) cI 201 st), (oa (a 6) cZ 201 tn)]) hD hS hA [0, 1, 2] rfl
  refine zcall (st1 := [.int (pI (f < ft ∧ (st f).toInt = 1 ∧ (tn f).toInt = 0))]) (va_runV (As := [.int (nI f)]) (rest := []) ⟨hx, hb, hml, hown, hts⟩ (k_M_is_n l dC dI cI cZ cF s.heap.size k0 a I0 J0 f ft st tn (by assumption) (by omega) (by omega)) (cwV 1 hts (zz_gV mw_1447 mw_1449 mw_56 mw_110 mc_yX11_is) rfl rfl rfl (by decide +kernel) ⟨Nat.le_of_ble_eq_true rfl, Nat.le_of_ble_eq_true rfl⟩) (zPV2 (q0 := 0) (ci := 9) hPc hDc hK hXN rfl rfl) rfl rfl hl.1 rfl (lv_room (Nat.le_of_ble_eq_true rfl)) dX11_size_2 ⟨Nat.le_of_ble_eq_true rfl, Nat.le_of_ble_eq_true rfl⟩) hS hFc hFc rfl (fun t H1 locs ht hB hk1 hS => ?_)
  obtain ⟨hP1, hD1⟩ := hB
  rw [ht] at hP1
  obtain ⟨hP, hD⟩ := va_join (wr := [(oa (a 1) cI 201 kd), (oa (a 11) cI 201 mn), (oa (a 12) cI 8040 cx), (oa (a 13) cI 8040 cy), (oa (a 32) cI 8 S0)]) (w1 := [(om k0 a I0 J0), (oa (a 5) cI 201 st), (oa (a 6) cZ 201 tn)]) hP hD [0, 1, 2] [3, 4, 5, 6, 7] rfl rfl (by decide) (by decide) hk1 hFc hP1 hD1
  clear hk1 hPc hDc hFc hP1 hD1 ht
  generalize H1 = H at hP hS ⊢
  have hP := hP.sub (ws' := [(om k0 a I0 J0), (oa (a 5) cI 201 st), (oa (a 6) cZ 201 tn), (oa (a 1) cI 201 kd), (oa (a 11) cI 201 mn), (oa (a 12) cI 8040 cx), (oa (a 13) cI 8040 cy), (oa (a 32) cI 8 S0)]) [5, 6, 7, 0, 1, 2, 3, 4] rfl
  have hD := hD.sub (ws' := [(om k0 a I0 J0), (oa (a 5) cI 201 st), (oa (a 6) cZ 201 tn), (oa (a 1) cI 201 kd), (oa (a 11) cI 201 mn), (oa (a 12) cI 8040 cx), (oa (a 13) cI 8040 cy), (oa (a 32) cI 8 S0)]) [5, 6, 7, 0, 1, 2, 3, 4] (by decide) rfl
  have hP : va_P (dC, dI) classes [(om k0 a I0 J0), (oa (a 5) cI 201 st), (oa (a 6) cZ 201 tn), (oa (a 1) cI 201 kd), (oa (a 11) cI 201 mn), (oa (a 12) cI 8040 cx), (oa (a 13) cI 8040 cy), (oa (a 32) cI 8 S0)] H := hP
  have hD : va_D A [(om k0 a I0 J0), (oa (a 5) cI 201 st), (oa (a 6) cZ 201 tn), (oa (a 1) cI 201 kd), (oa (a 11) cI 201 mn), (oa (a 12) cI 8040 cx), (oa (a 13) cI 8040 cy), (oa (a 32) cI 8 S0)] := hD
  refine lv_if_ne (tgt := 12) hx hb dX11_size_5 (by decide) (fun c_1 => ?_) (fun c_1 => ?_)
  · have c_1 : f < ft ∧ (st f).toInt = 1 ∧ (tn f).toInt = 0 := zp_1 c_1
    have hw_ff := hwf f (by assumption)
    have hm_ff := hw_ff.1
    have hn_ff := hw_ff.2.1
    have hp_ff := hw_ff.2.2
    refine lv_aload_n hx hb dX11_size_12 rfl (lv_at hl 0 rfl) ?_
    refine va_get (D := (dC, dI)) (ci := 9) (v := .ref (a 1)) (C := RX11) (T := TX11) (N := 55) hx hb hts inX11 hown hK hP 0 rfl rfl 1 (by decide) (hts _ mw_1160) (fun _ h9 => h9) rfl dX11_size_13 ?_
    refine lv_iload_n hx hb dX11_size_16 rfl (lv_at hl 1 rfl) ?_
    refine z_iald hx hb hK hP 3 0 rfl rfl (e := f) rfl (by omega) (by omega) dX11_size_17 ?_
    refine lv_if_ne (tgt := 25) hx hb dX11_size_18 (by decide) (fun c_2 => ?_) (fun c_2 => ?_)
    · have c_2 : ¬ (kd f).toInt = 0 := zc_ne rfl (by decide) c_2
      refine lv_aload_n hx hb dX11_size_25 rfl (lv_at hl 0 rfl) ?_
      refine lv_iload_n hx hb dX11_size_26 rfl (lv_at hl 1 rfl) ?_
      have hPc := hP.sub (ws' := [(om k0 a I0 J0), (oa (a 1) cI 201 kd)]) [0, 3] rfl
      have hDc := hD.sub (ws' := [(om k0 a I0 J0), (oa (a 1) cI 201 kd)]) [0, 3] (by decide) rfl
      have hFc := va_free (wc := [(om k0 a I0 J0), (oa (a 1) cI 201 kd)]) hD hS hA [0, 3] rfl
      refine zcall (st1 := [.int (pI (5 ≤ (kd f).toInt))]) (va_runV (As := [.int (nI f)]) (rest := []) ⟨hx, hb, hml, hown, hts⟩ (k_M_isRing l dC dI cI cZ cF H.size k0 a I0 J0 f kd (by omega)) (cwV 1 hts (zz_gV mw_1365 mw_1367 mw_40 mw_110 mc_yX11_isRing) rfl rfl rfl (by decide +kernel) ⟨Nat.le_of_ble_eq_true rfl, Nat.le_of_ble_eq_true rfl⟩) (zPV2 (q0 := 0) (ci := 9) hPc hDc hK hXN rfl rfl) rfl rfl hl.1 rfl (lv_room (Nat.le_of_ble_eq_true rfl)) dX11_size_27 ⟨Nat.le_of_ble_eq_true rfl, Nat.le_of_ble_eq_true rfl⟩) hS hFc hFc rfl (fun t H1 locs ht hB hk1 hS => ?_)
      obtain ⟨hP1, hD1⟩ := hB
      rw [ht] at hP1
      obtain ⟨hP, hD⟩ := va_join (wr := [(oa (a 5) cI 201 st), (oa (a 6) cZ 201 tn), (oa (a 11) cI 201 mn), (oa (a 12) cI 8040 cx), (oa (a 13) cI 8040 cy), (oa (a 32) cI 8 S0)]) (w1 := [(om k0 a I0 J0), (oa (a 1) cI 201 kd)]) hP hD [0, 3] [1, 2, 4, 5, 6, 7] rfl rfl (by decide) (by decide) hk1 hFc hP1 hD1
      clear hk1 hPc hDc hFc hP1 hD1 ht
      generalize H1 = H at hP hS ⊢
      have hP := hP.sub (ws' := [(om k0 a I0 J0), (oa (a 5) cI 201 st), (oa (a 6) cZ 201 tn), (oa (a 1) cI 201 kd), (oa (a 11) cI 201 mn), (oa (a 12) cI 8040 cx), (oa (a 13) cI 8040 cy), (oa (a 32) cI 8 S0)]) [6, 0, 1, 7, 2, 3, 4, 5] rfl
      have hD := hD.sub (ws' := [(om k0 a I0 J0), (oa (a 5) cI 201 st), (oa (a 6) cZ 201 tn), (oa (a 1) cI 201 kd), (oa (a 11) cI 201 mn), (oa (a 12) cI 8040 cx), (oa (a 13) cI 8040 cy), (oa (a 32) cI 8 S0)]) [6, 0, 1, 7, 2, 3, 4, 5] (by decide) rfl
      have hP : va_P (dC, dI) classes [(om k0 a I0 J0), (oa (a 5) cI 201 st), (oa (a 6) cZ 201 tn), (oa (a 1) cI 201 kd), (oa (a 11) cI 201 mn), (oa (a 12) cI 8040 cx), (oa (a 13) cI 8040 cy), (oa (a 32) cI 8 S0)] H := hP
      have hD : va_D A [(om k0 a I0 J0), (oa (a 5) cI 201 st), (oa (a 6) cZ 201 tn), (oa (a 1) cI 201 kd), (oa (a 11) cI 201 mn), (oa (a 12) cI 8040 cx), (oa (a 13) cI 8040 cy), (oa (a 32) cI 8 S0)] := hD
      refine lv_if_eq (tgt := 41) hx hb dX11_size_30 (by decide) (fun c_3 => ?_) (fun c_3 => ?_)
      · have c_3 : ¬ (5 ≤ (kd f).toInt) := zp_0 c_3
        exfalso; exact absurd hk5 (by assumption)
      · have c_3 : 5 ≤ (kd f).toInt := zp_1 c_3
        refine lv_aload_n hx hb dX11_size_33 rfl (lv_at hl 0 rfl) ?_
        refine lv_iload_n hx hb dX11_size_34 rfl (lv_at hl 1 rfl) ?_
        have hPc := hP.sub (ws' := [(om k0 a I0 J0), (oa (a 11) cI 201 mn), (oa (a 12) cI 8040 cx), (oa (a 13) cI 8040 cy), (oa (a 32) cI 8 S0)]) [0, 4, 5, 6, 7] rfl
        have hDc := hD.sub (ws' := [(om k0 a I0 J0), (oa (a 11) cI 201 mn), (oa (a 12) cI 8040 cx), (oa (a 13) cI 8040 cy), (oa (a 32) cI 8 S0)]) [0, 4, 5, 6, 7] (by decide) rfl
        have hFc := va_free (wc := [(om k0 a I0 J0), (oa (a 11) cI 201 mn), (oa (a 12) cI 8040 cx), (oa (a 13) cI 8040 cy), (oa (a 32) cI 8 S0)]) hD hS hA [0, 4, 5, 6, 7] rfl
        refine zcall (st1 := [.long (jI ((Int.natAbs (ar2 (nN (mn f)) (cF40 cx f) (cF40 cy f) (nN (mn f))) : Nat) : Int))]) (va_runV (As := [.int (nI f)]) (rest := []) ⟨hx, hb, hml, hown, hts⟩ (k_M_area l dC dI cI cZ cF H.size k0 a I0 J0 f (nN (mn f)) mn cx cy S0 (by omega) (by assumption) (by omega) (by assumption)) (cwV 1 hts (zz_gV mw_1576 mw_1578 mw_82 mw_110 mc_yX11_area) rfl rfl rfl (by decide +kernel) ⟨Nat.le_of_ble_eq_true rfl, Nat.le_of_ble_eq_true rfl⟩) (zPV2 (q0 := 0) (ci := 9) hPc hDc hK hXN rfl rfl) rfl rfl hl.1 rfl (lv_room (Nat.le_of_ble_eq_true rfl)) dX11_size_35 ⟨Nat.le_of_ble_eq_true rfl, Nat.le_of_ble_eq_true rfl⟩) hS hFc hFc rfl (fun t H1 locs ht hB hk1 hS => ?_)
        obtain ⟨q_4, hP1, hD1⟩ := hB
        rw [ht] at hP1
        obtain ⟨hP, hD⟩ := va_join (wr := [(oa (a 5) cI 201 st), (oa (a 6) cZ 201 tn), (oa (a 1) cI 201 kd)]) (w1 := [(om k0 a I0 J0), (oa (a 11) cI 201 mn), (oa (a 12) cI 8040 cx), (oa (a 13) cI 8040 cy), (oa (a 32) cI 8 q_4)]) hP hD [0, 4, 5, 6, 7] [1, 2, 3] rfl rfl (by decide) (by decide) hk1 hFc hP1 hD1
        clear hk1 hPc hDc hFc hP1 hD1 ht
        generalize H1 = H at hP hS ⊢
        have hP := hP.sub (ws' := [(om k0 a I0 J0), (oa (a 5) cI 201 st), (oa (a 6) cZ 201 tn), (oa (a 1) cI 201 kd), (oa (a 11) cI 201 mn), (oa (a 12) cI 8040 cx), (oa (a 13) cI 8040 cy), (oa (a 32) cI 8 q_4)]) [3, 0, 1, 2, 4, 5, 6, 7] rfl
        have hD := hD.sub (ws' := [(om k0 a I0 J0), (oa (a 5) cI 201 st), (oa (a 6) cZ 201 tn), (oa (a 1) cI 201 kd), (oa (a 11) cI 201 mn), (oa (a 12) cI 8040 cx), (oa (a 13) cI 8040 cy), (oa (a 32) cI 8 q_4)]) [3, 0, 1, 2, 4, 5, 6, 7] (by decide) rfl
        have hP : va_P (dC, dI) classes [(om k0 a I0 J0), (oa (a 5) cI 201 st), (oa (a 6) cZ 201 tn), (oa (a 1) cI 201 kd), (oa (a 11) cI 201 mn), (oa (a 12) cI 8040 cx), (oa (a 13) cI 8040 cy), (oa (a 32) cI 8 q_4)] H := hP
        have hD : va_D A [(om k0 a I0 J0), (oa (a 5) cI 201 st), (oa (a 6) cZ 201 tn), (oa (a 1) cI 201 kd), (oa (a 11) cI 201 mn), (oa (a 12) cI 8040 cx), (oa (a 13) cI 8040 cy), (oa (a 32) cI 8 q_4)] := hD
        refine zz_l (v := jI ((arF mn cx cy f : Nat) : Int)) (rfl) ?_
        refine lv_goto (tgt := 46) hx hb dX11_size_38 (by decide) ?_
        have hP9 := hP.sub (ws' := [(om k0 a I0 J0), (oa (a 5) cI 201 st), (oa (a 6) cZ 201 tn), (oa (a 1) cI 201 kd), (oa (a 11) cI 201 mn), (oa (a 12) cI 8040 cx), (oa (a 13) cI 8040 cy), (oa (a 32) cI 8 q_4)]) [0, 1, 2, 3, 4, 5, 6, 7] rfl
        have hD9 := hD.sub (ws' := [(om k0 a I0 J0), (oa (a 5) cI 201 st), (oa (a 6) cZ 201 tn), (oa (a 1) cI 201 kd), (oa (a 11) cI 201 mn), (oa (a 12) cI 8040 cx), (oa (a 13) cI 8040 cy), (oa (a 32) cI 8 q_4)]) [0, 1, 2, 3, 4, 5, 6, 7] (by decide) rfl
        rw [hQ9]
        exact W.lret (v := jI ((arF mn cx cy f : Nat) : Int)) hx hb hr (fun t ht hW => ⟨⟨rfl, q_4, by rw [ht]; exact hP9, hD9⟩, hS.F ht⟩) hS.2.2 dX11_size_46
    · have c_2 : (kd f).toInt = 0 := zc_eq rfl (by decide) c_2
      exfalso; omega
  · have c_1 : ¬ (f < ft ∧ (st f).toInt = 1 ∧ (tn f).toInt = 0) := zp_0 c_1
    exfalso; exact absurd hlv (by assumption)
set_option maxHeartbeats 4000000 in
set_option maxRecDepth 100000 in
theorem k_M_size_l (l : Launch) (dC : Nat → ClassId) (dI : Nat → Nat → Nat) (cI cZ cF : ClassId) (sz : Nat) (k0 : Nat) (a : Nat → Nat) (I0 : Nat → Int32) (J0 : Nat → Int64) (f : Nat) (ft : Nat) (st : Nat → Int32) (tn : Nat → Int32) (kd : Nat → Int32) (mn : Nat → Int32) (cx : Nat → Int32) (cy : Nat → Int32) (S0 : Nat → Int32) (hft : I0 0 = nI ft) (h200 : ft ≤ 200) (hwf : ∀ q, lvF ft st tn q → wfM mn cx cy q) (hf_t : f < ft) (hlv : lvF ft st tn f) (hk5 : ¬ 5 ≤ (kd f).toInt ∧ ¬ (kd f).toInt = 0) : Met l yX11_size (.code yX11_size cX11_size 2 (some .long) :: ws0) ({ frames := 2, cells := 0, slots := 0, locals := 49 } : Room) (va_Pc [.ref k0, .int (nI f)] (zPre (dC, dI) classes (zTy cI cZ cF) [(om k0 a I0 J0), (oa (a 5) cI 201 st), (oa (a 6) cZ 201 tn), (oa (a 1) cI 201 kd), (oa (a 11) cI 201 mn), (oa (a 12) cI 8040 cx), (oa (a 13) cI 8040 cy), (oa (a 32) cI 8 S0)] sz zXN)) (zQ (some (.long (jI ((ln2 (cF40 cx f) (cF40 cy f) (nN (mn f) - 1) : Nat) : Int)))) (fun t => ∃ (S1 : Nat → Int32), va_P (dC, dI) classes [(om k0 a I0 J0), (oa (a 5) cI 201 st), (oa (a 6) cZ 201 tn), (oa (a 1) cI 201 kd), (oa (a 11) cI 201 mn), (oa (a 12) cI 8040 cx), (oa (a 13) cI 8040 cy), (oa (a 32) cI 8 S1)] t.heap ∧ va_D (va_A [(om k0 a I0 J0), (oa (a 5) cI 201 st), (oa (a 6) cZ 201 tn), (oa (a 1) cI 201 kd), (oa (a 11) cI 201 mn), (oa (a 12) cI 8040 cx), (oa (a 13) cI 8040 cy), (oa (a 32) cI 8 S0)] sz) [(om k0 a I0 J0), (oa (a 5) cI 201 st), (oa (a 6) cZ 201 tn), (oa (a 1) cI 201 kd), (oa (a 11) cI 201 mn), (oa (a 12) cI 8040 cx), (oa (a 13) cI 8040 cy), (oa (a 32) cI 8 S1)]) (va_A [(om k0 a I0 J0), (oa (a 5) cI 201 st), (oa (a 6) cZ 201 tn), (oa (a 1) cI 201 kd), (oa (a 11) cI 201 mn), (oa (a 12) cI 8040 cx), (oa (a 13) cI 8040 cy), (oa (a 32) cI 8 S0)] sz)) 0 0 (va_A [(om k0 a I0 J0), (oa (a 5) cI 201 st), (oa (a 6) cZ 201 tn), (oa (a 1) cI 201 kd), (oa (a 11) cI 201 mn), (oa (a 12) cI 8040 cx), (oa (a 13) cI 8040 cy), (oa (a 32) cI 8 S0)] sz) := by
  refine Met.ofW (cc := cX11_size) (maxL := 2) (ret := (some .long)) (by decide) rfl ?_
  intro p e s m args below meth c s₁ B hml hv
  obtain ⟨rfl, hsz, hP, hK, hD0, hXN⟩ := hv
  have hx := B.exec
  have hb := B.bytes
  have hr := B.returns
  have hts0 := atoms_spec (ws := .code yX11_size cX11_size 2 (some .long) :: ws0) B.pre
  have hts : ∀ w9 ∈ ws0, w9.before ([.ref k0, .int (nI f)] : List Value).toArray s = true := fun w9 h => hts0 w9 (List.mem_cons_of_mem _ h)
  have hown : s.vm.findClass "ScaleShopModel" = some m.cls := findClass_of_methodNamed B.named
  have hlocks := B.notSynchronized
  subst hsz
  have hD := hD0.self (sz := s.heap.size)
  clear hD0
  generalize hAe : va_A [(om k0 a I0 J0), (oa (a 5) cI 201 st), (oa (a 6) cZ 201 tn), (oa (a 1) cI 201 kd), (oa (a 11) cI 201 mn), (oa (a 12) cI 8040 cx), (oa (a 13) cI 8040 cy), (oa (a 32) cI 8 S0)] s.heap.size = A at hD ⊢
  have hA : ∀ q : Nat, s.heap.size ≤ q → A q := fun q h => by rw [← hAe]; exact Or.inr h
  clear hAe
  have hS : va_S A s.heap s.heap [] := va_S.rf
  have hP : va_P (dC, dI) classes [(om k0 a I0 J0), (oa (a 5) cI 201 st), (oa (a 6) cZ 201 tn), (oa (a 1) cI 201 kd), (oa (a 11) cI 201 mn), (oa (a 12) cI 8040 cx), (oa (a 13) cI 8040 cy), (oa (a 32) cI 8 S0)] s.heap := hP
  obtain ⟨Q9, hQ9⟩ : ∃ Q9 : State → Prop, Q9 = MQ below (zQ (some (.long (jI ((ln2 (cF40 cx f) (cF40 cy f) (nN (mn f) - 1) : Nat) : Int)))) (fun t => ∃ (S1 : Nat → Int32), va_P (dC, dI) classes [(om k0 a I0 J0), (oa (a 5) cI 201 st), (oa (a 6) cZ 201 tn), (oa (a 1) cI 201 kd), (oa (a 11) cI 201 mn), (oa (a 12) cI 8040 cx), (oa (a 13) cI 8040 cy), (oa (a 32) cI 8 S1)] t.heap ∧ va_D A [(om k0 a I0 J0), (oa (a 5) cI 201 st), (oa (a 6) cZ 201 tn), (oa (a 1) cI 201 kd), (oa (a 11) cI 201 mn), (oa (a 12) cI 8040 cx), (oa (a 13) cI 8040 cy), (oa (a 32) cI 8 S1)]) A) ([.ref k0, .int (nI f)] : List Value).toArray s 0 0 A := ⟨_, rfl⟩
  rw [← hQ9]
  have hl := lv_entry ([.ref k0, .int (nI f)]) (n := 2) (Nat.le_of_ble_eq_true rfl)
  rw [lg_entry_eq]
  generalize (lg_sl ([.ref k0, .int (nI f)]) ++ List.replicate (2 - (lg_sl ([.ref k0, .int (nI f)])).length) Slot.unset).toArray = ls at hl ⊢
  have hl : lv_has ls 2 [(0, .ref k0), (1, .int (nI f))] := hl
  refine lv_aload_n hx hb dX11_size_0 rfl (lv_at hl 0 rfl) ?_
  refine lv_iload_n hx hb dX11_size_1 rfl (lv_at hl 1 rfl) ?_
  have hPc := hP.sub (ws' := [(om k0 a I0 J0), (oa (a 5) cI 201 st), (oa (a 6) cZ 201 tn)]) [0, 1, 2] rfl
  have hDc := hD.sub (ws' := [(om k0 a I0 J0), (oa (a 5) cI 201 st), (oa (a 6) cZ 201 tn)]) [0, 1, 2] (by decide) rfl
  have hFc := va_free (wc := [(om k0 a I0 J0), (oa (a 5) cI 201 st), (oa (a 6) cZ 201 tn)]) hD hS hA [0, 1, 2] rfl
  refine zcall (st1 := [.int (pI (f < ft ∧ (st f).toInt = 1 ∧ (tn f).toInt = 0))]) (va_runV (As := [.int (nI f)]) (rest := []) ⟨hx, hb, hml, hown, hts⟩ (k_M_is_n l dC dI cI cZ cF s.heap.size k0 a I0 J0 f ft st tn (by assumption) (by omega) (by omega)) (cwV 1 hts (zz_gV mw_1447 mw_1449 mw_56 mw_110 mc_yX11_is) rfl rfl rfl (by decide +kernel) ⟨Nat.le_of_ble_eq_true rfl, Nat.le_of_ble_eq_true rfl⟩) (zPV2 (q0 := 0) (ci := 9) hPc hDc hK hXN rfl rfl) rfl rfl hl.1 rfl (lv_room (Nat.le_of_ble_eq_true rfl)) dX11_size_2 ⟨Nat.le_of_ble_eq_true rfl, Nat.le_of_ble_eq_true rfl⟩) hS hFc hFc rfl (fun t H1 locs ht hB hk1 hS => ?_)
  obtain ⟨hP1, hD1⟩ := hB
  rw [ht] at hP1
  obtain ⟨hP, hD⟩ := va_join (wr := [(oa (a 1) cI 201 kd), (oa (a 11) cI 201 mn), (oa (a 12) cI 8040 cx), (oa (a 13) cI 8040 cy), (oa (a 32) cI 8 S0)]) (w1 := [(om k0 a I0 J0), (oa (a 5) cI 201 st), (oa (a 6) cZ 201 tn)]) hP hD [0, 1, 2] [3, 4, 5, 6, 7] rfl rfl (by decide) (by decide) hk1 hFc hP1 hD1
  clear hk1 hPc hDc hFc hP1 hD1 ht
  generalize H1 = H at hP hS ⊢
  have hP := hP.sub (ws' := [(om k0 a I0 J0), (oa (a 5) cI 201 st), (oa (a 6) cZ 201 tn), (oa (a 1) cI 201 kd), (oa (a 11) cI 201 mn), (oa (a 12) cI 8040 cx), (oa (a 13) cI 8040 cy), (oa (a 32) cI 8 S0)]) [5, 6, 7, 0, 1, 2, 3, 4] rfl
  have hD := hD.sub (ws' := [(om k0 a I0 J0), (oa (a 5) cI 201 st), (oa (a 6) cZ 201 tn), (oa (a 1) cI 201 kd), (oa (a 11) cI 201 mn), (oa (a 12) cI 8040 cx), (oa (a 13) cI 8040 cy), (oa (a 32) cI 8 S0)]) [5, 6, 7, 0, 1, 2, 3, 4] (by decide) rfl
  have hP : va_P (dC, dI) classes [(om k0 a I0 J0), (oa (a 5) cI 201 st), (oa (a 6) cZ 201 tn), (oa (a 1) cI 201 kd), (oa (a 11) cI 201 mn), (oa (a 12) cI 8040 cx), (oa (a 13) cI 8040 cy), (oa (a 32) cI 8 S0)] H := hP
  have hD : va_D A [(om k0 a I0 J0), (oa (a 5) cI 201 st), (oa (a 6) cZ 201 tn), (oa (a 1) cI 201 kd), (oa (a 11) cI 201 mn), (oa (a 12) cI 8040 cx), (oa (a 13) cI 8040 cy), (oa (a 32) cI 8 S0)] := hD
  refine lv_if_ne (tgt := 12) hx hb dX11_size_5 (by decide) (fun c_1 => ?_) (fun c_1 => ?_)
  · have c_1 : f < ft ∧ (st f).toInt = 1 ∧ (tn f).toInt = 0 := zp_1 c_1
    have hw_ff := hwf f (by assumption)
    have hm_ff := hw_ff.1
    have hn_ff := hw_ff.2.1
    have hp_ff := hw_ff.2.2
    refine lv_aload_n hx hb dX11_size_12 rfl (lv_at hl 0 rfl) ?_
    refine va_get (D := (dC, dI)) (ci := 9) (v := .ref (a 1)) (C := RX11) (T := TX11) (N := 55) hx hb hts inX11 hown hK hP 0 rfl rfl 1 (by decide) (hts _ mw_1160) (fun _ h9 => h9) rfl dX11_size_13 ?_
    refine lv_iload_n hx hb dX11_size_16 rfl (lv_at hl 1 rfl) ?_
    refine z_iald hx hb hK hP 3 0 rfl rfl (e := f) rfl (by omega) (by omega) dX11_size_17 ?_
    refine lv_if_ne (tgt := 25) hx hb dX11_size_18 (by decide) (fun c_2 => ?_) (fun c_2 => ?_)
    · have c_2 : ¬ (kd f).toInt = 0 := zc_ne rfl (by decide) c_2
      refine lv_aload_n hx hb dX11_size_25 rfl (lv_at hl 0 rfl) ?_
      refine lv_iload_n hx hb dX11_size_26 rfl (lv_at hl 1 rfl) ?_
      have hPc := hP.sub (ws' := [(om k0 a I0 J0), (oa (a 1) cI 201 kd)]) [0, 3] rfl
      have hDc := hD.sub (ws' := [(om k0 a I0 J0), (oa (a 1) cI 201 kd)]) [0, 3] (by decide) rfl
      have hFc := va_free (wc := [(om k0 a I0 J0), (oa (a 1) cI 201 kd)]) hD hS hA [0, 3] rfl
      refine zcall (st1 := [.int (pI (5 ≤ (kd f).toInt))]) (va_runV (As := [.int (nI f)]) (rest := []) ⟨hx, hb, hml, hown, hts⟩ (k_M_isRing l dC dI cI cZ cF H.size k0 a I0 J0 f kd (by omega)) (cwV 1 hts (zz_gV mw_1365 mw_1367 mw_40 mw_110 mc_yX11_isRing) rfl rfl rfl (by decide +kernel) ⟨Nat.le_of_ble_eq_true rfl, Nat.le_of_ble_eq_true rfl⟩) (zPV2 (q0 := 0) (ci := 9) hPc hDc hK hXN rfl rfl) rfl rfl hl.1 rfl (lv_room (Nat.le_of_ble_eq_true rfl)) dX11_size_27 ⟨Nat.le_of_ble_eq_true rfl, Nat.le_of_ble_eq_true rfl⟩) hS hFc hFc rfl (fun t H1 locs ht hB hk1 hS => ?_)
      obtain ⟨hP1, hD1⟩ := hB
      rw [ht] at hP1
      obtain ⟨hP, hD⟩ := va_join (wr := [(oa (a 5) cI 201 st), (oa (a 6) cZ 201 tn), (oa (a 11) cI 201 mn), (oa (a 12) cI 8040 cx), (oa (a 13) cI 8040 cy), (oa (a 32) cI 8 S0)]) (w1 := [(om k0 a I0 J0), (oa (a 1) cI 201 kd)]) hP hD [0, 3] [1, 2, 4, 5, 6, 7] rfl rfl (by decide) (by decide) hk1 hFc hP1 hD1
      clear hk1 hPc hDc hFc hP1 hD1 ht
      generalize H1 = H at hP hS ⊢
      have hP := hP.sub (ws' := [(om k0 a I0 J0), (oa (a 5) cI 201 st), (oa (a 6) cZ 201 tn), (oa (a 1) cI 201 kd), (oa (a 11) cI 201 mn), (oa (a 12) cI 8040 cx), (oa (a 13) cI 8040 cy), (oa (a 32) cI 8 S0)]) [6, 0, 1, 7, 2, 3, 4, 5] rfl
      have hD := hD.sub (ws' := [(om k0 a I0 J0), (oa (a 5) cI 201 st), (oa (a 6) cZ 201 tn), (oa (a 1) cI 201 kd), (oa (a 11) cI 201 mn), (oa (a 12) cI 8040 cx), (oa (a 13) cI 8040 cy), (oa (a 32) cI 8 S0)]) [6, 0, 1, 7, 2, 3, 4, 5] (by decide) rfl
      have hP : va_P (dC, dI) classes [(om k0 a I0 J0), (oa (a 5) cI 201 st), (oa (a 6) cZ 201 tn), (oa (a 1) cI 201 kd), (oa (a 11) cI 201 mn), (oa (a 12) cI 8040 cx), (oa (a 13) cI 8040 cy), (oa (a 32) cI 8 S0)] H := hP
      have hD : va_D A [(om k0 a I0 J0), (oa (a 5) cI 201 st), (oa (a 6) cZ 201 tn), (oa (a 1) cI 201 kd), (oa (a 11) cI 201 mn), (oa (a 12) cI 8040 cx), (oa (a 13) cI 8040 cy), (oa (a 32) cI 8 S0)] := hD
      refine lv_if_eq (tgt := 41) hx hb dX11_size_30 (by decide) (fun c_3 => ?_) (fun c_3 => ?_)
      · have c_3 : ¬ (5 ≤ (kd f).toInt) := zp_0 c_3
        refine lv_aload_n hx hb dX11_size_41 rfl (lv_at hl 0 rfl) ?_
        refine lv_iload_n hx hb dX11_size_42 rfl (lv_at hl 1 rfl) ?_
        have hPc := hP.sub (ws' := [(om k0 a I0 J0), (oa (a 11) cI 201 mn), (oa (a 12) cI 8040 cx), (oa (a 13) cI 8040 cy), (oa (a 32) cI 8 S0)]) [0, 4, 5, 6, 7] rfl
        have hDc := hD.sub (ws' := [(om k0 a I0 J0), (oa (a 11) cI 201 mn), (oa (a 12) cI 8040 cx), (oa (a 13) cI 8040 cy), (oa (a 32) cI 8 S0)]) [0, 4, 5, 6, 7] (by decide) rfl
        have hFc := va_free (wc := [(om k0 a I0 J0), (oa (a 11) cI 201 mn), (oa (a 12) cI 8040 cx), (oa (a 13) cI 8040 cy), (oa (a 32) cI 8 S0)]) hD hS hA [0, 4, 5, 6, 7] rfl
        refine zcall (st1 := [.long (jI ((ln2 (cF40 cx f) (cF40 cy f) ((nN (mn f)) - 1) : Nat) : Int))]) (va_runV (As := [.int (nI f)]) (rest := []) ⟨hx, hb, hml, hown, hts⟩ (k_M_lengthOf l dC dI cI cZ cF H.size k0 a I0 J0 f (nN (mn f)) mn cx cy S0 (by omega) (by assumption) (by omega) (by assumption)) (cwV 1 hts (zz_gV mw_1637 mw_1639 mw_93 mw_110 mc_yX11_lengthOf) rfl rfl rfl (by decide +kernel) ⟨Nat.le_of_ble_eq_true rfl, Nat.le_of_ble_eq_true rfl⟩) (zPV2 (q0 := 0) (ci := 9) hPc hDc hK hXN rfl rfl) rfl rfl hl.1 rfl (lv_room (Nat.le_of_ble_eq_true rfl)) dX11_size_43 ⟨Nat.le_of_ble_eq_true rfl, Nat.le_of_ble_eq_true rfl⟩) hS hFc hFc rfl (fun t H1 locs ht hB hk1 hS => ?_)
        obtain ⟨q_4, hP1, hD1⟩ := hB
        rw [ht] at hP1
        obtain ⟨hP, hD⟩ := va_join (wr := [(oa (a 5) cI 201 st), (oa (a 6) cZ 201 tn), (oa (a 1) cI 201 kd)]) (w1 := [(om k0 a I0 J0), (oa (a 11) cI 201 mn), (oa (a 12) cI 8040 cx), (oa (a 13) cI 8040 cy), (oa (a 32) cI 8 q_4)]) hP hD [0, 4, 5, 6, 7] [1, 2, 3] rfl rfl (by decide) (by decide) hk1 hFc hP1 hD1
        clear hk1 hPc hDc hFc hP1 hD1 ht
        generalize H1 = H at hP hS ⊢
        have hP := hP.sub (ws' := [(om k0 a I0 J0), (oa (a 5) cI 201 st), (oa (a 6) cZ 201 tn), (oa (a 1) cI 201 kd), (oa (a 11) cI 201 mn), (oa (a 12) cI 8040 cx), (oa (a 13) cI 8040 cy), (oa (a 32) cI 8 q_4)]) [3, 0, 1, 2, 4, 5, 6, 7] rfl
        have hD := hD.sub (ws' := [(om k0 a I0 J0), (oa (a 5) cI 201 st), (oa (a 6) cZ 201 tn), (oa (a 1) cI 201 kd), (oa (a 11) cI 201 mn), (oa (a 12) cI 8040 cx), (oa (a 13) cI 8040 cy), (oa (a 32) cI 8 q_4)]) [3, 0, 1, 2, 4, 5, 6, 7] (by decide) rfl
        have hP : va_P (dC, dI) classes [(om k0 a I0 J0), (oa (a 5) cI 201 st), (oa (a 6) cZ 201 tn), (oa (a 1) cI 201 kd), (oa (a 11) cI 201 mn), (oa (a 12) cI 8040 cx), (oa (a 13) cI 8040 cy), (oa (a 32) cI 8 q_4)] H := hP
        have hD : va_D A [(om k0 a I0 J0), (oa (a 5) cI 201 st), (oa (a 6) cZ 201 tn), (oa (a 1) cI 201 kd), (oa (a 11) cI 201 mn), (oa (a 12) cI 8040 cx), (oa (a 13) cI 8040 cy), (oa (a 32) cI 8 q_4)] := hD
        have hP9 := hP.sub (ws' := [(om k0 a I0 J0), (oa (a 5) cI 201 st), (oa (a 6) cZ 201 tn), (oa (a 1) cI 201 kd), (oa (a 11) cI 201 mn), (oa (a 12) cI 8040 cx), (oa (a 13) cI 8040 cy), (oa (a 32) cI 8 q_4)]) [0, 1, 2, 3, 4, 5, 6, 7] rfl
        have hD9 := hD.sub (ws' := [(om k0 a I0 J0), (oa (a 5) cI 201 st), (oa (a 6) cZ 201 tn), (oa (a 1) cI 201 kd), (oa (a 11) cI 201 mn), (oa (a 12) cI 8040 cx), (oa (a 13) cI 8040 cy), (oa (a 32) cI 8 q_4)]) [0, 1, 2, 3, 4, 5, 6, 7] (by decide) rfl
        rw [hQ9]
        exact W.lret (v := jI ((ln2 (cF40 cx f) (cF40 cy f) ((nN (mn f)) - 1) : Nat) : Int)) hx hb hr (fun t ht hW => ⟨⟨rfl, q_4, by rw [ht]; exact hP9, hD9⟩, hS.F ht⟩) hS.2.2 dX11_size_46
      · have c_3 : 5 ≤ (kd f).toInt := zp_1 c_3
        exfalso; exact absurd (by assumption) hk5.1
    · have c_2 : (kd f).toInt = 0 := zc_eq rfl (by decide) c_2
      exfalso; omega
  · have c_1 : ¬ (f < ft ∧ (st f).toInt = 1 ∧ (tn f).toInt = 0) := zp_0 c_1
    exfalso; exact absurd hlv (by assumption)
set_option maxHeartbeats 4000000 in
set_option maxRecDepth 100000 in
theorem k_M_side_x (l : Launch) (dC : Nat → ClassId) (dI : Nat → Nat → Nat) (cI cZ cF : ClassId) (sz : Nat) (k0 : Nat) (a : Nat → Nat) (I0 : Nat → Int32) (J0 : Nat → Int64) (ft : Nat) (px : Int32) (py : Int32) (v : Int32) (kv : Int32) (hft : I0 0 = nI ft) (h200 : ft ≤ 200) (hv : ¬ (0 ≤ v.toInt ∧ v.toInt < (ft : Int))) : Met l yX11_side (.code yX11_side cX11_side 6 (some .int) :: ws0) ({ frames := 2, cells := 0, slots := 0, locals := 42 } : Room) (va_Pc [.ref k0, .int px, .int py, .int v, .int kv] (zPre (dC, dI) classes (zTy cI cZ cF) [(om k0 a I0 J0)] sz zXN)) (zQ (some (.int 0)) (fun t => va_P (dC, dI) classes [(om k0 a I0 J0)] t.heap ∧ va_D (va_A [(om k0 a I0 J0)] sz) [(om k0 a I0 J0)]) (va_A [(om k0 a I0 J0)] sz)) 0 0 (va_A [(om k0 a I0 J0)] sz) := by
  refine Met.ofW (cc := cX11_side) (maxL := 6) (ret := (some .int)) (by decide) rfl ?_
  intro p e s m args below meth c s₁ B hml hv
  obtain ⟨rfl, hsz, hP, hK, hD0, hXN⟩ := hv
  have hx := B.exec
  have hb := B.bytes
  have hr := B.returns
  have hts0 := atoms_spec (ws := .code yX11_side cX11_side 6 (some .int) :: ws0) B.pre
  have hts : ∀ w9 ∈ ws0, w9.before ([.ref k0, .int px, .int py, .int v, .int kv] : List Value).toArray s = true := fun w9 h => hts0 w9 (List.mem_cons_of_mem _ h)
  have hown : s.vm.findClass "ScaleShopModel" = some m.cls := findClass_of_methodNamed B.named
  have hlocks := B.notSynchronized
  subst hsz
  have hD := hD0.self (sz := s.heap.size)
  clear hD0
  generalize hAe : va_A [(om k0 a I0 J0)] s.heap.size = A at hD ⊢
  have hA : ∀ q : Nat, s.heap.size ≤ q → A q := fun q h => by rw [← hAe]; exact Or.inr h
  clear hAe
  have hS : va_S A s.heap s.heap [] := va_S.rf
  have hP : va_P (dC, dI) classes [(om k0 a I0 J0)] s.heap := hP
  obtain ⟨Q9, hQ9⟩ : ∃ Q9 : State → Prop, Q9 = MQ below (zQ (some (.int 0)) (fun t => va_P (dC, dI) classes [(om k0 a I0 J0)] t.heap ∧ va_D A [(om k0 a I0 J0)]) A) ([.ref k0, .int px, .int py, .int v, .int kv] : List Value).toArray s 0 0 A := ⟨_, rfl⟩
  rw [← hQ9]
  have hl := lv_entry ([.ref k0, .int px, .int py, .int v, .int kv]) (n := 6) (Nat.le_of_ble_eq_true rfl)
  rw [lg_entry_eq]
  generalize (lg_sl ([.ref k0, .int px, .int py, .int v, .int kv]) ++ List.replicate (6 - (lg_sl ([.ref k0, .int px, .int py, .int v, .int kv])).length) Slot.unset).toArray = ls at hl ⊢
  have hl : lv_has ls 6 [(0, .ref k0), (1, .int px), (2, .int py), (3, .int v), (4, .int kv)] := hl
  have hj_1 : W p l e ((headSpec (.code yX11_side cX11_side 6 (some .int) :: ws0) ({ frames := 2, cells := 0, slots := 0, locals := 42 } : Room)).room) s m ([.ref k0, .int px, .int py, .int v, .int kv] : List Value).toArray below meth c s.heap [] 0 0 Q9 (F0 m 27 ls [.int (pI (0 ≤ px.toInt ∧ px.toInt ≤ 1000 ∧ 0 ≤ py.toInt ∧ py.toInt ≤ 1000))]) := by
    refine lv_istore (lv' := [(5, .int (pI (0 ≤ px.toInt ∧ px.toInt ≤ 1000 ∧ 0 ≤ py.toInt ∧ py.toInt ≤ 1000))), (0, .ref k0), (1, .int px), (2, .int py), (3, .int v), (4, .int kv)]) hx hb dX11_side_27 hl (by decide) rfl (fun ls hl => ?_)
    refine lv_iload hx hb dX11_side_29 (lv_at hl 0 rfl) ?_
    refine lv_if_eq (tgt := 66) hx hb dX11_side_31 (by decide) (fun c_2 => ?_) (fun c_2 => ?_)
    · have c_2 : ¬ (0 ≤ px.toInt ∧ px.toInt ≤ 1000 ∧ 0 ≤ py.toInt ∧ py.toInt ≤ 1000) := zp_0 c_2
      refine lv_iconst (v := 0) hx hb dX11_side_66 (by decide) ?_
      have hP9 := hP.sub (ws' := [(om k0 a I0 J0)]) [0] rfl
      have hD9 := hD.sub (ws' := [(om k0 a I0 J0)]) [0] (by decide) rfl
      rw [hQ9]
      exact W.iret (v := 0) hx hb hr (fun t ht hW => ⟨⟨rfl, by rw [ht]; exact hP9, hD9⟩, hS.F ht⟩) hS.2.2 dX11_side_67
    · have c_2 : 0 ≤ px.toInt ∧ px.toInt ≤ 1000 ∧ 0 ≤ py.toInt ∧ py.toInt ≤ 1000 := zp_1 c_2
      refine lv_aload_n hx hb dX11_side_34 rfl (lv_at hl 1 rfl) ?_
      refine lv_iload_n hx hb dX11_side_35 rfl (lv_at hl 4 rfl) ?_
      have hPc := hP.sub (ws' := [(om k0 a I0 J0)]) [0] rfl
      have hDc := hD.sub (ws' := [(om k0 a I0 J0)]) [0] (by decide) rfl
      have hFc := va_free (wc := [(om k0 a I0 J0)]) hD hS hA [0] rfl
      refine zcall (st1 := [.int 0]) (va_runV (As := [.int v]) (rest := []) ⟨hx, hb, hml, hown, hts⟩ (k_M_is_x l dC dI cI cZ cF s.heap.size k0 a I0 J0 ft v (by assumption) (by omega) (by assumption)) (cwV 1 hts (zz_gV mw_1447 mw_1449 mw_56 mw_110 mc_yX11_is) rfl rfl rfl (by decide +kernel) ⟨Nat.le_of_ble_eq_true rfl, Nat.le_of_ble_eq_true rfl⟩) (zPV2 (q0 := 0) (ci := 9) hPc hDc hK hXN rfl rfl) rfl rfl hl.1 rfl (lv_room (Nat.le_of_ble_eq_true rfl)) dX11_side_36 ⟨Nat.le_of_ble_eq_true rfl, Nat.le_of_ble_eq_true rfl⟩) hS hFc hFc rfl (fun t H1 locs ht hB hk1 hS => ?_)
      obtain ⟨hP1, hD1⟩ := hB
      rw [ht] at hP1
      obtain ⟨hP, hD⟩ := va_join (wr := []) (w1 := [(om k0 a I0 J0)]) hP hD [0] [] rfl rfl (by decide) (by decide) hk1 hFc hP1 hD1
      clear hk1 hPc hDc hFc hP1 hD1 ht
      generalize H1 = H at hP hS ⊢
      have hP : va_P (dC, dI) classes [(om k0 a I0 J0)] H := hP
      have hD : va_D A [(om k0 a I0 J0)] := hD
      refine lv_if_eq (tgt := 66) hx hb dX11_side_39 (by decide) (fun c_3 => ?_) (fun c_3 => ?_)
      · refine lv_iconst (v := 0) hx hb dX11_side_66 (by decide) ?_
        have hP9 := hP.sub (ws' := [(om k0 a I0 J0)]) [0] rfl
        have hD9 := hD.sub (ws' := [(om k0 a I0 J0)]) [0] (by decide) rfl
        rw [hQ9]
        exact W.iret (v := 0) hx hb hr (fun t ht hW => ⟨⟨rfl, by rw [ht]; exact hP9, hD9⟩, hS.F ht⟩) hS.2.2 dX11_side_67
      · exact absurd (by decide) c_3
  refine lv_iload_n hx hb dX11_side_0 rfl (lv_at hl 1 rfl) ?_
  refine lv_if_lt (tgt := 26) hx hb dX11_side_1 (by decide) (fun c_4 => ?_) (fun c_4 => ?_)
  · have c_4 : px.toInt < 0 := zc_lt rfl (by decide) c_4
    refine lv_iconst (v := 0) hx hb dX11_side_26 (by decide) ?_
    refine zz_i (v := pI (0 ≤ px.toInt ∧ px.toInt ≤ 1000 ∧ 0 ≤ py.toInt ∧ py.toInt ≤ 1000)) (by first | exact (zp_t (by omega)).symm | exact (zp_f (by omega)).symm) ?_
    exact hj_1 
  · have c_4 : 0 ≤ px.toInt := zc_nlt rfl (by decide) c_4
    refine lv_iload_n hx hb dX11_side_4 rfl (lv_at hl 1 rfl) ?_
    refine lv_sipush (v := 1000) hx hb dX11_side_5 (by decide) ?_
    refine lv_icmp_gt (tgt := 26) hx hb dX11_side_8 (by decide) (fun c_5 => ?_) (fun c_5 => ?_)
    · have c_5 : 1000 < px.toInt := zc_lt (by decide) rfl c_5
      refine lv_iconst (v := 0) hx hb dX11_side_26 (by decide) ?_
      refine zz_i (v := pI (0 ≤ px.toInt ∧ px.toInt ≤ 1000 ∧ 0 ≤ py.toInt ∧ py.toInt ≤ 1000)) (by first | exact (zp_t (by omega)).symm | exact (zp_f (by omega)).symm) ?_
      exact hj_1 
    · have c_5 : px.toInt ≤ 1000 := zc_nlt (by decide) rfl c_5
      refine lv_iload_n hx hb dX11_side_11 rfl (lv_at hl 2 rfl) ?_
      refine lv_if_lt (tgt := 26) hx hb dX11_side_12 (by decide) (fun c_6 => ?_) (fun c_6 => ?_)
      · have c_6 : py.toInt < 0 := zc_lt rfl (by decide) c_6
        refine lv_iconst (v := 0) hx hb dX11_side_26 (by decide) ?_
        refine zz_i (v := pI (0 ≤ px.toInt ∧ px.toInt ≤ 1000 ∧ 0 ≤ py.toInt ∧ py.toInt ≤ 1000)) (by first | exact (zp_t (by omega)).symm | exact (zp_f (by omega)).symm) ?_
        exact hj_1 
      · have c_6 : 0 ≤ py.toInt := zc_nlt rfl (by decide) c_6
        refine lv_iload_n hx hb dX11_side_15 rfl (lv_at hl 2 rfl) ?_
        refine lv_sipush (v := 1000) hx hb dX11_side_16 (by decide) ?_
        refine lv_icmp_gt (tgt := 26) hx hb dX11_side_19 (by decide) (fun c_7 => ?_) (fun c_7 => ?_)
        · have c_7 : 1000 < py.toInt := zc_lt (by decide) rfl c_7
          refine lv_iconst (v := 0) hx hb dX11_side_26 (by decide) ?_
          refine zz_i (v := pI (0 ≤ px.toInt ∧ px.toInt ≤ 1000 ∧ 0 ≤ py.toInt ∧ py.toInt ≤ 1000)) (by first | exact (zp_t (by omega)).symm | exact (zp_f (by omega)).symm) ?_
          exact hj_1 
        · have c_7 : py.toInt ≤ 1000 := zc_nlt (by decide) rfl c_7
          refine lv_iconst (v := 1) hx hb dX11_side_22 (by decide) ?_
          refine lv_goto (tgt := 27) hx hb dX11_side_23 (by decide) ?_
          refine zz_i (v := pI (0 ≤ px.toInt ∧ px.toInt ≤ 1000 ∧ 0 ≤ py.toInt ∧ py.toInt ≤ 1000)) (by first | exact (zp_t (by omega)).symm | exact (zp_f (by omega)).symm) ?_
          exact hj_1 
set_option maxHeartbeats 4000000 in
set_option maxRecDepth 100000 in
theorem k_M_side_r (l : Launch) (dC : Nat → ClassId) (dI : Nat → Nat → Nat) (cI cZ cF : ClassId) (sz : Nat) (k0 : Nat) (a : Nat → Nat) (I0 : Nat → Int32) (J0 : Nat → Int64) (f : Nat) (ft : Nat) (px : Int32) (py : Int32) (kv : Int32) (st : Nat → Int32) (tn : Nat → Int32) (kd : Nat → Int32) (mn : Nat → Int32) (hft : I0 0 = nI ft) (h200 : ft ≤ 200) (hf_t : f < ft) (hmw : lvF ft st tn f → mn f = nI (nN (mn f)) ∧ 1 ≤ nN (mn f) ∧ nN (mn f) ≤ 40) (hbad : ¬ ((0 ≤ px.toInt ∧ px.toInt ≤ 1000 ∧ 0 ≤ py.toInt ∧ py.toInt ≤ 1000) ∧ lvF ft st tn f ∧ ¬ (kd f).toInt = 0 ∧ 0 ≤ kv.toInt ∧ kv.toInt < ((eO (kd f).toInt (nN (mn f)) : Nat) : Int))) : Met l yX11_side (.code yX11_side cX11_side 6 (some .int) :: ws0) ({ frames := 2, cells := 0, slots := 0, locals := 42 } : Room) (va_Pc [.ref k0, .int px, .int py, .int (nI f), .int kv] (zPre (dC, dI) classes (zTy cI cZ cF) [(om k0 a I0 J0), (oa (a 5) cI 201 st), (oa (a 6) cZ 201 tn), (oa (a 1) cI 201 kd), (oa (a 11) cI 201 mn)] sz zXN)) (zQ (some (.int 0)) (fun t => va_P (dC, dI) classes [(om k0 a I0 J0), (oa (a 5) cI 201 st), (oa (a 6) cZ 201 tn), (oa (a 1) cI 201 kd), (oa (a 11) cI 201 mn)] t.heap ∧ va_D (va_A [(om k0 a I0 J0), (oa (a 5) cI 201 st), (oa (a 6) cZ 201 tn), (oa (a 1) cI 201 kd), (oa (a 11) cI 201 mn)] sz) [(om k0 a I0 J0), (oa (a 5) cI 201 st), (oa (a 6) cZ 201 tn), (oa (a 1) cI 201 kd), (oa (a 11) cI 201 mn)]) (va_A [(om k0 a I0 J0), (oa (a 5) cI 201 st), (oa (a 6) cZ 201 tn), (oa (a 1) cI 201 kd), (oa (a 11) cI 201 mn)] sz)) 0 0 (va_A [(om k0 a I0 J0), (oa (a 5) cI 201 st), (oa (a 6) cZ 201 tn), (oa (a 1) cI 201 kd), (oa (a 11) cI 201 mn)] sz) := by
  refine Met.ofW (cc := cX11_side) (maxL := 6) (ret := (some .int)) (by decide) rfl ?_
  intro p e s m args below meth c s₁ B hml hv
  obtain ⟨rfl, hsz, hP, hK, hD0, hXN⟩ := hv
  have hx := B.exec
  have hb := B.bytes
  have hr := B.returns
  have hts0 := atoms_spec (ws := .code yX11_side cX11_side 6 (some .int) :: ws0) B.pre
  have hts : ∀ w9 ∈ ws0, w9.before ([.ref k0, .int px, .int py, .int (nI f), .int kv] : List Value).toArray s = true := fun w9 h => hts0 w9 (List.mem_cons_of_mem _ h)
  have hown : s.vm.findClass "ScaleShopModel" = some m.cls := findClass_of_methodNamed B.named
  have hlocks := B.notSynchronized
  subst hsz
  have hD := hD0.self (sz := s.heap.size)
  clear hD0
  generalize hAe : va_A [(om k0 a I0 J0), (oa (a 5) cI 201 st), (oa (a 6) cZ 201 tn), (oa (a 1) cI 201 kd), (oa (a 11) cI 201 mn)] s.heap.size = A at hD ⊢
  have hA : ∀ q : Nat, s.heap.size ≤ q → A q := fun q h => by rw [← hAe]; exact Or.inr h
  clear hAe
  have hS : va_S A s.heap s.heap [] := va_S.rf
  have hP : va_P (dC, dI) classes [(om k0 a I0 J0), (oa (a 5) cI 201 st), (oa (a 6) cZ 201 tn), (oa (a 1) cI 201 kd), (oa (a 11) cI 201 mn)] s.heap := hP
  obtain ⟨Q9, hQ9⟩ : ∃ Q9 : State → Prop, Q9 = MQ below (zQ (some (.int 0)) (fun t => va_P (dC, dI) classes [(om k0 a I0 J0), (oa (a 5) cI 201 st), (oa (a 6) cZ 201 tn), (oa (a 1) cI 201 kd), (oa (a 11) cI 201 mn)] t.heap ∧ va_D A [(om k0 a I0 J0), (oa (a 5) cI 201 st), (oa (a 6) cZ 201 tn), (oa (a 1) cI 201 kd), (oa (a 11) cI 201 mn)]) A) ([.ref k0, .int px, .int py, .int (nI f), .int kv] : List Value).toArray s 0 0 A := ⟨_, rfl⟩
  rw [← hQ9]
  have hl := lv_entry ([.ref k0, .int px, .int py, .int (nI f), .int kv]) (n := 6) (Nat.le_of_ble_eq_true rfl)
  rw [lg_entry_eq]
  generalize (lg_sl ([.ref k0, .int px, .int py, .int (nI f), .int kv]) ++ List.replicate (6 - (lg_sl ([.ref k0, .int px, .int py, .int (nI f), .int kv])).length) Slot.unset).toArray = ls at hl ⊢
  have hl : lv_has ls 6 [(0, .ref k0), (1, .int px), (2, .int py), (3, .int (nI f)), (4, .int kv)] := hl
  have hj_1 : W p l e ((headSpec (.code yX11_side cX11_side 6 (some .int) :: ws0) ({ frames := 2, cells := 0, slots := 0, locals := 42 } : Room)).room) s m ([.ref k0, .int px, .int py, .int (nI f), .int kv] : List Value).toArray below meth c s.heap [] 0 0 Q9 (F0 m 27 ls [.int (pI (0 ≤ px.toInt ∧ px.toInt ≤ 1000 ∧ 0 ≤ py.toInt ∧ py.toInt ≤ 1000))]) := by
    refine lv_istore (lv' := [(5, .int (pI (0 ≤ px.toInt ∧ px.toInt ≤ 1000 ∧ 0 ≤ py.toInt ∧ py.toInt ≤ 1000))), (0, .ref k0), (1, .int px), (2, .int py), (3, .int (nI f)), (4, .int kv)]) hx hb dX11_side_27 hl (by decide) rfl (fun ls hl => ?_)
    refine lv_iload hx hb dX11_side_29 (lv_at hl 0 rfl) ?_
    refine lv_if_eq (tgt := 66) hx hb dX11_side_31 (by decide) (fun c_2 => ?_) (fun c_2 => ?_)
    · have c_2 : ¬ (0 ≤ px.toInt ∧ px.toInt ≤ 1000 ∧ 0 ≤ py.toInt ∧ py.toInt ≤ 1000) := zp_0 c_2
      refine lv_iconst (v := 0) hx hb dX11_side_66 (by decide) ?_
      have hP9 := hP.sub (ws' := [(om k0 a I0 J0), (oa (a 5) cI 201 st), (oa (a 6) cZ 201 tn), (oa (a 1) cI 201 kd), (oa (a 11) cI 201 mn)]) [0, 1, 2, 3, 4] rfl
      have hD9 := hD.sub (ws' := [(om k0 a I0 J0), (oa (a 5) cI 201 st), (oa (a 6) cZ 201 tn), (oa (a 1) cI 201 kd), (oa (a 11) cI 201 mn)]) [0, 1, 2, 3, 4] (by decide) rfl
      rw [hQ9]
      exact W.iret (v := 0) hx hb hr (fun t ht hW => ⟨⟨rfl, by rw [ht]; exact hP9, hD9⟩, hS.F ht⟩) hS.2.2 dX11_side_67
    · have c_2 : 0 ≤ px.toInt ∧ px.toInt ≤ 1000 ∧ 0 ≤ py.toInt ∧ py.toInt ≤ 1000 := zp_1 c_2
      refine lv_aload_n hx hb dX11_side_34 rfl (lv_at hl 1 rfl) ?_
      refine lv_iload_n hx hb dX11_side_35 rfl (lv_at hl 4 rfl) ?_
      have hPc := hP.sub (ws' := [(om k0 a I0 J0), (oa (a 5) cI 201 st), (oa (a 6) cZ 201 tn)]) [0, 1, 2] rfl
      have hDc := hD.sub (ws' := [(om k0 a I0 J0), (oa (a 5) cI 201 st), (oa (a 6) cZ 201 tn)]) [0, 1, 2] (by decide) rfl
      have hFc := va_free (wc := [(om k0 a I0 J0), (oa (a 5) cI 201 st), (oa (a 6) cZ 201 tn)]) hD hS hA [0, 1, 2] rfl
      refine zcall (st1 := [.int (pI (f < ft ∧ (st f).toInt = 1 ∧ (tn f).toInt = 0))]) (va_runV (As := [.int (nI f)]) (rest := []) ⟨hx, hb, hml, hown, hts⟩ (k_M_is_n l dC dI cI cZ cF s.heap.size k0 a I0 J0 f ft st tn (by assumption) (by omega) (by omega)) (cwV 1 hts (zz_gV mw_1447 mw_1449 mw_56 mw_110 mc_yX11_is) rfl rfl rfl (by decide +kernel) ⟨Nat.le_of_ble_eq_true rfl, Nat.le_of_ble_eq_true rfl⟩) (zPV2 (q0 := 0) (ci := 9) hPc hDc hK hXN rfl rfl) rfl rfl hl.1 rfl (lv_room (Nat.le_of_ble_eq_true rfl)) dX11_side_36 ⟨Nat.le_of_ble_eq_true rfl, Nat.le_of_ble_eq_true rfl⟩) hS hFc hFc rfl (fun t H1 locs ht hB hk1 hS => ?_)
      obtain ⟨hP1, hD1⟩ := hB
      rw [ht] at hP1
      obtain ⟨hP, hD⟩ := va_join (wr := [(oa (a 1) cI 201 kd), (oa (a 11) cI 201 mn)]) (w1 := [(om k0 a I0 J0), (oa (a 5) cI 201 st), (oa (a 6) cZ 201 tn)]) hP hD [0, 1, 2] [3, 4] rfl rfl (by decide) (by decide) hk1 hFc hP1 hD1
      clear hk1 hPc hDc hFc hP1 hD1 ht
      generalize H1 = H at hP hS ⊢
      have hP := hP.sub (ws' := [(om k0 a I0 J0), (oa (a 5) cI 201 st), (oa (a 6) cZ 201 tn), (oa (a 1) cI 201 kd), (oa (a 11) cI 201 mn)]) [2, 3, 4, 0, 1] rfl
      have hD := hD.sub (ws' := [(om k0 a I0 J0), (oa (a 5) cI 201 st), (oa (a 6) cZ 201 tn), (oa (a 1) cI 201 kd), (oa (a 11) cI 201 mn)]) [2, 3, 4, 0, 1] (by decide) rfl
      have hP : va_P (dC, dI) classes [(om k0 a I0 J0), (oa (a 5) cI 201 st), (oa (a 6) cZ 201 tn), (oa (a 1) cI 201 kd), (oa (a 11) cI 201 mn)] H := hP
      have hD : va_D A [(om k0 a I0 J0), (oa (a 5) cI 201 st), (oa (a 6) cZ 201 tn), (oa (a 1) cI 201 kd), (oa (a 11) cI 201 mn)] := hD
      refine lv_if_eq (tgt := 66) hx hb dX11_side_39 (by decide) (fun c_3 => ?_) (fun c_3 => ?_)
      · have c_3 : ¬ (f < ft ∧ (st f).toInt = 1 ∧ (tn f).toInt = 0) := zp_0 c_3
        refine lv_iconst (v := 0) hx hb dX11_side_66 (by decide) ?_
        have hP9 := hP.sub (ws' := [(om k0 a I0 J0), (oa (a 5) cI 201 st), (oa (a 6) cZ 201 tn), (oa (a 1) cI 201 kd), (oa (a 11) cI 201 mn)]) [0, 1, 2, 3, 4] rfl
        have hD9 := hD.sub (ws' := [(om k0 a I0 J0), (oa (a 5) cI 201 st), (oa (a 6) cZ 201 tn), (oa (a 1) cI 201 kd), (oa (a 11) cI 201 mn)]) [0, 1, 2, 3, 4] (by decide) rfl
        rw [hQ9]
        exact W.iret (v := 0) hx hb hr (fun t ht hW => ⟨⟨rfl, by rw [ht]; exact hP9, hD9⟩, hS.F ht⟩) hS.2.2 dX11_side_67
      · have c_3 : f < ft ∧ (st f).toInt = 1 ∧ (tn f).toInt = 0 := zp_1 c_3
        have hmq := hmw (by assumption)
        have hmq1 := hmq.1
        have hee := eO_le (k := (kd f).toInt) hmq.2.1
        refine lv_aload_n hx hb dX11_side_42 rfl (lv_at hl 1 rfl) ?_
        refine va_get (D := (dC, dI)) (ci := 9) (v := .ref (a 1)) (C := RX11) (T := TX11) (N := 55) hx hb hts inX11 hown hK hP 0 rfl rfl 1 (by decide) (hts _ mw_1160) (fun _ h9 => h9) rfl dX11_side_43 ?_
        refine lv_iload_n hx hb dX11_side_46 rfl (lv_at hl 4 rfl) ?_
        refine z_iald hx hb hK hP 3 0 rfl rfl (e := f) rfl (by omega) (by omega) dX11_side_47 ?_
        refine lv_if_eq (tgt := 66) hx hb dX11_side_48 (by decide) (fun c_4 => ?_) (fun c_4 => ?_)
        · have c_4 : (kd f).toInt = 0 := zc_eq rfl (by decide) c_4
          refine lv_iconst (v := 0) hx hb dX11_side_66 (by decide) ?_
          have hP9 := hP.sub (ws' := [(om k0 a I0 J0), (oa (a 5) cI 201 st), (oa (a 6) cZ 201 tn), (oa (a 1) cI 201 kd), (oa (a 11) cI 201 mn)]) [0, 1, 2, 3, 4] rfl
          have hD9 := hD.sub (ws' := [(om k0 a I0 J0), (oa (a 5) cI 201 st), (oa (a 6) cZ 201 tn), (oa (a 1) cI 201 kd), (oa (a 11) cI 201 mn)]) [0, 1, 2, 3, 4] (by decide) rfl
          rw [hQ9]
          exact W.iret (v := 0) hx hb hr (fun t ht hW => ⟨⟨rfl, by rw [ht]; exact hP9, hD9⟩, hS.F ht⟩) hS.2.2 dX11_side_67
        · have c_4 : ¬ (kd f).toInt = 0 := zc_ne rfl (by decide) c_4
          refine lv_iload hx hb dX11_side_51 (lv_at hl 5 rfl) ?_
          refine lv_if_lt (tgt := 66) hx hb dX11_side_53 (by decide) (fun c_5 => ?_) (fun c_5 => ?_)
          · have c_5 : kv.toInt < 0 := zc_lt rfl (by decide) c_5
            refine lv_iconst (v := 0) hx hb dX11_side_66 (by decide) ?_
            have hP9 := hP.sub (ws' := [(om k0 a I0 J0), (oa (a 5) cI 201 st), (oa (a 6) cZ 201 tn), (oa (a 1) cI 201 kd), (oa (a 11) cI 201 mn)]) [0, 1, 2, 3, 4] rfl
            have hD9 := hD.sub (ws' := [(om k0 a I0 J0), (oa (a 5) cI 201 st), (oa (a 6) cZ 201 tn), (oa (a 1) cI 201 kd), (oa (a 11) cI 201 mn)]) [0, 1, 2, 3, 4] (by decide) rfl
            rw [hQ9]
            exact W.iret (v := 0) hx hb hr (fun t ht hW => ⟨⟨rfl, by rw [ht]; exact hP9, hD9⟩, hS.F ht⟩) hS.2.2 dX11_side_67
          · have c_5 : 0 ≤ kv.toInt := zc_nlt rfl (by decide) c_5
            refine lv_iload hx hb dX11_side_56 (lv_at hl 5 rfl) ?_
            refine lv_aload_n hx hb dX11_side_58 rfl (lv_at hl 1 rfl) ?_
            refine lv_iload_n hx hb dX11_side_59 rfl (lv_at hl 4 rfl) ?_
            have hPc := hP.sub (ws' := [(om k0 a I0 J0), (oa (a 1) cI 201 kd), (oa (a 11) cI 201 mn)]) [0, 3, 4] rfl
            have hDc := hD.sub (ws' := [(om k0 a I0 J0), (oa (a 1) cI 201 kd), (oa (a 11) cI 201 mn)]) [0, 3, 4] (by decide) rfl
            have hFc := va_free (wc := [(om k0 a I0 J0), (oa (a 1) cI 201 kd), (oa (a 11) cI 201 mn)]) hD hS hA [0, 3, 4] rfl
            refine zcall (st1 := [.int (nI (eO (kd f).toInt (nN (mn f)))), .int kv]) (va_runV (As := [.int (nI f)]) (rest := [.int kv]) ⟨hx, hb, hml, hown, hts⟩ (k_M_edgesOf l dC dI cI cZ cF H.size k0 a I0 J0 f (nN (mn f)) kd mn (by omega) (hmq1) (hmq.2)) (cwV 1 hts (zz_gV mw_1369 mw_1371 mw_41 mw_110 mc_yX11_edgesOf) rfl rfl rfl (by decide +kernel) ⟨Nat.le_of_ble_eq_true rfl, Nat.le_of_ble_eq_true rfl⟩) (zPV2 (q0 := 0) (ci := 9) hPc hDc hK hXN rfl rfl) rfl rfl hl.1 rfl (lv_room (Nat.le_of_ble_eq_true rfl)) dX11_side_60 ⟨Nat.le_of_ble_eq_true rfl, Nat.le_of_ble_eq_true rfl⟩) hS hFc hFc rfl (fun t H1 locs ht hB hk1 hS => ?_)
            obtain ⟨hP1, hD1⟩ := hB
            rw [ht] at hP1
            obtain ⟨hP, hD⟩ := va_join (wr := [(oa (a 5) cI 201 st), (oa (a 6) cZ 201 tn)]) (w1 := [(om k0 a I0 J0), (oa (a 1) cI 201 kd), (oa (a 11) cI 201 mn)]) hP hD [0, 3, 4] [1, 2] rfl rfl (by decide) (by decide) hk1 hFc hP1 hD1
            clear hk1 hPc hDc hFc hP1 hD1 ht
            generalize H1 = H at hP hS ⊢
            have hP := hP.sub (ws' := [(om k0 a I0 J0), (oa (a 5) cI 201 st), (oa (a 6) cZ 201 tn), (oa (a 1) cI 201 kd), (oa (a 11) cI 201 mn)]) [2, 0, 1, 3, 4] rfl
            have hD := hD.sub (ws' := [(om k0 a I0 J0), (oa (a 5) cI 201 st), (oa (a 6) cZ 201 tn), (oa (a 1) cI 201 kd), (oa (a 11) cI 201 mn)]) [2, 0, 1, 3, 4] (by decide) rfl
            have hP : va_P (dC, dI) classes [(om k0 a I0 J0), (oa (a 5) cI 201 st), (oa (a 6) cZ 201 tn), (oa (a 1) cI 201 kd), (oa (a 11) cI 201 mn)] H := hP
            have hD : va_D A [(om k0 a I0 J0), (oa (a 5) cI 201 st), (oa (a 6) cZ 201 tn), (oa (a 1) cI 201 kd), (oa (a 11) cI 201 mn)] := hD
            refine lv_icmp_lt (tgt := 68) hx hb dX11_side_63 (by decide) (fun c_6 => ?_) (fun c_6 => ?_)
            · have c_6 : kv.toInt < ((eO (kd f).toInt (nN (mn f)) : Nat) : Int) := zc_lt rfl (nI_toInt (by omega)) c_6
              exact absurd ⟨by assumption, by assumption, by omega, by omega, by omega⟩ hbad
            · have c_6 : ((eO (kd f).toInt (nN (mn f)) : Nat) : Int) ≤ kv.toInt := zc_nlt rfl (nI_toInt (by omega)) c_6
              refine lv_iconst (v := 0) hx hb dX11_side_66 (by decide) ?_
              have hP9 := hP.sub (ws' := [(om k0 a I0 J0), (oa (a 5) cI 201 st), (oa (a 6) cZ 201 tn), (oa (a 1) cI 201 kd), (oa (a 11) cI 201 mn)]) [0, 1, 2, 3, 4] rfl
              have hD9 := hD.sub (ws' := [(om k0 a I0 J0), (oa (a 5) cI 201 st), (oa (a 6) cZ 201 tn), (oa (a 1) cI 201 kd), (oa (a 11) cI 201 mn)]) [0, 1, 2, 3, 4] (by decide) rfl
              rw [hQ9]
              exact W.iret (v := 0) hx hb hr (fun t ht hW => ⟨⟨rfl, by rw [ht]; exact hP9, hD9⟩, hS.F ht⟩) hS.2.2 dX11_side_67
  refine lv_iload_n hx hb dX11_side_0 rfl (lv_at hl 1 rfl) ?_
  refine lv_if_lt (tgt := 26) hx hb dX11_side_1 (by decide) (fun c_7 => ?_) (fun c_7 => ?_)
  · have c_7 : px.toInt < 0 := zc_lt rfl (by decide) c_7
    refine lv_iconst (v := 0) hx hb dX11_side_26 (by decide) ?_
    refine zz_i (v := pI (0 ≤ px.toInt ∧ px.toInt ≤ 1000 ∧ 0 ≤ py.toInt ∧ py.toInt ≤ 1000)) (by first | exact (zp_t (by omega)).symm | exact (zp_f (by omega)).symm) ?_
    exact hj_1 
  · have c_7 : 0 ≤ px.toInt := zc_nlt rfl (by decide) c_7
    refine lv_iload_n hx hb dX11_side_4 rfl (lv_at hl 1 rfl) ?_
    refine lv_sipush (v := 1000) hx hb dX11_side_5 (by decide) ?_
    refine lv_icmp_gt (tgt := 26) hx hb dX11_side_8 (by decide) (fun c_8 => ?_) (fun c_8 => ?_)
    · have c_8 : 1000 < px.toInt := zc_lt (by decide) rfl c_8
      refine lv_iconst (v := 0) hx hb dX11_side_26 (by decide) ?_
      refine zz_i (v := pI (0 ≤ px.toInt ∧ px.toInt ≤ 1000 ∧ 0 ≤ py.toInt ∧ py.toInt ≤ 1000)) (by first | exact (zp_t (by omega)).symm | exact (zp_f (by omega)).symm) ?_
      exact hj_1 
    · have c_8 : px.toInt ≤ 1000 := zc_nlt (by decide) rfl c_8
      refine lv_iload_n hx hb dX11_side_11 rfl (lv_at hl 2 rfl) ?_
      refine lv_if_lt (tgt := 26) hx hb dX11_side_12 (by decide) (fun c_9 => ?_) (fun c_9 => ?_)
      · have c_9 : py.toInt < 0 := zc_lt rfl (by decide) c_9
        refine lv_iconst (v := 0) hx hb dX11_side_26 (by decide) ?_
        refine zz_i (v := pI (0 ≤ px.toInt ∧ px.toInt ≤ 1000 ∧ 0 ≤ py.toInt ∧ py.toInt ≤ 1000)) (by first | exact (zp_t (by omega)).symm | exact (zp_f (by omega)).symm) ?_
        exact hj_1 
      · have c_9 : 0 ≤ py.toInt := zc_nlt rfl (by decide) c_9
        refine lv_iload_n hx hb dX11_side_15 rfl (lv_at hl 2 rfl) ?_
        refine lv_sipush (v := 1000) hx hb dX11_side_16 (by decide) ?_
        refine lv_icmp_gt (tgt := 26) hx hb dX11_side_19 (by decide) (fun c_10 => ?_) (fun c_10 => ?_)
        · have c_10 : 1000 < py.toInt := zc_lt (by decide) rfl c_10
          refine lv_iconst (v := 0) hx hb dX11_side_26 (by decide) ?_
          refine zz_i (v := pI (0 ≤ px.toInt ∧ px.toInt ≤ 1000 ∧ 0 ≤ py.toInt ∧ py.toInt ≤ 1000)) (by first | exact (zp_t (by omega)).symm | exact (zp_f (by omega)).symm) ?_
          exact hj_1 
        · have c_10 : py.toInt ≤ 1000 := zc_nlt (by decide) rfl c_10
          refine lv_iconst (v := 1) hx hb dX11_side_22 (by decide) ?_
          refine lv_goto (tgt := 27) hx hb dX11_side_23 (by decide) ?_
          refine zz_i (v := pI (0 ≤ px.toInt ∧ px.toInt ≤ 1000 ∧ 0 ≤ py.toInt ∧ py.toInt ≤ 1000)) (by first | exact (zp_t (by omega)).symm | exact (zp_f (by omega)).symm) ?_
          exact hj_1 
set_option maxHeartbeats 4000000 in
set_option maxRecDepth 100000 in
theorem k_M_side_y (l : Launch) (dC : Nat → ClassId) (dI : Nat → Nat → Nat) (cI cZ cF : ClassId) (sz : Nat) (k0 : Nat) (a : Nat → Nat) (I0 : Nat → Int32) (J0 : Nat → Int64) (f : Nat) (k : Nat) (ft : Nat) (px : Int32) (py : Int32) (st : Nat → Int32) (tn : Nat → Int32) (kd : Nat → Int32) (mn : Nat → Int32) (cx : Nat → Int32) (cy : Nat → Int32) (S0 : Nat → Int32) (hft : I0 0 = nI ft) (h200 : ft ≤ 200) (hwf : ∀ q, lvF ft st tn q → wfM mn cx cy q) (hf_t : f < ft) (hlv : lvF ft st tn f) (hk0 : ¬ (kd f).toInt = 0) (hpl : 0 ≤ px.toInt ∧ px.toInt ≤ 1000 ∧ 0 ≤ py.toInt ∧ py.toInt ≤ 1000) (hke : k < eO (kd f).toInt (nN (mn f))) : Met l yX11_side (.code yX11_side cX11_side 6 (some .int) :: ws0) ({ frames := 2, cells := 0, slots := 0, locals := 42 } : Room) (va_Pc [.ref k0, .int px, .int py, .int (nI f), .int (nI k)] (zPre (dC, dI) classes (zTy cI cZ cF) [(om k0 a I0 J0), (oa (a 5) cI 201 st), (oa (a 6) cZ 201 tn), (oa (a 1) cI 201 kd), (oa (a 11) cI 201 mn), (oa (a 12) cI 8040 cx), (oa (a 13) cI 8040 cy), (oa (a 32) cI 8 S0)] sz zXN)) (zQ (some (.int (iI (sg (eCr (nN (mn f)) (cF40 cx f) (cF40 cy f) k px.toInt py.toInt))))) (fun t => ∃ (S1 : Nat → Int32), va_P (dC, dI) classes [(om k0 a I0 J0), (oa (a 5) cI 201 st), (oa (a 6) cZ 201 tn), (oa (a 1) cI 201 kd), (oa (a 11) cI 201 mn), (oa (a 12) cI 8040 cx), (oa (a 13) cI 8040 cy), (oa (a 32) cI 8 S1)] t.heap ∧ va_D (va_A [(om k0 a I0 J0), (oa (a 5) cI 201 st), (oa (a 6) cZ 201 tn), (oa (a 1) cI 201 kd), (oa (a 11) cI 201 mn), (oa (a 12) cI 8040 cx), (oa (a 13) cI 8040 cy), (oa (a 32) cI 8 S0)] sz) [(om k0 a I0 J0), (oa (a 5) cI 201 st), (oa (a 6) cZ 201 tn), (oa (a 1) cI 201 kd), (oa (a 11) cI 201 mn), (oa (a 12) cI 8040 cx), (oa (a 13) cI 8040 cy), (oa (a 32) cI 8 S1)]) (va_A [(om k0 a I0 J0), (oa (a 5) cI 201 st), (oa (a 6) cZ 201 tn), (oa (a 1) cI 201 kd), (oa (a 11) cI 201 mn), (oa (a 12) cI 8040 cx), (oa (a 13) cI 8040 cy), (oa (a 32) cI 8 S0)] sz)) 0 0 (va_A [(om k0 a I0 J0), (oa (a 5) cI 201 st), (oa (a 6) cZ 201 tn), (oa (a 1) cI 201 kd), (oa (a 11) cI 201 mn), (oa (a 12) cI 8040 cx), (oa (a 13) cI 8040 cy), (oa (a 32) cI 8 S0)] sz) := by
  refine Met.ofW (cc := cX11_side) (maxL := 6) (ret := (some .int)) (by decide) rfl ?_
  intro p e s m args below meth c s₁ B hml hv
  obtain ⟨rfl, hsz, hP, hK, hD0, hXN⟩ := hv
  have hx := B.exec
  have hb := B.bytes
  have hr := B.returns
  have hts0 := atoms_spec (ws := .code yX11_side cX11_side 6 (some .int) :: ws0) B.pre
  have hts : ∀ w9 ∈ ws0, w9.before ([.ref k0, .int px, .int py, .int (nI f), .int (nI k)] : List Value).toArray s = true := fun w9 h => hts0 w9 (List.mem_cons_of_mem _ h)
  have hown : s.vm.findClass "ScaleShopModel" = some m.cls := findClass_of_methodNamed B.named
  have hlocks := B.notSynchronized
  subst hsz
  have hD := hD0.self (sz := s.heap.size)
  clear hD0
  generalize hAe : va_A [(om k0 a I0 J0), (oa (a 5) cI 201 st), (oa (a 6) cZ 201 tn), (oa (a 1) cI 201 kd), (oa (a 11) cI 201 mn), (oa (a 12) cI 8040 cx), (oa (a 13) cI 8040 cy), (oa (a 32) cI 8 S0)] s.heap.size = A at hD ⊢
  have hA : ∀ q : Nat, s.heap.size ≤ q → A q := fun q h => by rw [← hAe]; exact Or.inr h
  clear hAe
  have hS : va_S A s.heap s.heap [] := va_S.rf
  have hP : va_P (dC, dI) classes [(om k0 a I0 J0), (oa (a 5) cI 201 st), (oa (a 6) cZ 201 tn), (oa (a 1) cI 201 kd), (oa (a 11) cI 201 mn), (oa (a 12) cI 8040 cx), (oa (a 13) cI 8040 cy), (oa (a 32) cI 8 S0)] s.heap := hP
  obtain ⟨Q9, hQ9⟩ : ∃ Q9 : State → Prop, Q9 = MQ below (zQ (some (.int (iI (sg (eCr (nN (mn f)) (cF40 cx f) (cF40 cy f) k px.toInt py.toInt))))) (fun t => ∃ (S1 : Nat → Int32), va_P (dC, dI) classes [(om k0 a I0 J0), (oa (a 5) cI 201 st), (oa (a 6) cZ 201 tn), (oa (a 1) cI 201 kd), (oa (a 11) cI 201 mn), (oa (a 12) cI 8040 cx), (oa (a 13) cI 8040 cy), (oa (a 32) cI 8 S1)] t.heap ∧ va_D A [(om k0 a I0 J0), (oa (a 5) cI 201 st), (oa (a 6) cZ 201 tn), (oa (a 1) cI 201 kd), (oa (a 11) cI 201 mn), (oa (a 12) cI 8040 cx), (oa (a 13) cI 8040 cy), (oa (a 32) cI 8 S1)]) A) ([.ref k0, .int px, .int py, .int (nI f), .int (nI k)] : List Value).toArray s 0 0 A := ⟨_, rfl⟩
  rw [← hQ9]
  have hl := lv_entry ([.ref k0, .int px, .int py, .int (nI f), .int (nI k)]) (n := 6) (Nat.le_of_ble_eq_true rfl)
  rw [lg_entry_eq]
  generalize (lg_sl ([.ref k0, .int px, .int py, .int (nI f), .int (nI k)]) ++ List.replicate (6 - (lg_sl ([.ref k0, .int px, .int py, .int (nI f), .int (nI k)])).length) Slot.unset).toArray = ls at hl ⊢
  have hl : lv_has ls 6 [(0, .ref k0), (1, .int px), (2, .int py), (3, .int (nI f)), (4, .int (nI k))] := hl
  have hw_ff := hwf f (by assumption)
  have hm_ff := hw_ff.1
  have hn_ff := hw_ff.2.1
  have hp_ff := hw_ff.2.2
  have hee := eO_le (k := (kd f).toInt) hn_ff.1
  have hpx9 : pl px := ⟨by omega, by omega⟩
  have hpy9 : pl py := ⟨by omega, by omega⟩
  have hk9 : k < nN (mn f) := (by omega)
  have hnx := nxt_lt (n := nN (mn f)) (i := k) (by omega)
  have hB := crBp (hp_ff k hk9).1 (hp_ff k hk9).2 (hp_ff _ hnx).1 (hp_ff _ hnx).2 hpx9 hpy9
  have hj_1 : W p l e ((headSpec (.code yX11_side cX11_side 6 (some .int) :: ws0) ({ frames := 2, cells := 0, slots := 0, locals := 42 } : Room)).room) s m ([.ref k0, .int px, .int py, .int (nI f), .int (nI k)] : List Value).toArray below meth c s.heap [] 0 0 Q9 (F0 m 27 ls [.int (pI (0 ≤ px.toInt ∧ px.toInt ≤ 1000 ∧ 0 ≤ py.toInt ∧ py.toInt ≤ 1000))]) := by
    refine lv_istore (lv' := [(5, .int (pI (0 ≤ px.toInt ∧ px.toInt ≤ 1000 ∧ 0 ≤ py.toInt ∧ py.toInt ≤ 1000))), (0, .ref k0), (1, .int px), (2, .int py), (3, .int (nI f)), (4, .int (nI k))]) hx hb dX11_side_27 hl (by decide) rfl (fun ls hl => ?_)
    refine lv_iload hx hb dX11_side_29 (lv_at hl 0 rfl) ?_
    refine lv_if_eq (tgt := 66) hx hb dX11_side_31 (by decide) (fun c_2 => ?_) (fun c_2 => ?_)
    · have c_2 : ¬ (0 ≤ px.toInt ∧ px.toInt ≤ 1000 ∧ 0 ≤ py.toInt ∧ py.toInt ≤ 1000) := zp_0 c_2
      exfalso; exact absurd hpl (by assumption)
    · have c_2 : 0 ≤ px.toInt ∧ px.toInt ≤ 1000 ∧ 0 ≤ py.toInt ∧ py.toInt ≤ 1000 := zp_1 c_2
      refine lv_aload_n hx hb dX11_side_34 rfl (lv_at hl 1 rfl) ?_
      refine lv_iload_n hx hb dX11_side_35 rfl (lv_at hl 4 rfl) ?_
      have hPc := hP.sub (ws' := [(om k0 a I0 J0), (oa (a 5) cI 201 st), (oa (a 6) cZ 201 tn)]) [0, 1, 2] rfl
      have hDc := hD.sub (ws' := [(om k0 a I0 J0), (oa (a 5) cI 201 st), (oa (a 6) cZ 201 tn)]) [0, 1, 2] (by decide) rfl
      have hFc := va_free (wc := [(om k0 a I0 J0), (oa (a 5) cI 201 st), (oa (a 6) cZ 201 tn)]) hD hS hA [0, 1, 2] rfl
      refine zcall (st1 := [.int (pI (f < ft ∧ (st f).toInt = 1 ∧ (tn f).toInt = 0))]) (va_runV (As := [.int (nI f)]) (rest := []) ⟨hx, hb, hml, hown, hts⟩ (k_M_is_n l dC dI cI cZ cF s.heap.size k0 a I0 J0 f ft st tn (by assumption) (by omega) (by omega)) (cwV 1 hts (zz_gV mw_1447 mw_1449 mw_56 mw_110 mc_yX11_is) rfl rfl rfl (by decide +kernel) ⟨Nat.le_of_ble_eq_true rfl, Nat.le_of_ble_eq_true rfl⟩) (zPV2 (q0 := 0) (ci := 9) hPc hDc hK hXN rfl rfl) rfl rfl hl.1 rfl (lv_room (Nat.le_of_ble_eq_true rfl)) dX11_side_36 ⟨Nat.le_of_ble_eq_true rfl, Nat.le_of_ble_eq_true rfl⟩) hS hFc hFc rfl (fun t H1 locs ht hB hk1 hS => ?_)
      obtain ⟨hP1, hD1⟩ := hB
      rw [ht] at hP1
      obtain ⟨hP, hD⟩ := va_join (wr := [(oa (a 1) cI 201 kd), (oa (a 11) cI 201 mn), (oa (a 12) cI 8040 cx), (oa (a 13) cI 8040 cy), (oa (a 32) cI 8 S0)]) (w1 := [(om k0 a I0 J0), (oa (a 5) cI 201 st), (oa (a 6) cZ 201 tn)]) hP hD [0, 1, 2] [3, 4, 5, 6, 7] rfl rfl (by decide) (by decide) hk1 hFc hP1 hD1
      clear hk1 hPc hDc hFc hP1 hD1 ht
      generalize H1 = H at hP hS ⊢
      have hP := hP.sub (ws' := [(om k0 a I0 J0), (oa (a 5) cI 201 st), (oa (a 6) cZ 201 tn), (oa (a 1) cI 201 kd), (oa (a 11) cI 201 mn), (oa (a 12) cI 8040 cx), (oa (a 13) cI 8040 cy), (oa (a 32) cI 8 S0)]) [5, 6, 7, 0, 1, 2, 3, 4] rfl
      have hD := hD.sub (ws' := [(om k0 a I0 J0), (oa (a 5) cI 201 st), (oa (a 6) cZ 201 tn), (oa (a 1) cI 201 kd), (oa (a 11) cI 201 mn), (oa (a 12) cI 8040 cx), (oa (a 13) cI 8040 cy), (oa (a 32) cI 8 S0)]) [5, 6, 7, 0, 1, 2, 3, 4] (by decide) rfl
      have hP : va_P (dC, dI) classes [(om k0 a I0 J0), (oa (a 5) cI 201 st), (oa (a 6) cZ 201 tn), (oa (a 1) cI 201 kd), (oa (a 11) cI 201 mn), (oa (a 12) cI 8040 cx), (oa (a 13) cI 8040 cy), (oa (a 32) cI 8 S0)] H := hP
      have hD : va_D A [(om k0 a I0 J0), (oa (a 5) cI 201 st), (oa (a 6) cZ 201 tn), (oa (a 1) cI 201 kd), (oa (a 11) cI 201 mn), (oa (a 12) cI 8040 cx), (oa (a 13) cI 8040 cy), (oa (a 32) cI 8 S0)] := hD
      refine lv_if_eq (tgt := 66) hx hb dX11_side_39 (by decide) (fun c_3 => ?_) (fun c_3 => ?_)
      · have c_3 : ¬ (f < ft ∧ (st f).toInt = 1 ∧ (tn f).toInt = 0) := zp_0 c_3
        exfalso; exact absurd hlv (by assumption)
      · have c_3 : f < ft ∧ (st f).toInt = 1 ∧ (tn f).toInt = 0 := zp_1 c_3
        refine lv_aload_n hx hb dX11_side_42 rfl (lv_at hl 1 rfl) ?_
        refine va_get (D := (dC, dI)) (ci := 9) (v := .ref (a 1)) (C := RX11) (T := TX11) (N := 55) hx hb hts inX11 hown hK hP 0 rfl rfl 1 (by decide) (hts _ mw_1160) (fun _ h9 => h9) rfl dX11_side_43 ?_
        refine lv_iload_n hx hb dX11_side_46 rfl (lv_at hl 4 rfl) ?_
        refine z_iald hx hb hK hP 3 0 rfl rfl (e := f) rfl (by omega) (by omega) dX11_side_47 ?_
        refine lv_if_eq (tgt := 66) hx hb dX11_side_48 (by decide) (fun c_4 => ?_) (fun c_4 => ?_)
        · have c_4 : (kd f).toInt = 0 := zc_eq rfl (by decide) c_4
          exfalso; omega
        · have c_4 : ¬ (kd f).toInt = 0 := zc_ne rfl (by decide) c_4
          refine lv_iload hx hb dX11_side_51 (lv_at hl 5 rfl) ?_
          refine lv_if_lt (tgt := 66) hx hb dX11_side_53 (by decide) (fun c_5 => ?_) (fun c_5 => ?_)
          · have c_5 : ((k : Nat) : Int) < 0 := zc_lt (nI_toInt (by omega)) (by decide) c_5
            exfalso; omega
          · have c_5 : 0 ≤ ((k : Nat) : Int) := zc_nlt (nI_toInt (by omega)) (by decide) c_5
            refine lv_iload hx hb dX11_side_56 (lv_at hl 5 rfl) ?_
            refine lv_aload_n hx hb dX11_side_58 rfl (lv_at hl 1 rfl) ?_
            refine lv_iload_n hx hb dX11_side_59 rfl (lv_at hl 4 rfl) ?_
            have hPc := hP.sub (ws' := [(om k0 a I0 J0), (oa (a 1) cI 201 kd), (oa (a 11) cI 201 mn)]) [0, 3, 4] rfl
            have hDc := hD.sub (ws' := [(om k0 a I0 J0), (oa (a 1) cI 201 kd), (oa (a 11) cI 201 mn)]) [0, 3, 4] (by decide) rfl
            have hFc := va_free (wc := [(om k0 a I0 J0), (oa (a 1) cI 201 kd), (oa (a 11) cI 201 mn)]) hD hS hA [0, 3, 4] rfl
            refine zcall (st1 := [.int (nI (eO (kd f).toInt (nN (mn f)))), .int (nI k)]) (va_runV (As := [.int (nI f)]) (rest := [.int (nI k)]) ⟨hx, hb, hml, hown, hts⟩ (k_M_edgesOf l dC dI cI cZ cF H.size k0 a I0 J0 f (nN (mn f)) kd mn (by omega) (hm_ff) (by omega)) (cwV 1 hts (zz_gV mw_1369 mw_1371 mw_41 mw_110 mc_yX11_edgesOf) rfl rfl rfl (by decide +kernel) ⟨Nat.le_of_ble_eq_true rfl, Nat.le_of_ble_eq_true rfl⟩) (zPV2 (q0 := 0) (ci := 9) hPc hDc hK hXN rfl rfl) rfl rfl hl.1 rfl (lv_room (Nat.le_of_ble_eq_true rfl)) dX11_side_60 ⟨Nat.le_of_ble_eq_true rfl, Nat.le_of_ble_eq_true rfl⟩) hS hFc hFc rfl (fun t H1 locs ht hB hk1 hS => ?_)
            obtain ⟨hP1, hD1⟩ := hB
            rw [ht] at hP1
            obtain ⟨hP, hD⟩ := va_join (wr := [(oa (a 5) cI 201 st), (oa (a 6) cZ 201 tn), (oa (a 12) cI 8040 cx), (oa (a 13) cI 8040 cy), (oa (a 32) cI 8 S0)]) (w1 := [(om k0 a I0 J0), (oa (a 1) cI 201 kd), (oa (a 11) cI 201 mn)]) hP hD [0, 3, 4] [1, 2, 5, 6, 7] rfl rfl (by decide) (by decide) hk1 hFc hP1 hD1
            clear hk1 hPc hDc hFc hP1 hD1 ht
            generalize H1 = H at hP hS ⊢
            have hP := hP.sub (ws' := [(om k0 a I0 J0), (oa (a 5) cI 201 st), (oa (a 6) cZ 201 tn), (oa (a 1) cI 201 kd), (oa (a 11) cI 201 mn), (oa (a 12) cI 8040 cx), (oa (a 13) cI 8040 cy), (oa (a 32) cI 8 S0)]) [5, 0, 1, 6, 7, 2, 3, 4] rfl
            have hD := hD.sub (ws' := [(om k0 a I0 J0), (oa (a 5) cI 201 st), (oa (a 6) cZ 201 tn), (oa (a 1) cI 201 kd), (oa (a 11) cI 201 mn), (oa (a 12) cI 8040 cx), (oa (a 13) cI 8040 cy), (oa (a 32) cI 8 S0)]) [5, 0, 1, 6, 7, 2, 3, 4] (by decide) rfl
            have hP : va_P (dC, dI) classes [(om k0 a I0 J0), (oa (a 5) cI 201 st), (oa (a 6) cZ 201 tn), (oa (a 1) cI 201 kd), (oa (a 11) cI 201 mn), (oa (a 12) cI 8040 cx), (oa (a 13) cI 8040 cy), (oa (a 32) cI 8 S0)] H := hP
            have hD : va_D A [(om k0 a I0 J0), (oa (a 5) cI 201 st), (oa (a 6) cZ 201 tn), (oa (a 1) cI 201 kd), (oa (a 11) cI 201 mn), (oa (a 12) cI 8040 cx), (oa (a 13) cI 8040 cy), (oa (a 32) cI 8 S0)] := hD
            refine lv_icmp_lt (tgt := 68) hx hb dX11_side_63 (by decide) (fun c_6 => ?_) (fun c_6 => ?_)
            · have c_6 : ((k : Nat) : Int) < ((eO (kd f).toInt (nN (mn f)) : Nat) : Int) := zc_lt (nI_toInt (by omega)) (nI_toInt (by omega)) c_6
              refine lv_aload_n hx hb dX11_side_68 rfl (lv_at hl 1 rfl) ?_
              refine lv_iload_n hx hb dX11_side_69 rfl (lv_at hl 4 rfl) ?_
              refine lv_iload hx hb dX11_side_70 (lv_at hl 5 rfl) ?_
              refine lv_iconst (v := 0) hx hb dX11_side_72 (by decide) ?_
              have hPc := hP.sub (ws' := [(om k0 a I0 J0), (oa (a 11) cI 201 mn), (oa (a 12) cI 8040 cx), (oa (a 13) cI 8040 cy), (oa (a 32) cI 8 S0)]) [0, 4, 5, 6, 7] rfl
              have hDc := hD.sub (ws' := [(om k0 a I0 J0), (oa (a 11) cI 201 mn), (oa (a 12) cI 8040 cx), (oa (a 13) cI 8040 cy), (oa (a 32) cI 8 S0)]) [0, 4, 5, 6, 7] (by decide) rfl
              have hFc := va_free (wc := [(om k0 a I0 J0), (oa (a 11) cI 201 mn), (oa (a 12) cI 8040 cx), (oa (a 13) cI 8040 cy), (oa (a 32) cI 8 S0)]) hD hS hA [0, 4, 5, 6, 7] rfl
              refine zcall (st1 := []) (va_runV (As := [.int (nI f), .int (nI k), .int 0]) (rest := []) ⟨hx, hb, hml, hown, hts⟩ (k_M_edge l dC dI cI cZ cF H.size k0 a I0 J0 f (nN (mn f)) k 0 mn cx cy S0 (by omega) (hm_ff) (by omega) (by omega) (by omega)) (cwV 3 hts (zz_gV mw_1373 mw_1375 mw_42 mw_110 mc_yX11_edge) rfl rfl rfl (by decide +kernel) ⟨Nat.le_of_ble_eq_true rfl, Nat.le_of_ble_eq_true rfl⟩) (zPV2 (q0 := 0) (ci := 9) hPc hDc hK hXN rfl rfl) rfl rfl hl.1 rfl (lv_room (Nat.le_of_ble_eq_true rfl)) dX11_side_73 ⟨Nat.le_of_ble_eq_true rfl, Nat.le_of_ble_eq_true rfl⟩) hS hFc hFc rfl (fun t H1 locs ht hB hk1 hS => ?_)
              obtain ⟨S2, t0, t1, t2, t3, tr, hP1, hD1⟩ := hB
              rw [ht] at hP1
              obtain ⟨hP, hD⟩ := va_join (wr := [(oa (a 5) cI 201 st), (oa (a 6) cZ 201 tn), (oa (a 1) cI 201 kd)]) (w1 := [(om k0 a I0 J0), (oa (a 11) cI 201 mn), (oa (a 12) cI 8040 cx), (oa (a 13) cI 8040 cy), (oa (a 32) cI 8 S2)]) hP hD [0, 4, 5, 6, 7] [1, 2, 3] rfl rfl (by decide) (by decide) hk1 hFc hP1 hD1
              clear hk1 hPc hDc hFc hP1 hD1 ht
              generalize H1 = H at hP hS ⊢
              have hP := hP.sub (ws' := [(om k0 a I0 J0), (oa (a 5) cI 201 st), (oa (a 6) cZ 201 tn), (oa (a 1) cI 201 kd), (oa (a 11) cI 201 mn), (oa (a 12) cI 8040 cx), (oa (a 13) cI 8040 cy), (oa (a 32) cI 8 S2)]) [3, 0, 1, 2, 4, 5, 6, 7] rfl
              have hD := hD.sub (ws' := [(om k0 a I0 J0), (oa (a 5) cI 201 st), (oa (a 6) cZ 201 tn), (oa (a 1) cI 201 kd), (oa (a 11) cI 201 mn), (oa (a 12) cI 8040 cx), (oa (a 13) cI 8040 cy), (oa (a 32) cI 8 S2)]) [3, 0, 1, 2, 4, 5, 6, 7] (by decide) rfl
              have hP : va_P (dC, dI) classes [(om k0 a I0 J0), (oa (a 5) cI 201 st), (oa (a 6) cZ 201 tn), (oa (a 1) cI 201 kd), (oa (a 11) cI 201 mn), (oa (a 12) cI 8040 cx), (oa (a 13) cI 8040 cy), (oa (a 32) cI 8 S2)] H := hP
              have hD : va_D A [(om k0 a I0 J0), (oa (a 5) cI 201 st), (oa (a 6) cZ 201 tn), (oa (a 1) cI 201 kd), (oa (a 11) cI 201 mn), (oa (a 12) cI 8040 cx), (oa (a 13) cI 8040 cy), (oa (a 32) cI 8 S2)] := hD
              refine lv_aload_n hx hb dX11_side_76 rfl (lv_at hl 1 rfl) ?_
              refine va_get (D := (dC, dI)) (ci := 9) (v := .ref (a 32)) (C := RX11) (T := TX11) (N := 55) hx hb hts inX11 hown hK hP 0 rfl rfl 32 (by decide) (hts _ mw_1191) (fun _ h9 => h9) rfl dX11_side_77 ?_
              refine lv_iconst (v := 0) hx hb dX11_side_80 (by decide) ?_
              refine z_iald hx hb hK hP 7 0 rfl rfl (e := 0) rfl (by omega) (by omega) dX11_side_81 ?_
              refine zz_i (v := cF40 cx f k) (t0) ?_
              refine lv_i2l (v := (cF40 cx f k).toInt64) hx hb dX11_side_82 (rfl) ?_
              refine lv_aload_n hx hb dX11_side_83 rfl (lv_at hl 1 rfl) ?_
              refine va_get (D := (dC, dI)) (ci := 9) (v := .ref (a 32)) (C := RX11) (T := TX11) (N := 55) hx hb hts inX11 hown hK hP 0 rfl rfl 32 (by decide) (hts _ mw_1191) (fun _ h9 => h9) rfl dX11_side_84 ?_
              refine lv_iconst (v := 1) hx hb dX11_side_87 (by decide) ?_
              refine z_iald hx hb hK hP 7 0 rfl rfl (e := 1) rfl (by omega) (by omega) dX11_side_88 ?_
              refine zz_i (v := cF40 cy f k) (t1) ?_
              refine lv_i2l (v := (cF40 cy f k).toInt64) hx hb dX11_side_89 (rfl) ?_
              refine lv_aload_n hx hb dX11_side_90 rfl (lv_at hl 1 rfl) ?_
              refine va_get (D := (dC, dI)) (ci := 9) (v := .ref (a 32)) (C := RX11) (T := TX11) (N := 55) hx hb hts inX11 hown hK hP 0 rfl rfl 32 (by decide) (hts _ mw_1191) (fun _ h9 => h9) rfl dX11_side_91 ?_
              refine lv_iconst (v := 2) hx hb dX11_side_94 (by decide) ?_
              refine z_iald hx hb hK hP 7 0 rfl rfl (e := 2) rfl (by omega) (by omega) dX11_side_95 ?_
              refine zz_i (v := cF40 cx f (nxt (nN (mn f)) k)) (t2) ?_
              refine lv_i2l (v := (cF40 cx f (nxt (nN (mn f)) k)).toInt64) hx hb dX11_side_96 (rfl) ?_
              refine lv_aload_n hx hb dX11_side_97 rfl (lv_at hl 1 rfl) ?_
              refine va_get (D := (dC, dI)) (ci := 9) (v := .ref (a 32)) (C := RX11) (T := TX11) (N := 55) hx hb hts inX11 hown hK hP 0 rfl rfl 32 (by decide) (hts _ mw_1191) (fun _ h9 => h9) rfl dX11_side_98 ?_
              refine lv_iconst (v := 3) hx hb dX11_side_101 (by decide) ?_
              refine z_iald hx hb hK hP 7 0 rfl rfl (e := 3) rfl (by omega) (by omega) dX11_side_102 ?_
              refine zz_i (v := cF40 cy f (nxt (nN (mn f)) k)) (t3) ?_
              refine lv_i2l (v := (cF40 cy f (nxt (nN (mn f)) k)).toInt64) hx hb dX11_side_103 (rfl) ?_
              refine lv_iload_n hx hb dX11_side_104 rfl (lv_at hl 2 rfl) ?_
              refine lv_i2l (v := px.toInt64) hx hb dX11_side_105 (rfl) ?_
              refine lv_iload_n hx hb dX11_side_106 rfl (lv_at hl 3 rfl) ?_
              refine lv_i2l (v := py.toInt64) hx hb dX11_side_107 (rfl) ?_
              have hPc := hP.sub (ws' := []) [] rfl
              have hDc := hD.sub (ws' := []) [] (by decide) rfl
              have hFc := va_free (wc := []) hD hS hA [] rfl
              refine zcall (st1 := [.long (jI (cr (cF40 cx f k).toInt (cF40 cy f k).toInt (cF40 cx f (nxt (nN (mn f)) k)).toInt (cF40 cy f (nxt (nN (mn f)) k)).toInt px.toInt py.toInt))]) (va_runS (As := [.long ((cF40 cx f k).toInt64), .long ((cF40 cy f k).toInt64), .long ((cF40 cx f (nxt (nN (mn f)) k)).toInt64), .long ((cF40 cy f (nxt (nN (mn f)) k)).toInt64), .long px.toInt64, .long py.toInt64]) (rest := []) ⟨hx, hb, hml, hown, hts⟩ (k_M_cross l dC dI cI cZ cF H.size (cF40 cx f k) (cF40 cy f k) (cF40 cx f (nxt (nN (mn f)) k)) (cF40 cy f (nxt (nN (mn f)) k)) px py ((hp_ff k hk9).1) ((hp_ff k hk9).2) ((hp_ff _ hnx).1) ((hp_ff _ hnx).2) (hpx9) (hpy9)) (va_cwS 6 hts (zz_gS mw_1381 mw_1382 mw_110 mc_yX11_cross) rfl rfl rfl (by decide +kernel) ⟨Nat.le_of_ble_eq_true rfl, Nat.le_of_ble_eq_true rfl⟩) (zPS2 hPc hDc hK hXN) rfl rfl hl.1 rfl (lv_room (Nat.le_of_ble_eq_true rfl)) dX11_side_108 ⟨Nat.le_of_ble_eq_true rfl, Nat.le_of_ble_eq_true rfl⟩) hS hFc hFc rfl (fun t H1 locs ht hB hk1 hS => ?_)
              obtain ⟨hP1, hD1⟩ := hB
              rw [ht] at hP1
              obtain ⟨hP, hD⟩ := va_join (wr := [(om k0 a I0 J0), (oa (a 5) cI 201 st), (oa (a 6) cZ 201 tn), (oa (a 1) cI 201 kd), (oa (a 11) cI 201 mn), (oa (a 12) cI 8040 cx), (oa (a 13) cI 8040 cy), (oa (a 32) cI 8 S2)]) (w1 := []) hP hD [] [0, 1, 2, 3, 4, 5, 6, 7] rfl rfl (by decide) (by decide) hk1 hFc hP1 hD1
              clear hk1 hPc hDc hFc hP1 hD1 ht
              generalize H1 = H at hP hS ⊢
              have hP : va_P (dC, dI) classes [(om k0 a I0 J0), (oa (a 5) cI 201 st), (oa (a 6) cZ 201 tn), (oa (a 1) cI 201 kd), (oa (a 11) cI 201 mn), (oa (a 12) cI 8040 cx), (oa (a 13) cI 8040 cy), (oa (a 32) cI 8 S2)] H := hP
              have hD : va_D A [(om k0 a I0 J0), (oa (a 5) cI 201 st), (oa (a 6) cZ 201 tn), (oa (a 1) cI 201 kd), (oa (a 11) cI 201 mn), (oa (a 12) cI 8040 cx), (oa (a 13) cI 8040 cy), (oa (a 32) cI 8 S2)] := hD
              refine zz_l (v := jI (eCr (nN (mn f)) (cF40 cx f) (cF40 cy f) k px.toInt py.toInt)) (rfl) ?_
              have hPc := hP.sub (ws' := []) [] rfl
              have hDc := hD.sub (ws' := []) [] (by decide) rfl
              have hFc := va_free (wc := []) hD hS hA [] rfl
              refine zcall (st1 := [.int (iI (sg (eCr (nN (mn f)) (cF40 cx f) (cF40 cy f) k px.toInt py.toInt)))]) (va_runS (As := [.long (jI (eCr (nN (mn f)) (cF40 cx f) (cF40 cy f) k px.toInt py.toInt))]) (rest := []) ⟨hx, hb, hml, hown, hts⟩ (k_M_signOf l dC dI cI cZ cF H.size (eCr (nN (mn f)) (cF40 cx f) (cF40 cy f) k px.toInt py.toInt) (hB)) (va_cwS 1 hts (zz_gS mw_1391 mw_1392 mw_110 mc_yX11_signOf) rfl rfl rfl (by decide +kernel) ⟨Nat.le_of_ble_eq_true rfl, Nat.le_of_ble_eq_true rfl⟩) (zPS2 hPc hDc hK hXN) rfl rfl hl.1 rfl (lv_room (Nat.le_of_ble_eq_true rfl)) dX11_side_111 ⟨Nat.le_of_ble_eq_true rfl, Nat.le_of_ble_eq_true rfl⟩) hS hFc hFc rfl (fun t H1 locs ht hB hk1 hS => ?_)
              obtain ⟨hP1, hD1⟩ := hB
              rw [ht] at hP1
              obtain ⟨hP, hD⟩ := va_join (wr := [(om k0 a I0 J0), (oa (a 5) cI 201 st), (oa (a 6) cZ 201 tn), (oa (a 1) cI 201 kd), (oa (a 11) cI 201 mn), (oa (a 12) cI 8040 cx), (oa (a 13) cI 8040 cy), (oa (a 32) cI 8 S2)]) (w1 := []) hP hD [] [0, 1, 2, 3, 4, 5, 6, 7] rfl rfl (by decide) (by decide) hk1 hFc hP1 hD1
              clear hk1 hPc hDc hFc hP1 hD1 ht
              generalize H1 = H at hP hS ⊢
              have hP : va_P (dC, dI) classes [(om k0 a I0 J0), (oa (a 5) cI 201 st), (oa (a 6) cZ 201 tn), (oa (a 1) cI 201 kd), (oa (a 11) cI 201 mn), (oa (a 12) cI 8040 cx), (oa (a 13) cI 8040 cy), (oa (a 32) cI 8 S2)] H := hP
              have hD : va_D A [(om k0 a I0 J0), (oa (a 5) cI 201 st), (oa (a 6) cZ 201 tn), (oa (a 1) cI 201 kd), (oa (a 11) cI 201 mn), (oa (a 12) cI 8040 cx), (oa (a 13) cI 8040 cy), (oa (a 32) cI 8 S2)] := hD
              have hP9 := hP.sub (ws' := [(om k0 a I0 J0), (oa (a 5) cI 201 st), (oa (a 6) cZ 201 tn), (oa (a 1) cI 201 kd), (oa (a 11) cI 201 mn), (oa (a 12) cI 8040 cx), (oa (a 13) cI 8040 cy), (oa (a 32) cI 8 S2)]) [0, 1, 2, 3, 4, 5, 6, 7] rfl
              have hD9 := hD.sub (ws' := [(om k0 a I0 J0), (oa (a 5) cI 201 st), (oa (a 6) cZ 201 tn), (oa (a 1) cI 201 kd), (oa (a 11) cI 201 mn), (oa (a 12) cI 8040 cx), (oa (a 13) cI 8040 cy), (oa (a 32) cI 8 S2)]) [0, 1, 2, 3, 4, 5, 6, 7] (by decide) rfl
              rw [hQ9]
              exact W.iret (v := iI (sg (eCr (nN (mn f)) (cF40 cx f) (cF40 cy f) k px.toInt py.toInt))) hx hb hr (fun t ht hW => ⟨⟨rfl, S2, by rw [ht]; exact hP9, hD9⟩, hS.F ht⟩) hS.2.2 dX11_side_114
            · have c_6 : ((eO (kd f).toInt (nN (mn f)) : Nat) : Int) ≤ ((k : Nat) : Int) := zc_nlt (nI_toInt (by omega)) (nI_toInt (by omega)) c_6
              exfalso; omega
  refine lv_iload_n hx hb dX11_side_0 rfl (lv_at hl 1 rfl) ?_
  refine lv_if_lt (tgt := 26) hx hb dX11_side_1 (by decide) (fun c_7 => ?_) (fun c_7 => ?_)
  · have c_7 : px.toInt < 0 := zc_lt rfl (by decide) c_7
    refine lv_iconst (v := 0) hx hb dX11_side_26 (by decide) ?_
    refine zz_i (v := pI (0 ≤ px.toInt ∧ px.toInt ≤ 1000 ∧ 0 ≤ py.toInt ∧ py.toInt ≤ 1000)) (by first | exact (zp_t (by omega)).symm | exact (zp_f (by omega)).symm) ?_
    exact hj_1 
  · have c_7 : 0 ≤ px.toInt := zc_nlt rfl (by decide) c_7
    refine lv_iload_n hx hb dX11_side_4 rfl (lv_at hl 1 rfl) ?_
    refine lv_sipush (v := 1000) hx hb dX11_side_5 (by decide) ?_
    refine lv_icmp_gt (tgt := 26) hx hb dX11_side_8 (by decide) (fun c_8 => ?_) (fun c_8 => ?_)
    · have c_8 : 1000 < px.toInt := zc_lt (by decide) rfl c_8
      refine lv_iconst (v := 0) hx hb dX11_side_26 (by decide) ?_
      refine zz_i (v := pI (0 ≤ px.toInt ∧ px.toInt ≤ 1000 ∧ 0 ≤ py.toInt ∧ py.toInt ≤ 1000)) (by first | exact (zp_t (by omega)).symm | exact (zp_f (by omega)).symm) ?_
      exact hj_1 
    · have c_8 : px.toInt ≤ 1000 := zc_nlt (by decide) rfl c_8
      refine lv_iload_n hx hb dX11_side_11 rfl (lv_at hl 2 rfl) ?_
      refine lv_if_lt (tgt := 26) hx hb dX11_side_12 (by decide) (fun c_9 => ?_) (fun c_9 => ?_)
      · have c_9 : py.toInt < 0 := zc_lt rfl (by decide) c_9
        refine lv_iconst (v := 0) hx hb dX11_side_26 (by decide) ?_
        refine zz_i (v := pI (0 ≤ px.toInt ∧ px.toInt ≤ 1000 ∧ 0 ≤ py.toInt ∧ py.toInt ≤ 1000)) (by first | exact (zp_t (by omega)).symm | exact (zp_f (by omega)).symm) ?_
        exact hj_1 
      · have c_9 : 0 ≤ py.toInt := zc_nlt rfl (by decide) c_9
        refine lv_iload_n hx hb dX11_side_15 rfl (lv_at hl 2 rfl) ?_
        refine lv_sipush (v := 1000) hx hb dX11_side_16 (by decide) ?_
        refine lv_icmp_gt (tgt := 26) hx hb dX11_side_19 (by decide) (fun c_10 => ?_) (fun c_10 => ?_)
        · have c_10 : 1000 < py.toInt := zc_lt (by decide) rfl c_10
          refine lv_iconst (v := 0) hx hb dX11_side_26 (by decide) ?_
          refine zz_i (v := pI (0 ≤ px.toInt ∧ px.toInt ≤ 1000 ∧ 0 ≤ py.toInt ∧ py.toInt ≤ 1000)) (by first | exact (zp_t (by omega)).symm | exact (zp_f (by omega)).symm) ?_
          exact hj_1 
        · have c_10 : py.toInt ≤ 1000 := zc_nlt (by decide) rfl c_10
          refine lv_iconst (v := 1) hx hb dX11_side_22 (by decide) ?_
          refine lv_goto (tgt := 27) hx hb dX11_side_23 (by decide) ?_
          refine zz_i (v := pI (0 ≤ px.toInt ∧ px.toInt ≤ 1000 ∧ 0 ≤ py.toInt ∧ py.toInt ≤ 1000)) (by first | exact (zp_t (by omega)).symm | exact (zp_f (by omega)).symm) ?_
          exact hj_1 
set_option maxHeartbeats 4000000 in
set_option maxRecDepth 100000 in
theorem k_M_isRoad (l : Launch) (dC : Nat → ClassId) (dI : Nat → Nat → Nat) (cI cZ cF : ClassId) (sz : Nat) (k0 : Nat) (a : Nat → Nat) (I0 : Nat → Int32) (J0 : Nat → Int64) (f : Nat) (ft : Nat) (st : Nat → Int32) (tn : Nat → Int32) (kd : Nat → Int32) (hft : I0 0 = nI ft) (h200 : ft ≤ 200) (hf_t : f < ft) : Met l yX11_isRoad (.code yX11_isRoad cX11_isRoad 2 (some .boolean) :: ws0) ({ frames := 2, cells := 0, slots := 0, locals := 42 } : Room) (va_Pc [.ref k0, .int (nI f)] (zPre (dC, dI) classes (zTy cI cZ cF) [(om k0 a I0 J0), (oa (a 5) cI 201 st), (oa (a 6) cZ 201 tn), (oa (a 1) cI 201 kd)] sz zXN)) (zQ (some (.int (pI (lvF ft st tn f ∧ (kd f).toInt = 3)))) (fun t => va_P (dC, dI) classes [(om k0 a I0 J0), (oa (a 5) cI 201 st), (oa (a 6) cZ 201 tn), (oa (a 1) cI 201 kd)] t.heap ∧ va_D (va_A [(om k0 a I0 J0), (oa (a 5) cI 201 st), (oa (a 6) cZ 201 tn), (oa (a 1) cI 201 kd)] sz) [(om k0 a I0 J0), (oa (a 5) cI 201 st), (oa (a 6) cZ 201 tn), (oa (a 1) cI 201 kd)]) (va_A [(om k0 a I0 J0), (oa (a 5) cI 201 st), (oa (a 6) cZ 201 tn), (oa (a 1) cI 201 kd)] sz)) 0 0 (va_A [(om k0 a I0 J0), (oa (a 5) cI 201 st), (oa (a 6) cZ 201 tn), (oa (a 1) cI 201 kd)] sz) := by
  refine Met.ofW (cc := cX11_isRoad) (maxL := 2) (ret := (some .boolean)) (by decide) rfl ?_
  intro p e s m args below meth c s₁ B hml hv
  obtain ⟨rfl, hsz, hP, hK, hD0, hXN⟩ := hv
  have hx := B.exec
  have hb := B.bytes
  have hr := B.returns
  have hts0 := atoms_spec (ws := .code yX11_isRoad cX11_isRoad 2 (some .boolean) :: ws0) B.pre
  have hts : ∀ w9 ∈ ws0, w9.before ([.ref k0, .int (nI f)] : List Value).toArray s = true := fun w9 h => hts0 w9 (List.mem_cons_of_mem _ h)
  have hown : s.vm.findClass "ScaleShopModel" = some m.cls := findClass_of_methodNamed B.named
  have hlocks := B.notSynchronized
  subst hsz
  have hD := hD0.self (sz := s.heap.size)
  clear hD0
  generalize hAe : va_A [(om k0 a I0 J0), (oa (a 5) cI 201 st), (oa (a 6) cZ 201 tn), (oa (a 1) cI 201 kd)] s.heap.size = A at hD ⊢
  have hA : ∀ q : Nat, s.heap.size ≤ q → A q := fun q h => by rw [← hAe]; exact Or.inr h
  clear hAe
  have hS : va_S A s.heap s.heap [] := va_S.rf
  have hP : va_P (dC, dI) classes [(om k0 a I0 J0), (oa (a 5) cI 201 st), (oa (a 6) cZ 201 tn), (oa (a 1) cI 201 kd)] s.heap := hP
  obtain ⟨Q9, hQ9⟩ : ∃ Q9 : State → Prop, Q9 = MQ below (zQ (some (.int (pI (lvF ft st tn f ∧ (kd f).toInt = 3)))) (fun t => va_P (dC, dI) classes [(om k0 a I0 J0), (oa (a 5) cI 201 st), (oa (a 6) cZ 201 tn), (oa (a 1) cI 201 kd)] t.heap ∧ va_D A [(om k0 a I0 J0), (oa (a 5) cI 201 st), (oa (a 6) cZ 201 tn), (oa (a 1) cI 201 kd)]) A) ([.ref k0, .int (nI f)] : List Value).toArray s 0 0 A := ⟨_, rfl⟩
  rw [← hQ9]
  have hl := lv_entry ([.ref k0, .int (nI f)]) (n := 2) (Nat.le_of_ble_eq_true rfl)
  rw [lg_entry_eq]
  generalize (lg_sl ([.ref k0, .int (nI f)]) ++ List.replicate (2 - (lg_sl ([.ref k0, .int (nI f)])).length) Slot.unset).toArray = ls at hl ⊢
  have hl : lv_has ls 2 [(0, .ref k0), (1, .int (nI f))] := hl
  refine lv_aload_n hx hb dX11_isRoad_0 rfl (lv_at hl 0 rfl) ?_
  refine lv_iload_n hx hb dX11_isRoad_1 rfl (lv_at hl 1 rfl) ?_
  have hPc := hP.sub (ws' := [(om k0 a I0 J0), (oa (a 5) cI 201 st), (oa (a 6) cZ 201 tn)]) [0, 1, 2] rfl
  have hDc := hD.sub (ws' := [(om k0 a I0 J0), (oa (a 5) cI 201 st), (oa (a 6) cZ 201 tn)]) [0, 1, 2] (by decide) rfl
  have hFc := va_free (wc := [(om k0 a I0 J0), (oa (a 5) cI 201 st), (oa (a 6) cZ 201 tn)]) hD hS hA [0, 1, 2] rfl
  refine zcall (st1 := [.int (pI (f < ft ∧ (st f).toInt = 1 ∧ (tn f).toInt = 0))]) (va_runV (As := [.int (nI f)]) (rest := []) ⟨hx, hb, hml, hown, hts⟩ (k_M_is_n l dC dI cI cZ cF s.heap.size k0 a I0 J0 f ft st tn (by assumption) (by omega) (by omega)) (cwV 1 hts (zz_gV mw_1447 mw_1449 mw_56 mw_110 mc_yX11_is) rfl rfl rfl (by decide +kernel) ⟨Nat.le_of_ble_eq_true rfl, Nat.le_of_ble_eq_true rfl⟩) (zPV2 (q0 := 0) (ci := 9) hPc hDc hK hXN rfl rfl) rfl rfl hl.1 rfl (lv_room (Nat.le_of_ble_eq_true rfl)) dX11_isRoad_2 ⟨Nat.le_of_ble_eq_true rfl, Nat.le_of_ble_eq_true rfl⟩) hS hFc hFc rfl (fun t H1 locs ht hB hk1 hS => ?_)
  obtain ⟨hP1, hD1⟩ := hB
  rw [ht] at hP1
  obtain ⟨hP, hD⟩ := va_join (wr := [(oa (a 1) cI 201 kd)]) (w1 := [(om k0 a I0 J0), (oa (a 5) cI 201 st), (oa (a 6) cZ 201 tn)]) hP hD [0, 1, 2] [3] rfl rfl (by decide) (by decide) hk1 hFc hP1 hD1
  clear hk1 hPc hDc hFc hP1 hD1 ht
  generalize H1 = H at hP hS ⊢
  have hP := hP.sub (ws' := [(om k0 a I0 J0), (oa (a 5) cI 201 st), (oa (a 6) cZ 201 tn), (oa (a 1) cI 201 kd)]) [1, 2, 3, 0] rfl
  have hD := hD.sub (ws' := [(om k0 a I0 J0), (oa (a 5) cI 201 st), (oa (a 6) cZ 201 tn), (oa (a 1) cI 201 kd)]) [1, 2, 3, 0] (by decide) rfl
  have hP : va_P (dC, dI) classes [(om k0 a I0 J0), (oa (a 5) cI 201 st), (oa (a 6) cZ 201 tn), (oa (a 1) cI 201 kd)] H := hP
  have hD : va_D A [(om k0 a I0 J0), (oa (a 5) cI 201 st), (oa (a 6) cZ 201 tn), (oa (a 1) cI 201 kd)] := hD
  refine lv_if_eq (tgt := 22) hx hb dX11_isRoad_5 (by decide) (fun c_1 => ?_) (fun c_1 => ?_)
  · have c_1 : ¬ (f < ft ∧ (st f).toInt = 1 ∧ (tn f).toInt = 0) := zp_0 c_1
    refine lv_iconst (v := 0) hx hb dX11_isRoad_22 (by decide) ?_
    have hP9 := hP.sub (ws' := [(om k0 a I0 J0), (oa (a 5) cI 201 st), (oa (a 6) cZ 201 tn), (oa (a 1) cI 201 kd)]) [0, 1, 2, 3] rfl
    have hD9 := hD.sub (ws' := [(om k0 a I0 J0), (oa (a 5) cI 201 st), (oa (a 6) cZ 201 tn), (oa (a 1) cI 201 kd)]) [0, 1, 2, 3] (by decide) rfl
    rw [hQ9]
    exact W.zret (ty := .boolean) (v := 0) hx hb hr (rfl) (fun t ht hW => ⟨⟨congrArg (fun z => Outcome.returned (some (Value.int z))) (show (0 : Int32) = pI (lvF ft st tn f ∧ (kd f).toInt = 3) from (zp_f (by first | exact ⟨by assumption, by omega⟩ | exact fun h => absurd h.1 (by assumption) | exact fun h => absurd h.2 (by omega))).symm), by rw [ht]; exact hP9, hD9⟩, hS.F ht⟩) hS.2.2 dX11_isRoad_23
  · have c_1 : f < ft ∧ (st f).toInt = 1 ∧ (tn f).toInt = 0 := zp_1 c_1
    refine lv_aload_n hx hb dX11_isRoad_8 rfl (lv_at hl 0 rfl) ?_
    refine va_get (D := (dC, dI)) (ci := 9) (v := .ref (a 1)) (C := RX11) (T := TX11) (N := 55) hx hb hts inX11 hown hK hP 0 rfl rfl 1 (by decide) (hts _ mw_1160) (fun _ h9 => h9) rfl dX11_isRoad_9 ?_
    refine lv_iload_n hx hb dX11_isRoad_12 rfl (lv_at hl 1 rfl) ?_
    refine z_iald hx hb hK hP 3 0 rfl rfl (e := f) rfl (by omega) (by omega) dX11_isRoad_13 ?_
    refine lv_iconst (v := 3) hx hb dX11_isRoad_14 (by decide) ?_
    refine lv_icmp_ne (tgt := 22) hx hb dX11_isRoad_15 (by decide) (fun c_2 => ?_) (fun c_2 => ?_)
    · have c_2 : ¬ (kd f).toInt = 3 := zc_ne rfl (by decide) c_2
      refine lv_iconst (v := 0) hx hb dX11_isRoad_22 (by decide) ?_
      have hP9 := hP.sub (ws' := [(om k0 a I0 J0), (oa (a 5) cI 201 st), (oa (a 6) cZ 201 tn), (oa (a 1) cI 201 kd)]) [0, 1, 2, 3] rfl
      have hD9 := hD.sub (ws' := [(om k0 a I0 J0), (oa (a 5) cI 201 st), (oa (a 6) cZ 201 tn), (oa (a 1) cI 201 kd)]) [0, 1, 2, 3] (by decide) rfl
      rw [hQ9]
      exact W.zret (ty := .boolean) (v := 0) hx hb hr (rfl) (fun t ht hW => ⟨⟨congrArg (fun z => Outcome.returned (some (Value.int z))) (show (0 : Int32) = pI (lvF ft st tn f ∧ (kd f).toInt = 3) from (zp_f (by first | exact ⟨by assumption, by omega⟩ | exact fun h => absurd h.1 (by assumption) | exact fun h => absurd h.2 (by omega))).symm), by rw [ht]; exact hP9, hD9⟩, hS.F ht⟩) hS.2.2 dX11_isRoad_23
    · have c_2 : (kd f).toInt = 3 := zc_eq rfl (by decide) c_2
      refine lv_iconst (v := 1) hx hb dX11_isRoad_18 (by decide) ?_
      refine lv_goto (tgt := 23) hx hb dX11_isRoad_19 (by decide) ?_
      have hP9 := hP.sub (ws' := [(om k0 a I0 J0), (oa (a 5) cI 201 st), (oa (a 6) cZ 201 tn), (oa (a 1) cI 201 kd)]) [0, 1, 2, 3] rfl
      have hD9 := hD.sub (ws' := [(om k0 a I0 J0), (oa (a 5) cI 201 st), (oa (a 6) cZ 201 tn), (oa (a 1) cI 201 kd)]) [0, 1, 2, 3] (by decide) rfl
      rw [hQ9]
      exact W.zret (ty := .boolean) (v := 1) hx hb hr (rfl) (fun t ht hW => ⟨⟨congrArg (fun z => Outcome.returned (some (Value.int z))) (show (1 : Int32) = pI (lvF ft st tn f ∧ (kd f).toInt = 3) from (zp_t (by first | exact ⟨by assumption, by omega⟩ | exact fun h => absurd h.1 (by assumption) | exact fun h => absurd h.2 (by omega))).symm), by rw [ht]; exact hP9, hD9⟩, hS.F ht⟩) hS.2.2 dX11_isRoad_23
set_option maxHeartbeats 4000000 in
set_option maxRecDepth 100000 in
theorem k_M_count_0 (l : Launch) (dC : Nat → ClassId) (dI : Nat → Nat → Nat) (cI cZ cF : ClassId) (sz : Nat) (k0 : Nat) (a : Nat → Nat) (I0 : Nat → Int32) (J0 : Nat → Int64) (ft : Nat) (st : Nat → Int32) (tn : Nat → Int32) (mn : Nat → Int32) (hft : I0 0 = nI ft) (h200 : ft ≤ 200) (hmw : ∀ q, lvF ft st tn q → mn q = nI (nN (mn q)) ∧ nN (mn q) ≤ 40) : Met l yX11_count (.code yX11_count cX11_count 7 (some .int) :: ws0) ({ frames := 2, cells := 0, slots := 0, locals := 42 } : Room) (va_Pc [.ref k0, .int 0] (zPre (dC, dI) classes (zTy cI cZ cF) [(om k0 a I0 J0), (oa (a 5) cI 201 st), (oa (a 6) cZ 201 tn), (oa (a 11) cI 201 mn)] sz zXN)) (zQ (some (.int (nI ft))) (fun t => va_P (dC, dI) classes [(om k0 a I0 J0), (oa (a 5) cI 201 st), (oa (a 6) cZ 201 tn), (oa (a 11) cI 201 mn)] t.heap ∧ va_D (va_A [(om k0 a I0 J0), (oa (a 5) cI 201 st), (oa (a 6) cZ 201 tn), (oa (a 11) cI 201 mn)] sz) [(om k0 a I0 J0), (oa (a 5) cI 201 st), (oa (a 6) cZ 201 tn), (oa (a 11) cI 201 mn)]) (va_A [(om k0 a I0 J0), (oa (a 5) cI 201 st), (oa (a 6) cZ 201 tn), (oa (a 11) cI 201 mn)] sz)) 0 0 (va_A [(om k0 a I0 J0), (oa (a 5) cI 201 st), (oa (a 6) cZ 201 tn), (oa (a 11) cI 201 mn)] sz) := by
  refine Met.ofW (cc := cX11_count) (maxL := 7) (ret := (some .int)) (by decide) rfl ?_
  intro p e s m args below meth c s₁ B hml hv
  obtain ⟨rfl, hsz, hP, hK, hD0, hXN⟩ := hv
  have hx := B.exec
  have hb := B.bytes
  have hr := B.returns
  have hts0 := atoms_spec (ws := .code yX11_count cX11_count 7 (some .int) :: ws0) B.pre
  have hts : ∀ w9 ∈ ws0, w9.before ([.ref k0, .int 0] : List Value).toArray s = true := fun w9 h => hts0 w9 (List.mem_cons_of_mem _ h)
  have hown : s.vm.findClass "ScaleShopModel" = some m.cls := findClass_of_methodNamed B.named
  have hlocks := B.notSynchronized
  subst hsz
  have hD := hD0.self (sz := s.heap.size)
  clear hD0
  generalize hAe : va_A [(om k0 a I0 J0), (oa (a 5) cI 201 st), (oa (a 6) cZ 201 tn), (oa (a 11) cI 201 mn)] s.heap.size = A at hD ⊢
  have hA : ∀ q : Nat, s.heap.size ≤ q → A q := fun q h => by rw [← hAe]; exact Or.inr h
  clear hAe
  have hS : va_S A s.heap s.heap [] := va_S.rf
  have hP : va_P (dC, dI) classes [(om k0 a I0 J0), (oa (a 5) cI 201 st), (oa (a 6) cZ 201 tn), (oa (a 11) cI 201 mn)] s.heap := hP
  obtain ⟨Q9, hQ9⟩ : ∃ Q9 : State → Prop, Q9 = MQ below (zQ (some (.int (nI ft))) (fun t => va_P (dC, dI) classes [(om k0 a I0 J0), (oa (a 5) cI 201 st), (oa (a 6) cZ 201 tn), (oa (a 11) cI 201 mn)] t.heap ∧ va_D A [(om k0 a I0 J0), (oa (a 5) cI 201 st), (oa (a 6) cZ 201 tn), (oa (a 11) cI 201 mn)]) A) ([.ref k0, .int 0] : List Value).toArray s 0 0 A := ⟨_, rfl⟩
  rw [← hQ9]
  have hl := lv_entry ([.ref k0, .int 0]) (n := 7) (Nat.le_of_ble_eq_true rfl)
  rw [lg_entry_eq]
  generalize (lg_sl ([.ref k0, .int 0]) ++ List.replicate (7 - (lg_sl ([.ref k0, .int 0])).length) Slot.unset).toArray = ls at hl ⊢
  have hl : lv_has ls 7 [(0, .ref k0), (1, .int 0)] := hl
  refine lv_iconst (v := 0) hx hb dX11_count_0 (by decide) ?_
  refine lv_istore_n (lv' := [(2, .int 0), (0, .ref k0), (1, .int 0)]) hx hb dX11_count_1 rfl hl (by decide) rfl (fun ls hl => ?_)
  refine lv_iconst (v := 0) hx hb dX11_count_2 (by decide) ?_
  refine lv_istore_n (lv' := [(3, .int 0), (2, .int 0), (0, .ref k0), (1, .int 0)]) hx hb dX11_count_3 rfl hl (by decide) rfl (fun ls hl => ?_)
  refine lv_iconst (v := 0) hx hb dX11_count_4 (by decide) ?_
  refine lv_istore (lv' := [(4, .int 0), (3, .int 0), (2, .int 0), (0, .ref k0), (1, .int 0)]) hx hb dX11_count_5 hl (by decide) rfl (fun ls hl => ?_)
  refine lv_iconst (v := 0) hx hb dX11_count_7 (by decide) ?_
  refine lv_istore (lv' := [(5, .int 0), (4, .int 0), (3, .int 0), (2, .int 0), (0, .ref k0), (1, .int 0)]) hx hb dX11_count_8 hl (by decide) rfl (fun ls hl => ?_)
  refine lv_iconst (v := 0) hx hb dX11_count_10 (by decide) ?_
  refine lv_istore (lv' := [(6, .int 0), (5, .int 0), (4, .int 0), (3, .int 0), (2, .int 0), (0, .ref k0), (1, .int 0)]) hx hb dX11_count_11 hl (by decide) rfl (fun ls hl => ?_)
  have hl_13 : ∀ (n9 : Nat) (q : Nat) (H : Heap) (locs : List Loc) (ls : Array Slot), ft - q < n9 → (q ≤ ft) → va_P (dC, dI) classes [(om k0 a I0 J0), (oa (a 5) cI 201 st), (oa (a 6) cZ 201 tn), (oa (a 11) cI 201 mn)] H → va_D A [(om k0 a I0 J0), (oa (a 5) cI 201 st), (oa (a 6) cZ 201 tn), (oa (a 11) cI 201 mn)] → va_S A s.heap H locs → lv_has ls 7 [(6, .int (nI q)), (5, .int (nI (smP (lvF ft st tn) (fun g => nN (mn g)) q))), (4, .int (nI (cntP (fun g => ¬ (tn g).toInt = 0) q))), (3, .int (nI (cntP (fun g => (st g).toInt = 2) q))), (2, .int (nI (cntP (fun g => (st g).toInt = 1) q))), (0, .ref k0), (1, .int 0)] → W p l e ((headSpec (.code yX11_count cX11_count 7 (some .int) :: ws0) ({ frames := 2, cells := 0, slots := 0, locals := 42 } : Room)).room) s m ([.ref k0, .int 0] : List Value).toArray below meth c H locs 0 0 Q9 (F0 m 13 ls []) := by
    intro n9
    induction n9 with
    | zero => intro q H locs ls hm; exact absurd hm (Nat.not_lt_zero _)
    | succ n9 ih_13 =>
      intro q H locs ls hm hq hP hD hS hl
      have hc2 := cntP_b (fun g => (st g).toInt = 1) q
      have hc3 := cntP_b (fun g => (st g).toInt = 2) q
      have hc4 := cntP_b (fun g => ¬ (tn g).toInt = 0) q
      have hc5 := smP_b (P := lvF ft st tn) (c := fun g => nN (mn g)) q (fun j _ h => (hmw j h).2)
      refine lv_iload hx hb dX11_count_13 (lv_at hl 0 rfl) ?_
      refine lv_aload_n hx hb dX11_count_15 rfl (lv_at hl 5 rfl) ?_
      refine va_get (D := (dC, dI)) (ci := 9) (v := .int (I0 0)) (C := RX11) (T := TX11) (N := 55) hx hb hts inX11 hown hK hP 0 rfl rfl 0 (by decide) (hts _ mw_1159) (fun _ h9 => h9) rfl dX11_count_16 ?_
      refine zz_i (v := nI ft) (hft) ?_
      refine lv_icmp_ge (tgt := 111) hx hb dX11_count_19 (by decide) (fun c_1 => ?_) (fun c_1 => ?_)
      · have c_1 : ((ft : Nat) : Int) ≤ ((q : Nat) : Int) := zc_le (nI_toInt (by omega)) (nI_toInt (by omega)) c_1
        refine lv_iload_n hx hb dX11_count_111 rfl (lv_at hl 6 rfl) ?_
        refine lv_tableIn (tgt := 160) (off := 48) hx hb dX11_count_112 (by decide) (by decide) (by decide) (by decide) ?_
        refine lv_aload_n hx hb dX11_count_160 rfl (lv_at hl 5 rfl) ?_
        refine va_get (D := (dC, dI)) (ci := 9) (v := .int (I0 0)) (C := RX11) (T := TX11) (N := 55) hx hb hts inX11 hown hK hP 0 rfl rfl 0 (by decide) (hts _ mw_1159) (fun _ h9 => h9) rfl dX11_count_161 ?_
        refine zz_i (v := nI ft) (hft) ?_
        have hP9 := hP.sub (ws' := [(om k0 a I0 J0), (oa (a 5) cI 201 st), (oa (a 6) cZ 201 tn), (oa (a 11) cI 201 mn)]) [0, 1, 2, 3] rfl
        have hD9 := hD.sub (ws' := [(om k0 a I0 J0), (oa (a 5) cI 201 st), (oa (a 6) cZ 201 tn), (oa (a 11) cI 201 mn)]) [0, 1, 2, 3] (by decide) rfl
        rw [hQ9]
        exact W.iret (v := nI ft) hx hb hr (fun t ht hW => ⟨⟨rfl, by rw [ht]; exact hP9, hD9⟩, hS.F ht⟩) hS.2.2 dX11_count_164
      · have c_1 : ((q : Nat) : Int) < ((ft : Nat) : Int) := zc_nle (nI_toInt (by omega)) (nI_toInt (by omega)) c_1
        refine lv_iload_n hx hb dX11_count_22 rfl (lv_at hl 4 rfl) ?_
        refine lv_aload_n hx hb dX11_count_23 rfl (lv_at hl 5 rfl) ?_
        refine va_get (D := (dC, dI)) (ci := 9) (v := .ref (a 5)) (C := RX11) (T := TX11) (N := 55) hx hb hts inX11 hown hK hP 0 rfl rfl 5 (by decide) (hts _ mw_1164) (fun _ h9 => h9) rfl dX11_count_24 ?_
        refine lv_iload hx hb dX11_count_27 (lv_at hl 0 rfl) ?_
        refine z_iald hx hb hK hP 1 0 rfl rfl (e := q) rfl (by omega) (by omega) dX11_count_29 ?_
        refine lv_iconst (v := 1) hx hb dX11_count_30 (by decide) ?_
        refine lv_icmp_ne (tgt := 38) hx hb dX11_count_31 (by decide) (fun c_2 => ?_) (fun c_2 => ?_)
        · have c_2 : ¬ (st q).toInt = 1 := zc_ne rfl (by decide) c_2
          refine lv_iconst (v := 0) hx hb dX11_count_38 (by decide) ?_
          refine lv_iadd hx hb dX11_count_39 ?_
          refine zz_i (v := nI ((cntP (fun g => (st g).toInt = 1) q) + 0)) (nI_add (cntP (fun g => (st g).toInt = 1) q) 0) ?_
          refine lv_istore_n (lv' := [(2, .int (nI ((cntP (fun g => (st g).toInt = 1) q) + 0))), (6, .int (nI q)), (5, .int (nI (smP (lvF ft st tn) (fun g => nN (mn g)) q))), (4, .int (nI (cntP (fun g => ¬ (tn g).toInt = 0) q))), (3, .int (nI (cntP (fun g => (st g).toInt = 2) q))), (0, .ref k0), (1, .int 0)]) hx hb dX11_count_40 rfl hl (by decide) rfl (fun ls hl => ?_)
          refine lv_iload_n hx hb dX11_count_41 rfl (lv_at hl 4 rfl) ?_
          refine lv_aload_n hx hb dX11_count_42 rfl (lv_at hl 5 rfl) ?_
          refine va_get (D := (dC, dI)) (ci := 9) (v := .ref (a 5)) (C := RX11) (T := TX11) (N := 55) hx hb hts inX11 hown hK hP 0 rfl rfl 5 (by decide) (hts _ mw_1164) (fun _ h9 => h9) rfl dX11_count_43 ?_
          refine lv_iload hx hb dX11_count_46 (lv_at hl 1 rfl) ?_
          refine z_iald hx hb hK hP 1 0 rfl rfl (e := q) rfl (by omega) (by omega) dX11_count_48 ?_
          refine lv_iconst (v := 2) hx hb dX11_count_49 (by decide) ?_
          refine lv_icmp_ne (tgt := 57) hx hb dX11_count_50 (by decide) (fun c_3 => ?_) (fun c_3 => ?_)
          · have c_3 : ¬ (st q).toInt = 2 := zc_ne rfl (by decide) c_3
            refine lv_iconst (v := 0) hx hb dX11_count_57 (by decide) ?_
            refine lv_iadd hx hb dX11_count_58 ?_
            refine zz_i (v := nI ((cntP (fun g => (st g).toInt = 2) q) + 0)) (nI_add (cntP (fun g => (st g).toInt = 2) q) 0) ?_
            refine lv_istore_n (lv' := [(3, .int (nI ((cntP (fun g => (st g).toInt = 2) q) + 0))), (2, .int (nI ((cntP (fun g => (st g).toInt = 1) q) + 0))), (6, .int (nI q)), (5, .int (nI (smP (lvF ft st tn) (fun g => nN (mn g)) q))), (4, .int (nI (cntP (fun g => ¬ (tn g).toInt = 0) q))), (0, .ref k0), (1, .int 0)]) hx hb dX11_count_59 rfl hl (by decide) rfl (fun ls hl => ?_)
            refine lv_iload hx hb dX11_count_60 (lv_at hl 4 rfl) ?_
            refine lv_aload_n hx hb dX11_count_62 rfl (lv_at hl 5 rfl) ?_
            refine va_get (D := (dC, dI)) (ci := 9) (v := .ref (a 6)) (C := RX11) (T := TX11) (N := 55) hx hb hts inX11 hown hK hP 0 rfl rfl 6 (by decide) (hts _ mw_1165) (fun _ h9 => h9) rfl dX11_count_63 ?_
            refine lv_iload hx hb dX11_count_66 (lv_at hl 2 rfl) ?_
            refine z_zald hx hb hK hP 2 1 rfl rfl (e := q) rfl (by omega) (by omega) dX11_count_68 ?_
            refine lv_if_eq (tgt := 76) hx hb dX11_count_69 (by decide) (fun c_4 => ?_) (fun c_4 => ?_)
            · have c_4 : (tn q).toInt = 0 := zc_eq rfl (by decide) c_4
              refine lv_iconst (v := 0) hx hb dX11_count_76 (by decide) ?_
              refine lv_iadd hx hb dX11_count_77 ?_
              refine zz_i (v := nI ((cntP (fun g => ¬ (tn g).toInt = 0) q) + 0)) (nI_add (cntP (fun g => ¬ (tn g).toInt = 0) q) 0) ?_
              refine lv_istore (lv' := [(4, .int (nI ((cntP (fun g => ¬ (tn g).toInt = 0) q) + 0))), (3, .int (nI ((cntP (fun g => (st g).toInt = 2) q) + 0))), (2, .int (nI ((cntP (fun g => (st g).toInt = 1) q) + 0))), (6, .int (nI q)), (5, .int (nI (smP (lvF ft st tn) (fun g => nN (mn g)) q))), (0, .ref k0), (1, .int 0)]) hx hb dX11_count_78 hl (by decide) rfl (fun ls hl => ?_)
              refine lv_iload hx hb dX11_count_80 (lv_at hl 4 rfl) ?_
              refine lv_aload_n hx hb dX11_count_82 rfl (lv_at hl 5 rfl) ?_
              refine lv_iload hx hb dX11_count_83 (lv_at hl 3 rfl) ?_
              have hPc := hP.sub (ws' := [(om k0 a I0 J0), (oa (a 5) cI 201 st), (oa (a 6) cZ 201 tn)]) [0, 1, 2] rfl
              have hDc := hD.sub (ws' := [(om k0 a I0 J0), (oa (a 5) cI 201 st), (oa (a 6) cZ 201 tn)]) [0, 1, 2] (by decide) rfl
              have hFc := va_free (wc := [(om k0 a I0 J0), (oa (a 5) cI 201 st), (oa (a 6) cZ 201 tn)]) hD hS hA [0, 1, 2] rfl
              refine zcall (st1 := [.int (pI (q < ft ∧ (st q).toInt = 1 ∧ (tn q).toInt = 0)), .int (nI (smP (lvF ft st tn) (fun g => nN (mn g)) q))]) (va_runV (As := [.int (nI q)]) (rest := [.int (nI (smP (lvF ft st tn) (fun g => nN (mn g)) q))]) ⟨hx, hb, hml, hown, hts⟩ (k_M_is_n l dC dI cI cZ cF H.size k0 a I0 J0 q ft st tn (by assumption) (by omega) (by omega)) (cwV 1 hts (zz_gV mw_1447 mw_1449 mw_56 mw_110 mc_yX11_is) rfl rfl rfl (by decide +kernel) ⟨Nat.le_of_ble_eq_true rfl, Nat.le_of_ble_eq_true rfl⟩) (zPV2 (q0 := 0) (ci := 9) hPc hDc hK hXN rfl rfl) rfl rfl hl.1 rfl (lv_room (Nat.le_of_ble_eq_true rfl)) dX11_count_85 ⟨Nat.le_of_ble_eq_true rfl, Nat.le_of_ble_eq_true rfl⟩) hS hFc hFc rfl (fun t H1 locs ht hB hk1 hS => ?_)
              obtain ⟨hP1, hD1⟩ := hB
              rw [ht] at hP1
              obtain ⟨hP, hD⟩ := va_join (wr := [(oa (a 11) cI 201 mn)]) (w1 := [(om k0 a I0 J0), (oa (a 5) cI 201 st), (oa (a 6) cZ 201 tn)]) hP hD [0, 1, 2] [3] rfl rfl (by decide) (by decide) hk1 hFc hP1 hD1
              clear hk1 hPc hDc hFc hP1 hD1 ht
              generalize H1 = H at hP hS ⊢
              have hP := hP.sub (ws' := [(om k0 a I0 J0), (oa (a 5) cI 201 st), (oa (a 6) cZ 201 tn), (oa (a 11) cI 201 mn)]) [1, 2, 3, 0] rfl
              have hD := hD.sub (ws' := [(om k0 a I0 J0), (oa (a 5) cI 201 st), (oa (a 6) cZ 201 tn), (oa (a 11) cI 201 mn)]) [1, 2, 3, 0] (by decide) rfl
              have hP : va_P (dC, dI) classes [(om k0 a I0 J0), (oa (a 5) cI 201 st), (oa (a 6) cZ 201 tn), (oa (a 11) cI 201 mn)] H := hP
              have hD : va_D A [(om k0 a I0 J0), (oa (a 5) cI 201 st), (oa (a 6) cZ 201 tn), (oa (a 11) cI 201 mn)] := hD
              refine lv_if_eq (tgt := 101) hx hb dX11_count_88 (by decide) (fun c_5 => ?_) (fun c_5 => ?_)
              · have c_5 : ¬ (q < ft ∧ (st q).toInt = 1 ∧ (tn q).toInt = 0) := zp_0 c_5
                refine lv_iconst (v := 0) hx hb dX11_count_101 (by decide) ?_
                refine lv_iadd hx hb dX11_count_102 ?_
                refine zz_i (v := nI ((smP (lvF ft st tn) (fun g => nN (mn g)) q) + 0)) (nI_add (smP (lvF ft st tn) (fun g => nN (mn g)) q) 0) ?_
                refine lv_istore (lv' := [(5, .int (nI ((smP (lvF ft st tn) (fun g => nN (mn g)) q) + 0))), (4, .int (nI ((cntP (fun g => ¬ (tn g).toInt = 0) q) + 0))), (3, .int (nI ((cntP (fun g => (st g).toInt = 2) q) + 0))), (2, .int (nI ((cntP (fun g => (st g).toInt = 1) q) + 0))), (6, .int (nI q)), (0, .ref k0), (1, .int 0)]) hx hb dX11_count_103 hl (by decide) rfl (fun ls hl => ?_)
                refine lv_iinc (v := nI (q + 1)) (lv' := [(6, .int (nI (q + 1))), (5, .int (nI ((smP (lvF ft st tn) (fun g => nN (mn g)) q) + 0))), (4, .int (nI ((cntP (fun g => ¬ (tn g).toInt = 0) q) + 0))), (3, .int (nI ((cntP (fun g => (st g).toInt = 2) q) + 0))), (2, .int (nI ((cntP (fun g => (st g).toInt = 1) q) + 0))), (0, .ref k0), (1, .int 0)]) hx hb dX11_count_105 hl (k := 4) rfl (nI_add q 1) (by decide) rfl (fun ls hl => ?_)
                refine lv_goto (tgt := 13) hx hb dX11_count_108 (by decide) ?_
                have hl9 := lv_sub hl [0, 1, 2, 3, 4, 5, 6] rfl
                have e9_2 : nI (cntP (fun g => (st g).toInt = 1) (q + 1)) = (nI ((cntP (fun g => (st g).toInt = 1) q) + 0) : Int32) := by first | exact congrArg nI (cntP_y (P := fun g => (st g).toInt = 1) (show (st q).toInt = 1 by omega)) | exact congrArg nI (cntP_n0 (P := fun g => (st g).toInt = 1) (show ¬ (st q).toInt = 1 by omega))
                have e9_3 : nI (cntP (fun g => (st g).toInt = 2) (q + 1)) = (nI ((cntP (fun g => (st g).toInt = 2) q) + 0) : Int32) := by first | exact congrArg nI (cntP_y (P := fun g => (st g).toInt = 2) (show (st q).toInt = 2 by omega)) | exact congrArg nI (cntP_n0 (P := fun g => (st g).toInt = 2) (show ¬ (st q).toInt = 2 by omega))
                have e9_4 : nI (cntP (fun g => ¬ (tn g).toInt = 0) (q + 1)) = (nI ((cntP (fun g => ¬ (tn g).toInt = 0) q) + 0) : Int32) := by first | exact congrArg nI (cntP_y (P := fun g => ¬ (tn g).toInt = 0) (show ¬ (tn q).toInt = 0 by omega)) | exact congrArg nI (cntP_n0 (P := fun g => ¬ (tn g).toInt = 0) (show ¬ ¬ (tn q).toInt = 0 by omega))
                have e9_5 : nI (smP (lvF ft st tn) (fun g => nN (mn g)) (q + 1)) = (nI ((smP (lvF ft st tn) (fun g => nN (mn g)) q) + 0) : Int32) := by first | exact congrArg nI (smP_y (P := lvF ft st tn) (by assumption)) | exact congrArg nI (smP_n (P := lvF ft st tn) (by assumption))
                have hl9 : lv_has ls 7 [(6, .int (nI (q + 1))), (5, .int (nI (smP (lvF ft st tn) (fun g => nN (mn g)) (q + 1)))), (4, .int (nI (cntP (fun g => ¬ (tn g).toInt = 0) (q + 1)))), (3, .int (nI (cntP (fun g => (st g).toInt = 2) (q + 1)))), (2, .int (nI (cntP (fun g => (st g).toInt = 1) (q + 1)))), (0, .ref k0), (1, .int 0)] := by rw [e9_2]; rw [e9_3]; rw [e9_4]; rw [e9_5]; exact hl9
                exact ih_13 (q + 1) H locs ls (by omega) (by omega) hP hD hS hl9
              · have c_5 : q < ft ∧ (st q).toInt = 1 ∧ (tn q).toInt = 0 := zp_1 c_5
                refine lv_aload_n hx hb dX11_count_91 rfl (lv_at hl 5 rfl) ?_
                refine va_get (D := (dC, dI)) (ci := 9) (v := .ref (a 11)) (C := RX11) (T := TX11) (N := 55) hx hb hts inX11 hown hK hP 0 rfl rfl 11 (by decide) (hts _ mw_1170) (fun _ h9 => h9) rfl dX11_count_92 ?_
                refine lv_iload hx hb dX11_count_95 (lv_at hl 3 rfl) ?_
                refine z_iald hx hb hK hP 3 0 rfl rfl (e := q) rfl (by omega) (by omega) dX11_count_97 ?_
                refine zz_i (v := nI (nN (mn q))) ((hmw q (by assumption)).1) ?_
                refine lv_goto (tgt := 102) hx hb dX11_count_98 (by decide) ?_
                refine lv_iadd hx hb dX11_count_102 ?_
                refine zz_i (v := nI ((smP (lvF ft st tn) (fun g => nN (mn g)) q) + (nN (mn q)))) (nI_add (smP (lvF ft st tn) (fun g => nN (mn g)) q) (nN (mn q))) ?_
                refine lv_istore (lv' := [(5, .int (nI ((smP (lvF ft st tn) (fun g => nN (mn g)) q) + (nN (mn q))))), (4, .int (nI ((cntP (fun g => ¬ (tn g).toInt = 0) q) + 0))), (3, .int (nI ((cntP (fun g => (st g).toInt = 2) q) + 0))), (2, .int (nI ((cntP (fun g => (st g).toInt = 1) q) + 0))), (6, .int (nI q)), (0, .ref k0), (1, .int 0)]) hx hb dX11_count_103 hl (by decide) rfl (fun ls hl => ?_)
                refine lv_iinc (v := nI (q + 1)) (lv' := [(6, .int (nI (q + 1))), (5, .int (nI ((smP (lvF ft st tn) (fun g => nN (mn g)) q) + (nN (mn q))))), (4, .int (nI ((cntP (fun g => ¬ (tn g).toInt = 0) q) + 0))), (3, .int (nI ((cntP (fun g => (st g).toInt = 2) q) + 0))), (2, .int (nI ((cntP (fun g => (st g).toInt = 1) q) + 0))), (0, .ref k0), (1, .int 0)]) hx hb dX11_count_105 hl (k := 4) rfl (nI_add q 1) (by decide) rfl (fun ls hl => ?_)
                refine lv_goto (tgt := 13) hx hb dX11_count_108 (by decide) ?_
                have hl9 := lv_sub hl [0, 1, 2, 3, 4, 5, 6] rfl
                have e9_2 : nI (cntP (fun g => (st g).toInt = 1) (q + 1)) = (nI ((cntP (fun g => (st g).toInt = 1) q) + 0) : Int32) := by first | exact congrArg nI (cntP_y (P := fun g => (st g).toInt = 1) (show (st q).toInt = 1 by omega)) | exact congrArg nI (cntP_n0 (P := fun g => (st g).toInt = 1) (show ¬ (st q).toInt = 1 by omega))
                have e9_3 : nI (cntP (fun g => (st g).toInt = 2) (q + 1)) = (nI ((cntP (fun g => (st g).toInt = 2) q) + 0) : Int32) := by first | exact congrArg nI (cntP_y (P := fun g => (st g).toInt = 2) (show (st q).toInt = 2 by omega)) | exact congrArg nI (cntP_n0 (P := fun g => (st g).toInt = 2) (show ¬ (st q).toInt = 2 by omega))
                have e9_4 : nI (cntP (fun g => ¬ (tn g).toInt = 0) (q + 1)) = (nI ((cntP (fun g => ¬ (tn g).toInt = 0) q) + 0) : Int32) := by first | exact congrArg nI (cntP_y (P := fun g => ¬ (tn g).toInt = 0) (show ¬ (tn q).toInt = 0 by omega)) | exact congrArg nI (cntP_n0 (P := fun g => ¬ (tn g).toInt = 0) (show ¬ ¬ (tn q).toInt = 0 by omega))
                have e9_5 : nI (smP (lvF ft st tn) (fun g => nN (mn g)) (q + 1)) = (nI ((smP (lvF ft st tn) (fun g => nN (mn g)) q) + (nN (mn q))) : Int32) := by first | exact congrArg nI (smP_y (P := lvF ft st tn) (by assumption)) | exact congrArg nI (smP_n (P := lvF ft st tn) (by assumption))
                have hl9 : lv_has ls 7 [(6, .int (nI (q + 1))), (5, .int (nI (smP (lvF ft st tn) (fun g => nN (mn g)) (q + 1)))), (4, .int (nI (cntP (fun g => ¬ (tn g).toInt = 0) (q + 1)))), (3, .int (nI (cntP (fun g => (st g).toInt = 2) (q + 1)))), (2, .int (nI (cntP (fun g => (st g).toInt = 1) (q + 1)))), (0, .ref k0), (1, .int 0)] := by rw [e9_2]; rw [e9_3]; rw [e9_4]; rw [e9_5]; exact hl9
                exact ih_13 (q + 1) H locs ls (by omega) (by omega) hP hD hS hl9
            · have c_4 : ¬ (tn q).toInt = 0 := zc_ne rfl (by decide) c_4
              refine lv_iconst (v := 1) hx hb dX11_count_72 (by decide) ?_
              refine lv_goto (tgt := 77) hx hb dX11_count_73 (by decide) ?_
              refine lv_iadd hx hb dX11_count_77 ?_
              refine zz_i (v := nI ((cntP (fun g => ¬ (tn g).toInt = 0) q) + 1)) (nI_add (cntP (fun g => ¬ (tn g).toInt = 0) q) 1) ?_
              refine lv_istore (lv' := [(4, .int (nI ((cntP (fun g => ¬ (tn g).toInt = 0) q) + 1))), (3, .int (nI ((cntP (fun g => (st g).toInt = 2) q) + 0))), (2, .int (nI ((cntP (fun g => (st g).toInt = 1) q) + 0))), (6, .int (nI q)), (5, .int (nI (smP (lvF ft st tn) (fun g => nN (mn g)) q))), (0, .ref k0), (1, .int 0)]) hx hb dX11_count_78 hl (by decide) rfl (fun ls hl => ?_)
              refine lv_iload hx hb dX11_count_80 (lv_at hl 4 rfl) ?_
              refine lv_aload_n hx hb dX11_count_82 rfl (lv_at hl 5 rfl) ?_
              refine lv_iload hx hb dX11_count_83 (lv_at hl 3 rfl) ?_
              have hPc := hP.sub (ws' := [(om k0 a I0 J0), (oa (a 5) cI 201 st), (oa (a 6) cZ 201 tn)]) [0, 1, 2] rfl
              have hDc := hD.sub (ws' := [(om k0 a I0 J0), (oa (a 5) cI 201 st), (oa (a 6) cZ 201 tn)]) [0, 1, 2] (by decide) rfl
              have hFc := va_free (wc := [(om k0 a I0 J0), (oa (a 5) cI 201 st), (oa (a 6) cZ 201 tn)]) hD hS hA [0, 1, 2] rfl
              refine zcall (st1 := [.int (pI (q < ft ∧ (st q).toInt = 1 ∧ (tn q).toInt = 0)), .int (nI (smP (lvF ft st tn) (fun g => nN (mn g)) q))]) (va_runV (As := [.int (nI q)]) (rest := [.int (nI (smP (lvF ft st tn) (fun g => nN (mn g)) q))]) ⟨hx, hb, hml, hown, hts⟩ (k_M_is_n l dC dI cI cZ cF H.size k0 a I0 J0 q ft st tn (by assumption) (by omega) (by omega)) (cwV 1 hts (zz_gV mw_1447 mw_1449 mw_56 mw_110 mc_yX11_is) rfl rfl rfl (by decide +kernel) ⟨Nat.le_of_ble_eq_true rfl, Nat.le_of_ble_eq_true rfl⟩) (zPV2 (q0 := 0) (ci := 9) hPc hDc hK hXN rfl rfl) rfl rfl hl.1 rfl (lv_room (Nat.le_of_ble_eq_true rfl)) dX11_count_85 ⟨Nat.le_of_ble_eq_true rfl, Nat.le_of_ble_eq_true rfl⟩) hS hFc hFc rfl (fun t H1 locs ht hB hk1 hS => ?_)
              obtain ⟨hP1, hD1⟩ := hB
              rw [ht] at hP1
              obtain ⟨hP, hD⟩ := va_join (wr := [(oa (a 11) cI 201 mn)]) (w1 := [(om k0 a I0 J0), (oa (a 5) cI 201 st), (oa (a 6) cZ 201 tn)]) hP hD [0, 1, 2] [3] rfl rfl (by decide) (by decide) hk1 hFc hP1 hD1
              clear hk1 hPc hDc hFc hP1 hD1 ht
              generalize H1 = H at hP hS ⊢
              have hP := hP.sub (ws' := [(om k0 a I0 J0), (oa (a 5) cI 201 st), (oa (a 6) cZ 201 tn), (oa (a 11) cI 201 mn)]) [1, 2, 3, 0] rfl
              have hD := hD.sub (ws' := [(om k0 a I0 J0), (oa (a 5) cI 201 st), (oa (a 6) cZ 201 tn), (oa (a 11) cI 201 mn)]) [1, 2, 3, 0] (by decide) rfl
              have hP : va_P (dC, dI) classes [(om k0 a I0 J0), (oa (a 5) cI 201 st), (oa (a 6) cZ 201 tn), (oa (a 11) cI 201 mn)] H := hP
              have hD : va_D A [(om k0 a I0 J0), (oa (a 5) cI 201 st), (oa (a 6) cZ 201 tn), (oa (a 11) cI 201 mn)] := hD
              refine lv_if_eq (tgt := 101) hx hb dX11_count_88 (by decide) (fun c_6 => ?_) (fun c_6 => ?_)
              · have c_6 : ¬ (q < ft ∧ (st q).toInt = 1 ∧ (tn q).toInt = 0) := zp_0 c_6
                refine lv_iconst (v := 0) hx hb dX11_count_101 (by decide) ?_
                refine lv_iadd hx hb dX11_count_102 ?_
                refine zz_i (v := nI ((smP (lvF ft st tn) (fun g => nN (mn g)) q) + 0)) (nI_add (smP (lvF ft st tn) (fun g => nN (mn g)) q) 0) ?_
                refine lv_istore (lv' := [(5, .int (nI ((smP (lvF ft st tn) (fun g => nN (mn g)) q) + 0))), (4, .int (nI ((cntP (fun g => ¬ (tn g).toInt = 0) q) + 1))), (3, .int (nI ((cntP (fun g => (st g).toInt = 2) q) + 0))), (2, .int (nI ((cntP (fun g => (st g).toInt = 1) q) + 0))), (6, .int (nI q)), (0, .ref k0), (1, .int 0)]) hx hb dX11_count_103 hl (by decide) rfl (fun ls hl => ?_)
                refine lv_iinc (v := nI (q + 1)) (lv' := [(6, .int (nI (q + 1))), (5, .int (nI ((smP (lvF ft st tn) (fun g => nN (mn g)) q) + 0))), (4, .int (nI ((cntP (fun g => ¬ (tn g).toInt = 0) q) + 1))), (3, .int (nI ((cntP (fun g => (st g).toInt = 2) q) + 0))), (2, .int (nI ((cntP (fun g => (st g).toInt = 1) q) + 0))), (0, .ref k0), (1, .int 0)]) hx hb dX11_count_105 hl (k := 4) rfl (nI_add q 1) (by decide) rfl (fun ls hl => ?_)
                refine lv_goto (tgt := 13) hx hb dX11_count_108 (by decide) ?_
                have hl9 := lv_sub hl [0, 1, 2, 3, 4, 5, 6] rfl
                have e9_2 : nI (cntP (fun g => (st g).toInt = 1) (q + 1)) = (nI ((cntP (fun g => (st g).toInt = 1) q) + 0) : Int32) := by first | exact congrArg nI (cntP_y (P := fun g => (st g).toInt = 1) (show (st q).toInt = 1 by omega)) | exact congrArg nI (cntP_n0 (P := fun g => (st g).toInt = 1) (show ¬ (st q).toInt = 1 by omega))
                have e9_3 : nI (cntP (fun g => (st g).toInt = 2) (q + 1)) = (nI ((cntP (fun g => (st g).toInt = 2) q) + 0) : Int32) := by first | exact congrArg nI (cntP_y (P := fun g => (st g).toInt = 2) (show (st q).toInt = 2 by omega)) | exact congrArg nI (cntP_n0 (P := fun g => (st g).toInt = 2) (show ¬ (st q).toInt = 2 by omega))
                have e9_4 : nI (cntP (fun g => ¬ (tn g).toInt = 0) (q + 1)) = (nI ((cntP (fun g => ¬ (tn g).toInt = 0) q) + 1) : Int32) := by first | exact congrArg nI (cntP_y (P := fun g => ¬ (tn g).toInt = 0) (show ¬ (tn q).toInt = 0 by omega)) | exact congrArg nI (cntP_n0 (P := fun g => ¬ (tn g).toInt = 0) (show ¬ ¬ (tn q).toInt = 0 by omega))
                have e9_5 : nI (smP (lvF ft st tn) (fun g => nN (mn g)) (q + 1)) = (nI ((smP (lvF ft st tn) (fun g => nN (mn g)) q) + 0) : Int32) := by first | exact congrArg nI (smP_y (P := lvF ft st tn) (by assumption)) | exact congrArg nI (smP_n (P := lvF ft st tn) (by assumption))
                have hl9 : lv_has ls 7 [(6, .int (nI (q + 1))), (5, .int (nI (smP (lvF ft st tn) (fun g => nN (mn g)) (q + 1)))), (4, .int (nI (cntP (fun g => ¬ (tn g).toInt = 0) (q + 1)))), (3, .int (nI (cntP (fun g => (st g).toInt = 2) (q + 1)))), (2, .int (nI (cntP (fun g => (st g).toInt = 1) (q + 1)))), (0, .ref k0), (1, .int 0)] := by rw [e9_2]; rw [e9_3]; rw [e9_4]; rw [e9_5]; exact hl9
                exact ih_13 (q + 1) H locs ls (by omega) (by omega) hP hD hS hl9
              · have c_6 : q < ft ∧ (st q).toInt = 1 ∧ (tn q).toInt = 0 := zp_1 c_6
                refine lv_aload_n hx hb dX11_count_91 rfl (lv_at hl 5 rfl) ?_
                refine va_get (D := (dC, dI)) (ci := 9) (v := .ref (a 11)) (C := RX11) (T := TX11) (N := 55) hx hb hts inX11 hown hK hP 0 rfl rfl 11 (by decide) (hts _ mw_1170) (fun _ h9 => h9) rfl dX11_count_92 ?_
                refine lv_iload hx hb dX11_count_95 (lv_at hl 3 rfl) ?_
                refine z_iald hx hb hK hP 3 0 rfl rfl (e := q) rfl (by omega) (by omega) dX11_count_97 ?_
                refine zz_i (v := nI (nN (mn q))) ((hmw q (by assumption)).1) ?_
                refine lv_goto (tgt := 102) hx hb dX11_count_98 (by decide) ?_
                refine lv_iadd hx hb dX11_count_102 ?_
                refine zz_i (v := nI ((smP (lvF ft st tn) (fun g => nN (mn g)) q) + (nN (mn q)))) (nI_add (smP (lvF ft st tn) (fun g => nN (mn g)) q) (nN (mn q))) ?_
                refine lv_istore (lv' := [(5, .int (nI ((smP (lvF ft st tn) (fun g => nN (mn g)) q) + (nN (mn q))))), (4, .int (nI ((cntP (fun g => ¬ (tn g).toInt = 0) q) + 1))), (3, .int (nI ((cntP (fun g => (st g).toInt = 2) q) + 0))), (2, .int (nI ((cntP (fun g => (st g).toInt = 1) q) + 0))), (6, .int (nI q)), (0, .ref k0), (1, .int 0)]) hx hb dX11_count_103 hl (by decide) rfl (fun ls hl => ?_)
                refine lv_iinc (v := nI (q + 1)) (lv' := [(6, .int (nI (q + 1))), (5, .int (nI ((smP (lvF ft st tn) (fun g => nN (mn g)) q) + (nN (mn q))))), (4, .int (nI ((cntP (fun g => ¬ (tn g).toInt = 0) q) + 1))), (3, .int (nI ((cntP (fun g => (st g).toInt = 2) q) + 0))), (2, .int (nI ((cntP (fun g => (st g).toInt = 1) q) + 0))), (0, .ref k0), (1, .int 0)]) hx hb dX11_count_105 hl (k := 4) rfl (nI_add q 1) (by decide) rfl (fun ls hl => ?_)
                refine lv_goto (tgt := 13) hx hb dX11_count_108 (by decide) ?_
                have hl9 := lv_sub hl [0, 1, 2, 3, 4, 5, 6] rfl
                have e9_2 : nI (cntP (fun g => (st g).toInt = 1) (q + 1)) = (nI ((cntP (fun g => (st g).toInt = 1) q) + 0) : Int32) := by first | exact congrArg nI (cntP_y (P := fun g => (st g).toInt = 1) (show (st q).toInt = 1 by omega)) | exact congrArg nI (cntP_n0 (P := fun g => (st g).toInt = 1) (show ¬ (st q).toInt = 1 by omega))
                have e9_3 : nI (cntP (fun g => (st g).toInt = 2) (q + 1)) = (nI ((cntP (fun g => (st g).toInt = 2) q) + 0) : Int32) := by first | exact congrArg nI (cntP_y (P := fun g => (st g).toInt = 2) (show (st q).toInt = 2 by omega)) | exact congrArg nI (cntP_n0 (P := fun g => (st g).toInt = 2) (show ¬ (st q).toInt = 2 by omega))
                have e9_4 : nI (cntP (fun g => ¬ (tn g).toInt = 0) (q + 1)) = (nI ((cntP (fun g => ¬ (tn g).toInt = 0) q) + 1) : Int32) := by first | exact congrArg nI (cntP_y (P := fun g => ¬ (tn g).toInt = 0) (show ¬ (tn q).toInt = 0 by omega)) | exact congrArg nI (cntP_n0 (P := fun g => ¬ (tn g).toInt = 0) (show ¬ ¬ (tn q).toInt = 0 by omega))
                have e9_5 : nI (smP (lvF ft st tn) (fun g => nN (mn g)) (q + 1)) = (nI ((smP (lvF ft st tn) (fun g => nN (mn g)) q) + (nN (mn q))) : Int32) := by first | exact congrArg nI (smP_y (P := lvF ft st tn) (by assumption)) | exact congrArg nI (smP_n (P := lvF ft st tn) (by assumption))
                have hl9 : lv_has ls 7 [(6, .int (nI (q + 1))), (5, .int (nI (smP (lvF ft st tn) (fun g => nN (mn g)) (q + 1)))), (4, .int (nI (cntP (fun g => ¬ (tn g).toInt = 0) (q + 1)))), (3, .int (nI (cntP (fun g => (st g).toInt = 2) (q + 1)))), (2, .int (nI (cntP (fun g => (st g).toInt = 1) (q + 1)))), (0, .ref k0), (1, .int 0)] := by rw [e9_2]; rw [e9_3]; rw [e9_4]; rw [e9_5]; exact hl9
                exact ih_13 (q + 1) H locs ls (by omega) (by omega) hP hD hS hl9
          · have c_3 : (st q).toInt = 2 := zc_eq rfl (by decide) c_3
            refine lv_iconst (v := 1) hx hb dX11_count_53 (by decide) ?_
            refine lv_goto (tgt := 58) hx hb dX11_count_54 (by decide) ?_
            refine lv_iadd hx hb dX11_count_58 ?_
            refine zz_i (v := nI ((cntP (fun g => (st g).toInt = 2) q) + 1)) (nI_add (cntP (fun g => (st g).toInt = 2) q) 1) ?_
            refine lv_istore_n (lv' := [(3, .int (nI ((cntP (fun g => (st g).toInt = 2) q) + 1))), (2, .int (nI ((cntP (fun g => (st g).toInt = 1) q) + 0))), (6, .int (nI q)), (5, .int (nI (smP (lvF ft st tn) (fun g => nN (mn g)) q))), (4, .int (nI (cntP (fun g => ¬ (tn g).toInt = 0) q))), (0, .ref k0), (1, .int 0)]) hx hb dX11_count_59 rfl hl (by decide) rfl (fun ls hl => ?_)
            refine lv_iload hx hb dX11_count_60 (lv_at hl 4 rfl) ?_
            refine lv_aload_n hx hb dX11_count_62 rfl (lv_at hl 5 rfl) ?_
            refine va_get (D := (dC, dI)) (ci := 9) (v := .ref (a 6)) (C := RX11) (T := TX11) (N := 55) hx hb hts inX11 hown hK hP 0 rfl rfl 6 (by decide) (hts _ mw_1165) (fun _ h9 => h9) rfl dX11_count_63 ?_
            refine lv_iload hx hb dX11_count_66 (lv_at hl 2 rfl) ?_
            refine z_zald hx hb hK hP 2 1 rfl rfl (e := q) rfl (by omega) (by omega) dX11_count_68 ?_
            refine lv_if_eq (tgt := 76) hx hb dX11_count_69 (by decide) (fun c_7 => ?_) (fun c_7 => ?_)
            · have c_7 : (tn q).toInt = 0 := zc_eq rfl (by decide) c_7
              refine lv_iconst (v := 0) hx hb dX11_count_76 (by decide) ?_
              refine lv_iadd hx hb dX11_count_77 ?_
              refine zz_i (v := nI ((cntP (fun g => ¬ (tn g).toInt = 0) q) + 0)) (nI_add (cntP (fun g => ¬ (tn g).toInt = 0) q) 0) ?_
              refine lv_istore (lv' := [(4, .int (nI ((cntP (fun g => ¬ (tn g).toInt = 0) q) + 0))), (3, .int (nI ((cntP (fun g => (st g).toInt = 2) q) + 1))), (2, .int (nI ((cntP (fun g => (st g).toInt = 1) q) + 0))), (6, .int (nI q)), (5, .int (nI (smP (lvF ft st tn) (fun g => nN (mn g)) q))), (0, .ref k0), (1, .int 0)]) hx hb dX11_count_78 hl (by decide) rfl (fun ls hl => ?_)
              refine lv_iload hx hb dX11_count_80 (lv_at hl 4 rfl) ?_
              refine lv_aload_n hx hb dX11_count_82 rfl (lv_at hl 5 rfl) ?_
              refine lv_iload hx hb dX11_count_83 (lv_at hl 3 rfl) ?_
              have hPc := hP.sub (ws' := [(om k0 a I0 J0), (oa (a 5) cI 201 st), (oa (a 6) cZ 201 tn)]) [0, 1, 2] rfl
              have hDc := hD.sub (ws' := [(om k0 a I0 J0), (oa (a 5) cI 201 st), (oa (a 6) cZ 201 tn)]) [0, 1, 2] (by decide) rfl
              have hFc := va_free (wc := [(om k0 a I0 J0), (oa (a 5) cI 201 st), (oa (a 6) cZ 201 tn)]) hD hS hA [0, 1, 2] rfl
              refine zcall (st1 := [.int (pI (q < ft ∧ (st q).toInt = 1 ∧ (tn q).toInt = 0)), .int (nI (smP (lvF ft st tn) (fun g => nN (mn g)) q))]) (va_runV (As := [.int (nI q)]) (rest := [.int (nI (smP (lvF ft st tn) (fun g => nN (mn g)) q))]) ⟨hx, hb, hml, hown, hts⟩ (k_M_is_n l dC dI cI cZ cF H.size k0 a I0 J0 q ft st tn (by assumption) (by omega) (by omega)) (cwV 1 hts (zz_gV mw_1447 mw_1449 mw_56 mw_110 mc_yX11_is) rfl rfl rfl (by decide +kernel) ⟨Nat.le_of_ble_eq_true rfl, Nat.le_of_ble_eq_true rfl⟩) (zPV2 (q0 := 0) (ci := 9) hPc hDc hK hXN rfl rfl) rfl rfl hl.1 rfl (lv_room (Nat.le_of_ble_eq_true rfl)) dX11_count_85 ⟨Nat.le_of_ble_eq_true rfl, Nat.le_of_ble_eq_true rfl⟩) hS hFc hFc rfl (fun t H1 locs ht hB hk1 hS => ?_)
              obtain ⟨hP1, hD1⟩ := hB
              rw [ht] at hP1
              obtain ⟨hP, hD⟩ := va_join (wr := [(oa (a 11) cI 201 mn)]) (w1 := [(om k0 a I0 J0), (oa (a 5) cI 201 st), (oa (a 6) cZ 201 tn)]) hP hD [0, 1, 2] [3] rfl rfl (by decide) (by decide) hk1 hFc hP1 hD1
              clear hk1 hPc hDc hFc hP1 hD1 ht
              generalize H1 = H at hP hS ⊢
              have hP := hP.sub (ws' := [(om k0 a I0 J0), (oa (a 5) cI 201 st), (oa (a 6) cZ 201 tn), (oa (a 11) cI 201 mn)]) [1, 2, 3, 0] rfl
              have hD := hD.sub (ws' := [(om k0 a I0 J0), (oa (a 5) cI 201 st), (oa (a 6) cZ 201 tn), (oa (a 11) cI 201 mn)]) [1, 2, 3, 0] (by decide) rfl
              have hP : va_P (dC, dI) classes [(om k0 a I0 J0), (oa (a 5) cI 201 st), (oa (a 6) cZ 201 tn), (oa (a 11) cI 201 mn)] H := hP
              have hD : va_D A [(om k0 a I0 J0), (oa (a 5) cI 201 st), (oa (a 6) cZ 201 tn), (oa (a 11) cI 201 mn)] := hD
              refine lv_if_eq (tgt := 101) hx hb dX11_count_88 (by decide) (fun c_8 => ?_) (fun c_8 => ?_)
              · have c_8 : ¬ (q < ft ∧ (st q).toInt = 1 ∧ (tn q).toInt = 0) := zp_0 c_8
                refine lv_iconst (v := 0) hx hb dX11_count_101 (by decide) ?_
                refine lv_iadd hx hb dX11_count_102 ?_
                refine zz_i (v := nI ((smP (lvF ft st tn) (fun g => nN (mn g)) q) + 0)) (nI_add (smP (lvF ft st tn) (fun g => nN (mn g)) q) 0) ?_
                refine lv_istore (lv' := [(5, .int (nI ((smP (lvF ft st tn) (fun g => nN (mn g)) q) + 0))), (4, .int (nI ((cntP (fun g => ¬ (tn g).toInt = 0) q) + 0))), (3, .int (nI ((cntP (fun g => (st g).toInt = 2) q) + 1))), (2, .int (nI ((cntP (fun g => (st g).toInt = 1) q) + 0))), (6, .int (nI q)), (0, .ref k0), (1, .int 0)]) hx hb dX11_count_103 hl (by decide) rfl (fun ls hl => ?_)
                refine lv_iinc (v := nI (q + 1)) (lv' := [(6, .int (nI (q + 1))), (5, .int (nI ((smP (lvF ft st tn) (fun g => nN (mn g)) q) + 0))), (4, .int (nI ((cntP (fun g => ¬ (tn g).toInt = 0) q) + 0))), (3, .int (nI ((cntP (fun g => (st g).toInt = 2) q) + 1))), (2, .int (nI ((cntP (fun g => (st g).toInt = 1) q) + 0))), (0, .ref k0), (1, .int 0)]) hx hb dX11_count_105 hl (k := 4) rfl (nI_add q 1) (by decide) rfl (fun ls hl => ?_)
                refine lv_goto (tgt := 13) hx hb dX11_count_108 (by decide) ?_
                have hl9 := lv_sub hl [0, 1, 2, 3, 4, 5, 6] rfl
                have e9_2 : nI (cntP (fun g => (st g).toInt = 1) (q + 1)) = (nI ((cntP (fun g => (st g).toInt = 1) q) + 0) : Int32) := by first | exact congrArg nI (cntP_y (P := fun g => (st g).toInt = 1) (show (st q).toInt = 1 by omega)) | exact congrArg nI (cntP_n0 (P := fun g => (st g).toInt = 1) (show ¬ (st q).toInt = 1 by omega))
                have e9_3 : nI (cntP (fun g => (st g).toInt = 2) (q + 1)) = (nI ((cntP (fun g => (st g).toInt = 2) q) + 1) : Int32) := by first | exact congrArg nI (cntP_y (P := fun g => (st g).toInt = 2) (show (st q).toInt = 2 by omega)) | exact congrArg nI (cntP_n0 (P := fun g => (st g).toInt = 2) (show ¬ (st q).toInt = 2 by omega))
                have e9_4 : nI (cntP (fun g => ¬ (tn g).toInt = 0) (q + 1)) = (nI ((cntP (fun g => ¬ (tn g).toInt = 0) q) + 0) : Int32) := by first | exact congrArg nI (cntP_y (P := fun g => ¬ (tn g).toInt = 0) (show ¬ (tn q).toInt = 0 by omega)) | exact congrArg nI (cntP_n0 (P := fun g => ¬ (tn g).toInt = 0) (show ¬ ¬ (tn q).toInt = 0 by omega))
                have e9_5 : nI (smP (lvF ft st tn) (fun g => nN (mn g)) (q + 1)) = (nI ((smP (lvF ft st tn) (fun g => nN (mn g)) q) + 0) : Int32) := by first | exact congrArg nI (smP_y (P := lvF ft st tn) (by assumption)) | exact congrArg nI (smP_n (P := lvF ft st tn) (by assumption))
                have hl9 : lv_has ls 7 [(6, .int (nI (q + 1))), (5, .int (nI (smP (lvF ft st tn) (fun g => nN (mn g)) (q + 1)))), (4, .int (nI (cntP (fun g => ¬ (tn g).toInt = 0) (q + 1)))), (3, .int (nI (cntP (fun g => (st g).toInt = 2) (q + 1)))), (2, .int (nI (cntP (fun g => (st g).toInt = 1) (q + 1)))), (0, .ref k0), (1, .int 0)] := by rw [e9_2]; rw [e9_3]; rw [e9_4]; rw [e9_5]; exact hl9
                exact ih_13 (q + 1) H locs ls (by omega) (by omega) hP hD hS hl9
              · have c_8 : q < ft ∧ (st q).toInt = 1 ∧ (tn q).toInt = 0 := zp_1 c_8
                refine lv_aload_n hx hb dX11_count_91 rfl (lv_at hl 5 rfl) ?_
                refine va_get (D := (dC, dI)) (ci := 9) (v := .ref (a 11)) (C := RX11) (T := TX11) (N := 55) hx hb hts inX11 hown hK hP 0 rfl rfl 11 (by decide) (hts _ mw_1170) (fun _ h9 => h9) rfl dX11_count_92 ?_
                refine lv_iload hx hb dX11_count_95 (lv_at hl 3 rfl) ?_
                refine z_iald hx hb hK hP 3 0 rfl rfl (e := q) rfl (by omega) (by omega) dX11_count_97 ?_
                refine zz_i (v := nI (nN (mn q))) ((hmw q (by assumption)).1) ?_
                refine lv_goto (tgt := 102) hx hb dX11_count_98 (by decide) ?_
                refine lv_iadd hx hb dX11_count_102 ?_
                refine zz_i (v := nI ((smP (lvF ft st tn) (fun g => nN (mn g)) q) + (nN (mn q)))) (nI_add (smP (lvF ft st tn) (fun g => nN (mn g)) q) (nN (mn q))) ?_
                refine lv_istore (lv' := [(5, .int (nI ((smP (lvF ft st tn) (fun g => nN (mn g)) q) + (nN (mn q))))), (4, .int (nI ((cntP (fun g => ¬ (tn g).toInt = 0) q) + 0))), (3, .int (nI ((cntP (fun g => (st g).toInt = 2) q) + 1))), (2, .int (nI ((cntP (fun g => (st g).toInt = 1) q) + 0))), (6, .int (nI q)), (0, .ref k0), (1, .int 0)]) hx hb dX11_count_103 hl (by decide) rfl (fun ls hl => ?_)
                refine lv_iinc (v := nI (q + 1)) (lv' := [(6, .int (nI (q + 1))), (5, .int (nI ((smP (lvF ft st tn) (fun g => nN (mn g)) q) + (nN (mn q))))), (4, .int (nI ((cntP (fun g => ¬ (tn g).toInt = 0) q) + 0))), (3, .int (nI ((cntP (fun g => (st g).toInt = 2) q) + 1))), (2, .int (nI ((cntP (fun g => (st g).toInt = 1) q) + 0))), (0, .ref k0), (1, .int 0)]) hx hb dX11_count_105 hl (k := 4) rfl (nI_add q 1) (by decide) rfl (fun ls hl => ?_)
                refine lv_goto (tgt := 13) hx hb dX11_count_108 (by decide) ?_
                have hl9 := lv_sub hl [0, 1, 2, 3, 4, 5, 6] rfl
                have e9_2 : nI (cntP (fun g => (st g).toInt = 1) (q + 1)) = (nI ((cntP (fun g => (st g).toInt = 1) q) + 0) : Int32) := by first | exact congrArg nI (cntP_y (P := fun g => (st g).toInt = 1) (show (st q).toInt = 1 by omega)) | exact congrArg nI (cntP_n0 (P := fun g => (st g).toInt = 1) (show ¬ (st q).toInt = 1 by omega))
                have e9_3 : nI (cntP (fun g => (st g).toInt = 2) (q + 1)) = (nI ((cntP (fun g => (st g).toInt = 2) q) + 1) : Int32) := by first | exact congrArg nI (cntP_y (P := fun g => (st g).toInt = 2) (show (st q).toInt = 2 by omega)) | exact congrArg nI (cntP_n0 (P := fun g => (st g).toInt = 2) (show ¬ (st q).toInt = 2 by omega))
                have e9_4 : nI (cntP (fun g => ¬ (tn g).toInt = 0) (q + 1)) = (nI ((cntP (fun g => ¬ (tn g).toInt = 0) q) + 0) : Int32) := by first | exact congrArg nI (cntP_y (P := fun g => ¬ (tn g).toInt = 0) (show ¬ (tn q).toInt = 0 by omega)) | exact congrArg nI (cntP_n0 (P := fun g => ¬ (tn g).toInt = 0) (show ¬ ¬ (tn q).toInt = 0 by omega))
                have e9_5 : nI (smP (lvF ft st tn) (fun g => nN (mn g)) (q + 1)) = (nI ((smP (lvF ft st tn) (fun g => nN (mn g)) q) + (nN (mn q))) : Int32) := by first | exact congrArg nI (smP_y (P := lvF ft st tn) (by assumption)) | exact congrArg nI (smP_n (P := lvF ft st tn) (by assumption))
                have hl9 : lv_has ls 7 [(6, .int (nI (q + 1))), (5, .int (nI (smP (lvF ft st tn) (fun g => nN (mn g)) (q + 1)))), (4, .int (nI (cntP (fun g => ¬ (tn g).toInt = 0) (q + 1)))), (3, .int (nI (cntP (fun g => (st g).toInt = 2) (q + 1)))), (2, .int (nI (cntP (fun g => (st g).toInt = 1) (q + 1)))), (0, .ref k0), (1, .int 0)] := by rw [e9_2]; rw [e9_3]; rw [e9_4]; rw [e9_5]; exact hl9
                exact ih_13 (q + 1) H locs ls (by omega) (by omega) hP hD hS hl9
            · have c_7 : ¬ (tn q).toInt = 0 := zc_ne rfl (by decide) c_7
              refine lv_iconst (v := 1) hx hb dX11_count_72 (by decide) ?_
              refine lv_goto (tgt := 77) hx hb dX11_count_73 (by decide) ?_
              refine lv_iadd hx hb dX11_count_77 ?_
              refine zz_i (v := nI ((cntP (fun g => ¬ (tn g).toInt = 0) q) + 1)) (nI_add (cntP (fun g => ¬ (tn g).toInt = 0) q) 1) ?_
              refine lv_istore (lv' := [(4, .int (nI ((cntP (fun g => ¬ (tn g).toInt = 0) q) + 1))), (3, .int (nI ((cntP (fun g => (st g).toInt = 2) q) + 1))), (2, .int (nI ((cntP (fun g => (st g).toInt = 1) q) + 0))), (6, .int (nI q)), (5, .int (nI (smP (lvF ft st tn) (fun g => nN (mn g)) q))), (0, .ref k0), (1, .int 0)]) hx hb dX11_count_78 hl (by decide) rfl (fun ls hl => ?_)
              refine lv_iload hx hb dX11_count_80 (lv_at hl 4 rfl) ?_
              refine lv_aload_n hx hb dX11_count_82 rfl (lv_at hl 5 rfl) ?_
              refine lv_iload hx hb dX11_count_83 (lv_at hl 3 rfl) ?_
              have hPc := hP.sub (ws' := [(om k0 a I0 J0), (oa (a 5) cI 201 st), (oa (a 6) cZ 201 tn)]) [0, 1, 2] rfl
              have hDc := hD.sub (ws' := [(om k0 a I0 J0), (oa (a 5) cI 201 st), (oa (a 6) cZ 201 tn)]) [0, 1, 2] (by decide) rfl
              have hFc := va_free (wc := [(om k0 a I0 J0), (oa (a 5) cI 201 st), (oa (a 6) cZ 201 tn)]) hD hS hA [0, 1, 2] rfl
              refine zcall (st1 := [.int (pI (q < ft ∧ (st q).toInt = 1 ∧ (tn q).toInt = 0)), .int (nI (smP (lvF ft st tn) (fun g => nN (mn g)) q))]) (va_runV (As := [.int (nI q)]) (rest := [.int (nI (smP (lvF ft st tn) (fun g => nN (mn g)) q))]) ⟨hx, hb, hml, hown, hts⟩ (k_M_is_n l dC dI cI cZ cF H.size k0 a I0 J0 q ft st tn (by assumption) (by omega) (by omega)) (cwV 1 hts (zz_gV mw_1447 mw_1449 mw_56 mw_110 mc_yX11_is) rfl rfl rfl (by decide +kernel) ⟨Nat.le_of_ble_eq_true rfl, Nat.le_of_ble_eq_true rfl⟩) (zPV2 (q0 := 0) (ci := 9) hPc hDc hK hXN rfl rfl) rfl rfl hl.1 rfl (lv_room (Nat.le_of_ble_eq_true rfl)) dX11_count_85 ⟨Nat.le_of_ble_eq_true rfl, Nat.le_of_ble_eq_true rfl⟩) hS hFc hFc rfl (fun t H1 locs ht hB hk1 hS => ?_)
              obtain ⟨hP1, hD1⟩ := hB
              rw [ht] at hP1
              obtain ⟨hP, hD⟩ := va_join (wr := [(oa (a 11) cI 201 mn)]) (w1 := [(om k0 a I0 J0), (oa (a 5) cI 201 st), (oa (a 6) cZ 201 tn)]) hP hD [0, 1, 2] [3] rfl rfl (by decide) (by decide) hk1 hFc hP1 hD1
              clear hk1 hPc hDc hFc hP1 hD1 ht
              generalize H1 = H at hP hS ⊢
              have hP := hP.sub (ws' := [(om k0 a I0 J0), (oa (a 5) cI 201 st), (oa (a 6) cZ 201 tn), (oa (a 11) cI 201 mn)]) [1, 2, 3, 0] rfl
              have hD := hD.sub (ws' := [(om k0 a I0 J0), (oa (a 5) cI 201 st), (oa (a 6) cZ 201 tn), (oa (a 11) cI 201 mn)]) [1, 2, 3, 0] (by decide) rfl
              have hP : va_P (dC, dI) classes [(om k0 a I0 J0), (oa (a 5) cI 201 st), (oa (a 6) cZ 201 tn), (oa (a 11) cI 201 mn)] H := hP
              have hD : va_D A [(om k0 a I0 J0), (oa (a 5) cI 201 st), (oa (a 6) cZ 201 tn), (oa (a 11) cI 201 mn)] := hD
              refine lv_if_eq (tgt := 101) hx hb dX11_count_88 (by decide) (fun c_9 => ?_) (fun c_9 => ?_)
              · have c_9 : ¬ (q < ft ∧ (st q).toInt = 1 ∧ (tn q).toInt = 0) := zp_0 c_9
                refine lv_iconst (v := 0) hx hb dX11_count_101 (by decide) ?_
                refine lv_iadd hx hb dX11_count_102 ?_
                refine zz_i (v := nI ((smP (lvF ft st tn) (fun g => nN (mn g)) q) + 0)) (nI_add (smP (lvF ft st tn) (fun g => nN (mn g)) q) 0) ?_
                refine lv_istore (lv' := [(5, .int (nI ((smP (lvF ft st tn) (fun g => nN (mn g)) q) + 0))), (4, .int (nI ((cntP (fun g => ¬ (tn g).toInt = 0) q) + 1))), (3, .int (nI ((cntP (fun g => (st g).toInt = 2) q) + 1))), (2, .int (nI ((cntP (fun g => (st g).toInt = 1) q) + 0))), (6, .int (nI q)), (0, .ref k0), (1, .int 0)]) hx hb dX11_count_103 hl (by decide) rfl (fun ls hl => ?_)
                refine lv_iinc (v := nI (q + 1)) (lv' := [(6, .int (nI (q + 1))), (5, .int (nI ((smP (lvF ft st tn) (fun g => nN (mn g)) q) + 0))), (4, .int (nI ((cntP (fun g => ¬ (tn g).toInt = 0) q) + 1))), (3, .int (nI ((cntP (fun g => (st g).toInt = 2) q) + 1))), (2, .int (nI ((cntP (fun g => (st g).toInt = 1) q) + 0))), (0, .ref k0), (1, .int 0)]) hx hb dX11_count_105 hl (k := 4) rfl (nI_add q 1) (by decide) rfl (fun ls hl => ?_)
                refine lv_goto (tgt := 13) hx hb dX11_count_108 (by decide) ?_
                have hl9 := lv_sub hl [0, 1, 2, 3, 4, 5, 6] rfl
                have e9_2 : nI (cntP (fun g => (st g).toInt = 1) (q + 1)) = (nI ((cntP (fun g => (st g).toInt = 1) q) + 0) : Int32) := by first | exact congrArg nI (cntP_y (P := fun g => (st g).toInt = 1) (show (st q).toInt = 1 by omega)) | exact congrArg nI (cntP_n0 (P := fun g => (st g).toInt = 1) (show ¬ (st q).toInt = 1 by omega))
                have e9_3 : nI (cntP (fun g => (st g).toInt = 2) (q + 1)) = (nI ((cntP (fun g => (st g).toInt = 2) q) + 1) : Int32) := by first | exact congrArg nI (cntP_y (P := fun g => (st g).toInt = 2) (show (st q).toInt = 2 by omega)) | exact congrArg nI (cntP_n0 (P := fun g => (st g).toInt = 2) (show ¬ (st q).toInt = 2 by omega))
                have e9_4 : nI (cntP (fun g => ¬ (tn g).toInt = 0) (q + 1)) = (nI ((cntP (fun g => ¬ (tn g).toInt = 0) q) + 1) : Int32) := by first | exact congrArg nI (cntP_y (P := fun g => ¬ (tn g).toInt = 0) (show ¬ (tn q).toInt = 0 by omega)) | exact congrArg nI (cntP_n0 (P := fun g => ¬ (tn g).toInt = 0) (show ¬ ¬ (tn q).toInt = 0 by omega))
                have e9_5 : nI (smP (lvF ft st tn) (fun g => nN (mn g)) (q + 1)) = (nI ((smP (lvF ft st tn) (fun g => nN (mn g)) q) + 0) : Int32) := by first | exact congrArg nI (smP_y (P := lvF ft st tn) (by assumption)) | exact congrArg nI (smP_n (P := lvF ft st tn) (by assumption))
                have hl9 : lv_has ls 7 [(6, .int (nI (q + 1))), (5, .int (nI (smP (lvF ft st tn) (fun g => nN (mn g)) (q + 1)))), (4, .int (nI (cntP (fun g => ¬ (tn g).toInt = 0) (q + 1)))), (3, .int (nI (cntP (fun g => (st g).toInt = 2) (q + 1)))), (2, .int (nI (cntP (fun g => (st g).toInt = 1) (q + 1)))), (0, .ref k0), (1, .int 0)] := by rw [e9_2]; rw [e9_3]; rw [e9_4]; rw [e9_5]; exact hl9
                exact ih_13 (q + 1) H locs ls (by omega) (by omega) hP hD hS hl9
              · have c_9 : q < ft ∧ (st q).toInt = 1 ∧ (tn q).toInt = 0 := zp_1 c_9
                refine lv_aload_n hx hb dX11_count_91 rfl (lv_at hl 5 rfl) ?_
                refine va_get (D := (dC, dI)) (ci := 9) (v := .ref (a 11)) (C := RX11) (T := TX11) (N := 55) hx hb hts inX11 hown hK hP 0 rfl rfl 11 (by decide) (hts _ mw_1170) (fun _ h9 => h9) rfl dX11_count_92 ?_
                refine lv_iload hx hb dX11_count_95 (lv_at hl 3 rfl) ?_
                refine z_iald hx hb hK hP 3 0 rfl rfl (e := q) rfl (by omega) (by omega) dX11_count_97 ?_
                refine zz_i (v := nI (nN (mn q))) ((hmw q (by assumption)).1) ?_
                refine lv_goto (tgt := 102) hx hb dX11_count_98 (by decide) ?_
                refine lv_iadd hx hb dX11_count_102 ?_
                refine zz_i (v := nI ((smP (lvF ft st tn) (fun g => nN (mn g)) q) + (nN (mn q)))) (nI_add (smP (lvF ft st tn) (fun g => nN (mn g)) q) (nN (mn q))) ?_
                refine lv_istore (lv' := [(5, .int (nI ((smP (lvF ft st tn) (fun g => nN (mn g)) q) + (nN (mn q))))), (4, .int (nI ((cntP (fun g => ¬ (tn g).toInt = 0) q) + 1))), (3, .int (nI ((cntP (fun g => (st g).toInt = 2) q) + 1))), (2, .int (nI ((cntP (fun g => (st g).toInt = 1) q) + 0))), (6, .int (nI q)), (0, .ref k0), (1, .int 0)]) hx hb dX11_count_103 hl (by decide) rfl (fun ls hl => ?_)
                refine lv_iinc (v := nI (q + 1)) (lv' := [(6, .int (nI (q + 1))), (5, .int (nI ((smP (lvF ft st tn) (fun g => nN (mn g)) q) + (nN (mn q))))), (4, .int (nI ((cntP (fun g => ¬ (tn g).toInt = 0) q) + 1))), (3, .int (nI ((cntP (fun g => (st g).toInt = 2) q) + 1))), (2, .int (nI ((cntP (fun g => (st g).toInt = 1) q) + 0))), (0, .ref k0), (1, .int 0)]) hx hb dX11_count_105 hl (k := 4) rfl (nI_add q 1) (by decide) rfl (fun ls hl => ?_)
                refine lv_goto (tgt := 13) hx hb dX11_count_108 (by decide) ?_
                have hl9 := lv_sub hl [0, 1, 2, 3, 4, 5, 6] rfl
                have e9_2 : nI (cntP (fun g => (st g).toInt = 1) (q + 1)) = (nI ((cntP (fun g => (st g).toInt = 1) q) + 0) : Int32) := by first | exact congrArg nI (cntP_y (P := fun g => (st g).toInt = 1) (show (st q).toInt = 1 by omega)) | exact congrArg nI (cntP_n0 (P := fun g => (st g).toInt = 1) (show ¬ (st q).toInt = 1 by omega))
                have e9_3 : nI (cntP (fun g => (st g).toInt = 2) (q + 1)) = (nI ((cntP (fun g => (st g).toInt = 2) q) + 1) : Int32) := by first | exact congrArg nI (cntP_y (P := fun g => (st g).toInt = 2) (show (st q).toInt = 2 by omega)) | exact congrArg nI (cntP_n0 (P := fun g => (st g).toInt = 2) (show ¬ (st q).toInt = 2 by omega))
                have e9_4 : nI (cntP (fun g => ¬ (tn g).toInt = 0) (q + 1)) = (nI ((cntP (fun g => ¬ (tn g).toInt = 0) q) + 1) : Int32) := by first | exact congrArg nI (cntP_y (P := fun g => ¬ (tn g).toInt = 0) (show ¬ (tn q).toInt = 0 by omega)) | exact congrArg nI (cntP_n0 (P := fun g => ¬ (tn g).toInt = 0) (show ¬ ¬ (tn q).toInt = 0 by omega))
                have e9_5 : nI (smP (lvF ft st tn) (fun g => nN (mn g)) (q + 1)) = (nI ((smP (lvF ft st tn) (fun g => nN (mn g)) q) + (nN (mn q))) : Int32) := by first | exact congrArg nI (smP_y (P := lvF ft st tn) (by assumption)) | exact congrArg nI (smP_n (P := lvF ft st tn) (by assumption))
                have hl9 : lv_has ls 7 [(6, .int (nI (q + 1))), (5, .int (nI (smP (lvF ft st tn) (fun g => nN (mn g)) (q + 1)))), (4, .int (nI (cntP (fun g => ¬ (tn g).toInt = 0) (q + 1)))), (3, .int (nI (cntP (fun g => (st g).toInt = 2) (q + 1)))), (2, .int (nI (cntP (fun g => (st g).toInt = 1) (q + 1)))), (0, .ref k0), (1, .int 0)] := by rw [e9_2]; rw [e9_3]; rw [e9_4]; rw [e9_5]; exact hl9
                exact ih_13 (q + 1) H locs ls (by omega) (by omega) hP hD hS hl9
        · have c_2 : (st q).toInt = 1 := zc_eq rfl (by decide) c_2
          refine lv_iconst (v := 1) hx hb dX11_count_34 (by decide) ?_
          refine lv_goto (tgt := 39) hx hb dX11_count_35 (by decide) ?_
          refine lv_iadd hx hb dX11_count_39 ?_
          refine zz_i (v := nI ((cntP (fun g => (st g).toInt = 1) q) + 1)) (nI_add (cntP (fun g => (st g).toInt = 1) q) 1) ?_
          refine lv_istore_n (lv' := [(2, .int (nI ((cntP (fun g => (st g).toInt = 1) q) + 1))), (6, .int (nI q)), (5, .int (nI (smP (lvF ft st tn) (fun g => nN (mn g)) q))), (4, .int (nI (cntP (fun g => ¬ (tn g).toInt = 0) q))), (3, .int (nI (cntP (fun g => (st g).toInt = 2) q))), (0, .ref k0), (1, .int 0)]) hx hb dX11_count_40 rfl hl (by decide) rfl (fun ls hl => ?_)
          refine lv_iload_n hx hb dX11_count_41 rfl (lv_at hl 4 rfl) ?_
          refine lv_aload_n hx hb dX11_count_42 rfl (lv_at hl 5 rfl) ?_
          refine va_get (D := (dC, dI)) (ci := 9) (v := .ref (a 5)) (C := RX11) (T := TX11) (N := 55) hx hb hts inX11 hown hK hP 0 rfl rfl 5 (by decide) (hts _ mw_1164) (fun _ h9 => h9) rfl dX11_count_43 ?_
          refine lv_iload hx hb dX11_count_46 (lv_at hl 1 rfl) ?_
          refine z_iald hx hb hK hP 1 0 rfl rfl (e := q) rfl (by omega) (by omega) dX11_count_48 ?_
          refine lv_iconst (v := 2) hx hb dX11_count_49 (by decide) ?_
          refine lv_icmp_ne (tgt := 57) hx hb dX11_count_50 (by decide) (fun c_10 => ?_) (fun c_10 => ?_)
          · have c_10 : ¬ (st q).toInt = 2 := zc_ne rfl (by decide) c_10
            refine lv_iconst (v := 0) hx hb dX11_count_57 (by decide) ?_
            refine lv_iadd hx hb dX11_count_58 ?_
            refine zz_i (v := nI ((cntP (fun g => (st g).toInt = 2) q) + 0)) (nI_add (cntP (fun g => (st g).toInt = 2) q) 0) ?_
            refine lv_istore_n (lv' := [(3, .int (nI ((cntP (fun g => (st g).toInt = 2) q) + 0))), (2, .int (nI ((cntP (fun g => (st g).toInt = 1) q) + 1))), (6, .int (nI q)), (5, .int (nI (smP (lvF ft st tn) (fun g => nN (mn g)) q))), (4, .int (nI (cntP (fun g => ¬ (tn g).toInt = 0) q))), (0, .ref k0), (1, .int 0)]) hx hb dX11_count_59 rfl hl (by decide) rfl (fun ls hl => ?_)
            refine lv_iload hx hb dX11_count_60 (lv_at hl 4 rfl) ?_
            refine lv_aload_n hx hb dX11_count_62 rfl (lv_at hl 5 rfl) ?_
            refine va_get (D := (dC, dI)) (ci := 9) (v := .ref (a 6)) (C := RX11) (T := TX11) (N := 55) hx hb hts inX11 hown hK hP 0 rfl rfl 6 (by decide) (hts _ mw_1165) (fun _ h9 => h9) rfl dX11_count_63 ?_
            refine lv_iload hx hb dX11_count_66 (lv_at hl 2 rfl) ?_
            refine z_zald hx hb hK hP 2 1 rfl rfl (e := q) rfl (by omega) (by omega) dX11_count_68 ?_
            refine lv_if_eq (tgt := 76) hx hb dX11_count_69 (by decide) (fun c_11 => ?_) (fun c_11 => ?_)
            · have c_11 : (tn q).toInt = 0 := zc_eq rfl (by decide) c_11
              refine lv_iconst (v := 0) hx hb dX11_count_76 (by decide) ?_
              refine lv_iadd hx hb dX11_count_77 ?_
              refine zz_i (v := nI ((cntP (fun g => ¬ (tn g).toInt = 0) q) + 0)) (nI_add (cntP (fun g => ¬ (tn g).toInt = 0) q) 0) ?_
              refine lv_istore (lv' := [(4, .int (nI ((cntP (fun g => ¬ (tn g).toInt = 0) q) + 0))), (3, .int (nI ((cntP (fun g => (st g).toInt = 2) q) + 0))), (2, .int (nI ((cntP (fun g => (st g).toInt = 1) q) + 1))), (6, .int (nI q)), (5, .int (nI (smP (lvF ft st tn) (fun g => nN (mn g)) q))), (0, .ref k0), (1, .int 0)]) hx hb dX11_count_78 hl (by decide) rfl (fun ls hl => ?_)
              refine lv_iload hx hb dX11_count_80 (lv_at hl 4 rfl) ?_
              refine lv_aload_n hx hb dX11_count_82 rfl (lv_at hl 5 rfl) ?_
              refine lv_iload hx hb dX11_count_83 (lv_at hl 3 rfl) ?_
              have hPc := hP.sub (ws' := [(om k0 a I0 J0), (oa (a 5) cI 201 st), (oa (a 6) cZ 201 tn)]) [0, 1, 2] rfl
              have hDc := hD.sub (ws' := [(om k0 a I0 J0), (oa (a 5) cI 201 st), (oa (a 6) cZ 201 tn)]) [0, 1, 2] (by decide) rfl
              have hFc := va_free (wc := [(om k0 a I0 J0), (oa (a 5) cI 201 st), (oa (a 6) cZ 201 tn)]) hD hS hA [0, 1, 2] rfl
              refine zcall (st1 := [.int (pI (q < ft ∧ (st q).toInt = 1 ∧ (tn q).toInt = 0)), .int (nI (smP (lvF ft st tn) (fun g => nN (mn g)) q))]) (va_runV (As := [.int (nI q)]) (rest := [.int (nI (smP (lvF ft st tn) (fun g => nN (mn g)) q))]) ⟨hx, hb, hml, hown, hts⟩ (k_M_is_n l dC dI cI cZ cF H.size k0 a I0 J0 q ft st tn (by assumption) (by omega) (by omega)) (cwV 1 hts (zz_gV mw_1447 mw_1449 mw_56 mw_110 mc_yX11_is) rfl rfl rfl (by decide +kernel) ⟨Nat.le_of_ble_eq_true rfl, Nat.le_of_ble_eq_true rfl⟩) (zPV2 (q0 := 0) (ci := 9) hPc hDc hK hXN rfl rfl) rfl rfl hl.1 rfl (lv_room (Nat.le_of_ble_eq_true rfl)) dX11_count_85 ⟨Nat.le_of_ble_eq_true rfl, Nat.le_of_ble_eq_true rfl⟩) hS hFc hFc rfl (fun t H1 locs ht hB hk1 hS => ?_)
              obtain ⟨hP1, hD1⟩ := hB
              rw [ht] at hP1
              obtain ⟨hP, hD⟩ := va_join (wr := [(oa (a 11) cI 201 mn)]) (w1 := [(om k0 a I0 J0), (oa (a 5) cI 201 st), (oa (a 6) cZ 201 tn)]) hP hD [0, 1, 2] [3] rfl rfl (by decide) (by decide) hk1 hFc hP1 hD1
              clear hk1 hPc hDc hFc hP1 hD1 ht
              generalize H1 = H at hP hS ⊢
              have hP := hP.sub (ws' := [(om k0 a I0 J0), (oa (a 5) cI 201 st), (oa (a 6) cZ 201 tn), (oa (a 11) cI 201 mn)]) [1, 2, 3, 0] rfl
              have hD := hD.sub (ws' := [(om k0 a I0 J0), (oa (a 5) cI 201 st), (oa (a 6) cZ 201 tn), (oa (a 11) cI 201 mn)]) [1, 2, 3, 0] (by decide) rfl
              have hP : va_P (dC, dI) classes [(om k0 a I0 J0), (oa (a 5) cI 201 st), (oa (a 6) cZ 201 tn), (oa (a 11) cI 201 mn)] H := hP
              have hD : va_D A [(om k0 a I0 J0), (oa (a 5) cI 201 st), (oa (a 6) cZ 201 tn), (oa (a 11) cI 201 mn)] := hD
              refine lv_if_eq (tgt := 101) hx hb dX11_count_88 (by decide) (fun c_12 => ?_) (fun c_12 => ?_)
              · have c_12 : ¬ (q < ft ∧ (st q).toInt = 1 ∧ (tn q).toInt = 0) := zp_0 c_12
                refine lv_iconst (v := 0) hx hb dX11_count_101 (by decide) ?_
                refine lv_iadd hx hb dX11_count_102 ?_
                refine zz_i (v := nI ((smP (lvF ft st tn) (fun g => nN (mn g)) q) + 0)) (nI_add (smP (lvF ft st tn) (fun g => nN (mn g)) q) 0) ?_
                refine lv_istore (lv' := [(5, .int (nI ((smP (lvF ft st tn) (fun g => nN (mn g)) q) + 0))), (4, .int (nI ((cntP (fun g => ¬ (tn g).toInt = 0) q) + 0))), (3, .int (nI ((cntP (fun g => (st g).toInt = 2) q) + 0))), (2, .int (nI ((cntP (fun g => (st g).toInt = 1) q) + 1))), (6, .int (nI q)), (0, .ref k0), (1, .int 0)]) hx hb dX11_count_103 hl (by decide) rfl (fun ls hl => ?_)
                refine lv_iinc (v := nI (q + 1)) (lv' := [(6, .int (nI (q + 1))), (5, .int (nI ((smP (lvF ft st tn) (fun g => nN (mn g)) q) + 0))), (4, .int (nI ((cntP (fun g => ¬ (tn g).toInt = 0) q) + 0))), (3, .int (nI ((cntP (fun g => (st g).toInt = 2) q) + 0))), (2, .int (nI ((cntP (fun g => (st g).toInt = 1) q) + 1))), (0, .ref k0), (1, .int 0)]) hx hb dX11_count_105 hl (k := 4) rfl (nI_add q 1) (by decide) rfl (fun ls hl => ?_)
                refine lv_goto (tgt := 13) hx hb dX11_count_108 (by decide) ?_
                have hl9 := lv_sub hl [0, 1, 2, 3, 4, 5, 6] rfl
                have e9_2 : nI (cntP (fun g => (st g).toInt = 1) (q + 1)) = (nI ((cntP (fun g => (st g).toInt = 1) q) + 1) : Int32) := by first | exact congrArg nI (cntP_y (P := fun g => (st g).toInt = 1) (show (st q).toInt = 1 by omega)) | exact congrArg nI (cntP_n0 (P := fun g => (st g).toInt = 1) (show ¬ (st q).toInt = 1 by omega))
                have e9_3 : nI (cntP (fun g => (st g).toInt = 2) (q + 1)) = (nI ((cntP (fun g => (st g).toInt = 2) q) + 0) : Int32) := by first | exact congrArg nI (cntP_y (P := fun g => (st g).toInt = 2) (show (st q).toInt = 2 by omega)) | exact congrArg nI (cntP_n0 (P := fun g => (st g).toInt = 2) (show ¬ (st q).toInt = 2 by omega))
                have e9_4 : nI (cntP (fun g => ¬ (tn g).toInt = 0) (q + 1)) = (nI ((cntP (fun g => ¬ (tn g).toInt = 0) q) + 0) : Int32) := by first | exact congrArg nI (cntP_y (P := fun g => ¬ (tn g).toInt = 0) (show ¬ (tn q).toInt = 0 by omega)) | exact congrArg nI (cntP_n0 (P := fun g => ¬ (tn g).toInt = 0) (show ¬ ¬ (tn q).toInt = 0 by omega))
                have e9_5 : nI (smP (lvF ft st tn) (fun g => nN (mn g)) (q + 1)) = (nI ((smP (lvF ft st tn) (fun g => nN (mn g)) q) + 0) : Int32) := by first | exact congrArg nI (smP_y (P := lvF ft st tn) (by assumption)) | exact congrArg nI (smP_n (P := lvF ft st tn) (by assumption))
                have hl9 : lv_has ls 7 [(6, .int (nI (q + 1))), (5, .int (nI (smP (lvF ft st tn) (fun g => nN (mn g)) (q + 1)))), (4, .int (nI (cntP (fun g => ¬ (tn g).toInt = 0) (q + 1)))), (3, .int (nI (cntP (fun g => (st g).toInt = 2) (q + 1)))), (2, .int (nI (cntP (fun g => (st g).toInt = 1) (q + 1)))), (0, .ref k0), (1, .int 0)] := by rw [e9_2]; rw [e9_3]; rw [e9_4]; rw [e9_5]; exact hl9
                exact ih_13 (q + 1) H locs ls (by omega) (by omega) hP hD hS hl9
              · have c_12 : q < ft ∧ (st q).toInt = 1 ∧ (tn q).toInt = 0 := zp_1 c_12
                refine lv_aload_n hx hb dX11_count_91 rfl (lv_at hl 5 rfl) ?_
                refine va_get (D := (dC, dI)) (ci := 9) (v := .ref (a 11)) (C := RX11) (T := TX11) (N := 55) hx hb hts inX11 hown hK hP 0 rfl rfl 11 (by decide) (hts _ mw_1170) (fun _ h9 => h9) rfl dX11_count_92 ?_
                refine lv_iload hx hb dX11_count_95 (lv_at hl 3 rfl) ?_
                refine z_iald hx hb hK hP 3 0 rfl rfl (e := q) rfl (by omega) (by omega) dX11_count_97 ?_
                refine zz_i (v := nI (nN (mn q))) ((hmw q (by assumption)).1) ?_
                refine lv_goto (tgt := 102) hx hb dX11_count_98 (by decide) ?_
                refine lv_iadd hx hb dX11_count_102 ?_
                refine zz_i (v := nI ((smP (lvF ft st tn) (fun g => nN (mn g)) q) + (nN (mn q)))) (nI_add (smP (lvF ft st tn) (fun g => nN (mn g)) q) (nN (mn q))) ?_
                refine lv_istore (lv' := [(5, .int (nI ((smP (lvF ft st tn) (fun g => nN (mn g)) q) + (nN (mn q))))), (4, .int (nI ((cntP (fun g => ¬ (tn g).toInt = 0) q) + 0))), (3, .int (nI ((cntP (fun g => (st g).toInt = 2) q) + 0))), (2, .int (nI ((cntP (fun g => (st g).toInt = 1) q) + 1))), (6, .int (nI q)), (0, .ref k0), (1, .int 0)]) hx hb dX11_count_103 hl (by decide) rfl (fun ls hl => ?_)
                refine lv_iinc (v := nI (q + 1)) (lv' := [(6, .int (nI (q + 1))), (5, .int (nI ((smP (lvF ft st tn) (fun g => nN (mn g)) q) + (nN (mn q))))), (4, .int (nI ((cntP (fun g => ¬ (tn g).toInt = 0) q) + 0))), (3, .int (nI ((cntP (fun g => (st g).toInt = 2) q) + 0))), (2, .int (nI ((cntP (fun g => (st g).toInt = 1) q) + 1))), (0, .ref k0), (1, .int 0)]) hx hb dX11_count_105 hl (k := 4) rfl (nI_add q 1) (by decide) rfl (fun ls hl => ?_)
                refine lv_goto (tgt := 13) hx hb dX11_count_108 (by decide) ?_
                have hl9 := lv_sub hl [0, 1, 2, 3, 4, 5, 6] rfl
                have e9_2 : nI (cntP (fun g => (st g).toInt = 1) (q + 1)) = (nI ((cntP (fun g => (st g).toInt = 1) q) + 1) : Int32) := by first | exact congrArg nI (cntP_y (P := fun g => (st g).toInt = 1) (show (st q).toInt = 1 by omega)) | exact congrArg nI (cntP_n0 (P := fun g => (st g).toInt = 1) (show ¬ (st q).toInt = 1 by omega))
                have e9_3 : nI (cntP (fun g => (st g).toInt = 2) (q + 1)) = (nI ((cntP (fun g => (st g).toInt = 2) q) + 0) : Int32) := by first | exact congrArg nI (cntP_y (P := fun g => (st g).toInt = 2) (show (st q).toInt = 2 by omega)) | exact congrArg nI (cntP_n0 (P := fun g => (st g).toInt = 2) (show ¬ (st q).toInt = 2 by omega))
                have e9_4 : nI (cntP (fun g => ¬ (tn g).toInt = 0) (q + 1)) = (nI ((cntP (fun g => ¬ (tn g).toInt = 0) q) + 0) : Int32) := by first | exact congrArg nI (cntP_y (P := fun g => ¬ (tn g).toInt = 0) (show ¬ (tn q).toInt = 0 by omega)) | exact congrArg nI (cntP_n0 (P := fun g => ¬ (tn g).toInt = 0) (show ¬ ¬ (tn q).toInt = 0 by omega))
                have e9_5 : nI (smP (lvF ft st tn) (fun g => nN (mn g)) (q + 1)) = (nI ((smP (lvF ft st tn) (fun g => nN (mn g)) q) + (nN (mn q))) : Int32) := by first | exact congrArg nI (smP_y (P := lvF ft st tn) (by assumption)) | exact congrArg nI (smP_n (P := lvF ft st tn) (by assumption))
                have hl9 : lv_has ls 7 [(6, .int (nI (q + 1))), (5, .int (nI (smP (lvF ft st tn) (fun g => nN (mn g)) (q + 1)))), (4, .int (nI (cntP (fun g => ¬ (tn g).toInt = 0) (q + 1)))), (3, .int (nI (cntP (fun g => (st g).toInt = 2) (q + 1)))), (2, .int (nI (cntP (fun g => (st g).toInt = 1) (q + 1)))), (0, .ref k0), (1, .int 0)] := by rw [e9_2]; rw [e9_3]; rw [e9_4]; rw [e9_5]; exact hl9
                exact ih_13 (q + 1) H locs ls (by omega) (by omega) hP hD hS hl9
            · have c_11 : ¬ (tn q).toInt = 0 := zc_ne rfl (by decide) c_11
              refine lv_iconst (v := 1) hx hb dX11_count_72 (by decide) ?_
              refine lv_goto (tgt := 77) hx hb dX11_count_73 (by decide) ?_
              refine lv_iadd hx hb dX11_count_77 ?_
              refine zz_i (v := nI ((cntP (fun g => ¬ (tn g).toInt = 0) q) + 1)) (nI_add (cntP (fun g => ¬ (tn g).toInt = 0) q) 1) ?_
              refine lv_istore (lv' := [(4, .int (nI ((cntP (fun g => ¬ (tn g).toInt = 0) q) + 1))), (3, .int (nI ((cntP (fun g => (st g).toInt = 2) q) + 0))), (2, .int (nI ((cntP (fun g => (st g).toInt = 1) q) + 1))), (6, .int (nI q)), (5, .int (nI (smP (lvF ft st tn) (fun g => nN (mn g)) q))), (0, .ref k0), (1, .int 0)]) hx hb dX11_count_78 hl (by decide) rfl (fun ls hl => ?_)
              refine lv_iload hx hb dX11_count_80 (lv_at hl 4 rfl) ?_
              refine lv_aload_n hx hb dX11_count_82 rfl (lv_at hl 5 rfl) ?_
              refine lv_iload hx hb dX11_count_83 (lv_at hl 3 rfl) ?_
              have hPc := hP.sub (ws' := [(om k0 a I0 J0), (oa (a 5) cI 201 st), (oa (a 6) cZ 201 tn)]) [0, 1, 2] rfl
              have hDc := hD.sub (ws' := [(om k0 a I0 J0), (oa (a 5) cI 201 st), (oa (a 6) cZ 201 tn)]) [0, 1, 2] (by decide) rfl
              have hFc := va_free (wc := [(om k0 a I0 J0), (oa (a 5) cI 201 st), (oa (a 6) cZ 201 tn)]) hD hS hA [0, 1, 2] rfl
              refine zcall (st1 := [.int (pI (q < ft ∧ (st q).toInt = 1 ∧ (tn q).toInt = 0)), .int (nI (smP (lvF ft st tn) (fun g => nN (mn g)) q))]) (va_runV (As := [.int (nI q)]) (rest := [.int (nI (smP (lvF ft st tn) (fun g => nN (mn g)) q))]) ⟨hx, hb, hml, hown, hts⟩ (k_M_is_n l dC dI cI cZ cF H.size k0 a I0 J0 q ft st tn (by assumption) (by omega) (by omega)) (cwV 1 hts (zz_gV mw_1447 mw_1449 mw_56 mw_110 mc_yX11_is) rfl rfl rfl (by decide +kernel) ⟨Nat.le_of_ble_eq_true rfl, Nat.le_of_ble_eq_true rfl⟩) (zPV2 (q0 := 0) (ci := 9) hPc hDc hK hXN rfl rfl) rfl rfl hl.1 rfl (lv_room (Nat.le_of_ble_eq_true rfl)) dX11_count_85 ⟨Nat.le_of_ble_eq_true rfl, Nat.le_of_ble_eq_true rfl⟩) hS hFc hFc rfl (fun t H1 locs ht hB hk1 hS => ?_)
              obtain ⟨hP1, hD1⟩ := hB
              rw [ht] at hP1
              obtain ⟨hP, hD⟩ := va_join (wr := [(oa (a 11) cI 201 mn)]) (w1 := [(om k0 a I0 J0), (oa (a 5) cI 201 st), (oa (a 6) cZ 201 tn)]) hP hD [0, 1, 2] [3] rfl rfl (by decide) (by decide) hk1 hFc hP1 hD1
              clear hk1 hPc hDc hFc hP1 hD1 ht
              generalize H1 = H at hP hS ⊢
              have hP := hP.sub (ws' := [(om k0 a I0 J0), (oa (a 5) cI 201 st), (oa (a 6) cZ 201 tn), (oa (a 11) cI 201 mn)]) [1, 2, 3, 0] rfl
              have hD := hD.sub (ws' := [(om k0 a I0 J0), (oa (a 5) cI 201 st), (oa (a 6) cZ 201 tn), (oa (a 11) cI 201 mn)]) [1, 2, 3, 0] (by decide) rfl
              have hP : va_P (dC, dI) classes [(om k0 a I0 J0), (oa (a 5) cI 201 st), (oa (a 6) cZ 201 tn), (oa (a 11) cI 201 mn)] H := hP
              have hD : va_D A [(om k0 a I0 J0), (oa (a 5) cI 201 st), (oa (a 6) cZ 201 tn), (oa (a 11) cI 201 mn)] := hD
              refine lv_if_eq (tgt := 101) hx hb dX11_count_88 (by decide) (fun c_13 => ?_) (fun c_13 => ?_)
              · have c_13 : ¬ (q < ft ∧ (st q).toInt = 1 ∧ (tn q).toInt = 0) := zp_0 c_13
                refine lv_iconst (v := 0) hx hb dX11_count_101 (by decide) ?_
                refine lv_iadd hx hb dX11_count_102 ?_
                refine zz_i (v := nI ((smP (lvF ft st tn) (fun g => nN (mn g)) q) + 0)) (nI_add (smP (lvF ft st tn) (fun g => nN (mn g)) q) 0) ?_
                refine lv_istore (lv' := [(5, .int (nI ((smP (lvF ft st tn) (fun g => nN (mn g)) q) + 0))), (4, .int (nI ((cntP (fun g => ¬ (tn g).toInt = 0) q) + 1))), (3, .int (nI ((cntP (fun g => (st g).toInt = 2) q) + 0))), (2, .int (nI ((cntP (fun g => (st g).toInt = 1) q) + 1))), (6, .int (nI q)), (0, .ref k0), (1, .int 0)]) hx hb dX11_count_103 hl (by decide) rfl (fun ls hl => ?_)
                refine lv_iinc (v := nI (q + 1)) (lv' := [(6, .int (nI (q + 1))), (5, .int (nI ((smP (lvF ft st tn) (fun g => nN (mn g)) q) + 0))), (4, .int (nI ((cntP (fun g => ¬ (tn g).toInt = 0) q) + 1))), (3, .int (nI ((cntP (fun g => (st g).toInt = 2) q) + 0))), (2, .int (nI ((cntP (fun g => (st g).toInt = 1) q) + 1))), (0, .ref k0), (1, .int 0)]) hx hb dX11_count_105 hl (k := 4) rfl (nI_add q 1) (by decide) rfl (fun ls hl => ?_)
                refine lv_goto (tgt := 13) hx hb dX11_count_108 (by decide) ?_
                have hl9 := lv_sub hl [0, 1, 2, 3, 4, 5, 6] rfl
                have e9_2 : nI (cntP (fun g => (st g).toInt = 1) (q + 1)) = (nI ((cntP (fun g => (st g).toInt = 1) q) + 1) : Int32) := by first | exact congrArg nI (cntP_y (P := fun g => (st g).toInt = 1) (show (st q).toInt = 1 by omega)) | exact congrArg nI (cntP_n0 (P := fun g => (st g).toInt = 1) (show ¬ (st q).toInt = 1 by omega))
                have e9_3 : nI (cntP (fun g => (st g).toInt = 2) (q + 1)) = (nI ((cntP (fun g => (st g).toInt = 2) q) + 0) : Int32) := by first | exact congrArg nI (cntP_y (P := fun g => (st g).toInt = 2) (show (st q).toInt = 2 by omega)) | exact congrArg nI (cntP_n0 (P := fun g => (st g).toInt = 2) (show ¬ (st q).toInt = 2 by omega))
                have e9_4 : nI (cntP (fun g => ¬ (tn g).toInt = 0) (q + 1)) = (nI ((cntP (fun g => ¬ (tn g).toInt = 0) q) + 1) : Int32) := by first | exact congrArg nI (cntP_y (P := fun g => ¬ (tn g).toInt = 0) (show ¬ (tn q).toInt = 0 by omega)) | exact congrArg nI (cntP_n0 (P := fun g => ¬ (tn g).toInt = 0) (show ¬ ¬ (tn q).toInt = 0 by omega))
                have e9_5 : nI (smP (lvF ft st tn) (fun g => nN (mn g)) (q + 1)) = (nI ((smP (lvF ft st tn) (fun g => nN (mn g)) q) + 0) : Int32) := by first | exact congrArg nI (smP_y (P := lvF ft st tn) (by assumption)) | exact congrArg nI (smP_n (P := lvF ft st tn) (by assumption))
                have hl9 : lv_has ls 7 [(6, .int (nI (q + 1))), (5, .int (nI (smP (lvF ft st tn) (fun g => nN (mn g)) (q + 1)))), (4, .int (nI (cntP (fun g => ¬ (tn g).toInt = 0) (q + 1)))), (3, .int (nI (cntP (fun g => (st g).toInt = 2) (q + 1)))), (2, .int (nI (cntP (fun g => (st g).toInt = 1) (q + 1)))), (0, .ref k0), (1, .int 0)] := by rw [e9_2]; rw [e9_3]; rw [e9_4]; rw [e9_5]; exact hl9
                exact ih_13 (q + 1) H locs ls (by omega) (by omega) hP hD hS hl9
              · have c_13 : q < ft ∧ (st q).toInt = 1 ∧ (tn q).toInt = 0 := zp_1 c_13
                refine lv_aload_n hx hb dX11_count_91 rfl (lv_at hl 5 rfl) ?_
                refine va_get (D := (dC, dI)) (ci := 9) (v := .ref (a 11)) (C := RX11) (T := TX11) (N := 55) hx hb hts inX11 hown hK hP 0 rfl rfl 11 (by decide) (hts _ mw_1170) (fun _ h9 => h9) rfl dX11_count_92 ?_
                refine lv_iload hx hb dX11_count_95 (lv_at hl 3 rfl) ?_
                refine z_iald hx hb hK hP 3 0 rfl rfl (e := q) rfl (by omega) (by omega) dX11_count_97 ?_
                refine zz_i (v := nI (nN (mn q))) ((hmw q (by assumption)).1) ?_
                refine lv_goto (tgt := 102) hx hb dX11_count_98 (by decide) ?_
                refine lv_iadd hx hb dX11_count_102 ?_
                refine zz_i (v := nI ((smP (lvF ft st tn) (fun g => nN (mn g)) q) + (nN (mn q)))) (nI_add (smP (lvF ft st tn) (fun g => nN (mn g)) q) (nN (mn q))) ?_
                refine lv_istore (lv' := [(5, .int (nI ((smP (lvF ft st tn) (fun g => nN (mn g)) q) + (nN (mn q))))), (4, .int (nI ((cntP (fun g => ¬ (tn g).toInt = 0) q) + 1))), (3, .int (nI ((cntP (fun g => (st g).toInt = 2) q) + 0))), (2, .int (nI ((cntP (fun g => (st g).toInt = 1) q) + 1))), (6, .int (nI q)), (0, .ref k0), (1, .int 0)]) hx hb dX11_count_103 hl (by decide) rfl (fun ls hl => ?_)
                refine lv_iinc (v := nI (q + 1)) (lv' := [(6, .int (nI (q + 1))), (5, .int (nI ((smP (lvF ft st tn) (fun g => nN (mn g)) q) + (nN (mn q))))), (4, .int (nI ((cntP (fun g => ¬ (tn g).toInt = 0) q) + 1))), (3, .int (nI ((cntP (fun g => (st g).toInt = 2) q) + 0))), (2, .int (nI ((cntP (fun g => (st g).toInt = 1) q) + 1))), (0, .ref k0), (1, .int 0)]) hx hb dX11_count_105 hl (k := 4) rfl (nI_add q 1) (by decide) rfl (fun ls hl => ?_)
                refine lv_goto (tgt := 13) hx hb dX11_count_108 (by decide) ?_
                have hl9 := lv_sub hl [0, 1, 2, 3, 4, 5, 6] rfl
                have e9_2 : nI (cntP (fun g => (st g).toInt = 1) (q + 1)) = (nI ((cntP (fun g => (st g).toInt = 1) q) + 1) : Int32) := by first | exact congrArg nI (cntP_y (P := fun g => (st g).toInt = 1) (show (st q).toInt = 1 by omega)) | exact congrArg nI (cntP_n0 (P := fun g => (st g).toInt = 1) (show ¬ (st q).toInt = 1 by omega))
                have e9_3 : nI (cntP (fun g => (st g).toInt = 2) (q + 1)) = (nI ((cntP (fun g => (st g).toInt = 2) q) + 0) : Int32) := by first | exact congrArg nI (cntP_y (P := fun g => (st g).toInt = 2) (show (st q).toInt = 2 by omega)) | exact congrArg nI (cntP_n0 (P := fun g => (st g).toInt = 2) (show ¬ (st q).toInt = 2 by omega))
                have e9_4 : nI (cntP (fun g => ¬ (tn g).toInt = 0) (q + 1)) = (nI ((cntP (fun g => ¬ (tn g).toInt = 0) q) + 1) : Int32) := by first | exact congrArg nI (cntP_y (P := fun g => ¬ (tn g).toInt = 0) (show ¬ (tn q).toInt = 0 by omega)) | exact congrArg nI (cntP_n0 (P := fun g => ¬ (tn g).toInt = 0) (show ¬ ¬ (tn q).toInt = 0 by omega))
                have e9_5 : nI (smP (lvF ft st tn) (fun g => nN (mn g)) (q + 1)) = (nI ((smP (lvF ft st tn) (fun g => nN (mn g)) q) + (nN (mn q))) : Int32) := by first | exact congrArg nI (smP_y (P := lvF ft st tn) (by assumption)) | exact congrArg nI (smP_n (P := lvF ft st tn) (by assumption))
                have hl9 : lv_has ls 7 [(6, .int (nI (q + 1))), (5, .int (nI (smP (lvF ft st tn) (fun g => nN (mn g)) (q + 1)))), (4, .int (nI (cntP (fun g => ¬ (tn g).toInt = 0) (q + 1)))), (3, .int (nI (cntP (fun g => (st g).toInt = 2) (q + 1)))), (2, .int (nI (cntP (fun g => (st g).toInt = 1) (q + 1)))), (0, .ref k0), (1, .int 0)] := by rw [e9_2]; rw [e9_3]; rw [e9_4]; rw [e9_5]; exact hl9
                exact ih_13 (q + 1) H locs ls (by omega) (by omega) hP hD hS hl9
          · have c_10 : (st q).toInt = 2 := zc_eq rfl (by decide) c_10
            refine lv_iconst (v := 1) hx hb dX11_count_53 (by decide) ?_
            refine lv_goto (tgt := 58) hx hb dX11_count_54 (by decide) ?_
            refine lv_iadd hx hb dX11_count_58 ?_
            refine zz_i (v := nI ((cntP (fun g => (st g).toInt = 2) q) + 1)) (nI_add (cntP (fun g => (st g).toInt = 2) q) 1) ?_
            refine lv_istore_n (lv' := [(3, .int (nI ((cntP (fun g => (st g).toInt = 2) q) + 1))), (2, .int (nI ((cntP (fun g => (st g).toInt = 1) q) + 1))), (6, .int (nI q)), (5, .int (nI (smP (lvF ft st tn) (fun g => nN (mn g)) q))), (4, .int (nI (cntP (fun g => ¬ (tn g).toInt = 0) q))), (0, .ref k0), (1, .int 0)]) hx hb dX11_count_59 rfl hl (by decide) rfl (fun ls hl => ?_)
            refine lv_iload hx hb dX11_count_60 (lv_at hl 4 rfl) ?_
            refine lv_aload_n hx hb dX11_count_62 rfl (lv_at hl 5 rfl) ?_
            refine va_get (D := (dC, dI)) (ci := 9) (v := .ref (a 6)) (C := RX11) (T := TX11) (N := 55) hx hb hts inX11 hown hK hP 0 rfl rfl 6 (by decide) (hts _ mw_1165) (fun _ h9 => h9) rfl dX11_count_63 ?_
            refine lv_iload hx hb dX11_count_66 (lv_at hl 2 rfl) ?_
            refine z_zald hx hb hK hP 2 1 rfl rfl (e := q) rfl (by omega) (by omega) dX11_count_68 ?_
            refine lv_if_eq (tgt := 76) hx hb dX11_count_69 (by decide) (fun c_14 => ?_) (fun c_14 => ?_)
            · have c_14 : (tn q).toInt = 0 := zc_eq rfl (by decide) c_14
              refine lv_iconst (v := 0) hx hb dX11_count_76 (by decide) ?_
              refine lv_iadd hx hb dX11_count_77 ?_
              refine zz_i (v := nI ((cntP (fun g => ¬ (tn g).toInt = 0) q) + 0)) (nI_add (cntP (fun g => ¬ (tn g).toInt = 0) q) 0) ?_
              refine lv_istore (lv' := [(4, .int (nI ((cntP (fun g => ¬ (tn g).toInt = 0) q) + 0))), (3, .int (nI ((cntP (fun g => (st g).toInt = 2) q) + 1))), (2, .int (nI ((cntP (fun g => (st g).toInt = 1) q) + 1))), (6, .int (nI q)), (5, .int (nI (smP (lvF ft st tn) (fun g => nN (mn g)) q))), (0, .ref k0), (1, .int 0)]) hx hb dX11_count_78 hl (by decide) rfl (fun ls hl => ?_)
              refine lv_iload hx hb dX11_count_80 (lv_at hl 4 rfl) ?_
              refine lv_aload_n hx hb dX11_count_82 rfl (lv_at hl 5 rfl) ?_
              refine lv_iload hx hb dX11_count_83 (lv_at hl 3 rfl) ?_
              have hPc := hP.sub (ws' := [(om k0 a I0 J0), (oa (a 5) cI 201 st), (oa (a 6) cZ 201 tn)]) [0, 1, 2] rfl
              have hDc := hD.sub (ws' := [(om k0 a I0 J0), (oa (a 5) cI 201 st), (oa (a 6) cZ 201 tn)]) [0, 1, 2] (by decide) rfl
              have hFc := va_free (wc := [(om k0 a I0 J0), (oa (a 5) cI 201 st), (oa (a 6) cZ 201 tn)]) hD hS hA [0, 1, 2] rfl
              refine zcall (st1 := [.int (pI (q < ft ∧ (st q).toInt = 1 ∧ (tn q).toInt = 0)), .int (nI (smP (lvF ft st tn) (fun g => nN (mn g)) q))]) (va_runV (As := [.int (nI q)]) (rest := [.int (nI (smP (lvF ft st tn) (fun g => nN (mn g)) q))]) ⟨hx, hb, hml, hown, hts⟩ (k_M_is_n l dC dI cI cZ cF H.size k0 a I0 J0 q ft st tn (by assumption) (by omega) (by omega)) (cwV 1 hts (zz_gV mw_1447 mw_1449 mw_56 mw_110 mc_yX11_is) rfl rfl rfl (by decide +kernel) ⟨Nat.le_of_ble_eq_true rfl, Nat.le_of_ble_eq_true rfl⟩) (zPV2 (q0 := 0) (ci := 9) hPc hDc hK hXN rfl rfl) rfl rfl hl.1 rfl (lv_room (Nat.le_of_ble_eq_true rfl)) dX11_count_85 ⟨Nat.le_of_ble_eq_true rfl, Nat.le_of_ble_eq_true rfl⟩) hS hFc hFc rfl (fun t H1 locs ht hB hk1 hS => ?_)
              obtain ⟨hP1, hD1⟩ := hB
              rw [ht] at hP1
              obtain ⟨hP, hD⟩ := va_join (wr := [(oa (a 11) cI 201 mn)]) (w1 := [(om k0 a I0 J0), (oa (a 5) cI 201 st), (oa (a 6) cZ 201 tn)]) hP hD [0, 1, 2] [3] rfl rfl (by decide) (by decide) hk1 hFc hP1 hD1
              clear hk1 hPc hDc hFc hP1 hD1 ht
              generalize H1 = H at hP hS ⊢
              have hP := hP.sub (ws' := [(om k0 a I0 J0), (oa (a 5) cI 201 st), (oa (a 6) cZ 201 tn), (oa (a 11) cI 201 mn)]) [1, 2, 3, 0] rfl
              have hD := hD.sub (ws' := [(om k0 a I0 J0), (oa (a 5) cI 201 st), (oa (a 6) cZ 201 tn), (oa (a 11) cI 201 mn)]) [1, 2, 3, 0] (by decide) rfl
              have hP : va_P (dC, dI) classes [(om k0 a I0 J0), (oa (a 5) cI 201 st), (oa (a 6) cZ 201 tn), (oa (a 11) cI 201 mn)] H := hP
              have hD : va_D A [(om k0 a I0 J0), (oa (a 5) cI 201 st), (oa (a 6) cZ 201 tn), (oa (a 11) cI 201 mn)] := hD
              refine lv_if_eq (tgt := 101) hx hb dX11_count_88 (by decide) (fun c_15 => ?_) (fun c_15 => ?_)
              · have c_15 : ¬ (q < ft ∧ (st q).toInt = 1 ∧ (tn q).toInt = 0) := zp_0 c_15
                refine lv_iconst (v := 0) hx hb dX11_count_101 (by decide) ?_
                refine lv_iadd hx hb dX11_count_102 ?_
                refine zz_i (v := nI ((smP (lvF ft st tn) (fun g => nN (mn g)) q) + 0)) (nI_add (smP (lvF ft st tn) (fun g => nN (mn g)) q) 0) ?_
                refine lv_istore (lv' := [(5, .int (nI ((smP (lvF ft st tn) (fun g => nN (mn g)) q) + 0))), (4, .int (nI ((cntP (fun g => ¬ (tn g).toInt = 0) q) + 0))), (3, .int (nI ((cntP (fun g => (st g).toInt = 2) q) + 1))), (2, .int (nI ((cntP (fun g => (st g).toInt = 1) q) + 1))), (6, .int (nI q)), (0, .ref k0), (1, .int 0)]) hx hb dX11_count_103 hl (by decide) rfl (fun ls hl => ?_)
                refine lv_iinc (v := nI (q + 1)) (lv' := [(6, .int (nI (q + 1))), (5, .int (nI ((smP (lvF ft st tn) (fun g => nN (mn g)) q) + 0))), (4, .int (nI ((cntP (fun g => ¬ (tn g).toInt = 0) q) + 0))), (3, .int (nI ((cntP (fun g => (st g).toInt = 2) q) + 1))), (2, .int (nI ((cntP (fun g => (st g).toInt = 1) q) + 1))), (0, .ref k0), (1, .int 0)]) hx hb dX11_count_105 hl (k := 4) rfl (nI_add q 1) (by decide) rfl (fun ls hl => ?_)
                refine lv_goto (tgt := 13) hx hb dX11_count_108 (by decide) ?_
                have hl9 := lv_sub hl [0, 1, 2, 3, 4, 5, 6] rfl
                have e9_2 : nI (cntP (fun g => (st g).toInt = 1) (q + 1)) = (nI ((cntP (fun g => (st g).toInt = 1) q) + 1) : Int32) := by first | exact congrArg nI (cntP_y (P := fun g => (st g).toInt = 1) (show (st q).toInt = 1 by omega)) | exact congrArg nI (cntP_n0 (P := fun g => (st g).toInt = 1) (show ¬ (st q).toInt = 1 by omega))
                have e9_3 : nI (cntP (fun g => (st g).toInt = 2) (q + 1)) = (nI ((cntP (fun g => (st g).toInt = 2) q) + 1) : Int32) := by first | exact congrArg nI (cntP_y (P := fun g => (st g).toInt = 2) (show (st q).toInt = 2 by omega)) | exact congrArg nI (cntP_n0 (P := fun g => (st g).toInt = 2) (show ¬ (st q).toInt = 2 by omega))
                have e9_4 : nI (cntP (fun g => ¬ (tn g).toInt = 0) (q + 1)) = (nI ((cntP (fun g => ¬ (tn g).toInt = 0) q) + 0) : Int32) := by first | exact congrArg nI (cntP_y (P := fun g => ¬ (tn g).toInt = 0) (show ¬ (tn q).toInt = 0 by omega)) | exact congrArg nI (cntP_n0 (P := fun g => ¬ (tn g).toInt = 0) (show ¬ ¬ (tn q).toInt = 0 by omega))
                have e9_5 : nI (smP (lvF ft st tn) (fun g => nN (mn g)) (q + 1)) = (nI ((smP (lvF ft st tn) (fun g => nN (mn g)) q) + 0) : Int32) := by first | exact congrArg nI (smP_y (P := lvF ft st tn) (by assumption)) | exact congrArg nI (smP_n (P := lvF ft st tn) (by assumption))
                have hl9 : lv_has ls 7 [(6, .int (nI (q + 1))), (5, .int (nI (smP (lvF ft st tn) (fun g => nN (mn g)) (q + 1)))), (4, .int (nI (cntP (fun g => ¬ (tn g).toInt = 0) (q + 1)))), (3, .int (nI (cntP (fun g => (st g).toInt = 2) (q + 1)))), (2, .int (nI (cntP (fun g => (st g).toInt = 1) (q + 1)))), (0, .ref k0), (1, .int 0)] := by rw [e9_2]; rw [e9_3]; rw [e9_4]; rw [e9_5]; exact hl9
                exact ih_13 (q + 1) H locs ls (by omega) (by omega) hP hD hS hl9
              · have c_15 : q < ft ∧ (st q).toInt = 1 ∧ (tn q).toInt = 0 := zp_1 c_15
                refine lv_aload_n hx hb dX11_count_91 rfl (lv_at hl 5 rfl) ?_
                refine va_get (D := (dC, dI)) (ci := 9) (v := .ref (a 11)) (C := RX11) (T := TX11) (N := 55) hx hb hts inX11 hown hK hP 0 rfl rfl 11 (by decide) (hts _ mw_1170) (fun _ h9 => h9) rfl dX11_count_92 ?_
                refine lv_iload hx hb dX11_count_95 (lv_at hl 3 rfl) ?_
                refine z_iald hx hb hK hP 3 0 rfl rfl (e := q) rfl (by omega) (by omega) dX11_count_97 ?_
                refine zz_i (v := nI (nN (mn q))) ((hmw q (by assumption)).1) ?_
                refine lv_goto (tgt := 102) hx hb dX11_count_98 (by decide) ?_
                refine lv_iadd hx hb dX11_count_102 ?_
                refine zz_i (v := nI ((smP (lvF ft st tn) (fun g => nN (mn g)) q) + (nN (mn q)))) (nI_add (smP (lvF ft st tn) (fun g => nN (mn g)) q) (nN (mn q))) ?_
                refine lv_istore (lv' := [(5, .int (nI ((smP (lvF ft st tn) (fun g => nN (mn g)) q) + (nN (mn q))))), (4, .int (nI ((cntP (fun g => ¬ (tn g).toInt = 0) q) + 0))), (3, .int (nI ((cntP (fun g => (st g).toInt = 2) q) + 1))), (2, .int (nI ((cntP (fun g => (st g).toInt = 1) q) + 1))), (6, .int (nI q)), (0, .ref k0), (1, .int 0)]) hx hb dX11_count_103 hl (by decide) rfl (fun ls hl => ?_)
                refine lv_iinc (v := nI (q + 1)) (lv' := [(6, .int (nI (q + 1))), (5, .int (nI ((smP (lvF ft st tn) (fun g => nN (mn g)) q) + (nN (mn q))))), (4, .int (nI ((cntP (fun g => ¬ (tn g).toInt = 0) q) + 0))), (3, .int (nI ((cntP (fun g => (st g).toInt = 2) q) + 1))), (2, .int (nI ((cntP (fun g => (st g).toInt = 1) q) + 1))), (0, .ref k0), (1, .int 0)]) hx hb dX11_count_105 hl (k := 4) rfl (nI_add q 1) (by decide) rfl (fun ls hl => ?_)
                refine lv_goto (tgt := 13) hx hb dX11_count_108 (by decide) ?_
                have hl9 := lv_sub hl [0, 1, 2, 3, 4, 5, 6] rfl
                have e9_2 : nI (cntP (fun g => (st g).toInt = 1) (q + 1)) = (nI ((cntP (fun g => (st g).toInt = 1) q) + 1) : Int32) := by first | exact congrArg nI (cntP_y (P := fun g => (st g).toInt = 1) (show (st q).toInt = 1 by omega)) | exact congrArg nI (cntP_n0 (P := fun g => (st g).toInt = 1) (show ¬ (st q).toInt = 1 by omega))
                have e9_3 : nI (cntP (fun g => (st g).toInt = 2) (q + 1)) = (nI ((cntP (fun g => (st g).toInt = 2) q) + 1) : Int32) := by first | exact congrArg nI (cntP_y (P := fun g => (st g).toInt = 2) (show (st q).toInt = 2 by omega)) | exact congrArg nI (cntP_n0 (P := fun g => (st g).toInt = 2) (show ¬ (st q).toInt = 2 by omega))
                have e9_4 : nI (cntP (fun g => ¬ (tn g).toInt = 0) (q + 1)) = (nI ((cntP (fun g => ¬ (tn g).toInt = 0) q) + 0) : Int32) := by first | exact congrArg nI (cntP_y (P := fun g => ¬ (tn g).toInt = 0) (show ¬ (tn q).toInt = 0 by omega)) | exact congrArg nI (cntP_n0 (P := fun g => ¬ (tn g).toInt = 0) (show ¬ ¬ (tn q).toInt = 0 by omega))
                have e9_5 : nI (smP (lvF ft st tn) (fun g => nN (mn g)) (q + 1)) = (nI ((smP (lvF ft st tn) (fun g => nN (mn g)) q) + (nN (mn q))) : Int32) := by first | exact congrArg nI (smP_y (P := lvF ft st tn) (by assumption)) | exact congrArg nI (smP_n (P := lvF ft st tn) (by assumption))
                have hl9 : lv_has ls 7 [(6, .int (nI (q + 1))), (5, .int (nI (smP (lvF ft st tn) (fun g => nN (mn g)) (q + 1)))), (4, .int (nI (cntP (fun g => ¬ (tn g).toInt = 0) (q + 1)))), (3, .int (nI (cntP (fun g => (st g).toInt = 2) (q + 1)))), (2, .int (nI (cntP (fun g => (st g).toInt = 1) (q + 1)))), (0, .ref k0), (1, .int 0)] := by rw [e9_2]; rw [e9_3]; rw [e9_4]; rw [e9_5]; exact hl9
                exact ih_13 (q + 1) H locs ls (by omega) (by omega) hP hD hS hl9
            · have c_14 : ¬ (tn q).toInt = 0 := zc_ne rfl (by decide) c_14
              refine lv_iconst (v := 1) hx hb dX11_count_72 (by decide) ?_
              refine lv_goto (tgt := 77) hx hb dX11_count_73 (by decide) ?_
              refine lv_iadd hx hb dX11_count_77 ?_
              refine zz_i (v := nI ((cntP (fun g => ¬ (tn g).toInt = 0) q) + 1)) (nI_add (cntP (fun g => ¬ (tn g).toInt = 0) q) 1) ?_
              refine lv_istore (lv' := [(4, .int (nI ((cntP (fun g => ¬ (tn g).toInt = 0) q) + 1))), (3, .int (nI ((cntP (fun g => (st g).toInt = 2) q) + 1))), (2, .int (nI ((cntP (fun g => (st g).toInt = 1) q) + 1))), (6, .int (nI q)), (5, .int (nI (smP (lvF ft st tn) (fun g => nN (mn g)) q))), (0, .ref k0), (1, .int 0)]) hx hb dX11_count_78 hl (by decide) rfl (fun ls hl => ?_)
              refine lv_iload hx hb dX11_count_80 (lv_at hl 4 rfl) ?_
              refine lv_aload_n hx hb dX11_count_82 rfl (lv_at hl 5 rfl) ?_
              refine lv_iload hx hb dX11_count_83 (lv_at hl 3 rfl) ?_
              have hPc := hP.sub (ws' := [(om k0 a I0 J0), (oa (a 5) cI 201 st), (oa (a 6) cZ 201 tn)]) [0, 1, 2] rfl
              have hDc := hD.sub (ws' := [(om k0 a I0 J0), (oa (a 5) cI 201 st), (oa (a 6) cZ 201 tn)]) [0, 1, 2] (by decide) rfl
              have hFc := va_free (wc := [(om k0 a I0 J0), (oa (a 5) cI 201 st), (oa (a 6) cZ 201 tn)]) hD hS hA [0, 1, 2] rfl
              refine zcall (st1 := [.int (pI (q < ft ∧ (st q).toInt = 1 ∧ (tn q).toInt = 0)), .int (nI (smP (lvF ft st tn) (fun g => nN (mn g)) q))]) (va_runV (As := [.int (nI q)]) (rest := [.int (nI (smP (lvF ft st tn) (fun g => nN (mn g)) q))]) ⟨hx, hb, hml, hown, hts⟩ (k_M_is_n l dC dI cI cZ cF H.size k0 a I0 J0 q ft st tn (by assumption) (by omega) (by omega)) (cwV 1 hts (zz_gV mw_1447 mw_1449 mw_56 mw_110 mc_yX11_is) rfl rfl rfl (by decide +kernel) ⟨Nat.le_of_ble_eq_true rfl, Nat.le_of_ble_eq_true rfl⟩) (zPV2 (q0 := 0) (ci := 9) hPc hDc hK hXN rfl rfl) rfl rfl hl.1 rfl (lv_room (Nat.le_of_ble_eq_true rfl)) dX11_count_85 ⟨Nat.le_of_ble_eq_true rfl, Nat.le_of_ble_eq_true rfl⟩) hS hFc hFc rfl (fun t H1 locs ht hB hk1 hS => ?_)
              obtain ⟨hP1, hD1⟩ := hB
              rw [ht] at hP1
              obtain ⟨hP, hD⟩ := va_join (wr := [(oa (a 11) cI 201 mn)]) (w1 := [(om k0 a I0 J0), (oa (a 5) cI 201 st), (oa (a 6) cZ 201 tn)]) hP hD [0, 1, 2] [3] rfl rfl (by decide) (by decide) hk1 hFc hP1 hD1
              clear hk1 hPc hDc hFc hP1 hD1 ht
              generalize H1 = H at hP hS ⊢
              have hP := hP.sub (ws' := [(om k0 a I0 J0), (oa (a 5) cI 201 st), (oa (a 6) cZ 201 tn), (oa (a 11) cI 201 mn)]) [1, 2, 3, 0] rfl
              have hD := hD.sub (ws' := [(om k0 a I0 J0), (oa (a 5) cI 201 st), (oa (a 6) cZ 201 tn), (oa (a 11) cI 201 mn)]) [1, 2, 3, 0] (by decide) rfl
              have hP : va_P (dC, dI) classes [(om k0 a I0 J0), (oa (a 5) cI 201 st), (oa (a 6) cZ 201 tn), (oa (a 11) cI 201 mn)] H := hP
              have hD : va_D A [(om k0 a I0 J0), (oa (a 5) cI 201 st), (oa (a 6) cZ 201 tn), (oa (a 11) cI 201 mn)] := hD
              refine lv_if_eq (tgt := 101) hx hb dX11_count_88 (by decide) (fun c_16 => ?_) (fun c_16 => ?_)
              · have c_16 : ¬ (q < ft ∧ (st q).toInt = 1 ∧ (tn q).toInt = 0) := zp_0 c_16
                refine lv_iconst (v := 0) hx hb dX11_count_101 (by decide) ?_
                refine lv_iadd hx hb dX11_count_102 ?_
                refine zz_i (v := nI ((smP (lvF ft st tn) (fun g => nN (mn g)) q) + 0)) (nI_add (smP (lvF ft st tn) (fun g => nN (mn g)) q) 0) ?_
                refine lv_istore (lv' := [(5, .int (nI ((smP (lvF ft st tn) (fun g => nN (mn g)) q) + 0))), (4, .int (nI ((cntP (fun g => ¬ (tn g).toInt = 0) q) + 1))), (3, .int (nI ((cntP (fun g => (st g).toInt = 2) q) + 1))), (2, .int (nI ((cntP (fun g => (st g).toInt = 1) q) + 1))), (6, .int (nI q)), (0, .ref k0), (1, .int 0)]) hx hb dX11_count_103 hl (by decide) rfl (fun ls hl => ?_)
                refine lv_iinc (v := nI (q + 1)) (lv' := [(6, .int (nI (q + 1))), (5, .int (nI ((smP (lvF ft st tn) (fun g => nN (mn g)) q) + 0))), (4, .int (nI ((cntP (fun g => ¬ (tn g).toInt = 0) q) + 1))), (3, .int (nI ((cntP (fun g => (st g).toInt = 2) q) + 1))), (2, .int (nI ((cntP (fun g => (st g).toInt = 1) q) + 1))), (0, .ref k0), (1, .int 0)]) hx hb dX11_count_105 hl (k := 4) rfl (nI_add q 1) (by decide) rfl (fun ls hl => ?_)
                refine lv_goto (tgt := 13) hx hb dX11_count_108 (by decide) ?_
                have hl9 := lv_sub hl [0, 1, 2, 3, 4, 5, 6] rfl
                have e9_2 : nI (cntP (fun g => (st g).toInt = 1) (q + 1)) = (nI ((cntP (fun g => (st g).toInt = 1) q) + 1) : Int32) := by first | exact congrArg nI (cntP_y (P := fun g => (st g).toInt = 1) (show (st q).toInt = 1 by omega)) | exact congrArg nI (cntP_n0 (P := fun g => (st g).toInt = 1) (show ¬ (st q).toInt = 1 by omega))
                have e9_3 : nI (cntP (fun g => (st g).toInt = 2) (q + 1)) = (nI ((cntP (fun g => (st g).toInt = 2) q) + 1) : Int32) := by first | exact congrArg nI (cntP_y (P := fun g => (st g).toInt = 2) (show (st q).toInt = 2 by omega)) | exact congrArg nI (cntP_n0 (P := fun g => (st g).toInt = 2) (show ¬ (st q).toInt = 2 by omega))
                have e9_4 : nI (cntP (fun g => ¬ (tn g).toInt = 0) (q + 1)) = (nI ((cntP (fun g => ¬ (tn g).toInt = 0) q) + 1) : Int32) := by first | exact congrArg nI (cntP_y (P := fun g => ¬ (tn g).toInt = 0) (show ¬ (tn q).toInt = 0 by omega)) | exact congrArg nI (cntP_n0 (P := fun g => ¬ (tn g).toInt = 0) (show ¬ ¬ (tn q).toInt = 0 by omega))
                have e9_5 : nI (smP (lvF ft st tn) (fun g => nN (mn g)) (q + 1)) = (nI ((smP (lvF ft st tn) (fun g => nN (mn g)) q) + 0) : Int32) := by first | exact congrArg nI (smP_y (P := lvF ft st tn) (by assumption)) | exact congrArg nI (smP_n (P := lvF ft st tn) (by assumption))
                have hl9 : lv_has ls 7 [(6, .int (nI (q + 1))), (5, .int (nI (smP (lvF ft st tn) (fun g => nN (mn g)) (q + 1)))), (4, .int (nI (cntP (fun g => ¬ (tn g).toInt = 0) (q + 1)))), (3, .int (nI (cntP (fun g => (st g).toInt = 2) (q + 1)))), (2, .int (nI (cntP (fun g => (st g).toInt = 1) (q + 1)))), (0, .ref k0), (1, .int 0)] := by rw [e9_2]; rw [e9_3]; rw [e9_4]; rw [e9_5]; exact hl9
                exact ih_13 (q + 1) H locs ls (by omega) (by omega) hP hD hS hl9
              · have c_16 : q < ft ∧ (st q).toInt = 1 ∧ (tn q).toInt = 0 := zp_1 c_16
                refine lv_aload_n hx hb dX11_count_91 rfl (lv_at hl 5 rfl) ?_
                refine va_get (D := (dC, dI)) (ci := 9) (v := .ref (a 11)) (C := RX11) (T := TX11) (N := 55) hx hb hts inX11 hown hK hP 0 rfl rfl 11 (by decide) (hts _ mw_1170) (fun _ h9 => h9) rfl dX11_count_92 ?_
                refine lv_iload hx hb dX11_count_95 (lv_at hl 3 rfl) ?_
                refine z_iald hx hb hK hP 3 0 rfl rfl (e := q) rfl (by omega) (by omega) dX11_count_97 ?_
                refine zz_i (v := nI (nN (mn q))) ((hmw q (by assumption)).1) ?_
                refine lv_goto (tgt := 102) hx hb dX11_count_98 (by decide) ?_
                refine lv_iadd hx hb dX11_count_102 ?_
                refine zz_i (v := nI ((smP (lvF ft st tn) (fun g => nN (mn g)) q) + (nN (mn q)))) (nI_add (smP (lvF ft st tn) (fun g => nN (mn g)) q) (nN (mn q))) ?_
                refine lv_istore (lv' := [(5, .int (nI ((smP (lvF ft st tn) (fun g => nN (mn g)) q) + (nN (mn q))))), (4, .int (nI ((cntP (fun g => ¬ (tn g).toInt = 0) q) + 1))), (3, .int (nI ((cntP (fun g => (st g).toInt = 2) q) + 1))), (2, .int (nI ((cntP (fun g => (st g).toInt = 1) q) + 1))), (6, .int (nI q)), (0, .ref k0), (1, .int 0)]) hx hb dX11_count_103 hl (by decide) rfl (fun ls hl => ?_)
                refine lv_iinc (v := nI (q + 1)) (lv' := [(6, .int (nI (q + 1))), (5, .int (nI ((smP (lvF ft st tn) (fun g => nN (mn g)) q) + (nN (mn q))))), (4, .int (nI ((cntP (fun g => ¬ (tn g).toInt = 0) q) + 1))), (3, .int (nI ((cntP (fun g => (st g).toInt = 2) q) + 1))), (2, .int (nI ((cntP (fun g => (st g).toInt = 1) q) + 1))), (0, .ref k0), (1, .int 0)]) hx hb dX11_count_105 hl (k := 4) rfl (nI_add q 1) (by decide) rfl (fun ls hl => ?_)
                refine lv_goto (tgt := 13) hx hb dX11_count_108 (by decide) ?_
                have hl9 := lv_sub hl [0, 1, 2, 3, 4, 5, 6] rfl
                have e9_2 : nI (cntP (fun g => (st g).toInt = 1) (q + 1)) = (nI ((cntP (fun g => (st g).toInt = 1) q) + 1) : Int32) := by first | exact congrArg nI (cntP_y (P := fun g => (st g).toInt = 1) (show (st q).toInt = 1 by omega)) | exact congrArg nI (cntP_n0 (P := fun g => (st g).toInt = 1) (show ¬ (st q).toInt = 1 by omega))
                have e9_3 : nI (cntP (fun g => (st g).toInt = 2) (q + 1)) = (nI ((cntP (fun g => (st g).toInt = 2) q) + 1) : Int32) := by first | exact congrArg nI (cntP_y (P := fun g => (st g).toInt = 2) (show (st q).toInt = 2 by omega)) | exact congrArg nI (cntP_n0 (P := fun g => (st g).toInt = 2) (show ¬ (st q).toInt = 2 by omega))
                have e9_4 : nI (cntP (fun g => ¬ (tn g).toInt = 0) (q + 1)) = (nI ((cntP (fun g => ¬ (tn g).toInt = 0) q) + 1) : Int32) := by first | exact congrArg nI (cntP_y (P := fun g => ¬ (tn g).toInt = 0) (show ¬ (tn q).toInt = 0 by omega)) | exact congrArg nI (cntP_n0 (P := fun g => ¬ (tn g).toInt = 0) (show ¬ ¬ (tn q).toInt = 0 by omega))
                have e9_5 : nI (smP (lvF ft st tn) (fun g => nN (mn g)) (q + 1)) = (nI ((smP (lvF ft st tn) (fun g => nN (mn g)) q) + (nN (mn q))) : Int32) := by first | exact congrArg nI (smP_y (P := lvF ft st tn) (by assumption)) | exact congrArg nI (smP_n (P := lvF ft st tn) (by assumption))
                have hl9 : lv_has ls 7 [(6, .int (nI (q + 1))), (5, .int (nI (smP (lvF ft st tn) (fun g => nN (mn g)) (q + 1)))), (4, .int (nI (cntP (fun g => ¬ (tn g).toInt = 0) (q + 1)))), (3, .int (nI (cntP (fun g => (st g).toInt = 2) (q + 1)))), (2, .int (nI (cntP (fun g => (st g).toInt = 1) (q + 1)))), (0, .ref k0), (1, .int 0)] := by rw [e9_2]; rw [e9_3]; rw [e9_4]; rw [e9_5]; exact hl9
                exact ih_13 (q + 1) H locs ls (by omega) (by omega) hP hD hS hl9
  have e9_2 : nI (cntP (fun g => (st g).toInt = 1) 0) = (0 : Int32) := by rfl
  have e9_3 : nI (cntP (fun g => (st g).toInt = 2) 0) = (0 : Int32) := by rfl
  have e9_4 : nI (cntP (fun g => ¬ (tn g).toInt = 0) 0) = (0 : Int32) := by rfl
  have e9_5 : nI (smP (lvF ft st tn) (fun g => nN (mn g)) 0) = (0 : Int32) := by rfl
  have hl9 : lv_has ls 7 [(6, .int (nI 0)), (5, .int (nI (smP (lvF ft st tn) (fun g => nN (mn g)) 0))), (4, .int (nI (cntP (fun g => ¬ (tn g).toInt = 0) 0))), (3, .int (nI (cntP (fun g => (st g).toInt = 2) 0))), (2, .int (nI (cntP (fun g => (st g).toInt = 1) 0))), (0, .ref k0), (1, .int 0)] := by rw [e9_2]; rw [e9_3]; rw [e9_4]; rw [e9_5]; exact lv_sub hl [0, 1, 2, 3, 4, 5, 6] rfl
  exact hl_13 _ 0 s.heap [] ls (Nat.lt_succ_self _) (by omega) hP hD hS hl9
set_option maxHeartbeats 4000000 in
set_option maxRecDepth 100000 in
theorem k_M_count_1 (l : Launch) (dC : Nat → ClassId) (dI : Nat → Nat → Nat) (cI cZ cF : ClassId) (sz : Nat) (k0 : Nat) (a : Nat → Nat) (I0 : Nat → Int32) (J0 : Nat → Int64) (ft : Nat) (st : Nat → Int32) (tn : Nat → Int32) (mn : Nat → Int32) (hft : I0 0 = nI ft) (h200 : ft ≤ 200) (hmw : ∀ q, lvF ft st tn q → mn q = nI (nN (mn q)) ∧ nN (mn q) ≤ 40) : Met l yX11_count (.code yX11_count cX11_count 7 (some .int) :: ws0) ({ frames := 2, cells := 0, slots := 0, locals := 42 } : Room) (va_Pc [.ref k0, .int 1] (zPre (dC, dI) classes (zTy cI cZ cF) [(om k0 a I0 J0), (oa (a 5) cI 201 st), (oa (a 6) cZ 201 tn), (oa (a 11) cI 201 mn)] sz zXN)) (zQ (some (.int (nI (cntP (fun g => (st g).toInt = 1) ft)))) (fun t => va_P (dC, dI) classes [(om k0 a I0 J0), (oa (a 5) cI 201 st), (oa (a 6) cZ 201 tn), (oa (a 11) cI 201 mn)] t.heap ∧ va_D (va_A [(om k0 a I0 J0), (oa (a 5) cI 201 st), (oa (a 6) cZ 201 tn), (oa (a 11) cI 201 mn)] sz) [(om k0 a I0 J0), (oa (a 5) cI 201 st), (oa (a 6) cZ 201 tn), (oa (a 11) cI 201 mn)]) (va_A [(om k0 a I0 J0), (oa (a 5) cI 201 st), (oa (a 6) cZ 201 tn), (oa (a 11) cI 201 mn)] sz)) 0 0 (va_A [(om k0 a I0 J0), (oa (a 5) cI 201 st), (oa (a 6) cZ 201 tn), (oa (a 11) cI 201 mn)] sz) := by
  refine Met.ofW (cc := cX11_count) (maxL := 7) (ret := (some .int)) (by decide) rfl ?_
  intro p e s m args below meth c s₁ B hml hv
  obtain ⟨rfl, hsz, hP, hK, hD0, hXN⟩ := hv
  have hx := B.exec
  have hb := B.bytes
  have hr := B.returns
  have hts0 := atoms_spec (ws := .code yX11_count cX11_count 7 (some .int) :: ws0) B.pre
  have hts : ∀ w9 ∈ ws0, w9.before ([.ref k0, .int 1] : List Value).toArray s = true := fun w9 h => hts0 w9 (List.mem_cons_of_mem _ h)
  have hown : s.vm.findClass "ScaleShopModel" = some m.cls := findClass_of_methodNamed B.named
  have hlocks := B.notSynchronized
  subst hsz
  have hD := hD0.self (sz := s.heap.size)
  clear hD0
  generalize hAe : va_A [(om k0 a I0 J0), (oa (a 5) cI 201 st), (oa (a 6) cZ 201 tn), (oa (a 11) cI 201 mn)] s.heap.size = A at hD ⊢
  have hA : ∀ q : Nat, s.heap.size ≤ q → A q := fun q h => by rw [← hAe]; exact Or.inr h
  clear hAe
  have hS : va_S A s.heap s.heap [] := va_S.rf
  have hP : va_P (dC, dI) classes [(om k0 a I0 J0), (oa (a 5) cI 201 st), (oa (a 6) cZ 201 tn), (oa (a 11) cI 201 mn)] s.heap := hP
  obtain ⟨Q9, hQ9⟩ : ∃ Q9 : State → Prop, Q9 = MQ below (zQ (some (.int (nI (cntP (fun g => (st g).toInt = 1) ft)))) (fun t => va_P (dC, dI) classes [(om k0 a I0 J0), (oa (a 5) cI 201 st), (oa (a 6) cZ 201 tn), (oa (a 11) cI 201 mn)] t.heap ∧ va_D A [(om k0 a I0 J0), (oa (a 5) cI 201 st), (oa (a 6) cZ 201 tn), (oa (a 11) cI 201 mn)]) A) ([.ref k0, .int 1] : List Value).toArray s 0 0 A := ⟨_, rfl⟩
  rw [← hQ9]
  have hl := lv_entry ([.ref k0, .int 1]) (n := 7) (Nat.le_of_ble_eq_true rfl)
  rw [lg_entry_eq]
  generalize (lg_sl ([.ref k0, .int 1]) ++ List.replicate (7 - (lg_sl ([.ref k0, .int 1])).length) Slot.unset).toArray = ls at hl ⊢
  have hl : lv_has ls 7 [(0, .ref k0), (1, .int 1)] := hl
  refine lv_iconst (v := 0) hx hb dX11_count_0 (by decide) ?_
  refine lv_istore_n (lv' := [(2, .int 0), (0, .ref k0), (1, .int 1)]) hx hb dX11_count_1 rfl hl (by decide) rfl (fun ls hl => ?_)
  refine lv_iconst (v := 0) hx hb dX11_count_2 (by decide) ?_
  refine lv_istore_n (lv' := [(3, .int 0), (2, .int 0), (0, .ref k0), (1, .int 1)]) hx hb dX11_count_3 rfl hl (by decide) rfl (fun ls hl => ?_)
  refine lv_iconst (v := 0) hx hb dX11_count_4 (by decide) ?_
  refine lv_istore (lv' := [(4, .int 0), (3, .int 0), (2, .int 0), (0, .ref k0), (1, .int 1)]) hx hb dX11_count_5 hl (by decide) rfl (fun ls hl => ?_)
  refine lv_iconst (v := 0) hx hb dX11_count_7 (by decide) ?_
  refine lv_istore (lv' := [(5, .int 0), (4, .int 0), (3, .int 0), (2, .int 0), (0, .ref k0), (1, .int 1)]) hx hb dX11_count_8 hl (by decide) rfl (fun ls hl => ?_)
  refine lv_iconst (v := 0) hx hb dX11_count_10 (by decide) ?_
  refine lv_istore (lv' := [(6, .int 0), (5, .int 0), (4, .int 0), (3, .int 0), (2, .int 0), (0, .ref k0), (1, .int 1)]) hx hb dX11_count_11 hl (by decide) rfl (fun ls hl => ?_)
  have hl_13 : ∀ (n9 : Nat) (q : Nat) (H : Heap) (locs : List Loc) (ls : Array Slot), ft - q < n9 → (q ≤ ft) → va_P (dC, dI) classes [(om k0 a I0 J0), (oa (a 5) cI 201 st), (oa (a 6) cZ 201 tn), (oa (a 11) cI 201 mn)] H → va_D A [(om k0 a I0 J0), (oa (a 5) cI 201 st), (oa (a 6) cZ 201 tn), (oa (a 11) cI 201 mn)] → va_S A s.heap H locs → lv_has ls 7 [(6, .int (nI q)), (5, .int (nI (smP (lvF ft st tn) (fun g => nN (mn g)) q))), (4, .int (nI (cntP (fun g => ¬ (tn g).toInt = 0) q))), (3, .int (nI (cntP (fun g => (st g).toInt = 2) q))), (2, .int (nI (cntP (fun g => (st g).toInt = 1) q))), (0, .ref k0), (1, .int 1)] → W p l e ((headSpec (.code yX11_count cX11_count 7 (some .int) :: ws0) ({ frames := 2, cells := 0, slots := 0, locals := 42 } : Room)).room) s m ([.ref k0, .int 1] : List Value).toArray below meth c H locs 0 0 Q9 (F0 m 13 ls []) := by
    intro n9
    induction n9 with
    | zero => intro q H locs ls hm; exact absurd hm (Nat.not_lt_zero _)
    | succ n9 ih_13 =>
      intro q H locs ls hm hq hP hD hS hl
      have hc2 := cntP_b (fun g => (st g).toInt = 1) q
      have hc3 := cntP_b (fun g => (st g).toInt = 2) q
      have hc4 := cntP_b (fun g => ¬ (tn g).toInt = 0) q
      have hc5 := smP_b (P := lvF ft st tn) (c := fun g => nN (mn g)) q (fun j _ h => (hmw j h).2)
      refine lv_iload hx hb dX11_count_13 (lv_at hl 0 rfl) ?_
      refine lv_aload_n hx hb dX11_count_15 rfl (lv_at hl 5 rfl) ?_
      refine va_get (D := (dC, dI)) (ci := 9) (v := .int (I0 0)) (C := RX11) (T := TX11) (N := 55) hx hb hts inX11 hown hK hP 0 rfl rfl 0 (by decide) (hts _ mw_1159) (fun _ h9 => h9) rfl dX11_count_16 ?_
      refine zz_i (v := nI ft) (hft) ?_
      refine lv_icmp_ge (tgt := 111) hx hb dX11_count_19 (by decide) (fun c_1 => ?_) (fun c_1 => ?_)
      · have c_1 : ((ft : Nat) : Int) ≤ ((q : Nat) : Int) := zc_le (nI_toInt (by omega)) (nI_toInt (by omega)) c_1
        refine lv_iload_n hx hb dX11_count_111 rfl (lv_at hl 6 rfl) ?_
        refine lv_tableIn (tgt := 165) (off := 53) hx hb dX11_count_112 (by decide) (by decide) (by decide) (by decide) ?_
        refine lv_iload_n hx hb dX11_count_165 rfl (lv_at hl 4 rfl) ?_
        have hP9 := hP.sub (ws' := [(om k0 a I0 J0), (oa (a 5) cI 201 st), (oa (a 6) cZ 201 tn), (oa (a 11) cI 201 mn)]) [0, 1, 2, 3] rfl
        have hD9 := hD.sub (ws' := [(om k0 a I0 J0), (oa (a 5) cI 201 st), (oa (a 6) cZ 201 tn), (oa (a 11) cI 201 mn)]) [0, 1, 2, 3] (by decide) rfl
        rw [hQ9]
        exact W.iret (v := nI (cntP (fun g => (st g).toInt = 1) q)) hx hb hr (fun t ht hW => ⟨⟨congrArg (fun z => Outcome.returned (some (Value.int z))) (show (nI (cntP (fun g => (st g).toInt = 1) q) : Int32) = nI (cntP (fun g => (st g).toInt = 1) ft) from zn_eq (by rw [show q = ft by omega])), by rw [ht]; exact hP9, hD9⟩, hS.F ht⟩) hS.2.2 dX11_count_166
      · have c_1 : ((q : Nat) : Int) < ((ft : Nat) : Int) := zc_nle (nI_toInt (by omega)) (nI_toInt (by omega)) c_1
        refine lv_iload_n hx hb dX11_count_22 rfl (lv_at hl 4 rfl) ?_
        refine lv_aload_n hx hb dX11_count_23 rfl (lv_at hl 5 rfl) ?_
        refine va_get (D := (dC, dI)) (ci := 9) (v := .ref (a 5)) (C := RX11) (T := TX11) (N := 55) hx hb hts inX11 hown hK hP 0 rfl rfl 5 (by decide) (hts _ mw_1164) (fun _ h9 => h9) rfl dX11_count_24 ?_
        refine lv_iload hx hb dX11_count_27 (lv_at hl 0 rfl) ?_
        refine z_iald hx hb hK hP 1 0 rfl rfl (e := q) rfl (by omega) (by omega) dX11_count_29 ?_
        refine lv_iconst (v := 1) hx hb dX11_count_30 (by decide) ?_
        refine lv_icmp_ne (tgt := 38) hx hb dX11_count_31 (by decide) (fun c_2 => ?_) (fun c_2 => ?_)
        · have c_2 : ¬ (st q).toInt = 1 := zc_ne rfl (by decide) c_2
          refine lv_iconst (v := 0) hx hb dX11_count_38 (by decide) ?_
          refine lv_iadd hx hb dX11_count_39 ?_
          refine zz_i (v := nI ((cntP (fun g => (st g).toInt = 1) q) + 0)) (nI_add (cntP (fun g => (st g).toInt = 1) q) 0) ?_
          refine lv_istore_n (lv' := [(2, .int (nI ((cntP (fun g => (st g).toInt = 1) q) + 0))), (6, .int (nI q)), (5, .int (nI (smP (lvF ft st tn) (fun g => nN (mn g)) q))), (4, .int (nI (cntP (fun g => ¬ (tn g).toInt = 0) q))), (3, .int (nI (cntP (fun g => (st g).toInt = 2) q))), (0, .ref k0), (1, .int 1)]) hx hb dX11_count_40 rfl hl (by decide) rfl (fun ls hl => ?_)
          refine lv_iload_n hx hb dX11_count_41 rfl (lv_at hl 4 rfl) ?_
          refine lv_aload_n hx hb dX11_count_42 rfl (lv_at hl 5 rfl) ?_
          refine va_get (D := (dC, dI)) (ci := 9) (v := .ref (a 5)) (C := RX11) (T := TX11) (N := 55) hx hb hts inX11 hown hK hP 0 rfl rfl 5 (by decide) (hts _ mw_1164) (fun _ h9 => h9) rfl dX11_count_43 ?_
          refine lv_iload hx hb dX11_count_46 (lv_at hl 1 rfl) ?_
          refine z_iald hx hb hK hP 1 0 rfl rfl (e := q) rfl (by omega) (by omega) dX11_count_48 ?_
          refine lv_iconst (v := 2) hx hb dX11_count_49 (by decide) ?_
          refine lv_icmp_ne (tgt := 57) hx hb dX11_count_50 (by decide) (fun c_3 => ?_) (fun c_3 => ?_)
          · have c_3 : ¬ (st q).toInt = 2 := zc_ne rfl (by decide) c_3
            refine lv_iconst (v := 0) hx hb dX11_count_57 (by decide) ?_
            refine lv_iadd hx hb dX11_count_58 ?_
            refine zz_i (v := nI ((cntP (fun g => (st g).toInt = 2) q) + 0)) (nI_add (cntP (fun g => (st g).toInt = 2) q) 0) ?_
            refine lv_istore_n (lv' := [(3, .int (nI ((cntP (fun g => (st g).toInt = 2) q) + 0))), (2, .int (nI ((cntP (fun g => (st g).toInt = 1) q) + 0))), (6, .int (nI q)), (5, .int (nI (smP (lvF ft st tn) (fun g => nN (mn g)) q))), (4, .int (nI (cntP (fun g => ¬ (tn g).toInt = 0) q))), (0, .ref k0), (1, .int 1)]) hx hb dX11_count_59 rfl hl (by decide) rfl (fun ls hl => ?_)
            refine lv_iload hx hb dX11_count_60 (lv_at hl 4 rfl) ?_
            refine lv_aload_n hx hb dX11_count_62 rfl (lv_at hl 5 rfl) ?_
            refine va_get (D := (dC, dI)) (ci := 9) (v := .ref (a 6)) (C := RX11) (T := TX11) (N := 55) hx hb hts inX11 hown hK hP 0 rfl rfl 6 (by decide) (hts _ mw_1165) (fun _ h9 => h9) rfl dX11_count_63 ?_
            refine lv_iload hx hb dX11_count_66 (lv_at hl 2 rfl) ?_
            refine z_zald hx hb hK hP 2 1 rfl rfl (e := q) rfl (by omega) (by omega) dX11_count_68 ?_
            refine lv_if_eq (tgt := 76) hx hb dX11_count_69 (by decide) (fun c_4 => ?_) (fun c_4 => ?_)
            · have c_4 : (tn q).toInt = 0 := zc_eq rfl (by decide) c_4
              refine lv_iconst (v := 0) hx hb dX11_count_76 (by decide) ?_
              refine lv_iadd hx hb dX11_count_77 ?_
              refine zz_i (v := nI ((cntP (fun g => ¬ (tn g).toInt = 0) q) + 0)) (nI_add (cntP (fun g => ¬ (tn g).toInt = 0) q) 0) ?_
              refine lv_istore (lv' := [(4, .int (nI ((cntP (fun g => ¬ (tn g).toInt = 0) q) + 0))), (3, .int (nI ((cntP (fun g => (st g).toInt = 2) q) + 0))), (2, .int (nI ((cntP (fun g => (st g).toInt = 1) q) + 0))), (6, .int (nI q)), (5, .int (nI (smP (lvF ft st tn) (fun g => nN (mn g)) q))), (0, .ref k0), (1, .int 1)]) hx hb dX11_count_78 hl (by decide) rfl (fun ls hl => ?_)
              refine lv_iload hx hb dX11_count_80 (lv_at hl 4 rfl) ?_
              refine lv_aload_n hx hb dX11_count_82 rfl (lv_at hl 5 rfl) ?_
              refine lv_iload hx hb dX11_count_83 (lv_at hl 3 rfl) ?_
              have hPc := hP.sub (ws' := [(om k0 a I0 J0), (oa (a 5) cI 201 st), (oa (a 6) cZ 201 tn)]) [0, 1, 2] rfl
              have hDc := hD.sub (ws' := [(om k0 a I0 J0), (oa (a 5) cI 201 st), (oa (a 6) cZ 201 tn)]) [0, 1, 2] (by decide) rfl
              have hFc := va_free (wc := [(om k0 a I0 J0), (oa (a 5) cI 201 st), (oa (a 6) cZ 201 tn)]) hD hS hA [0, 1, 2] rfl
              refine zcall (st1 := [.int (pI (q < ft ∧ (st q).toInt = 1 ∧ (tn q).toInt = 0)), .int (nI (smP (lvF ft st tn) (fun g => nN (mn g)) q))]) (va_runV (As := [.int (nI q)]) (rest := [.int (nI (smP (lvF ft st tn) (fun g => nN (mn g)) q))]) ⟨hx, hb, hml, hown, hts⟩ (k_M_is_n l dC dI cI cZ cF H.size k0 a I0 J0 q ft st tn (by assumption) (by omega) (by omega)) (cwV 1 hts (zz_gV mw_1447 mw_1449 mw_56 mw_110 mc_yX11_is) rfl rfl rfl (by decide +kernel) ⟨Nat.le_of_ble_eq_true rfl, Nat.le_of_ble_eq_true rfl⟩) (zPV2 (q0 := 0) (ci := 9) hPc hDc hK hXN rfl rfl) rfl rfl hl.1 rfl (lv_room (Nat.le_of_ble_eq_true rfl)) dX11_count_85 ⟨Nat.le_of_ble_eq_true rfl, Nat.le_of_ble_eq_true rfl⟩) hS hFc hFc rfl (fun t H1 locs ht hB hk1 hS => ?_)
              obtain ⟨hP1, hD1⟩ := hB
              rw [ht] at hP1
              obtain ⟨hP, hD⟩ := va_join (wr := [(oa (a 11) cI 201 mn)]) (w1 := [(om k0 a I0 J0), (oa (a 5) cI 201 st), (oa (a 6) cZ 201 tn)]) hP hD [0, 1, 2] [3] rfl rfl (by decide) (by decide) hk1 hFc hP1 hD1
              clear hk1 hPc hDc hFc hP1 hD1 ht
              generalize H1 = H at hP hS ⊢
              have hP := hP.sub (ws' := [(om k0 a I0 J0), (oa (a 5) cI 201 st), (oa (a 6) cZ 201 tn), (oa (a 11) cI 201 mn)]) [1, 2, 3, 0] rfl
              have hD := hD.sub (ws' := [(om k0 a I0 J0), (oa (a 5) cI 201 st), (oa (a 6) cZ 201 tn), (oa (a 11) cI 201 mn)]) [1, 2, 3, 0] (by decide) rfl
              have hP : va_P (dC, dI) classes [(om k0 a I0 J0), (oa (a 5) cI 201 st), (oa (a 6) cZ 201 tn), (oa (a 11) cI 201 mn)] H := hP
              have hD : va_D A [(om k0 a I0 J0), (oa (a 5) cI 201 st), (oa (a 6) cZ 201 tn), (oa (a 11) cI 201 mn)] := hD
              refine lv_if_eq (tgt := 101) hx hb dX11_count_88 (by decide) (fun c_5 => ?_) (fun c_5 => ?_)
              · have c_5 : ¬ (q < ft ∧ (st q).toInt = 1 ∧ (tn q).toInt = 0) := zp_0 c_5
                refine lv_iconst (v := 0) hx hb dX11_count_101 (by decide) ?_
                refine lv_iadd hx hb dX11_count_102 ?_
                refine zz_i (v := nI ((smP (lvF ft st tn) (fun g => nN (mn g)) q) + 0)) (nI_add (smP (lvF ft st tn) (fun g => nN (mn g)) q) 0) ?_
                refine lv_istore (lv' := [(5, .int (nI ((smP (lvF ft st tn) (fun g => nN (mn g)) q) + 0))), (4, .int (nI ((cntP (fun g => ¬ (tn g).toInt = 0) q) + 0))), (3, .int (nI ((cntP (fun g => (st g).toInt = 2) q) + 0))), (2, .int (nI ((cntP (fun g => (st g).toInt = 1) q) + 0))), (6, .int (nI q)), (0, .ref k0), (1, .int 1)]) hx hb dX11_count_103 hl (by decide) rfl (fun ls hl => ?_)
                refine lv_iinc (v := nI (q + 1)) (lv' := [(6, .int (nI (q + 1))), (5, .int (nI ((smP (lvF ft st tn) (fun g => nN (mn g)) q) + 0))), (4, .int (nI ((cntP (fun g => ¬ (tn g).toInt = 0) q) + 0))), (3, .int (nI ((cntP (fun g => (st g).toInt = 2) q) + 0))), (2, .int (nI ((cntP (fun g => (st g).toInt = 1) q) + 0))), (0, .ref k0), (1, .int 1)]) hx hb dX11_count_105 hl (k := 4) rfl (nI_add q 1) (by decide) rfl (fun ls hl => ?_)
                refine lv_goto (tgt := 13) hx hb dX11_count_108 (by decide) ?_
                have hl9 := lv_sub hl [0, 1, 2, 3, 4, 5, 6] rfl
                have e9_2 : nI (cntP (fun g => (st g).toInt = 1) (q + 1)) = (nI ((cntP (fun g => (st g).toInt = 1) q) + 0) : Int32) := by first | exact congrArg nI (cntP_y (P := fun g => (st g).toInt = 1) (show (st q).toInt = 1 by omega)) | exact congrArg nI (cntP_n0 (P := fun g => (st g).toInt = 1) (show ¬ (st q).toInt = 1 by omega))
                have e9_3 : nI (cntP (fun g => (st g).toInt = 2) (q + 1)) = (nI ((cntP (fun g => (st g).toInt = 2) q) + 0) : Int32) := by first | exact congrArg nI (cntP_y (P := fun g => (st g).toInt = 2) (show (st q).toInt = 2 by omega)) | exact congrArg nI (cntP_n0 (P := fun g => (st g).toInt = 2) (show ¬ (st q).toInt = 2 by omega))
                have e9_4 : nI (cntP (fun g => ¬ (tn g).toInt = 0) (q + 1)) = (nI ((cntP (fun g => ¬ (tn g).toInt = 0) q) + 0) : Int32) := by first | exact congrArg nI (cntP_y (P := fun g => ¬ (tn g).toInt = 0) (show ¬ (tn q).toInt = 0 by omega)) | exact congrArg nI (cntP_n0 (P := fun g => ¬ (tn g).toInt = 0) (show ¬ ¬ (tn q).toInt = 0 by omega))
                have e9_5 : nI (smP (lvF ft st tn) (fun g => nN (mn g)) (q + 1)) = (nI ((smP (lvF ft st tn) (fun g => nN (mn g)) q) + 0) : Int32) := by first | exact congrArg nI (smP_y (P := lvF ft st tn) (by assumption)) | exact congrArg nI (smP_n (P := lvF ft st tn) (by assumption))
                have hl9 : lv_has ls 7 [(6, .int (nI (q + 1))), (5, .int (nI (smP (lvF ft st tn) (fun g => nN (mn g)) (q + 1)))), (4, .int (nI (cntP (fun g => ¬ (tn g).toInt = 0) (q + 1)))), (3, .int (nI (cntP (fun g => (st g).toInt = 2) (q + 1)))), (2, .int (nI (cntP (fun g => (st g).toInt = 1) (q + 1)))), (0, .ref k0), (1, .int 1)] := by rw [e9_2]; rw [e9_3]; rw [e9_4]; rw [e9_5]; exact hl9
                exact ih_13 (q + 1) H locs ls (by omega) (by omega) hP hD hS hl9
              · have c_5 : q < ft ∧ (st q).toInt = 1 ∧ (tn q).toInt = 0 := zp_1 c_5
                refine lv_aload_n hx hb dX11_count_91 rfl (lv_at hl 5 rfl) ?_
                refine va_get (D := (dC, dI)) (ci := 9) (v := .ref (a 11)) (C := RX11) (T := TX11) (N := 55) hx hb hts inX11 hown hK hP 0 rfl rfl 11 (by decide) (hts _ mw_1170) (fun _ h9 => h9) rfl dX11_count_92 ?_
                refine lv_iload hx hb dX11_count_95 (lv_at hl 3 rfl) ?_
                refine z_iald hx hb hK hP 3 0 rfl rfl (e := q) rfl (by omega) (by omega) dX11_count_97 ?_
                refine zz_i (v := nI (nN (mn q))) ((hmw q (by assumption)).1) ?_
                refine lv_goto (tgt := 102) hx hb dX11_count_98 (by decide) ?_
                refine lv_iadd hx hb dX11_count_102 ?_
                refine zz_i (v := nI ((smP (lvF ft st tn) (fun g => nN (mn g)) q) + (nN (mn q)))) (nI_add (smP (lvF ft st tn) (fun g => nN (mn g)) q) (nN (mn q))) ?_
                refine lv_istore (lv' := [(5, .int (nI ((smP (lvF ft st tn) (fun g => nN (mn g)) q) + (nN (mn q))))), (4, .int (nI ((cntP (fun g => ¬ (tn g).toInt = 0) q) + 0))), (3, .int (nI ((cntP (fun g => (st g).toInt = 2) q) + 0))), (2, .int (nI ((cntP (fun g => (st g).toInt = 1) q) + 0))), (6, .int (nI q)), (0, .ref k0), (1, .int 1)]) hx hb dX11_count_103 hl (by decide) rfl (fun ls hl => ?_)
                refine lv_iinc (v := nI (q + 1)) (lv' := [(6, .int (nI (q + 1))), (5, .int (nI ((smP (lvF ft st tn) (fun g => nN (mn g)) q) + (nN (mn q))))), (4, .int (nI ((cntP (fun g => ¬ (tn g).toInt = 0) q) + 0))), (3, .int (nI ((cntP (fun g => (st g).toInt = 2) q) + 0))), (2, .int (nI ((cntP (fun g => (st g).toInt = 1) q) + 0))), (0, .ref k0), (1, .int 1)]) hx hb dX11_count_105 hl (k := 4) rfl (nI_add q 1) (by decide) rfl (fun ls hl => ?_)
                refine lv_goto (tgt := 13) hx hb dX11_count_108 (by decide) ?_
                have hl9 := lv_sub hl [0, 1, 2, 3, 4, 5, 6] rfl
                have e9_2 : nI (cntP (fun g => (st g).toInt = 1) (q + 1)) = (nI ((cntP (fun g => (st g).toInt = 1) q) + 0) : Int32) := by first | exact congrArg nI (cntP_y (P := fun g => (st g).toInt = 1) (show (st q).toInt = 1 by omega)) | exact congrArg nI (cntP_n0 (P := fun g => (st g).toInt = 1) (show ¬ (st q).toInt = 1 by omega))
                have e9_3 : nI (cntP (fun g => (st g).toInt = 2) (q + 1)) = (nI ((cntP (fun g => (st g).toInt = 2) q) + 0) : Int32) := by first | exact congrArg nI (cntP_y (P := fun g => (st g).toInt = 2) (show (st q).toInt = 2 by omega)) | exact congrArg nI (cntP_n0 (P := fun g => (st g).toInt = 2) (show ¬ (st q).toInt = 2 by omega))
                have e9_4 : nI (cntP (fun g => ¬ (tn g).toInt = 0) (q + 1)) = (nI ((cntP (fun g => ¬ (tn g).toInt = 0) q) + 0) : Int32) := by first | exact congrArg nI (cntP_y (P := fun g => ¬ (tn g).toInt = 0) (show ¬ (tn q).toInt = 0 by omega)) | exact congrArg nI (cntP_n0 (P := fun g => ¬ (tn g).toInt = 0) (show ¬ ¬ (tn q).toInt = 0 by omega))
                have e9_5 : nI (smP (lvF ft st tn) (fun g => nN (mn g)) (q + 1)) = (nI ((smP (lvF ft st tn) (fun g => nN (mn g)) q) + (nN (mn q))) : Int32) := by first | exact congrArg nI (smP_y (P := lvF ft st tn) (by assumption)) | exact congrArg nI (smP_n (P := lvF ft st tn) (by assumption))
                have hl9 : lv_has ls 7 [(6, .int (nI (q + 1))), (5, .int (nI (smP (lvF ft st tn) (fun g => nN (mn g)) (q + 1)))), (4, .int (nI (cntP (fun g => ¬ (tn g).toInt = 0) (q + 1)))), (3, .int (nI (cntP (fun g => (st g).toInt = 2) (q + 1)))), (2, .int (nI (cntP (fun g => (st g).toInt = 1) (q + 1)))), (0, .ref k0), (1, .int 1)] := by rw [e9_2]; rw [e9_3]; rw [e9_4]; rw [e9_5]; exact hl9
                exact ih_13 (q + 1) H locs ls (by omega) (by omega) hP hD hS hl9
            · have c_4 : ¬ (tn q).toInt = 0 := zc_ne rfl (by decide) c_4
              refine lv_iconst (v := 1) hx hb dX11_count_72 (by decide) ?_
              refine lv_goto (tgt := 77) hx hb dX11_count_73 (by decide) ?_
              refine lv_iadd hx hb dX11_count_77 ?_
              refine zz_i (v := nI ((cntP (fun g => ¬ (tn g).toInt = 0) q) + 1)) (nI_add (cntP (fun g => ¬ (tn g).toInt = 0) q) 1) ?_
              refine lv_istore (lv' := [(4, .int (nI ((cntP (fun g => ¬ (tn g).toInt = 0) q) + 1))), (3, .int (nI ((cntP (fun g => (st g).toInt = 2) q) + 0))), (2, .int (nI ((cntP (fun g => (st g).toInt = 1) q) + 0))), (6, .int (nI q)), (5, .int (nI (smP (lvF ft st tn) (fun g => nN (mn g)) q))), (0, .ref k0), (1, .int 1)]) hx hb dX11_count_78 hl (by decide) rfl (fun ls hl => ?_)
              refine lv_iload hx hb dX11_count_80 (lv_at hl 4 rfl) ?_
              refine lv_aload_n hx hb dX11_count_82 rfl (lv_at hl 5 rfl) ?_
              refine lv_iload hx hb dX11_count_83 (lv_at hl 3 rfl) ?_
              have hPc := hP.sub (ws' := [(om k0 a I0 J0), (oa (a 5) cI 201 st), (oa (a 6) cZ 201 tn)]) [0, 1, 2] rfl
              have hDc := hD.sub (ws' := [(om k0 a I0 J0), (oa (a 5) cI 201 st), (oa (a 6) cZ 201 tn)]) [0, 1, 2] (by decide) rfl
              have hFc := va_free (wc := [(om k0 a I0 J0), (oa (a 5) cI 201 st), (oa (a 6) cZ 201 tn)]) hD hS hA [0, 1, 2] rfl
              refine zcall (st1 := [.int (pI (q < ft ∧ (st q).toInt = 1 ∧ (tn q).toInt = 0)), .int (nI (smP (lvF ft st tn) (fun g => nN (mn g)) q))]) (va_runV (As := [.int (nI q)]) (rest := [.int (nI (smP (lvF ft st tn) (fun g => nN (mn g)) q))]) ⟨hx, hb, hml, hown, hts⟩ (k_M_is_n l dC dI cI cZ cF H.size k0 a I0 J0 q ft st tn (by assumption) (by omega) (by omega)) (cwV 1 hts (zz_gV mw_1447 mw_1449 mw_56 mw_110 mc_yX11_is) rfl rfl rfl (by decide +kernel) ⟨Nat.le_of_ble_eq_true rfl, Nat.le_of_ble_eq_true rfl⟩) (zPV2 (q0 := 0) (ci := 9) hPc hDc hK hXN rfl rfl) rfl rfl hl.1 rfl (lv_room (Nat.le_of_ble_eq_true rfl)) dX11_count_85 ⟨Nat.le_of_ble_eq_true rfl, Nat.le_of_ble_eq_true rfl⟩) hS hFc hFc rfl (fun t H1 locs ht hB hk1 hS => ?_)
              obtain ⟨hP1, hD1⟩ := hB
              rw [ht] at hP1
              obtain ⟨hP, hD⟩ := va_join (wr := [(oa (a 11) cI 201 mn)]) (w1 := [(om k0 a I0 J0), (oa (a 5) cI 201 st), (oa (a 6) cZ 201 tn)]) hP hD [0, 1, 2] [3] rfl rfl (by decide) (by decide) hk1 hFc hP1 hD1
              clear hk1 hPc hDc hFc hP1 hD1 ht
              generalize H1 = H at hP hS ⊢
              have hP := hP.sub (ws' := [(om k0 a I0 J0), (oa (a 5) cI 201 st), (oa (a 6) cZ 201 tn), (oa (a 11) cI 201 mn)]) [1, 2, 3, 0] rfl
              have hD := hD.sub (ws' := [(om k0 a I0 J0), (oa (a 5) cI 201 st), (oa (a 6) cZ 201 tn), (oa (a 11) cI 201 mn)]) [1, 2, 3, 0] (by decide) rfl
              have hP : va_P (dC, dI) classes [(om k0 a I0 J0), (oa (a 5) cI 201 st), (oa (a 6) cZ 201 tn), (oa (a 11) cI 201 mn)] H := hP
              have hD : va_D A [(om k0 a I0 J0), (oa (a 5) cI 201 st), (oa (a 6) cZ 201 tn), (oa (a 11) cI 201 mn)] := hD
              refine lv_if_eq (tgt := 101) hx hb dX11_count_88 (by decide) (fun c_6 => ?_) (fun c_6 => ?_)
              · have c_6 : ¬ (q < ft ∧ (st q).toInt = 1 ∧ (tn q).toInt = 0) := zp_0 c_6
                refine lv_iconst (v := 0) hx hb dX11_count_101 (by decide) ?_
                refine lv_iadd hx hb dX11_count_102 ?_
                refine zz_i (v := nI ((smP (lvF ft st tn) (fun g => nN (mn g)) q) + 0)) (nI_add (smP (lvF ft st tn) (fun g => nN (mn g)) q) 0) ?_
                refine lv_istore (lv' := [(5, .int (nI ((smP (lvF ft st tn) (fun g => nN (mn g)) q) + 0))), (4, .int (nI ((cntP (fun g => ¬ (tn g).toInt = 0) q) + 1))), (3, .int (nI ((cntP (fun g => (st g).toInt = 2) q) + 0))), (2, .int (nI ((cntP (fun g => (st g).toInt = 1) q) + 0))), (6, .int (nI q)), (0, .ref k0), (1, .int 1)]) hx hb dX11_count_103 hl (by decide) rfl (fun ls hl => ?_)
                refine lv_iinc (v := nI (q + 1)) (lv' := [(6, .int (nI (q + 1))), (5, .int (nI ((smP (lvF ft st tn) (fun g => nN (mn g)) q) + 0))), (4, .int (nI ((cntP (fun g => ¬ (tn g).toInt = 0) q) + 1))), (3, .int (nI ((cntP (fun g => (st g).toInt = 2) q) + 0))), (2, .int (nI ((cntP (fun g => (st g).toInt = 1) q) + 0))), (0, .ref k0), (1, .int 1)]) hx hb dX11_count_105 hl (k := 4) rfl (nI_add q 1) (by decide) rfl (fun ls hl => ?_)
                refine lv_goto (tgt := 13) hx hb dX11_count_108 (by decide) ?_
                have hl9 := lv_sub hl [0, 1, 2, 3, 4, 5, 6] rfl
                have e9_2 : nI (cntP (fun g => (st g).toInt = 1) (q + 1)) = (nI ((cntP (fun g => (st g).toInt = 1) q) + 0) : Int32) := by first | exact congrArg nI (cntP_y (P := fun g => (st g).toInt = 1) (show (st q).toInt = 1 by omega)) | exact congrArg nI (cntP_n0 (P := fun g => (st g).toInt = 1) (show ¬ (st q).toInt = 1 by omega))
                have e9_3 : nI (cntP (fun g => (st g).toInt = 2) (q + 1)) = (nI ((cntP (fun g => (st g).toInt = 2) q) + 0) : Int32) := by first | exact congrArg nI (cntP_y (P := fun g => (st g).toInt = 2) (show (st q).toInt = 2 by omega)) | exact congrArg nI (cntP_n0 (P := fun g => (st g).toInt = 2) (show ¬ (st q).toInt = 2 by omega))
                have e9_4 : nI (cntP (fun g => ¬ (tn g).toInt = 0) (q + 1)) = (nI ((cntP (fun g => ¬ (tn g).toInt = 0) q) + 1) : Int32) := by first | exact congrArg nI (cntP_y (P := fun g => ¬ (tn g).toInt = 0) (show ¬ (tn q).toInt = 0 by omega)) | exact congrArg nI (cntP_n0 (P := fun g => ¬ (tn g).toInt = 0) (show ¬ ¬ (tn q).toInt = 0 by omega))
                have e9_5 : nI (smP (lvF ft st tn) (fun g => nN (mn g)) (q + 1)) = (nI ((smP (lvF ft st tn) (fun g => nN (mn g)) q) + 0) : Int32) := by first | exact congrArg nI (smP_y (P := lvF ft st tn) (by assumption)) | exact congrArg nI (smP_n (P := lvF ft st tn) (by assumption))
                have hl9 : lv_has ls 7 [(6, .int (nI (q + 1))), (5, .int (nI (smP (lvF ft st tn) (fun g => nN (mn g)) (q + 1)))), (4, .int (nI (cntP (fun g => ¬ (tn g).toInt = 0) (q + 1)))), (3, .int (nI (cntP (fun g => (st g).toInt = 2) (q + 1)))), (2, .int (nI (cntP (fun g => (st g).toInt = 1) (q + 1)))), (0, .ref k0), (1, .int 1)] := by rw [e9_2]; rw [e9_3]; rw [e9_4]; rw [e9_5]; exact hl9
                exact ih_13 (q + 1) H locs ls (by omega) (by omega) hP hD hS hl9
              · have c_6 : q < ft ∧ (st q).toInt = 1 ∧ (tn q).toInt = 0 := zp_1 c_6
                refine lv_aload_n hx hb dX11_count_91 rfl (lv_at hl 5 rfl) ?_
                refine va_get (D := (dC, dI)) (ci := 9) (v := .ref (a 11)) (C := RX11) (T := TX11) (N := 55) hx hb hts inX11 hown hK hP 0 rfl rfl 11 (by decide) (hts _ mw_1170) (fun _ h9 => h9) rfl dX11_count_92 ?_
                refine lv_iload hx hb dX11_count_95 (lv_at hl 3 rfl) ?_
                refine z_iald hx hb hK hP 3 0 rfl rfl (e := q) rfl (by omega) (by omega) dX11_count_97 ?_
                refine zz_i (v := nI (nN (mn q))) ((hmw q (by assumption)).1) ?_
                refine lv_goto (tgt := 102) hx hb dX11_count_98 (by decide) ?_
                refine lv_iadd hx hb dX11_count_102 ?_
                refine zz_i (v := nI ((smP (lvF ft st tn) (fun g => nN (mn g)) q) + (nN (mn q)))) (nI_add (smP (lvF ft st tn) (fun g => nN (mn g)) q) (nN (mn q))) ?_
                refine lv_istore (lv' := [(5, .int (nI ((smP (lvF ft st tn) (fun g => nN (mn g)) q) + (nN (mn q))))), (4, .int (nI ((cntP (fun g => ¬ (tn g).toInt = 0) q) + 1))), (3, .int (nI ((cntP (fun g => (st g).toInt = 2) q) + 0))), (2, .int (nI ((cntP (fun g => (st g).toInt = 1) q) + 0))), (6, .int (nI q)), (0, .ref k0), (1, .int 1)]) hx hb dX11_count_103 hl (by decide) rfl (fun ls hl => ?_)
                refine lv_iinc (v := nI (q + 1)) (lv' := [(6, .int (nI (q + 1))), (5, .int (nI ((smP (lvF ft st tn) (fun g => nN (mn g)) q) + (nN (mn q))))), (4, .int (nI ((cntP (fun g => ¬ (tn g).toInt = 0) q) + 1))), (3, .int (nI ((cntP (fun g => (st g).toInt = 2) q) + 0))), (2, .int (nI ((cntP (fun g => (st g).toInt = 1) q) + 0))), (0, .ref k0), (1, .int 1)]) hx hb dX11_count_105 hl (k := 4) rfl (nI_add q 1) (by decide) rfl (fun ls hl => ?_)
                refine lv_goto (tgt := 13) hx hb dX11_count_108 (by decide) ?_
                have hl9 := lv_sub hl [0, 1, 2, 3, 4, 5, 6] rfl
                have e9_2 : nI (cntP (fun g => (st g).toInt = 1) (q + 1)) = (nI ((cntP (fun g => (st g).toInt = 1) q) + 0) : Int32) := by first | exact congrArg nI (cntP_y (P := fun g => (st g).toInt = 1) (show (st q).toInt = 1 by omega)) | exact congrArg nI (cntP_n0 (P := fun g => (st g).toInt = 1) (show ¬ (st q).toInt = 1 by omega))
                have e9_3 : nI (cntP (fun g => (st g).toInt = 2) (q + 1)) = (nI ((cntP (fun g => (st g).toInt = 2) q) + 0) : Int32) := by first | exact congrArg nI (cntP_y (P := fun g => (st g).toInt = 2) (show (st q).toInt = 2 by omega)) | exact congrArg nI (cntP_n0 (P := fun g => (st g).toInt = 2) (show ¬ (st q).toInt = 2 by omega))
                have e9_4 : nI (cntP (fun g => ¬ (tn g).toInt = 0) (q + 1)) = (nI ((cntP (fun g => ¬ (tn g).toInt = 0) q) + 1) : Int32) := by first | exact congrArg nI (cntP_y (P := fun g => ¬ (tn g).toInt = 0) (show ¬ (tn q).toInt = 0 by omega)) | exact congrArg nI (cntP_n0 (P := fun g => ¬ (tn g).toInt = 0) (show ¬ ¬ (tn q).toInt = 0 by omega))
                have e9_5 : nI (smP (lvF ft st tn) (fun g => nN (mn g)) (q + 1)) = (nI ((smP (lvF ft st tn) (fun g => nN (mn g)) q) + (nN (mn q))) : Int32) := by first | exact congrArg nI (smP_y (P := lvF ft st tn) (by assumption)) | exact congrArg nI (smP_n (P := lvF ft st tn) (by assumption))
                have hl9 : lv_has ls 7 [(6, .int (nI (q + 1))), (5, .int (nI (smP (lvF ft st tn) (fun g => nN (mn g)) (q + 1)))), (4, .int (nI (cntP (fun g => ¬ (tn g).toInt = 0) (q + 1)))), (3, .int (nI (cntP (fun g => (st g).toInt = 2) (q + 1)))), (2, .int (nI (cntP (fun g => (st g).toInt = 1) (q + 1)))), (0, .ref k0), (1, .int 1)] := by rw [e9_2]; rw [e9_3]; rw [e9_4]; rw [e9_5]; exact hl9
                exact ih_13 (q + 1) H locs ls (by omega) (by omega) hP hD hS hl9
          · have c_3 : (st q).toInt = 2 := zc_eq rfl (by decide) c_3
            refine lv_iconst (v := 1) hx hb dX11_count_53 (by decide) ?_
            refine lv_goto (tgt := 58) hx hb dX11_count_54 (by decide) ?_
            refine lv_iadd hx hb dX11_count_58 ?_
            refine zz_i (v := nI ((cntP (fun g => (st g).toInt = 2) q) + 1)) (nI_add (cntP (fun g => (st g).toInt = 2) q) 1) ?_
            refine lv_istore_n (lv' := [(3, .int (nI ((cntP (fun g => (st g).toInt = 2) q) + 1))), (2, .int (nI ((cntP (fun g => (st g).toInt = 1) q) + 0))), (6, .int (nI q)), (5, .int (nI (smP (lvF ft st tn) (fun g => nN (mn g)) q))), (4, .int (nI (cntP (fun g => ¬ (tn g).toInt = 0) q))), (0, .ref k0), (1, .int 1)]) hx hb dX11_count_59 rfl hl (by decide) rfl (fun ls hl => ?_)
            refine lv_iload hx hb dX11_count_60 (lv_at hl 4 rfl) ?_
            refine lv_aload_n hx hb dX11_count_62 rfl (lv_at hl 5 rfl) ?_
            refine va_get (D := (dC, dI)) (ci := 9) (v := .ref (a 6)) (C := RX11) (T := TX11) (N := 55) hx hb hts inX11 hown hK hP 0 rfl rfl 6 (by decide) (hts _ mw_1165) (fun _ h9 => h9) rfl dX11_count_63 ?_
            refine lv_iload hx hb dX11_count_66 (lv_at hl 2 rfl) ?_
            refine z_zald hx hb hK hP 2 1 rfl rfl (e := q) rfl (by omega) (by omega) dX11_count_68 ?_
            refine lv_if_eq (tgt := 76) hx hb dX11_count_69 (by decide) (fun c_7 => ?_) (fun c_7 => ?_)
            · have c_7 : (tn q).toInt = 0 := zc_eq rfl (by decide) c_7
              refine lv_iconst (v := 0) hx hb dX11_count_76 (by decide) ?_
              refine lv_iadd hx hb dX11_count_77 ?_
              refine zz_i (v := nI ((cntP (fun g => ¬ (tn g).toInt = 0) q) + 0)) (nI_add (cntP (fun g => ¬ (tn g).toInt = 0) q) 0) ?_
              refine lv_istore (lv' := [(4, .int (nI ((cntP (fun g => ¬ (tn g).toInt = 0) q) + 0))), (3, .int (nI ((cntP (fun g => (st g).toInt = 2) q) + 1))), (2, .int (nI ((cntP (fun g => (st g).toInt = 1) q) + 0))), (6, .int (nI q)), (5, .int (nI (smP (lvF ft st tn) (fun g => nN (mn g)) q))), (0, .ref k0), (1, .int 1)]) hx hb dX11_count_78 hl (by decide) rfl (fun ls hl => ?_)
              refine lv_iload hx hb dX11_count_80 (lv_at hl 4 rfl) ?_
              refine lv_aload_n hx hb dX11_count_82 rfl (lv_at hl 5 rfl) ?_
              refine lv_iload hx hb dX11_count_83 (lv_at hl 3 rfl) ?_
              have hPc := hP.sub (ws' := [(om k0 a I0 J0), (oa (a 5) cI 201 st), (oa (a 6) cZ 201 tn)]) [0, 1, 2] rfl
              have hDc := hD.sub (ws' := [(om k0 a I0 J0), (oa (a 5) cI 201 st), (oa (a 6) cZ 201 tn)]) [0, 1, 2] (by decide) rfl
              have hFc := va_free (wc := [(om k0 a I0 J0), (oa (a 5) cI 201 st), (oa (a 6) cZ 201 tn)]) hD hS hA [0, 1, 2] rfl
              refine zcall (st1 := [.int (pI (q < ft ∧ (st q).toInt = 1 ∧ (tn q).toInt = 0)), .int (nI (smP (lvF ft st tn) (fun g => nN (mn g)) q))]) (va_runV (As := [.int (nI q)]) (rest := [.int (nI (smP (lvF ft st tn) (fun g => nN (mn g)) q))]) ⟨hx, hb, hml, hown, hts⟩ (k_M_is_n l dC dI cI cZ cF H.size k0 a I0 J0 q ft st tn (by assumption) (by omega) (by omega)) (cwV 1 hts (zz_gV mw_1447 mw_1449 mw_56 mw_110 mc_yX11_is) rfl rfl rfl (by decide +kernel) ⟨Nat.le_of_ble_eq_true rfl, Nat.le_of_ble_eq_true rfl⟩) (zPV2 (q0 := 0) (ci := 9) hPc hDc hK hXN rfl rfl) rfl rfl hl.1 rfl (lv_room (Nat.le_of_ble_eq_true rfl)) dX11_count_85 ⟨Nat.le_of_ble_eq_true rfl, Nat.le_of_ble_eq_true rfl⟩) hS hFc hFc rfl (fun t H1 locs ht hB hk1 hS => ?_)
              obtain ⟨hP1, hD1⟩ := hB
              rw [ht] at hP1
              obtain ⟨hP, hD⟩ := va_join (wr := [(oa (a 11) cI 201 mn)]) (w1 := [(om k0 a I0 J0), (oa (a 5) cI 201 st), (oa (a 6) cZ 201 tn)]) hP hD [0, 1, 2] [3] rfl rfl (by decide) (by decide) hk1 hFc hP1 hD1
              clear hk1 hPc hDc hFc hP1 hD1 ht
              generalize H1 = H at hP hS ⊢
              have hP := hP.sub (ws' := [(om k0 a I0 J0), (oa (a 5) cI 201 st), (oa (a 6) cZ 201 tn), (oa (a 11) cI 201 mn)]) [1, 2, 3, 0] rfl
              have hD := hD.sub (ws' := [(om k0 a I0 J0), (oa (a 5) cI 201 st), (oa (a 6) cZ 201 tn), (oa (a 11) cI 201 mn)]) [1, 2, 3, 0] (by decide) rfl
              have hP : va_P (dC, dI) classes [(om k0 a I0 J0), (oa (a 5) cI 201 st), (oa (a 6) cZ 201 tn), (oa (a 11) cI 201 mn)] H := hP
              have hD : va_D A [(om k0 a I0 J0), (oa (a 5) cI 201 st), (oa (a 6) cZ 201 tn), (oa (a 11) cI 201 mn)] := hD
              refine lv_if_eq (tgt := 101) hx hb dX11_count_88 (by decide) (fun c_8 => ?_) (fun c_8 => ?_)
              · have c_8 : ¬ (q < ft ∧ (st q).toInt = 1 ∧ (tn q).toInt = 0) := zp_0 c_8
                refine lv_iconst (v := 0) hx hb dX11_count_101 (by decide) ?_
                refine lv_iadd hx hb dX11_count_102 ?_
                refine zz_i (v := nI ((smP (lvF ft st tn) (fun g => nN (mn g)) q) + 0)) (nI_add (smP (lvF ft st tn) (fun g => nN (mn g)) q) 0) ?_
                refine lv_istore (lv' := [(5, .int (nI ((smP (lvF ft st tn) (fun g => nN (mn g)) q) + 0))), (4, .int (nI ((cntP (fun g => ¬ (tn g).toInt = 0) q) + 0))), (3, .int (nI ((cntP (fun g => (st g).toInt = 2) q) + 1))), (2, .int (nI ((cntP (fun g => (st g).toInt = 1) q) + 0))), (6, .int (nI q)), (0, .ref k0), (1, .int 1)]) hx hb dX11_count_103 hl (by decide) rfl (fun ls hl => ?_)
                refine lv_iinc (v := nI (q + 1)) (lv' := [(6, .int (nI (q + 1))), (5, .int (nI ((smP (lvF ft st tn) (fun g => nN (mn g)) q) + 0))), (4, .int (nI ((cntP (fun g => ¬ (tn g).toInt = 0) q) + 0))), (3, .int (nI ((cntP (fun g => (st g).toInt = 2) q) + 1))), (2, .int (nI ((cntP (fun g => (st g).toInt = 1) q) + 0))), (0, .ref k0), (1, .int 1)]) hx hb dX11_count_105 hl (k := 4) rfl (nI_add q 1) (by decide) rfl (fun ls hl => ?_)
                refine lv_goto (tgt := 13) hx hb dX11_count_108 (by decide) ?_
                have hl9 := lv_sub hl [0, 1, 2, 3, 4, 5, 6] rfl
                have e9_2 : nI (cntP (fun g => (st g).toInt = 1) (q + 1)) = (nI ((cntP (fun g => (st g).toInt = 1) q) + 0) : Int32) := by first | exact congrArg nI (cntP_y (P := fun g => (st g).toInt = 1) (show (st q).toInt = 1 by omega)) | exact congrArg nI (cntP_n0 (P := fun g => (st g).toInt = 1) (show ¬ (st q).toInt = 1 by omega))
                have e9_3 : nI (cntP (fun g => (st g).toInt = 2) (q + 1)) = (nI ((cntP (fun g => (st g).toInt = 2) q) + 1) : Int32) := by first | exact congrArg nI (cntP_y (P := fun g => (st g).toInt = 2) (show (st q).toInt = 2 by omega)) | exact congrArg nI (cntP_n0 (P := fun g => (st g).toInt = 2) (show ¬ (st q).toInt = 2 by omega))
                have e9_4 : nI (cntP (fun g => ¬ (tn g).toInt = 0) (q + 1)) = (nI ((cntP (fun g => ¬ (tn g).toInt = 0) q) + 0) : Int32) := by first | exact congrArg nI (cntP_y (P := fun g => ¬ (tn g).toInt = 0) (show ¬ (tn q).toInt = 0 by omega)) | exact congrArg nI (cntP_n0 (P := fun g => ¬ (tn g).toInt = 0) (show ¬ ¬ (tn q).toInt = 0 by omega))
                have e9_5 : nI (smP (lvF ft st tn) (fun g => nN (mn g)) (q + 1)) = (nI ((smP (lvF ft st tn) (fun g => nN (mn g)) q) + 0) : Int32) := by first | exact congrArg nI (smP_y (P := lvF ft st tn) (by assumption)) | exact congrArg nI (smP_n (P := lvF ft st tn) (by assumption))
                have hl9 : lv_has ls 7 [(6, .int (nI (q + 1))), (5, .int (nI (smP (lvF ft st tn) (fun g => nN (mn g)) (q + 1)))), (4, .int (nI (cntP (fun g => ¬ (tn g).toInt = 0) (q + 1)))), (3, .int (nI (cntP (fun g => (st g).toInt = 2) (q + 1)))), (2, .int (nI (cntP (fun g => (st g).toInt = 1) (q + 1)))), (0, .ref k0), (1, .int 1)] := by rw [e9_2]; rw [e9_3]; rw [e9_4]; rw [e9_5]; exact hl9
                exact ih_13 (q + 1) H locs ls (by omega) (by omega) hP hD hS hl9
              · have c_8 : q < ft ∧ (st q).toInt = 1 ∧ (tn q).toInt = 0 := zp_1 c_8
                refine lv_aload_n hx hb dX11_count_91 rfl (lv_at hl 5 rfl) ?_
                refine va_get (D := (dC, dI)) (ci := 9) (v := .ref (a 11)) (C := RX11) (T := TX11) (N := 55) hx hb hts inX11 hown hK hP 0 rfl rfl 11 (by decide) (hts _ mw_1170) (fun _ h9 => h9) rfl dX11_count_92 ?_
                refine lv_iload hx hb dX11_count_95 (lv_at hl 3 rfl) ?_
                refine z_iald hx hb hK hP 3 0 rfl rfl (e := q) rfl (by omega) (by omega) dX11_count_97 ?_
                refine zz_i (v := nI (nN (mn q))) ((hmw q (by assumption)).1) ?_
                refine lv_goto (tgt := 102) hx hb dX11_count_98 (by decide) ?_
                refine lv_iadd hx hb dX11_count_102 ?_
                refine zz_i (v := nI ((smP (lvF ft st tn) (fun g => nN (mn g)) q) + (nN (mn q)))) (nI_add (smP (lvF ft st tn) (fun g => nN (mn g)) q) (nN (mn q))) ?_
                refine lv_istore (lv' := [(5, .int (nI ((smP (lvF ft st tn) (fun g => nN (mn g)) q) + (nN (mn q))))), (4, .int (nI ((cntP (fun g => ¬ (tn g).toInt = 0) q) + 0))), (3, .int (nI ((cntP (fun g => (st g).toInt = 2) q) + 1))), (2, .int (nI ((cntP (fun g => (st g).toInt = 1) q) + 0))), (6, .int (nI q)), (0, .ref k0), (1, .int 1)]) hx hb dX11_count_103 hl (by decide) rfl (fun ls hl => ?_)
                refine lv_iinc (v := nI (q + 1)) (lv' := [(6, .int (nI (q + 1))), (5, .int (nI ((smP (lvF ft st tn) (fun g => nN (mn g)) q) + (nN (mn q))))), (4, .int (nI ((cntP (fun g => ¬ (tn g).toInt = 0) q) + 0))), (3, .int (nI ((cntP (fun g => (st g).toInt = 2) q) + 1))), (2, .int (nI ((cntP (fun g => (st g).toInt = 1) q) + 0))), (0, .ref k0), (1, .int 1)]) hx hb dX11_count_105 hl (k := 4) rfl (nI_add q 1) (by decide) rfl (fun ls hl => ?_)
                refine lv_goto (tgt := 13) hx hb dX11_count_108 (by decide) ?_
                have hl9 := lv_sub hl [0, 1, 2, 3, 4, 5, 6] rfl
                have e9_2 : nI (cntP (fun g => (st g).toInt = 1) (q + 1)) = (nI ((cntP (fun g => (st g).toInt = 1) q) + 0) : Int32) := by first | exact congrArg nI (cntP_y (P := fun g => (st g).toInt = 1) (show (st q).toInt = 1 by omega)) | exact congrArg nI (cntP_n0 (P := fun g => (st g).toInt = 1) (show ¬ (st q).toInt = 1 by omega))
                have e9_3 : nI (cntP (fun g => (st g).toInt = 2) (q + 1)) = (nI ((cntP (fun g => (st g).toInt = 2) q) + 1) : Int32) := by first | exact congrArg nI (cntP_y (P := fun g => (st g).toInt = 2) (show (st q).toInt = 2 by omega)) | exact congrArg nI (cntP_n0 (P := fun g => (st g).toInt = 2) (show ¬ (st q).toInt = 2 by omega))
                have e9_4 : nI (cntP (fun g => ¬ (tn g).toInt = 0) (q + 1)) = (nI ((cntP (fun g => ¬ (tn g).toInt = 0) q) + 0) : Int32) := by first | exact congrArg nI (cntP_y (P := fun g => ¬ (tn g).toInt = 0) (show ¬ (tn q).toInt = 0 by omega)) | exact congrArg nI (cntP_n0 (P := fun g => ¬ (tn g).toInt = 0) (show ¬ ¬ (tn q).toInt = 0 by omega))
                have e9_5 : nI (smP (lvF ft st tn) (fun g => nN (mn g)) (q + 1)) = (nI ((smP (lvF ft st tn) (fun g => nN (mn g)) q) + (nN (mn q))) : Int32) := by first | exact congrArg nI (smP_y (P := lvF ft st tn) (by assumption)) | exact congrArg nI (smP_n (P := lvF ft st tn) (by assumption))
                have hl9 : lv_has ls 7 [(6, .int (nI (q + 1))), (5, .int (nI (smP (lvF ft st tn) (fun g => nN (mn g)) (q + 1)))), (4, .int (nI (cntP (fun g => ¬ (tn g).toInt = 0) (q + 1)))), (3, .int (nI (cntP (fun g => (st g).toInt = 2) (q + 1)))), (2, .int (nI (cntP (fun g => (st g).toInt = 1) (q + 1)))), (0, .ref k0), (1, .int 1)] := by rw [e9_2]; rw [e9_3]; rw [e9_4]; rw [e9_5]; exact hl9
                exact ih_13 (q + 1) H locs ls (by omega) (by omega) hP hD hS hl9
            · have c_7 : ¬ (tn q).toInt = 0 := zc_ne rfl (by decide) c_7
              refine lv_iconst (v := 1) hx hb dX11_count_72 (by decide) ?_
              refine lv_goto (tgt := 77) hx hb dX11_count_73 (by decide) ?_
              refine lv_iadd hx hb dX11_count_77 ?_
              refine zz_i (v := nI ((cntP (fun g => ¬ (tn g).toInt = 0) q) + 1)) (nI_add (cntP (fun g => ¬ (tn g).toInt = 0) q) 1) ?_
              refine lv_istore (lv' := [(4, .int (nI ((cntP (fun g => ¬ (tn g).toInt = 0) q) + 1))), (3, .int (nI ((cntP (fun g => (st g).toInt = 2) q) + 1))), (2, .int (nI ((cntP (fun g => (st g).toInt = 1) q) + 0))), (6, .int (nI q)), (5, .int (nI (smP (lvF ft st tn) (fun g => nN (mn g)) q))), (0, .ref k0), (1, .int 1)]) hx hb dX11_count_78 hl (by decide) rfl (fun ls hl => ?_)
              refine lv_iload hx hb dX11_count_80 (lv_at hl 4 rfl) ?_
              refine lv_aload_n hx hb dX11_count_82 rfl (lv_at hl 5 rfl) ?_
              refine lv_iload hx hb dX11_count_83 (lv_at hl 3 rfl) ?_
              have hPc := hP.sub (ws' := [(om k0 a I0 J0), (oa (a 5) cI 201 st), (oa (a 6) cZ 201 tn)]) [0, 1, 2] rfl
              have hDc := hD.sub (ws' := [(om k0 a I0 J0), (oa (a 5) cI 201 st), (oa (a 6) cZ 201 tn)]) [0, 1, 2] (by decide) rfl
              have hFc := va_free (wc := [(om k0 a I0 J0), (oa (a 5) cI 201 st), (oa (a 6) cZ 201 tn)]) hD hS hA [0, 1, 2] rfl
              refine zcall (st1 := [.int (pI (q < ft ∧ (st q).toInt = 1 ∧ (tn q).toInt = 0)), .int (nI (smP (lvF ft st tn) (fun g => nN (mn g)) q))]) (va_runV (As := [.int (nI q)]) (rest := [.int (nI (smP (lvF ft st tn) (fun g => nN (mn g)) q))]) ⟨hx, hb, hml, hown, hts⟩ (k_M_is_n l dC dI cI cZ cF H.size k0 a I0 J0 q ft st tn (by assumption) (by omega) (by omega)) (cwV 1 hts (zz_gV mw_1447 mw_1449 mw_56 mw_110 mc_yX11_is) rfl rfl rfl (by decide +kernel) ⟨Nat.le_of_ble_eq_true rfl, Nat.le_of_ble_eq_true rfl⟩) (zPV2 (q0 := 0) (ci := 9) hPc hDc hK hXN rfl rfl) rfl rfl hl.1 rfl (lv_room (Nat.le_of_ble_eq_true rfl)) dX11_count_85 ⟨Nat.le_of_ble_eq_true rfl, Nat.le_of_ble_eq_true rfl⟩) hS hFc hFc rfl (fun t H1 locs ht hB hk1 hS => ?_)
              obtain ⟨hP1, hD1⟩ := hB
              rw [ht] at hP1
              obtain ⟨hP, hD⟩ := va_join (wr := [(oa (a 11) cI 201 mn)]) (w1 := [(om k0 a I0 J0), (oa (a 5) cI 201 st), (oa (a 6) cZ 201 tn)]) hP hD [0, 1, 2] [3] rfl rfl (by decide) (by decide) hk1 hFc hP1 hD1
              clear hk1 hPc hDc hFc hP1 hD1 ht
              generalize H1 = H at hP hS ⊢
              have hP := hP.sub (ws' := [(om k0 a I0 J0), (oa (a 5) cI 201 st), (oa (a 6) cZ 201 tn), (oa (a 11) cI 201 mn)]) [1, 2, 3, 0] rfl
              have hD := hD.sub (ws' := [(om k0 a I0 J0), (oa (a 5) cI 201 st), (oa (a 6) cZ 201 tn), (oa (a 11) cI 201 mn)]) [1, 2, 3, 0] (by decide) rfl
              have hP : va_P (dC, dI) classes [(om k0 a I0 J0), (oa (a 5) cI 201 st), (oa (a 6) cZ 201 tn), (oa (a 11) cI 201 mn)] H := hP
              have hD : va_D A [(om k0 a I0 J0), (oa (a 5) cI 201 st), (oa (a 6) cZ 201 tn), (oa (a 11) cI 201 mn)] := hD
              refine lv_if_eq (tgt := 101) hx hb dX11_count_88 (by decide) (fun c_9 => ?_) (fun c_9 => ?_)
              · have c_9 : ¬ (q < ft ∧ (st q).toInt = 1 ∧ (tn q).toInt = 0) := zp_0 c_9
                refine lv_iconst (v := 0) hx hb dX11_count_101 (by decide) ?_
                refine lv_iadd hx hb dX11_count_102 ?_
                refine zz_i (v := nI ((smP (lvF ft st tn) (fun g => nN (mn g)) q) + 0)) (nI_add (smP (lvF ft st tn) (fun g => nN (mn g)) q) 0) ?_
                refine lv_istore (lv' := [(5, .int (nI ((smP (lvF ft st tn) (fun g => nN (mn g)) q) + 0))), (4, .int (nI ((cntP (fun g => ¬ (tn g).toInt = 0) q) + 1))), (3, .int (nI ((cntP (fun g => (st g).toInt = 2) q) + 1))), (2, .int (nI ((cntP (fun g => (st g).toInt = 1) q) + 0))), (6, .int (nI q)), (0, .ref k0), (1, .int 1)]) hx hb dX11_count_103 hl (by decide) rfl (fun ls hl => ?_)
                refine lv_iinc (v := nI (q + 1)) (lv' := [(6, .int (nI (q + 1))), (5, .int (nI ((smP (lvF ft st tn) (fun g => nN (mn g)) q) + 0))), (4, .int (nI ((cntP (fun g => ¬ (tn g).toInt = 0) q) + 1))), (3, .int (nI ((cntP (fun g => (st g).toInt = 2) q) + 1))), (2, .int (nI ((cntP (fun g => (st g).toInt = 1) q) + 0))), (0, .ref k0), (1, .int 1)]) hx hb dX11_count_105 hl (k := 4) rfl (nI_add q 1) (by decide) rfl (fun ls hl => ?_)
                refine lv_goto (tgt := 13) hx hb dX11_count_108 (by decide) ?_
                have hl9 := lv_sub hl [0, 1, 2, 3, 4, 5, 6] rfl
                have e9_2 : nI (cntP (fun g => (st g).toInt = 1) (q + 1)) = (nI ((cntP (fun g => (st g).toInt = 1) q) + 0) : Int32) := by first | exact congrArg nI (cntP_y (P := fun g => (st g).toInt = 1) (show (st q).toInt = 1 by omega)) | exact congrArg nI (cntP_n0 (P := fun g => (st g).toInt = 1) (show ¬ (st q).toInt = 1 by omega))
                have e9_3 : nI (cntP (fun g => (st g).toInt = 2) (q + 1)) = (nI ((cntP (fun g => (st g).toInt = 2) q) + 1) : Int32) := by first | exact congrArg nI (cntP_y (P := fun g => (st g).toInt = 2) (show (st q).toInt = 2 by omega)) | exact congrArg nI (cntP_n0 (P := fun g => (st g).toInt = 2) (show ¬ (st q).toInt = 2 by omega))
                have e9_4 : nI (cntP (fun g => ¬ (tn g).toInt = 0) (q + 1)) = (nI ((cntP (fun g => ¬ (tn g).toInt = 0) q) + 1) : Int32) := by first | exact congrArg nI (cntP_y (P := fun g => ¬ (tn g).toInt = 0) (show ¬ (tn q).toInt = 0 by omega)) | exact congrArg nI (cntP_n0 (P := fun g => ¬ (tn g).toInt = 0) (show ¬ ¬ (tn q).toInt = 0 by omega))
                have e9_5 : nI (smP (lvF ft st tn) (fun g => nN (mn g)) (q + 1)) = (nI ((smP (lvF ft st tn) (fun g => nN (mn g)) q) + 0) : Int32) := by first | exact congrArg nI (smP_y (P := lvF ft st tn) (by assumption)) | exact congrArg nI (smP_n (P := lvF ft st tn) (by assumption))
                have hl9 : lv_has ls 7 [(6, .int (nI (q + 1))), (5, .int (nI (smP (lvF ft st tn) (fun g => nN (mn g)) (q + 1)))), (4, .int (nI (cntP (fun g => ¬ (tn g).toInt = 0) (q + 1)))), (3, .int (nI (cntP (fun g => (st g).toInt = 2) (q + 1)))), (2, .int (nI (cntP (fun g => (st g).toInt = 1) (q + 1)))), (0, .ref k0), (1, .int 1)] := by rw [e9_2]; rw [e9_3]; rw [e9_4]; rw [e9_5]; exact hl9
                exact ih_13 (q + 1) H locs ls (by omega) (by omega) hP hD hS hl9
              · have c_9 : q < ft ∧ (st q).toInt = 1 ∧ (tn q).toInt = 0 := zp_1 c_9
                refine lv_aload_n hx hb dX11_count_91 rfl (lv_at hl 5 rfl) ?_
                refine va_get (D := (dC, dI)) (ci := 9) (v := .ref (a 11)) (C := RX11) (T := TX11) (N := 55) hx hb hts inX11 hown hK hP 0 rfl rfl 11 (by decide) (hts _ mw_1170) (fun _ h9 => h9) rfl dX11_count_92 ?_
                refine lv_iload hx hb dX11_count_95 (lv_at hl 3 rfl) ?_
                refine z_iald hx hb hK hP 3 0 rfl rfl (e := q) rfl (by omega) (by omega) dX11_count_97 ?_
                refine zz_i (v := nI (nN (mn q))) ((hmw q (by assumption)).1) ?_
                refine lv_goto (tgt := 102) hx hb dX11_count_98 (by decide) ?_
                refine lv_iadd hx hb dX11_count_102 ?_
                refine zz_i (v := nI ((smP (lvF ft st tn) (fun g => nN (mn g)) q) + (nN (mn q)))) (nI_add (smP (lvF ft st tn) (fun g => nN (mn g)) q) (nN (mn q))) ?_
                refine lv_istore (lv' := [(5, .int (nI ((smP (lvF ft st tn) (fun g => nN (mn g)) q) + (nN (mn q))))), (4, .int (nI ((cntP (fun g => ¬ (tn g).toInt = 0) q) + 1))), (3, .int (nI ((cntP (fun g => (st g).toInt = 2) q) + 1))), (2, .int (nI ((cntP (fun g => (st g).toInt = 1) q) + 0))), (6, .int (nI q)), (0, .ref k0), (1, .int 1)]) hx hb dX11_count_103 hl (by decide) rfl (fun ls hl => ?_)
                refine lv_iinc (v := nI (q + 1)) (lv' := [(6, .int (nI (q + 1))), (5, .int (nI ((smP (lvF ft st tn) (fun g => nN (mn g)) q) + (nN (mn q))))), (4, .int (nI ((cntP (fun g => ¬ (tn g).toInt = 0) q) + 1))), (3, .int (nI ((cntP (fun g => (st g).toInt = 2) q) + 1))), (2, .int (nI ((cntP (fun g => (st g).toInt = 1) q) + 0))), (0, .ref k0), (1, .int 1)]) hx hb dX11_count_105 hl (k := 4) rfl (nI_add q 1) (by decide) rfl (fun ls hl => ?_)
                refine lv_goto (tgt := 13) hx hb dX11_count_108 (by decide) ?_
                have hl9 := lv_sub hl [0, 1, 2, 3, 4, 5, 6] rfl
                have e9_2 : nI (cntP (fun g => (st g).toInt = 1) (q + 1)) = (nI ((cntP (fun g => (st g).toInt = 1) q) + 0) : Int32) := by first | exact congrArg nI (cntP_y (P := fun g => (st g).toInt = 1) (show (st q).toInt = 1 by omega)) | exact congrArg nI (cntP_n0 (P := fun g => (st g).toInt = 1) (show ¬ (st q).toInt = 1 by omega))
                have e9_3 : nI (cntP (fun g => (st g).toInt = 2) (q + 1)) = (nI ((cntP (fun g => (st g).toInt = 2) q) + 1) : Int32) := by first | exact congrArg nI (cntP_y (P := fun g => (st g).toInt = 2) (show (st q).toInt = 2 by omega)) | exact congrArg nI (cntP_n0 (P := fun g => (st g).toInt = 2) (show ¬ (st q).toInt = 2 by omega))
                have e9_4 : nI (cntP (fun g => ¬ (tn g).toInt = 0) (q + 1)) = (nI ((cntP (fun g => ¬ (tn g).toInt = 0) q) + 1) : Int32) := by first | exact congrArg nI (cntP_y (P := fun g => ¬ (tn g).toInt = 0) (show ¬ (tn q).toInt = 0 by omega)) | exact congrArg nI (cntP_n0 (P := fun g => ¬ (tn g).toInt = 0) (show ¬ ¬ (tn q).toInt = 0 by omega))
                have e9_5 : nI (smP (lvF ft st tn) (fun g => nN (mn g)) (q + 1)) = (nI ((smP (lvF ft st tn) (fun g => nN (mn g)) q) + (nN (mn q))) : Int32) := by first | exact congrArg nI (smP_y (P := lvF ft st tn) (by assumption)) | exact congrArg nI (smP_n (P := lvF ft st tn) (by assumption))
                have hl9 : lv_has ls 7 [(6, .int (nI (q + 1))), (5, .int (nI (smP (lvF ft st tn) (fun g => nN (mn g)) (q + 1)))), (4, .int (nI (cntP (fun g => ¬ (tn g).toInt = 0) (q + 1)))), (3, .int (nI (cntP (fun g => (st g).toInt = 2) (q + 1)))), (2, .int (nI (cntP (fun g => (st g).toInt = 1) (q + 1)))), (0, .ref k0), (1, .int 1)] := by rw [e9_2]; rw [e9_3]; rw [e9_4]; rw [e9_5]; exact hl9
                exact ih_13 (q + 1) H locs ls (by omega) (by omega) hP hD hS hl9
        · have c_2 : (st q).toInt = 1 := zc_eq rfl (by decide) c_2
          refine lv_iconst (v := 1) hx hb dX11_count_34 (by decide) ?_
          refine lv_goto (tgt := 39) hx hb dX11_count_35 (by decide) ?_
          refine lv_iadd hx hb dX11_count_39 ?_
          refine zz_i (v := nI ((cntP (fun g => (st g).toInt = 1) q) + 1)) (nI_add (cntP (fun g => (st g).toInt = 1) q) 1) ?_
          refine lv_istore_n (lv' := [(2, .int (nI ((cntP (fun g => (st g).toInt = 1) q) + 1))), (6, .int (nI q)), (5, .int (nI (smP (lvF ft st tn) (fun g => nN (mn g)) q))), (4, .int (nI (cntP (fun g => ¬ (tn g).toInt = 0) q))), (3, .int (nI (cntP (fun g => (st g).toInt = 2) q))), (0, .ref k0), (1, .int 1)]) hx hb dX11_count_40 rfl hl (by decide) rfl (fun ls hl => ?_)
          refine lv_iload_n hx hb dX11_count_41 rfl (lv_at hl 4 rfl) ?_
          refine lv_aload_n hx hb dX11_count_42 rfl (lv_at hl 5 rfl) ?_
          refine va_get (D := (dC, dI)) (ci := 9) (v := .ref (a 5)) (C := RX11) (T := TX11) (N := 55) hx hb hts inX11 hown hK hP 0 rfl rfl 5 (by decide) (hts _ mw_1164) (fun _ h9 => h9) rfl dX11_count_43 ?_
          refine lv_iload hx hb dX11_count_46 (lv_at hl 1 rfl) ?_
          refine z_iald hx hb hK hP 1 0 rfl rfl (e := q) rfl (by omega) (by omega) dX11_count_48 ?_
          refine lv_iconst (v := 2) hx hb dX11_count_49 (by decide) ?_
          refine lv_icmp_ne (tgt := 57) hx hb dX11_count_50 (by decide) (fun c_10 => ?_) (fun c_10 => ?_)
          · have c_10 : ¬ (st q).toInt = 2 := zc_ne rfl (by decide) c_10
            refine lv_iconst (v := 0) hx hb dX11_count_57 (by decide) ?_
            refine lv_iadd hx hb dX11_count_58 ?_
            refine zz_i (v := nI ((cntP (fun g => (st g).toInt = 2) q) + 0)) (nI_add (cntP (fun g => (st g).toInt = 2) q) 0) ?_
            refine lv_istore_n (lv' := [(3, .int (nI ((cntP (fun g => (st g).toInt = 2) q) + 0))), (2, .int (nI ((cntP (fun g => (st g).toInt = 1) q) + 1))), (6, .int (nI q)), (5, .int (nI (smP (lvF ft st tn) (fun g => nN (mn g)) q))), (4, .int (nI (cntP (fun g => ¬ (tn g).toInt = 0) q))), (0, .ref k0), (1, .int 1)]) hx hb dX11_count_59 rfl hl (by decide) rfl (fun ls hl => ?_)
            refine lv_iload hx hb dX11_count_60 (lv_at hl 4 rfl) ?_
            refine lv_aload_n hx hb dX11_count_62 rfl (lv_at hl 5 rfl) ?_
            refine va_get (D := (dC, dI)) (ci := 9) (v := .ref (a 6)) (C := RX11) (T := TX11) (N := 55) hx hb hts inX11 hown hK hP 0 rfl rfl 6 (by decide) (hts _ mw_1165) (fun _ h9 => h9) rfl dX11_count_63 ?_
            refine lv_iload hx hb dX11_count_66 (lv_at hl 2 rfl) ?_
            refine z_zald hx hb hK hP 2 1 rfl rfl (e := q) rfl (by omega) (by omega) dX11_count_68 ?_
            refine lv_if_eq (tgt := 76) hx hb dX11_count_69 (by decide) (fun c_11 => ?_) (fun c_11 => ?_)
            · have c_11 : (tn q).toInt = 0 := zc_eq rfl (by decide) c_11
              refine lv_iconst (v := 0) hx hb dX11_count_76 (by decide) ?_
              refine lv_iadd hx hb dX11_count_77 ?_
              refine zz_i (v := nI ((cntP (fun g => ¬ (tn g).toInt = 0) q) + 0)) (nI_add (cntP (fun g => ¬ (tn g).toInt = 0) q) 0) ?_
              refine lv_istore (lv' := [(4, .int (nI ((cntP (fun g => ¬ (tn g).toInt = 0) q) + 0))), (3, .int (nI ((cntP (fun g => (st g).toInt = 2) q) + 0))), (2, .int (nI ((cntP (fun g => (st g).toInt = 1) q) + 1))), (6, .int (nI q)), (5, .int (nI (smP (lvF ft st tn) (fun g => nN (mn g)) q))), (0, .ref k0), (1, .int 1)]) hx hb dX11_count_78 hl (by decide) rfl (fun ls hl => ?_)
              refine lv_iload hx hb dX11_count_80 (lv_at hl 4 rfl) ?_
              refine lv_aload_n hx hb dX11_count_82 rfl (lv_at hl 5 rfl) ?_
              refine lv_iload hx hb dX11_count_83 (lv_at hl 3 rfl) ?_
              have hPc := hP.sub (ws' := [(om k0 a I0 J0), (oa (a 5) cI 201 st), (oa (a 6) cZ 201 tn)]) [0, 1, 2] rfl
              have hDc := hD.sub (ws' := [(om k0 a I0 J0), (oa (a 5) cI 201 st), (oa (a 6) cZ 201 tn)]) [0, 1, 2] (by decide) rfl
              have hFc := va_free (wc := [(om k0 a I0 J0), (oa (a 5) cI 201 st), (oa (a 6) cZ 201 tn)]) hD hS hA [0, 1, 2] rfl
              refine zcall (st1 := [.int (pI (q < ft ∧ (st q).toInt = 1 ∧ (tn q).toInt = 0)), .int (nI (smP (lvF ft st tn) (fun g => nN (mn g)) q))]) (va_runV (As := [.int (nI q)]) (rest := [.int (nI (smP (lvF ft st tn) (fun g => nN (mn g)) q))]) ⟨hx, hb, hml, hown, hts⟩ (k_M_is_n l dC dI cI cZ cF H.size k0 a I0 J0 q ft st tn (by assumption) (by omega) (by omega)) (cwV 1 hts (zz_gV mw_1447 mw_1449 mw_56 mw_110 mc_yX11_is) rfl rfl rfl (by decide +kernel) ⟨Nat.le_of_ble_eq_true rfl, Nat.le_of_ble_eq_true rfl⟩) (zPV2 (q0 := 0) (ci := 9) hPc hDc hK hXN rfl rfl) rfl rfl hl.1 rfl (lv_room (Nat.le_of_ble_eq_true rfl)) dX11_count_85 ⟨Nat.le_of_ble_eq_true rfl, Nat.le_of_ble_eq_true rfl⟩) hS hFc hFc rfl (fun t H1 locs ht hB hk1 hS => ?_)
              obtain ⟨hP1, hD1⟩ := hB
              rw [ht] at hP1
              obtain ⟨hP, hD⟩ := va_join (wr := [(oa (a 11) cI 201 mn)]) (w1 := [(om k0 a I0 J0), (oa (a 5) cI 201 st), (oa (a 6) cZ 201 tn)]) hP hD [0, 1, 2] [3] rfl rfl (by decide) (by decide) hk1 hFc hP1 hD1
              clear hk1 hPc hDc hFc hP1 hD1 ht
              generalize H1 = H at hP hS ⊢
              have hP := hP.sub (ws' := [(om k0 a I0 J0), (oa (a 5) cI 201 st), (oa (a 6) cZ 201 tn), (oa (a 11) cI 201 mn)]) [1, 2, 3, 0] rfl
              have hD := hD.sub (ws' := [(om k0 a I0 J0), (oa (a 5) cI 201 st), (oa (a 6) cZ 201 tn), (oa (a 11) cI 201 mn)]) [1, 2, 3, 0] (by decide) rfl
              have hP : va_P (dC, dI) classes [(om k0 a I0 J0), (oa (a 5) cI 201 st), (oa (a 6) cZ 201 tn), (oa (a 11) cI 201 mn)] H := hP
              have hD : va_D A [(om k0 a I0 J0), (oa (a 5) cI 201 st), (oa (a 6) cZ 201 tn), (oa (a 11) cI 201 mn)] := hD
              refine lv_if_eq (tgt := 101) hx hb dX11_count_88 (by decide) (fun c_12 => ?_) (fun c_12 => ?_)
              · have c_12 : ¬ (q < ft ∧ (st q).toInt = 1 ∧ (tn q).toInt = 0) := zp_0 c_12
                refine lv_iconst (v := 0) hx hb dX11_count_101 (by decide) ?_
                refine lv_iadd hx hb dX11_count_102 ?_
                refine zz_i (v := nI ((smP (lvF ft st tn) (fun g => nN (mn g)) q) + 0)) (nI_add (smP (lvF ft st tn) (fun g => nN (mn g)) q) 0) ?_
                refine lv_istore (lv' := [(5, .int (nI ((smP (lvF ft st tn) (fun g => nN (mn g)) q) + 0))), (4, .int (nI ((cntP (fun g => ¬ (tn g).toInt = 0) q) + 0))), (3, .int (nI ((cntP (fun g => (st g).toInt = 2) q) + 0))), (2, .int (nI ((cntP (fun g => (st g).toInt = 1) q) + 1))), (6, .int (nI q)), (0, .ref k0), (1, .int 1)]) hx hb dX11_count_103 hl (by decide) rfl (fun ls hl => ?_)
                refine lv_iinc (v := nI (q + 1)) (lv' := [(6, .int (nI (q + 1))), (5, .int (nI ((smP (lvF ft st tn) (fun g => nN (mn g)) q) + 0))), (4, .int (nI ((cntP (fun g => ¬ (tn g).toInt = 0) q) + 0))), (3, .int (nI ((cntP (fun g => (st g).toInt = 2) q) + 0))), (2, .int (nI ((cntP (fun g => (st g).toInt = 1) q) + 1))), (0, .ref k0), (1, .int 1)]) hx hb dX11_count_105 hl (k := 4) rfl (nI_add q 1) (by decide) rfl (fun ls hl => ?_)
                refine lv_goto (tgt := 13) hx hb dX11_count_108 (by decide) ?_
                have hl9 := lv_sub hl [0, 1, 2, 3, 4, 5, 6] rfl
                have e9_2 : nI (cntP (fun g => (st g).toInt = 1) (q + 1)) = (nI ((cntP (fun g => (st g).toInt = 1) q) + 1) : Int32) := by first | exact congrArg nI (cntP_y (P := fun g => (st g).toInt = 1) (show (st q).toInt = 1 by omega)) | exact congrArg nI (cntP_n0 (P := fun g => (st g).toInt = 1) (show ¬ (st q).toInt = 1 by omega))
                have e9_3 : nI (cntP (fun g => (st g).toInt = 2) (q + 1)) = (nI ((cntP (fun g => (st g).toInt = 2) q) + 0) : Int32) := by first | exact congrArg nI (cntP_y (P := fun g => (st g).toInt = 2) (show (st q).toInt = 2 by omega)) | exact congrArg nI (cntP_n0 (P := fun g => (st g).toInt = 2) (show ¬ (st q).toInt = 2 by omega))
                have e9_4 : nI (cntP (fun g => ¬ (tn g).toInt = 0) (q + 1)) = (nI ((cntP (fun g => ¬ (tn g).toInt = 0) q) + 0) : Int32) := by first | exact congrArg nI (cntP_y (P := fun g => ¬ (tn g).toInt = 0) (show ¬ (tn q).toInt = 0 by omega)) | exact congrArg nI (cntP_n0 (P := fun g => ¬ (tn g).toInt = 0) (show ¬ ¬ (tn q).toInt = 0 by omega))
                have e9_5 : nI (smP (lvF ft st tn) (fun g => nN (mn g)) (q + 1)) = (nI ((smP (lvF ft st tn) (fun g => nN (mn g)) q) + 0) : Int32) := by first | exact congrArg nI (smP_y (P := lvF ft st tn) (by assumption)) | exact congrArg nI (smP_n (P := lvF ft st tn) (by assumption))
                have hl9 : lv_has ls 7 [(6, .int (nI (q + 1))), (5, .int (nI (smP (lvF ft st tn) (fun g => nN (mn g)) (q + 1)))), (4, .int (nI (cntP (fun g => ¬ (tn g).toInt = 0) (q + 1)))), (3, .int (nI (cntP (fun g => (st g).toInt = 2) (q + 1)))), (2, .int (nI (cntP (fun g => (st g).toInt = 1) (q + 1)))), (0, .ref k0), (1, .int 1)] := by rw [e9_2]; rw [e9_3]; rw [e9_4]; rw [e9_5]; exact hl9
                exact ih_13 (q + 1) H locs ls (by omega) (by omega) hP hD hS hl9
              · have c_12 : q < ft ∧ (st q).toInt = 1 ∧ (tn q).toInt = 0 := zp_1 c_12
                refine lv_aload_n hx hb dX11_count_91 rfl (lv_at hl 5 rfl) ?_
                refine va_get (D := (dC, dI)) (ci := 9) (v := .ref (a 11)) (C := RX11) (T := TX11) (N := 55) hx hb hts inX11 hown hK hP 0 rfl rfl 11 (by decide) (hts _ mw_1170) (fun _ h9 => h9) rfl dX11_count_92 ?_
                refine lv_iload hx hb dX11_count_95 (lv_at hl 3 rfl) ?_
                refine z_iald hx hb hK hP 3 0 rfl rfl (e := q) rfl (by omega) (by omega) dX11_count_97 ?_
                refine zz_i (v := nI (nN (mn q))) ((hmw q (by assumption)).1) ?_
                refine lv_goto (tgt := 102) hx hb dX11_count_98 (by decide) ?_
                refine lv_iadd hx hb dX11_count_102 ?_
                refine zz_i (v := nI ((smP (lvF ft st tn) (fun g => nN (mn g)) q) + (nN (mn q)))) (nI_add (smP (lvF ft st tn) (fun g => nN (mn g)) q) (nN (mn q))) ?_
                refine lv_istore (lv' := [(5, .int (nI ((smP (lvF ft st tn) (fun g => nN (mn g)) q) + (nN (mn q))))), (4, .int (nI ((cntP (fun g => ¬ (tn g).toInt = 0) q) + 0))), (3, .int (nI ((cntP (fun g => (st g).toInt = 2) q) + 0))), (2, .int (nI ((cntP (fun g => (st g).toInt = 1) q) + 1))), (6, .int (nI q)), (0, .ref k0), (1, .int 1)]) hx hb dX11_count_103 hl (by decide) rfl (fun ls hl => ?_)
                refine lv_iinc (v := nI (q + 1)) (lv' := [(6, .int (nI (q + 1))), (5, .int (nI ((smP (lvF ft st tn) (fun g => nN (mn g)) q) + (nN (mn q))))), (4, .int (nI ((cntP (fun g => ¬ (tn g).toInt = 0) q) + 0))), (3, .int (nI ((cntP (fun g => (st g).toInt = 2) q) + 0))), (2, .int (nI ((cntP (fun g => (st g).toInt = 1) q) + 1))), (0, .ref k0), (1, .int 1)]) hx hb dX11_count_105 hl (k := 4) rfl (nI_add q 1) (by decide) rfl (fun ls hl => ?_)
                refine lv_goto (tgt := 13) hx hb dX11_count_108 (by decide) ?_
                have hl9 := lv_sub hl [0, 1, 2, 3, 4, 5, 6] rfl
                have e9_2 : nI (cntP (fun g => (st g).toInt = 1) (q + 1)) = (nI ((cntP (fun g => (st g).toInt = 1) q) + 1) : Int32) := by first | exact congrArg nI (cntP_y (P := fun g => (st g).toInt = 1) (show (st q).toInt = 1 by omega)) | exact congrArg nI (cntP_n0 (P := fun g => (st g).toInt = 1) (show ¬ (st q).toInt = 1 by omega))
                have e9_3 : nI (cntP (fun g => (st g).toInt = 2) (q + 1)) = (nI ((cntP (fun g => (st g).toInt = 2) q) + 0) : Int32) := by first | exact congrArg nI (cntP_y (P := fun g => (st g).toInt = 2) (show (st q).toInt = 2 by omega)) | exact congrArg nI (cntP_n0 (P := fun g => (st g).toInt = 2) (show ¬ (st q).toInt = 2 by omega))
                have e9_4 : nI (cntP (fun g => ¬ (tn g).toInt = 0) (q + 1)) = (nI ((cntP (fun g => ¬ (tn g).toInt = 0) q) + 0) : Int32) := by first | exact congrArg nI (cntP_y (P := fun g => ¬ (tn g).toInt = 0) (show ¬ (tn q).toInt = 0 by omega)) | exact congrArg nI (cntP_n0 (P := fun g => ¬ (tn g).toInt = 0) (show ¬ ¬ (tn q).toInt = 0 by omega))
                have e9_5 : nI (smP (lvF ft st tn) (fun g => nN (mn g)) (q + 1)) = (nI ((smP (lvF ft st tn) (fun g => nN (mn g)) q) + (nN (mn q))) : Int32) := by first | exact congrArg nI (smP_y (P := lvF ft st tn) (by assumption)) | exact congrArg nI (smP_n (P := lvF ft st tn) (by assumption))
                have hl9 : lv_has ls 7 [(6, .int (nI (q + 1))), (5, .int (nI (smP (lvF ft st tn) (fun g => nN (mn g)) (q + 1)))), (4, .int (nI (cntP (fun g => ¬ (tn g).toInt = 0) (q + 1)))), (3, .int (nI (cntP (fun g => (st g).toInt = 2) (q + 1)))), (2, .int (nI (cntP (fun g => (st g).toInt = 1) (q + 1)))), (0, .ref k0), (1, .int 1)] := by rw [e9_2]; rw [e9_3]; rw [e9_4]; rw [e9_5]; exact hl9
                exact ih_13 (q + 1) H locs ls (by omega) (by omega) hP hD hS hl9
            · have c_11 : ¬ (tn q).toInt = 0 := zc_ne rfl (by decide) c_11
              refine lv_iconst (v := 1) hx hb dX11_count_72 (by decide) ?_
              refine lv_goto (tgt := 77) hx hb dX11_count_73 (by decide) ?_
              refine lv_iadd hx hb dX11_count_77 ?_
              refine zz_i (v := nI ((cntP (fun g => ¬ (tn g).toInt = 0) q) + 1)) (nI_add (cntP (fun g => ¬ (tn g).toInt = 0) q) 1) ?_
              refine lv_istore (lv' := [(4, .int (nI ((cntP (fun g => ¬ (tn g).toInt = 0) q) + 1))), (3, .int (nI ((cntP (fun g => (st g).toInt = 2) q) + 0))), (2, .int (nI ((cntP (fun g => (st g).toInt = 1) q) + 1))), (6, .int (nI q)), (5, .int (nI (smP (lvF ft st tn) (fun g => nN (mn g)) q))), (0, .ref k0), (1, .int 1)]) hx hb dX11_count_78 hl (by decide) rfl (fun ls hl => ?_)
              refine lv_iload hx hb dX11_count_80 (lv_at hl 4 rfl) ?_
              refine lv_aload_n hx hb dX11_count_82 rfl (lv_at hl 5 rfl) ?_
              refine lv_iload hx hb dX11_count_83 (lv_at hl 3 rfl) ?_
              have hPc := hP.sub (ws' := [(om k0 a I0 J0), (oa (a 5) cI 201 st), (oa (a 6) cZ 201 tn)]) [0, 1, 2] rfl
              have hDc := hD.sub (ws' := [(om k0 a I0 J0), (oa (a 5) cI 201 st), (oa (a 6) cZ 201 tn)]) [0, 1, 2] (by decide) rfl
              have hFc := va_free (wc := [(om k0 a I0 J0), (oa (a 5) cI 201 st), (oa (a 6) cZ 201 tn)]) hD hS hA [0, 1, 2] rfl
              refine zcall (st1 := [.int (pI (q < ft ∧ (st q).toInt = 1 ∧ (tn q).toInt = 0)), .int (nI (smP (lvF ft st tn) (fun g => nN (mn g)) q))]) (va_runV (As := [.int (nI q)]) (rest := [.int (nI (smP (lvF ft st tn) (fun g => nN (mn g)) q))]) ⟨hx, hb, hml, hown, hts⟩ (k_M_is_n l dC dI cI cZ cF H.size k0 a I0 J0 q ft st tn (by assumption) (by omega) (by omega)) (cwV 1 hts (zz_gV mw_1447 mw_1449 mw_56 mw_110 mc_yX11_is) rfl rfl rfl (by decide +kernel) ⟨Nat.le_of_ble_eq_true rfl, Nat.le_of_ble_eq_true rfl⟩) (zPV2 (q0 := 0) (ci := 9) hPc hDc hK hXN rfl rfl) rfl rfl hl.1 rfl (lv_room (Nat.le_of_ble_eq_true rfl)) dX11_count_85 ⟨Nat.le_of_ble_eq_true rfl, Nat.le_of_ble_eq_true rfl⟩) hS hFc hFc rfl (fun t H1 locs ht hB hk1 hS => ?_)
              obtain ⟨hP1, hD1⟩ := hB
              rw [ht] at hP1
              obtain ⟨hP, hD⟩ := va_join (wr := [(oa (a 11) cI 201 mn)]) (w1 := [(om k0 a I0 J0), (oa (a 5) cI 201 st), (oa (a 6) cZ 201 tn)]) hP hD [0, 1, 2] [3] rfl rfl (by decide) (by decide) hk1 hFc hP1 hD1
              clear hk1 hPc hDc hFc hP1 hD1 ht
              generalize H1 = H at hP hS ⊢
              have hP := hP.sub (ws' := [(om k0 a I0 J0), (oa (a 5) cI 201 st), (oa (a 6) cZ 201 tn), (oa (a 11) cI 201 mn)]) [1, 2, 3, 0] rfl
              have hD := hD.sub (ws' := [(om k0 a I0 J0), (oa (a 5) cI 201 st), (oa (a 6) cZ 201 tn), (oa (a 11) cI 201 mn)]) [1, 2, 3, 0] (by decide) rfl
              have hP : va_P (dC, dI) classes [(om k0 a I0 J0), (oa (a 5) cI 201 st), (oa (a 6) cZ 201 tn), (oa (a 11) cI 201 mn)] H := hP
              have hD : va_D A [(om k0 a I0 J0), (oa (a 5) cI 201 st), (oa (a 6) cZ 201 tn), (oa (a 11) cI 201 mn)] := hD
              refine lv_if_eq (tgt := 101) hx hb dX11_count_88 (by decide) (fun c_13 => ?_) (fun c_13 => ?_)
              · have c_13 : ¬ (q < ft ∧ (st q).toInt = 1 ∧ (tn q).toInt = 0) := zp_0 c_13
                refine lv_iconst (v := 0) hx hb dX11_count_101 (by decide) ?_
                refine lv_iadd hx hb dX11_count_102 ?_
                refine zz_i (v := nI ((smP (lvF ft st tn) (fun g => nN (mn g)) q) + 0)) (nI_add (smP (lvF ft st tn) (fun g => nN (mn g)) q) 0) ?_
                refine lv_istore (lv' := [(5, .int (nI ((smP (lvF ft st tn) (fun g => nN (mn g)) q) + 0))), (4, .int (nI ((cntP (fun g => ¬ (tn g).toInt = 0) q) + 1))), (3, .int (nI ((cntP (fun g => (st g).toInt = 2) q) + 0))), (2, .int (nI ((cntP (fun g => (st g).toInt = 1) q) + 1))), (6, .int (nI q)), (0, .ref k0), (1, .int 1)]) hx hb dX11_count_103 hl (by decide) rfl (fun ls hl => ?_)
                refine lv_iinc (v := nI (q + 1)) (lv' := [(6, .int (nI (q + 1))), (5, .int (nI ((smP (lvF ft st tn) (fun g => nN (mn g)) q) + 0))), (4, .int (nI ((cntP (fun g => ¬ (tn g).toInt = 0) q) + 1))), (3, .int (nI ((cntP (fun g => (st g).toInt = 2) q) + 0))), (2, .int (nI ((cntP (fun g => (st g).toInt = 1) q) + 1))), (0, .ref k0), (1, .int 1)]) hx hb dX11_count_105 hl (k := 4) rfl (nI_add q 1) (by decide) rfl (fun ls hl => ?_)
                refine lv_goto (tgt := 13) hx hb dX11_count_108 (by decide) ?_
                have hl9 := lv_sub hl [0, 1, 2, 3, 4, 5, 6] rfl
                have e9_2 : nI (cntP (fun g => (st g).toInt = 1) (q + 1)) = (nI ((cntP (fun g => (st g).toInt = 1) q) + 1) : Int32) := by first | exact congrArg nI (cntP_y (P := fun g => (st g).toInt = 1) (show (st q).toInt = 1 by omega)) | exact congrArg nI (cntP_n0 (P := fun g => (st g).toInt = 1) (show ¬ (st q).toInt = 1 by omega))
                have e9_3 : nI (cntP (fun g => (st g).toInt = 2) (q + 1)) = (nI ((cntP (fun g => (st g).toInt = 2) q) + 0) : Int32) := by first | exact congrArg nI (cntP_y (P := fun g => (st g).toInt = 2) (show (st q).toInt = 2 by omega)) | exact congrArg nI (cntP_n0 (P := fun g => (st g).toInt = 2) (show ¬ (st q).toInt = 2 by omega))
                have e9_4 : nI (cntP (fun g => ¬ (tn g).toInt = 0) (q + 1)) = (nI ((cntP (fun g => ¬ (tn g).toInt = 0) q) + 1) : Int32) := by first | exact congrArg nI (cntP_y (P := fun g => ¬ (tn g).toInt = 0) (show ¬ (tn q).toInt = 0 by omega)) | exact congrArg nI (cntP_n0 (P := fun g => ¬ (tn g).toInt = 0) (show ¬ ¬ (tn q).toInt = 0 by omega))
                have e9_5 : nI (smP (lvF ft st tn) (fun g => nN (mn g)) (q + 1)) = (nI ((smP (lvF ft st tn) (fun g => nN (mn g)) q) + 0) : Int32) := by first | exact congrArg nI (smP_y (P := lvF ft st tn) (by assumption)) | exact congrArg nI (smP_n (P := lvF ft st tn) (by assumption))
                have hl9 : lv_has ls 7 [(6, .int (nI (q + 1))), (5, .int (nI (smP (lvF ft st tn) (fun g => nN (mn g)) (q + 1)))), (4, .int (nI (cntP (fun g => ¬ (tn g).toInt = 0) (q + 1)))), (3, .int (nI (cntP (fun g => (st g).toInt = 2) (q + 1)))), (2, .int (nI (cntP (fun g => (st g).toInt = 1) (q + 1)))), (0, .ref k0), (1, .int 1)] := by rw [e9_2]; rw [e9_3]; rw [e9_4]; rw [e9_5]; exact hl9
                exact ih_13 (q + 1) H locs ls (by omega) (by omega) hP hD hS hl9
              · have c_13 : q < ft ∧ (st q).toInt = 1 ∧ (tn q).toInt = 0 := zp_1 c_13
                refine lv_aload_n hx hb dX11_count_91 rfl (lv_at hl 5 rfl) ?_
                refine va_get (D := (dC, dI)) (ci := 9) (v := .ref (a 11)) (C := RX11) (T := TX11) (N := 55) hx hb hts inX11 hown hK hP 0 rfl rfl 11 (by decide) (hts _ mw_1170) (fun _ h9 => h9) rfl dX11_count_92 ?_
                refine lv_iload hx hb dX11_count_95 (lv_at hl 3 rfl) ?_
                refine z_iald hx hb hK hP 3 0 rfl rfl (e := q) rfl (by omega) (by omega) dX11_count_97 ?_
                refine zz_i (v := nI (nN (mn q))) ((hmw q (by assumption)).1) ?_
                refine lv_goto (tgt := 102) hx hb dX11_count_98 (by decide) ?_
                refine lv_iadd hx hb dX11_count_102 ?_
                refine zz_i (v := nI ((smP (lvF ft st tn) (fun g => nN (mn g)) q) + (nN (mn q)))) (nI_add (smP (lvF ft st tn) (fun g => nN (mn g)) q) (nN (mn q))) ?_
                refine lv_istore (lv' := [(5, .int (nI ((smP (lvF ft st tn) (fun g => nN (mn g)) q) + (nN (mn q))))), (4, .int (nI ((cntP (fun g => ¬ (tn g).toInt = 0) q) + 1))), (3, .int (nI ((cntP (fun g => (st g).toInt = 2) q) + 0))), (2, .int (nI ((cntP (fun g => (st g).toInt = 1) q) + 1))), (6, .int (nI q)), (0, .ref k0), (1, .int 1)]) hx hb dX11_count_103 hl (by decide) rfl (fun ls hl => ?_)
                refine lv_iinc (v := nI (q + 1)) (lv' := [(6, .int (nI (q + 1))), (5, .int (nI ((smP (lvF ft st tn) (fun g => nN (mn g)) q) + (nN (mn q))))), (4, .int (nI ((cntP (fun g => ¬ (tn g).toInt = 0) q) + 1))), (3, .int (nI ((cntP (fun g => (st g).toInt = 2) q) + 0))), (2, .int (nI ((cntP (fun g => (st g).toInt = 1) q) + 1))), (0, .ref k0), (1, .int 1)]) hx hb dX11_count_105 hl (k := 4) rfl (nI_add q 1) (by decide) rfl (fun ls hl => ?_)
                refine lv_goto (tgt := 13) hx hb dX11_count_108 (by decide) ?_
                have hl9 := lv_sub hl [0, 1, 2, 3, 4, 5, 6] rfl
                have e9_2 : nI (cntP (fun g => (st g).toInt = 1) (q + 1)) = (nI ((cntP (fun g => (st g).toInt = 1) q) + 1) : Int32) := by first | exact congrArg nI (cntP_y (P := fun g => (st g).toInt = 1) (show (st q).toInt = 1 by omega)) | exact congrArg nI (cntP_n0 (P := fun g => (st g).toInt = 1) (show ¬ (st q).toInt = 1 by omega))
                have e9_3 : nI (cntP (fun g => (st g).toInt = 2) (q + 1)) = (nI ((cntP (fun g => (st g).toInt = 2) q) + 0) : Int32) := by first | exact congrArg nI (cntP_y (P := fun g => (st g).toInt = 2) (show (st q).toInt = 2 by omega)) | exact congrArg nI (cntP_n0 (P := fun g => (st g).toInt = 2) (show ¬ (st q).toInt = 2 by omega))
                have e9_4 : nI (cntP (fun g => ¬ (tn g).toInt = 0) (q + 1)) = (nI ((cntP (fun g => ¬ (tn g).toInt = 0) q) + 1) : Int32) := by first | exact congrArg nI (cntP_y (P := fun g => ¬ (tn g).toInt = 0) (show ¬ (tn q).toInt = 0 by omega)) | exact congrArg nI (cntP_n0 (P := fun g => ¬ (tn g).toInt = 0) (show ¬ ¬ (tn q).toInt = 0 by omega))
                have e9_5 : nI (smP (lvF ft st tn) (fun g => nN (mn g)) (q + 1)) = (nI ((smP (lvF ft st tn) (fun g => nN (mn g)) q) + (nN (mn q))) : Int32) := by first | exact congrArg nI (smP_y (P := lvF ft st tn) (by assumption)) | exact congrArg nI (smP_n (P := lvF ft st tn) (by assumption))
                have hl9 : lv_has ls 7 [(6, .int (nI (q + 1))), (5, .int (nI (smP (lvF ft st tn) (fun g => nN (mn g)) (q + 1)))), (4, .int (nI (cntP (fun g => ¬ (tn g).toInt = 0) (q + 1)))), (3, .int (nI (cntP (fun g => (st g).toInt = 2) (q + 1)))), (2, .int (nI (cntP (fun g => (st g).toInt = 1) (q + 1)))), (0, .ref k0), (1, .int 1)] := by rw [e9_2]; rw [e9_3]; rw [e9_4]; rw [e9_5]; exact hl9
                exact ih_13 (q + 1) H locs ls (by omega) (by omega) hP hD hS hl9
          · have c_10 : (st q).toInt = 2 := zc_eq rfl (by decide) c_10
            refine lv_iconst (v := 1) hx hb dX11_count_53 (by decide) ?_
            refine lv_goto (tgt := 58) hx hb dX11_count_54 (by decide) ?_
            refine lv_iadd hx hb dX11_count_58 ?_
            refine zz_i (v := nI ((cntP (fun g => (st g).toInt = 2) q) + 1)) (nI_add (cntP (fun g => (st g).toInt = 2) q) 1) ?_
            refine lv_istore_n (lv' := [(3, .int (nI ((cntP (fun g => (st g).toInt = 2) q) + 1))), (2, .int (nI ((cntP (fun g => (st g).toInt = 1) q) + 1))), (6, .int (nI q)), (5, .int (nI (smP (lvF ft st tn) (fun g => nN (mn g)) q))), (4, .int (nI (cntP (fun g => ¬ (tn g).toInt = 0) q))), (0, .ref k0), (1, .int 1)]) hx hb dX11_count_59 rfl hl (by decide) rfl (fun ls hl => ?_)
            refine lv_iload hx hb dX11_count_60 (lv_at hl 4 rfl) ?_
            refine lv_aload_n hx hb dX11_count_62 rfl (lv_at hl 5 rfl) ?_
            refine va_get (D := (dC, dI)) (ci := 9) (v := .ref (a 6)) (C := RX11) (T := TX11) (N := 55) hx hb hts inX11 hown hK hP 0 rfl rfl 6 (by decide) (hts _ mw_1165) (fun _ h9 => h9) rfl dX11_count_63 ?_
            refine lv_iload hx hb dX11_count_66 (lv_at hl 2 rfl) ?_
            refine z_zald hx hb hK hP 2 1 rfl rfl (e := q) rfl (by omega) (by omega) dX11_count_68 ?_
            refine lv_if_eq (tgt := 76) hx hb dX11_count_69 (by decide) (fun c_14 => ?_) (fun c_14 => ?_)
            · have c_14 : (tn q).toInt = 0 := zc_eq rfl (by decide) c_14
              refine lv_iconst (v := 0) hx hb dX11_count_76 (by decide) ?_
              refine lv_iadd hx hb dX11_count_77 ?_
              refine zz_i (v := nI ((cntP (fun g => ¬ (tn g).toInt = 0) q) + 0)) (nI_add (cntP (fun g => ¬ (tn g).toInt = 0) q) 0) ?_
              refine lv_istore (lv' := [(4, .int (nI ((cntP (fun g => ¬ (tn g).toInt = 0) q) + 0))), (3, .int (nI ((cntP (fun g => (st g).toInt = 2) q) + 1))), (2, .int (nI ((cntP (fun g => (st g).toInt = 1) q) + 1))), (6, .int (nI q)), (5, .int (nI (smP (lvF ft st tn) (fun g => nN (mn g)) q))), (0, .ref k0), (1, .int 1)]) hx hb dX11_count_78 hl (by decide) rfl (fun ls hl => ?_)
              refine lv_iload hx hb dX11_count_80 (lv_at hl 4 rfl) ?_
              refine lv_aload_n hx hb dX11_count_82 rfl (lv_at hl 5 rfl) ?_
              refine lv_iload hx hb dX11_count_83 (lv_at hl 3 rfl) ?_
              have hPc := hP.sub (ws' := [(om k0 a I0 J0), (oa (a 5) cI 201 st), (oa (a 6) cZ 201 tn)]) [0, 1, 2] rfl
              have hDc := hD.sub (ws' := [(om k0 a I0 J0), (oa (a 5) cI 201 st), (oa (a 6) cZ 201 tn)]) [0, 1, 2] (by decide) rfl
              have hFc := va_free (wc := [(om k0 a I0 J0), (oa (a 5) cI 201 st), (oa (a 6) cZ 201 tn)]) hD hS hA [0, 1, 2] rfl
              refine zcall (st1 := [.int (pI (q < ft ∧ (st q).toInt = 1 ∧ (tn q).toInt = 0)), .int (nI (smP (lvF ft st tn) (fun g => nN (mn g)) q))]) (va_runV (As := [.int (nI q)]) (rest := [.int (nI (smP (lvF ft st tn) (fun g => nN (mn g)) q))]) ⟨hx, hb, hml, hown, hts⟩ (k_M_is_n l dC dI cI cZ cF H.size k0 a I0 J0 q ft st tn (by assumption) (by omega) (by omega)) (cwV 1 hts (zz_gV mw_1447 mw_1449 mw_56 mw_110 mc_yX11_is) rfl rfl rfl (by decide +kernel) ⟨Nat.le_of_ble_eq_true rfl, Nat.le_of_ble_eq_true rfl⟩) (zPV2 (q0 := 0) (ci := 9) hPc hDc hK hXN rfl rfl) rfl rfl hl.1 rfl (lv_room (Nat.le_of_ble_eq_true rfl)) dX11_count_85 ⟨Nat.le_of_ble_eq_true rfl, Nat.le_of_ble_eq_true rfl⟩) hS hFc hFc rfl (fun t H1 locs ht hB hk1 hS => ?_)
              obtain ⟨hP1, hD1⟩ := hB
              rw [ht] at hP1
              obtain ⟨hP, hD⟩ := va_join (wr := [(oa (a 11) cI 201 mn)]) (w1 := [(om k0 a I0 J0), (oa (a 5) cI 201 st), (oa (a 6) cZ 201 tn)]) hP hD [0, 1, 2] [3] rfl rfl (by decide) (by decide) hk1 hFc hP1 hD1
              clear hk1 hPc hDc hFc hP1 hD1 ht
              generalize H1 = H at hP hS ⊢
              have hP := hP.sub (ws' := [(om k0 a I0 J0), (oa (a 5) cI 201 st), (oa (a 6) cZ 201 tn), (oa (a 11) cI 201 mn)]) [1, 2, 3, 0] rfl
              have hD := hD.sub (ws' := [(om k0 a I0 J0), (oa (a 5) cI 201 st), (oa (a 6) cZ 201 tn), (oa (a 11) cI 201 mn)]) [1, 2, 3, 0] (by decide) rfl
              have hP : va_P (dC, dI) classes [(om k0 a I0 J0), (oa (a 5) cI 201 st), (oa (a 6) cZ 201 tn), (oa (a 11) cI 201 mn)] H := hP
              have hD : va_D A [(om k0 a I0 J0), (oa (a 5) cI 201 st), (oa (a 6) cZ 201 tn), (oa (a 11) cI 201 mn)] := hD
              refine lv_if_eq (tgt := 101) hx hb dX11_count_88 (by decide) (fun c_15 => ?_) (fun c_15 => ?_)
              · have c_15 : ¬ (q < ft ∧ (st q).toInt = 1 ∧ (tn q).toInt = 0) := zp_0 c_15
                refine lv_iconst (v := 0) hx hb dX11_count_101 (by decide) ?_
                refine lv_iadd hx hb dX11_count_102 ?_
                refine zz_i (v := nI ((smP (lvF ft st tn) (fun g => nN (mn g)) q) + 0)) (nI_add (smP (lvF ft st tn) (fun g => nN (mn g)) q) 0) ?_
                refine lv_istore (lv' := [(5, .int (nI ((smP (lvF ft st tn) (fun g => nN (mn g)) q) + 0))), (4, .int (nI ((cntP (fun g => ¬ (tn g).toInt = 0) q) + 0))), (3, .int (nI ((cntP (fun g => (st g).toInt = 2) q) + 1))), (2, .int (nI ((cntP (fun g => (st g).toInt = 1) q) + 1))), (6, .int (nI q)), (0, .ref k0), (1, .int 1)]) hx hb dX11_count_103 hl (by decide) rfl (fun ls hl => ?_)
                refine lv_iinc (v := nI (q + 1)) (lv' := [(6, .int (nI (q + 1))), (5, .int (nI ((smP (lvF ft st tn) (fun g => nN (mn g)) q) + 0))), (4, .int (nI ((cntP (fun g => ¬ (tn g).toInt = 0) q) + 0))), (3, .int (nI ((cntP (fun g => (st g).toInt = 2) q) + 1))), (2, .int (nI ((cntP (fun g => (st g).toInt = 1) q) + 1))), (0, .ref k0), (1, .int 1)]) hx hb dX11_count_105 hl (k := 4) rfl (nI_add q 1) (by decide) rfl (fun ls hl => ?_)
                refine lv_goto (tgt := 13) hx hb dX11_count_108 (by decide) ?_
                have hl9 := lv_sub hl [0, 1, 2, 3, 4, 5, 6] rfl
                have e9_2 : nI (cntP (fun g => (st g).toInt = 1) (q + 1)) = (nI ((cntP (fun g => (st g).toInt = 1) q) + 1) : Int32) := by first | exact congrArg nI (cntP_y (P := fun g => (st g).toInt = 1) (show (st q).toInt = 1 by omega)) | exact congrArg nI (cntP_n0 (P := fun g => (st g).toInt = 1) (show ¬ (st q).toInt = 1 by omega))
                have e9_3 : nI (cntP (fun g => (st g).toInt = 2) (q + 1)) = (nI ((cntP (fun g => (st g).toInt = 2) q) + 1) : Int32) := by first | exact congrArg nI (cntP_y (P := fun g => (st g).toInt = 2) (show (st q).toInt = 2 by omega)) | exact congrArg nI (cntP_n0 (P := fun g => (st g).toInt = 2) (show ¬ (st q).toInt = 2 by omega))
                have e9_4 : nI (cntP (fun g => ¬ (tn g).toInt = 0) (q + 1)) = (nI ((cntP (fun g => ¬ (tn g).toInt = 0) q) + 0) : Int32) := by first | exact congrArg nI (cntP_y (P := fun g => ¬ (tn g).toInt = 0) (show ¬ (tn q).toInt = 0 by omega)) | exact congrArg nI (cntP_n0 (P := fun g => ¬ (tn g).toInt = 0) (show ¬ ¬ (tn q).toInt = 0 by omega))
                have e9_5 : nI (smP (lvF ft st tn) (fun g => nN (mn g)) (q + 1)) = (nI ((smP (lvF ft st tn) (fun g => nN (mn g)) q) + 0) : Int32) := by first | exact congrArg nI (smP_y (P := lvF ft st tn) (by assumption)) | exact congrArg nI (smP_n (P := lvF ft st tn) (by assumption))
                have hl9 : lv_has ls 7 [(6, .int (nI (q + 1))), (5, .int (nI (smP (lvF ft st tn) (fun g => nN (mn g)) (q + 1)))), (4, .int (nI (cntP (fun g => ¬ (tn g).toInt = 0) (q + 1)))), (3, .int (nI (cntP (fun g => (st g).toInt = 2) (q + 1)))), (2, .int (nI (cntP (fun g => (st g).toInt = 1) (q + 1)))), (0, .ref k0), (1, .int 1)] := by rw [e9_2]; rw [e9_3]; rw [e9_4]; rw [e9_5]; exact hl9
                exact ih_13 (q + 1) H locs ls (by omega) (by omega) hP hD hS hl9
              · have c_15 : q < ft ∧ (st q).toInt = 1 ∧ (tn q).toInt = 0 := zp_1 c_15
                refine lv_aload_n hx hb dX11_count_91 rfl (lv_at hl 5 rfl) ?_
                refine va_get (D := (dC, dI)) (ci := 9) (v := .ref (a 11)) (C := RX11) (T := TX11) (N := 55) hx hb hts inX11 hown hK hP 0 rfl rfl 11 (by decide) (hts _ mw_1170) (fun _ h9 => h9) rfl dX11_count_92 ?_
                refine lv_iload hx hb dX11_count_95 (lv_at hl 3 rfl) ?_
                refine z_iald hx hb hK hP 3 0 rfl rfl (e := q) rfl (by omega) (by omega) dX11_count_97 ?_
                refine zz_i (v := nI (nN (mn q))) ((hmw q (by assumption)).1) ?_
                refine lv_goto (tgt := 102) hx hb dX11_count_98 (by decide) ?_
                refine lv_iadd hx hb dX11_count_102 ?_
                refine zz_i (v := nI ((smP (lvF ft st tn) (fun g => nN (mn g)) q) + (nN (mn q)))) (nI_add (smP (lvF ft st tn) (fun g => nN (mn g)) q) (nN (mn q))) ?_
                refine lv_istore (lv' := [(5, .int (nI ((smP (lvF ft st tn) (fun g => nN (mn g)) q) + (nN (mn q))))), (4, .int (nI ((cntP (fun g => ¬ (tn g).toInt = 0) q) + 0))), (3, .int (nI ((cntP (fun g => (st g).toInt = 2) q) + 1))), (2, .int (nI ((cntP (fun g => (st g).toInt = 1) q) + 1))), (6, .int (nI q)), (0, .ref k0), (1, .int 1)]) hx hb dX11_count_103 hl (by decide) rfl (fun ls hl => ?_)
                refine lv_iinc (v := nI (q + 1)) (lv' := [(6, .int (nI (q + 1))), (5, .int (nI ((smP (lvF ft st tn) (fun g => nN (mn g)) q) + (nN (mn q))))), (4, .int (nI ((cntP (fun g => ¬ (tn g).toInt = 0) q) + 0))), (3, .int (nI ((cntP (fun g => (st g).toInt = 2) q) + 1))), (2, .int (nI ((cntP (fun g => (st g).toInt = 1) q) + 1))), (0, .ref k0), (1, .int 1)]) hx hb dX11_count_105 hl (k := 4) rfl (nI_add q 1) (by decide) rfl (fun ls hl => ?_)
                refine lv_goto (tgt := 13) hx hb dX11_count_108 (by decide) ?_
                have hl9 := lv_sub hl [0, 1, 2, 3, 4, 5, 6] rfl
                have e9_2 : nI (cntP (fun g => (st g).toInt = 1) (q + 1)) = (nI ((cntP (fun g => (st g).toInt = 1) q) + 1) : Int32) := by first | exact congrArg nI (cntP_y (P := fun g => (st g).toInt = 1) (show (st q).toInt = 1 by omega)) | exact congrArg nI (cntP_n0 (P := fun g => (st g).toInt = 1) (show ¬ (st q).toInt = 1 by omega))
                have e9_3 : nI (cntP (fun g => (st g).toInt = 2) (q + 1)) = (nI ((cntP (fun g => (st g).toInt = 2) q) + 1) : Int32) := by first | exact congrArg nI (cntP_y (P := fun g => (st g).toInt = 2) (show (st q).toInt = 2 by omega)) | exact congrArg nI (cntP_n0 (P := fun g => (st g).toInt = 2) (show ¬ (st q).toInt = 2 by omega))
                have e9_4 : nI (cntP (fun g => ¬ (tn g).toInt = 0) (q + 1)) = (nI ((cntP (fun g => ¬ (tn g).toInt = 0) q) + 0) : Int32) := by first | exact congrArg nI (cntP_y (P := fun g => ¬ (tn g).toInt = 0) (show ¬ (tn q).toInt = 0 by omega)) | exact congrArg nI (cntP_n0 (P := fun g => ¬ (tn g).toInt = 0) (show ¬ ¬ (tn q).toInt = 0 by omega))
                have e9_5 : nI (smP (lvF ft st tn) (fun g => nN (mn g)) (q + 1)) = (nI ((smP (lvF ft st tn) (fun g => nN (mn g)) q) + (nN (mn q))) : Int32) := by first | exact congrArg nI (smP_y (P := lvF ft st tn) (by assumption)) | exact congrArg nI (smP_n (P := lvF ft st tn) (by assumption))
                have hl9 : lv_has ls 7 [(6, .int (nI (q + 1))), (5, .int (nI (smP (lvF ft st tn) (fun g => nN (mn g)) (q + 1)))), (4, .int (nI (cntP (fun g => ¬ (tn g).toInt = 0) (q + 1)))), (3, .int (nI (cntP (fun g => (st g).toInt = 2) (q + 1)))), (2, .int (nI (cntP (fun g => (st g).toInt = 1) (q + 1)))), (0, .ref k0), (1, .int 1)] := by rw [e9_2]; rw [e9_3]; rw [e9_4]; rw [e9_5]; exact hl9
                exact ih_13 (q + 1) H locs ls (by omega) (by omega) hP hD hS hl9
            · have c_14 : ¬ (tn q).toInt = 0 := zc_ne rfl (by decide) c_14
              refine lv_iconst (v := 1) hx hb dX11_count_72 (by decide) ?_
              refine lv_goto (tgt := 77) hx hb dX11_count_73 (by decide) ?_
              refine lv_iadd hx hb dX11_count_77 ?_
              refine zz_i (v := nI ((cntP (fun g => ¬ (tn g).toInt = 0) q) + 1)) (nI_add (cntP (fun g => ¬ (tn g).toInt = 0) q) 1) ?_
              refine lv_istore (lv' := [(4, .int (nI ((cntP (fun g => ¬ (tn g).toInt = 0) q) + 1))), (3, .int (nI ((cntP (fun g => (st g).toInt = 2) q) + 1))), (2, .int (nI ((cntP (fun g => (st g).toInt = 1) q) + 1))), (6, .int (nI q)), (5, .int (nI (smP (lvF ft st tn) (fun g => nN (mn g)) q))), (0, .ref k0), (1, .int 1)]) hx hb dX11_count_78 hl (by decide) rfl (fun ls hl => ?_)
              refine lv_iload hx hb dX11_count_80 (lv_at hl 4 rfl) ?_
              refine lv_aload_n hx hb dX11_count_82 rfl (lv_at hl 5 rfl) ?_
              refine lv_iload hx hb dX11_count_83 (lv_at hl 3 rfl) ?_
              have hPc := hP.sub (ws' := [(om k0 a I0 J0), (oa (a 5) cI 201 st), (oa (a 6) cZ 201 tn)]) [0, 1, 2] rfl
              have hDc := hD.sub (ws' := [(om k0 a I0 J0), (oa (a 5) cI 201 st), (oa (a 6) cZ 201 tn)]) [0, 1, 2] (by decide) rfl
              have hFc := va_free (wc := [(om k0 a I0 J0), (oa (a 5) cI 201 st), (oa (a 6) cZ 201 tn)]) hD hS hA [0, 1, 2] rfl
              refine zcall (st1 := [.int (pI (q < ft ∧ (st q).toInt = 1 ∧ (tn q).toInt = 0)), .int (nI (smP (lvF ft st tn) (fun g => nN (mn g)) q))]) (va_runV (As := [.int (nI q)]) (rest := [.int (nI (smP (lvF ft st tn) (fun g => nN (mn g)) q))]) ⟨hx, hb, hml, hown, hts⟩ (k_M_is_n l dC dI cI cZ cF H.size k0 a I0 J0 q ft st tn (by assumption) (by omega) (by omega)) (cwV 1 hts (zz_gV mw_1447 mw_1449 mw_56 mw_110 mc_yX11_is) rfl rfl rfl (by decide +kernel) ⟨Nat.le_of_ble_eq_true rfl, Nat.le_of_ble_eq_true rfl⟩) (zPV2 (q0 := 0) (ci := 9) hPc hDc hK hXN rfl rfl) rfl rfl hl.1 rfl (lv_room (Nat.le_of_ble_eq_true rfl)) dX11_count_85 ⟨Nat.le_of_ble_eq_true rfl, Nat.le_of_ble_eq_true rfl⟩) hS hFc hFc rfl (fun t H1 locs ht hB hk1 hS => ?_)
              obtain ⟨hP1, hD1⟩ := hB
              rw [ht] at hP1
              obtain ⟨hP, hD⟩ := va_join (wr := [(oa (a 11) cI 201 mn)]) (w1 := [(om k0 a I0 J0), (oa (a 5) cI 201 st), (oa (a 6) cZ 201 tn)]) hP hD [0, 1, 2] [3] rfl rfl (by decide) (by decide) hk1 hFc hP1 hD1
              clear hk1 hPc hDc hFc hP1 hD1 ht
              generalize H1 = H at hP hS ⊢
              have hP := hP.sub (ws' := [(om k0 a I0 J0), (oa (a 5) cI 201 st), (oa (a 6) cZ 201 tn), (oa (a 11) cI 201 mn)]) [1, 2, 3, 0] rfl
              have hD := hD.sub (ws' := [(om k0 a I0 J0), (oa (a 5) cI 201 st), (oa (a 6) cZ 201 tn), (oa (a 11) cI 201 mn)]) [1, 2, 3, 0] (by decide) rfl
              have hP : va_P (dC, dI) classes [(om k0 a I0 J0), (oa (a 5) cI 201 st), (oa (a 6) cZ 201 tn), (oa (a 11) cI 201 mn)] H := hP
              have hD : va_D A [(om k0 a I0 J0), (oa (a 5) cI 201 st), (oa (a 6) cZ 201 tn), (oa (a 11) cI 201 mn)] := hD
              refine lv_if_eq (tgt := 101) hx hb dX11_count_88 (by decide) (fun c_16 => ?_) (fun c_16 => ?_)
              · have c_16 : ¬ (q < ft ∧ (st q).toInt = 1 ∧ (tn q).toInt = 0) := zp_0 c_16
                refine lv_iconst (v := 0) hx hb dX11_count_101 (by decide) ?_
                refine lv_iadd hx hb dX11_count_102 ?_
                refine zz_i (v := nI ((smP (lvF ft st tn) (fun g => nN (mn g)) q) + 0)) (nI_add (smP (lvF ft st tn) (fun g => nN (mn g)) q) 0) ?_
                refine lv_istore (lv' := [(5, .int (nI ((smP (lvF ft st tn) (fun g => nN (mn g)) q) + 0))), (4, .int (nI ((cntP (fun g => ¬ (tn g).toInt = 0) q) + 1))), (3, .int (nI ((cntP (fun g => (st g).toInt = 2) q) + 1))), (2, .int (nI ((cntP (fun g => (st g).toInt = 1) q) + 1))), (6, .int (nI q)), (0, .ref k0), (1, .int 1)]) hx hb dX11_count_103 hl (by decide) rfl (fun ls hl => ?_)
                refine lv_iinc (v := nI (q + 1)) (lv' := [(6, .int (nI (q + 1))), (5, .int (nI ((smP (lvF ft st tn) (fun g => nN (mn g)) q) + 0))), (4, .int (nI ((cntP (fun g => ¬ (tn g).toInt = 0) q) + 1))), (3, .int (nI ((cntP (fun g => (st g).toInt = 2) q) + 1))), (2, .int (nI ((cntP (fun g => (st g).toInt = 1) q) + 1))), (0, .ref k0), (1, .int 1)]) hx hb dX11_count_105 hl (k := 4) rfl (nI_add q 1) (by decide) rfl (fun ls hl => ?_)
                refine lv_goto (tgt := 13) hx hb dX11_count_108 (by decide) ?_
                have hl9 := lv_sub hl [0, 1, 2, 3, 4, 5, 6] rfl
                have e9_2 : nI (cntP (fun g => (st g).toInt = 1) (q + 1)) = (nI ((cntP (fun g => (st g).toInt = 1) q) + 1) : Int32) := by first | exact congrArg nI (cntP_y (P := fun g => (st g).toInt = 1) (show (st q).toInt = 1 by omega)) | exact congrArg nI (cntP_n0 (P := fun g => (st g).toInt = 1) (show ¬ (st q).toInt = 1 by omega))
                have e9_3 : nI (cntP (fun g => (st g).toInt = 2) (q + 1)) = (nI ((cntP (fun g => (st g).toInt = 2) q) + 1) : Int32) := by first | exact congrArg nI (cntP_y (P := fun g => (st g).toInt = 2) (show (st q).toInt = 2 by omega)) | exact congrArg nI (cntP_n0 (P := fun g => (st g).toInt = 2) (show ¬ (st q).toInt = 2 by omega))
                have e9_4 : nI (cntP (fun g => ¬ (tn g).toInt = 0) (q + 1)) = (nI ((cntP (fun g => ¬ (tn g).toInt = 0) q) + 1) : Int32) := by first | exact congrArg nI (cntP_y (P := fun g => ¬ (tn g).toInt = 0) (show ¬ (tn q).toInt = 0 by omega)) | exact congrArg nI (cntP_n0 (P := fun g => ¬ (tn g).toInt = 0) (show ¬ ¬ (tn q).toInt = 0 by omega))
                have e9_5 : nI (smP (lvF ft st tn) (fun g => nN (mn g)) (q + 1)) = (nI ((smP (lvF ft st tn) (fun g => nN (mn g)) q) + 0) : Int32) := by first | exact congrArg nI (smP_y (P := lvF ft st tn) (by assumption)) | exact congrArg nI (smP_n (P := lvF ft st tn) (by assumption))
                have hl9 : lv_has ls 7 [(6, .int (nI (q + 1))), (5, .int (nI (smP (lvF ft st tn) (fun g => nN (mn g)) (q + 1)))), (4, .int (nI (cntP (fun g => ¬ (tn g).toInt = 0) (q + 1)))), (3, .int (nI (cntP (fun g => (st g).toInt = 2) (q + 1)))), (2, .int (nI (cntP (fun g => (st g).toInt = 1) (q + 1)))), (0, .ref k0), (1, .int 1)] := by rw [e9_2]; rw [e9_3]; rw [e9_4]; rw [e9_5]; exact hl9
                exact ih_13 (q + 1) H locs ls (by omega) (by omega) hP hD hS hl9
              · have c_16 : q < ft ∧ (st q).toInt = 1 ∧ (tn q).toInt = 0 := zp_1 c_16
                refine lv_aload_n hx hb dX11_count_91 rfl (lv_at hl 5 rfl) ?_
                refine va_get (D := (dC, dI)) (ci := 9) (v := .ref (a 11)) (C := RX11) (T := TX11) (N := 55) hx hb hts inX11 hown hK hP 0 rfl rfl 11 (by decide) (hts _ mw_1170) (fun _ h9 => h9) rfl dX11_count_92 ?_
                refine lv_iload hx hb dX11_count_95 (lv_at hl 3 rfl) ?_
                refine z_iald hx hb hK hP 3 0 rfl rfl (e := q) rfl (by omega) (by omega) dX11_count_97 ?_
                refine zz_i (v := nI (nN (mn q))) ((hmw q (by assumption)).1) ?_
                refine lv_goto (tgt := 102) hx hb dX11_count_98 (by decide) ?_
                refine lv_iadd hx hb dX11_count_102 ?_
                refine zz_i (v := nI ((smP (lvF ft st tn) (fun g => nN (mn g)) q) + (nN (mn q)))) (nI_add (smP (lvF ft st tn) (fun g => nN (mn g)) q) (nN (mn q))) ?_
                refine lv_istore (lv' := [(5, .int (nI ((smP (lvF ft st tn) (fun g => nN (mn g)) q) + (nN (mn q))))), (4, .int (nI ((cntP (fun g => ¬ (tn g).toInt = 0) q) + 1))), (3, .int (nI ((cntP (fun g => (st g).toInt = 2) q) + 1))), (2, .int (nI ((cntP (fun g => (st g).toInt = 1) q) + 1))), (6, .int (nI q)), (0, .ref k0), (1, .int 1)]) hx hb dX11_count_103 hl (by decide) rfl (fun ls hl => ?_)
                refine lv_iinc (v := nI (q + 1)) (lv' := [(6, .int (nI (q + 1))), (5, .int (nI ((smP (lvF ft st tn) (fun g => nN (mn g)) q) + (nN (mn q))))), (4, .int (nI ((cntP (fun g => ¬ (tn g).toInt = 0) q) + 1))), (3, .int (nI ((cntP (fun g => (st g).toInt = 2) q) + 1))), (2, .int (nI ((cntP (fun g => (st g).toInt = 1) q) + 1))), (0, .ref k0), (1, .int 1)]) hx hb dX11_count_105 hl (k := 4) rfl (nI_add q 1) (by decide) rfl (fun ls hl => ?_)
                refine lv_goto (tgt := 13) hx hb dX11_count_108 (by decide) ?_
                have hl9 := lv_sub hl [0, 1, 2, 3, 4, 5, 6] rfl
                have e9_2 : nI (cntP (fun g => (st g).toInt = 1) (q + 1)) = (nI ((cntP (fun g => (st g).toInt = 1) q) + 1) : Int32) := by first | exact congrArg nI (cntP_y (P := fun g => (st g).toInt = 1) (show (st q).toInt = 1 by omega)) | exact congrArg nI (cntP_n0 (P := fun g => (st g).toInt = 1) (show ¬ (st q).toInt = 1 by omega))
                have e9_3 : nI (cntP (fun g => (st g).toInt = 2) (q + 1)) = (nI ((cntP (fun g => (st g).toInt = 2) q) + 1) : Int32) := by first | exact congrArg nI (cntP_y (P := fun g => (st g).toInt = 2) (show (st q).toInt = 2 by omega)) | exact congrArg nI (cntP_n0 (P := fun g => (st g).toInt = 2) (show ¬ (st q).toInt = 2 by omega))
                have e9_4 : nI (cntP (fun g => ¬ (tn g).toInt = 0) (q + 1)) = (nI ((cntP (fun g => ¬ (tn g).toInt = 0) q) + 1) : Int32) := by first | exact congrArg nI (cntP_y (P := fun g => ¬ (tn g).toInt = 0) (show ¬ (tn q).toInt = 0 by omega)) | exact congrArg nI (cntP_n0 (P := fun g => ¬ (tn g).toInt = 0) (show ¬ ¬ (tn q).toInt = 0 by omega))
                have e9_5 : nI (smP (lvF ft st tn) (fun g => nN (mn g)) (q + 1)) = (nI ((smP (lvF ft st tn) (fun g => nN (mn g)) q) + (nN (mn q))) : Int32) := by first | exact congrArg nI (smP_y (P := lvF ft st tn) (by assumption)) | exact congrArg nI (smP_n (P := lvF ft st tn) (by assumption))
                have hl9 : lv_has ls 7 [(6, .int (nI (q + 1))), (5, .int (nI (smP (lvF ft st tn) (fun g => nN (mn g)) (q + 1)))), (4, .int (nI (cntP (fun g => ¬ (tn g).toInt = 0) (q + 1)))), (3, .int (nI (cntP (fun g => (st g).toInt = 2) (q + 1)))), (2, .int (nI (cntP (fun g => (st g).toInt = 1) (q + 1)))), (0, .ref k0), (1, .int 1)] := by rw [e9_2]; rw [e9_3]; rw [e9_4]; rw [e9_5]; exact hl9
                exact ih_13 (q + 1) H locs ls (by omega) (by omega) hP hD hS hl9
  have e9_2 : nI (cntP (fun g => (st g).toInt = 1) 0) = (0 : Int32) := by rfl
  have e9_3 : nI (cntP (fun g => (st g).toInt = 2) 0) = (0 : Int32) := by rfl
  have e9_4 : nI (cntP (fun g => ¬ (tn g).toInt = 0) 0) = (0 : Int32) := by rfl
  have e9_5 : nI (smP (lvF ft st tn) (fun g => nN (mn g)) 0) = (0 : Int32) := by rfl
  have hl9 : lv_has ls 7 [(6, .int (nI 0)), (5, .int (nI (smP (lvF ft st tn) (fun g => nN (mn g)) 0))), (4, .int (nI (cntP (fun g => ¬ (tn g).toInt = 0) 0))), (3, .int (nI (cntP (fun g => (st g).toInt = 2) 0))), (2, .int (nI (cntP (fun g => (st g).toInt = 1) 0))), (0, .ref k0), (1, .int 1)] := by rw [e9_2]; rw [e9_3]; rw [e9_4]; rw [e9_5]; exact lv_sub hl [0, 1, 2, 3, 4, 5, 6] rfl
  exact hl_13 _ 0 s.heap [] ls (Nat.lt_succ_self _) (by omega) hP hD hS hl9
set_option maxHeartbeats 4000000 in
set_option maxRecDepth 100000 in
theorem k_M_count_2 (l : Launch) (dC : Nat → ClassId) (dI : Nat → Nat → Nat) (cI cZ cF : ClassId) (sz : Nat) (k0 : Nat) (a : Nat → Nat) (I0 : Nat → Int32) (J0 : Nat → Int64) (ft : Nat) (st : Nat → Int32) (tn : Nat → Int32) (mn : Nat → Int32) (hft : I0 0 = nI ft) (h200 : ft ≤ 200) (hmw : ∀ q, lvF ft st tn q → mn q = nI (nN (mn q)) ∧ nN (mn q) ≤ 40) : Met l yX11_count (.code yX11_count cX11_count 7 (some .int) :: ws0) ({ frames := 2, cells := 0, slots := 0, locals := 42 } : Room) (va_Pc [.ref k0, .int 2] (zPre (dC, dI) classes (zTy cI cZ cF) [(om k0 a I0 J0), (oa (a 5) cI 201 st), (oa (a 6) cZ 201 tn), (oa (a 11) cI 201 mn)] sz zXN)) (zQ (some (.int (nI (cntP (fun g => (st g).toInt = 2) ft)))) (fun t => va_P (dC, dI) classes [(om k0 a I0 J0), (oa (a 5) cI 201 st), (oa (a 6) cZ 201 tn), (oa (a 11) cI 201 mn)] t.heap ∧ va_D (va_A [(om k0 a I0 J0), (oa (a 5) cI 201 st), (oa (a 6) cZ 201 tn), (oa (a 11) cI 201 mn)] sz) [(om k0 a I0 J0), (oa (a 5) cI 201 st), (oa (a 6) cZ 201 tn), (oa (a 11) cI 201 mn)]) (va_A [(om k0 a I0 J0), (oa (a 5) cI 201 st), (oa (a 6) cZ 201 tn), (oa (a 11) cI 201 mn)] sz)) 0 0 (va_A [(om k0 a I0 J0), (oa (a 5) cI 201 st), (oa (a 6) cZ 201 tn), (oa (a 11) cI 201 mn)] sz) := by
  refine Met.ofW (cc := cX11_count) (maxL := 7) (ret := (some .int)) (by decide) rfl ?_
  intro p e s m args below meth c s₁ B hml hv
  obtain ⟨rfl, hsz, hP, hK, hD0, hXN⟩ := hv
  have hx := B.exec
  have hb := B.bytes
  have hr := B.returns
  have hts0 := atoms_spec (ws := .code yX11_count cX11_count 7 (some .int) :: ws0) B.pre
  have hts : ∀ w9 ∈ ws0, w9.before ([.ref k0, .int 2] : List Value).toArray s = true := fun w9 h => hts0 w9 (List.mem_cons_of_mem _ h)
  have hown : s.vm.findClass "ScaleShopModel" = some m.cls := findClass_of_methodNamed B.named
  have hlocks := B.notSynchronized
  subst hsz
  have hD := hD0.self (sz := s.heap.size)
  clear hD0
  generalize hAe : va_A [(om k0 a I0 J0), (oa (a 5) cI 201 st), (oa (a 6) cZ 201 tn), (oa (a 11) cI 201 mn)] s.heap.size = A at hD ⊢
  have hA : ∀ q : Nat, s.heap.size ≤ q → A q := fun q h => by rw [← hAe]; exact Or.inr h
  clear hAe
  have hS : va_S A s.heap s.heap [] := va_S.rf
  have hP : va_P (dC, dI) classes [(om k0 a I0 J0), (oa (a 5) cI 201 st), (oa (a 6) cZ 201 tn), (oa (a 11) cI 201 mn)] s.heap := hP
  obtain ⟨Q9, hQ9⟩ : ∃ Q9 : State → Prop, Q9 = MQ below (zQ (some (.int (nI (cntP (fun g => (st g).toInt = 2) ft)))) (fun t => va_P (dC, dI) classes [(om k0 a I0 J0), (oa (a 5) cI 201 st), (oa (a 6) cZ 201 tn), (oa (a 11) cI 201 mn)] t.heap ∧ va_D A [(om k0 a I0 J0), (oa (a 5) cI 201 st), (oa (a 6) cZ 201 tn), (oa (a 11) cI 201 mn)]) A) ([.ref k0, .int 2] : List Value).toArray s 0 0 A := ⟨_, rfl⟩
  rw [← hQ9]
  have hl := lv_entry ([.ref k0, .int 2]) (n := 7) (Nat.le_of_ble_eq_true rfl)
  rw [lg_entry_eq]
  generalize (lg_sl ([.ref k0, .int 2]) ++ List.replicate (7 - (lg_sl ([.ref k0, .int 2])).length) Slot.unset).toArray = ls at hl ⊢
  have hl : lv_has ls 7 [(0, .ref k0), (1, .int 2)] := hl
  refine lv_iconst (v := 0) hx hb dX11_count_0 (by decide) ?_
  refine lv_istore_n (lv' := [(2, .int 0), (0, .ref k0), (1, .int 2)]) hx hb dX11_count_1 rfl hl (by decide) rfl (fun ls hl => ?_)
  refine lv_iconst (v := 0) hx hb dX11_count_2 (by decide) ?_
  refine lv_istore_n (lv' := [(3, .int 0), (2, .int 0), (0, .ref k0), (1, .int 2)]) hx hb dX11_count_3 rfl hl (by decide) rfl (fun ls hl => ?_)
  refine lv_iconst (v := 0) hx hb dX11_count_4 (by decide) ?_
  refine lv_istore (lv' := [(4, .int 0), (3, .int 0), (2, .int 0), (0, .ref k0), (1, .int 2)]) hx hb dX11_count_5 hl (by decide) rfl (fun ls hl => ?_)
  refine lv_iconst (v := 0) hx hb dX11_count_7 (by decide) ?_
  refine lv_istore (lv' := [(5, .int 0), (4, .int 0), (3, .int 0), (2, .int 0), (0, .ref k0), (1, .int 2)]) hx hb dX11_count_8 hl (by decide) rfl (fun ls hl => ?_)
  refine lv_iconst (v := 0) hx hb dX11_count_10 (by decide) ?_
  refine lv_istore (lv' := [(6, .int 0), (5, .int 0), (4, .int 0), (3, .int 0), (2, .int 0), (0, .ref k0), (1, .int 2)]) hx hb dX11_count_11 hl (by decide) rfl (fun ls hl => ?_)
  have hl_13 : ∀ (n9 : Nat) (q : Nat) (H : Heap) (locs : List Loc) (ls : Array Slot), ft - q < n9 → (q ≤ ft) → va_P (dC, dI) classes [(om k0 a I0 J0), (oa (a 5) cI 201 st), (oa (a 6) cZ 201 tn), (oa (a 11) cI 201 mn)] H → va_D A [(om k0 a I0 J0), (oa (a 5) cI 201 st), (oa (a 6) cZ 201 tn), (oa (a 11) cI 201 mn)] → va_S A s.heap H locs → lv_has ls 7 [(6, .int (nI q)), (5, .int (nI (smP (lvF ft st tn) (fun g => nN (mn g)) q))), (4, .int (nI (cntP (fun g => ¬ (tn g).toInt = 0) q))), (3, .int (nI (cntP (fun g => (st g).toInt = 2) q))), (2, .int (nI (cntP (fun g => (st g).toInt = 1) q))), (0, .ref k0), (1, .int 2)] → W p l e ((headSpec (.code yX11_count cX11_count 7 (some .int) :: ws0) ({ frames := 2, cells := 0, slots := 0, locals := 42 } : Room)).room) s m ([.ref k0, .int 2] : List Value).toArray below meth c H locs 0 0 Q9 (F0 m 13 ls []) := by
    intro n9
    induction n9 with
    | zero => intro q H locs ls hm; exact absurd hm (Nat.not_lt_zero _)
    | succ n9 ih_13 =>
      intro q H locs ls hm hq hP hD hS hl
      have hc2 := cntP_b (fun g => (st g).toInt = 1) q
      have hc3 := cntP_b (fun g => (st g).toInt = 2) q
      have hc4 := cntP_b (fun g => ¬ (tn g).toInt = 0) q
      have hc5 := smP_b (P := lvF ft st tn) (c := fun g => nN (mn g)) q (fun j _ h => (hmw j h).2)
      refine lv_iload hx hb dX11_count_13 (lv_at hl 0 rfl) ?_
      refine lv_aload_n hx hb dX11_count_15 rfl (lv_at hl 5 rfl) ?_
      refine va_get (D := (dC, dI)) (ci := 9) (v := .int (I0 0)) (C := RX11) (T := TX11) (N := 55) hx hb hts inX11 hown hK hP 0 rfl rfl 0 (by decide) (hts _ mw_1159) (fun _ h9 => h9) rfl dX11_count_16 ?_
      refine zz_i (v := nI ft) (hft) ?_
      refine lv_icmp_ge (tgt := 111) hx hb dX11_count_19 (by decide) (fun c_1 => ?_) (fun c_1 => ?_)
      · have c_1 : ((ft : Nat) : Int) ≤ ((q : Nat) : Int) := zc_le (nI_toInt (by omega)) (nI_toInt (by omega)) c_1
        refine lv_iload_n hx hb dX11_count_111 rfl (lv_at hl 6 rfl) ?_
        refine lv_tableIn (tgt := 167) (off := 55) hx hb dX11_count_112 (by decide) (by decide) (by decide) (by decide) ?_
        refine lv_iload_n hx hb dX11_count_167 rfl (lv_at hl 3 rfl) ?_
        have hP9 := hP.sub (ws' := [(om k0 a I0 J0), (oa (a 5) cI 201 st), (oa (a 6) cZ 201 tn), (oa (a 11) cI 201 mn)]) [0, 1, 2, 3] rfl
        have hD9 := hD.sub (ws' := [(om k0 a I0 J0), (oa (a 5) cI 201 st), (oa (a 6) cZ 201 tn), (oa (a 11) cI 201 mn)]) [0, 1, 2, 3] (by decide) rfl
        rw [hQ9]
        exact W.iret (v := nI (cntP (fun g => (st g).toInt = 2) q)) hx hb hr (fun t ht hW => ⟨⟨congrArg (fun z => Outcome.returned (some (Value.int z))) (show (nI (cntP (fun g => (st g).toInt = 2) q) : Int32) = nI (cntP (fun g => (st g).toInt = 2) ft) from zn_eq (by rw [show q = ft by omega])), by rw [ht]; exact hP9, hD9⟩, hS.F ht⟩) hS.2.2 dX11_count_168
      · have c_1 : ((q : Nat) : Int) < ((ft : Nat) : Int) := zc_nle (nI_toInt (by omega)) (nI_toInt (by omega)) c_1
        refine lv_iload_n hx hb dX11_count_22 rfl (lv_at hl 4 rfl) ?_
        refine lv_aload_n hx hb dX11_count_23 rfl (lv_at hl 5 rfl) ?_
        refine va_get (D := (dC, dI)) (ci := 9) (v := .ref (a 5)) (C := RX11) (T := TX11) (N := 55) hx hb hts inX11 hown hK hP 0 rfl rfl 5 (by decide) (hts _ mw_1164) (fun _ h9 => h9) rfl dX11_count_24 ?_
        refine lv_iload hx hb dX11_count_27 (lv_at hl 0 rfl) ?_
        refine z_iald hx hb hK hP 1 0 rfl rfl (e := q) rfl (by omega) (by omega) dX11_count_29 ?_
        refine lv_iconst (v := 1) hx hb dX11_count_30 (by decide) ?_
        refine lv_icmp_ne (tgt := 38) hx hb dX11_count_31 (by decide) (fun c_2 => ?_) (fun c_2 => ?_)
        · have c_2 : ¬ (st q).toInt = 1 := zc_ne rfl (by decide) c_2
          refine lv_iconst (v := 0) hx hb dX11_count_38 (by decide) ?_
          refine lv_iadd hx hb dX11_count_39 ?_
          refine zz_i (v := nI ((cntP (fun g => (st g).toInt = 1) q) + 0)) (nI_add (cntP (fun g => (st g).toInt = 1) q) 0) ?_
          refine lv_istore_n (lv' := [(2, .int (nI ((cntP (fun g => (st g).toInt = 1) q) + 0))), (6, .int (nI q)), (5, .int (nI (smP (lvF ft st tn) (fun g => nN (mn g)) q))), (4, .int (nI (cntP (fun g => ¬ (tn g).toInt = 0) q))), (3, .int (nI (cntP (fun g => (st g).toInt = 2) q))), (0, .ref k0), (1, .int 2)]) hx hb dX11_count_40 rfl hl (by decide) rfl (fun ls hl => ?_)
          refine lv_iload_n hx hb dX11_count_41 rfl (lv_at hl 4 rfl) ?_
          refine lv_aload_n hx hb dX11_count_42 rfl (lv_at hl 5 rfl) ?_
          refine va_get (D := (dC, dI)) (ci := 9) (v := .ref (a 5)) (C := RX11) (T := TX11) (N := 55) hx hb hts inX11 hown hK hP 0 rfl rfl 5 (by decide) (hts _ mw_1164) (fun _ h9 => h9) rfl dX11_count_43 ?_
          refine lv_iload hx hb dX11_count_46 (lv_at hl 1 rfl) ?_
          refine z_iald hx hb hK hP 1 0 rfl rfl (e := q) rfl (by omega) (by omega) dX11_count_48 ?_
          refine lv_iconst (v := 2) hx hb dX11_count_49 (by decide) ?_
          refine lv_icmp_ne (tgt := 57) hx hb dX11_count_50 (by decide) (fun c_3 => ?_) (fun c_3 => ?_)
          · have c_3 : ¬ (st q).toInt = 2 := zc_ne rfl (by decide) c_3
            refine lv_iconst (v := 0) hx hb dX11_count_57 (by decide) ?_
            refine lv_iadd hx hb dX11_count_58 ?_
            refine zz_i (v := nI ((cntP (fun g => (st g).toInt = 2) q) + 0)) (nI_add (cntP (fun g => (st g).toInt = 2) q) 0) ?_
            refine lv_istore_n (lv' := [(3, .int (nI ((cntP (fun g => (st g).toInt = 2) q) + 0))), (2, .int (nI ((cntP (fun g => (st g).toInt = 1) q) + 0))), (6, .int (nI q)), (5, .int (nI (smP (lvF ft st tn) (fun g => nN (mn g)) q))), (4, .int (nI (cntP (fun g => ¬ (tn g).toInt = 0) q))), (0, .ref k0), (1, .int 2)]) hx hb dX11_count_59 rfl hl (by decide) rfl (fun ls hl => ?_)
            refine lv_iload hx hb dX11_count_60 (lv_at hl 4 rfl) ?_
            refine lv_aload_n hx hb dX11_count_62 rfl (lv_at hl 5 rfl) ?_
            refine va_get (D := (dC, dI)) (ci := 9) (v := .ref (a 6)) (C := RX11) (T := TX11) (N := 55) hx hb hts inX11 hown hK hP 0 rfl rfl 6 (by decide) (hts _ mw_1165) (fun _ h9 => h9) rfl dX11_count_63 ?_
            refine lv_iload hx hb dX11_count_66 (lv_at hl 2 rfl) ?_
            refine z_zald hx hb hK hP 2 1 rfl rfl (e := q) rfl (by omega) (by omega) dX11_count_68 ?_
            refine lv_if_eq (tgt := 76) hx hb dX11_count_69 (by decide) (fun c_4 => ?_) (fun c_4 => ?_)
            · have c_4 : (tn q).toInt = 0 := zc_eq rfl (by decide) c_4
              refine lv_iconst (v := 0) hx hb dX11_count_76 (by decide) ?_
              refine lv_iadd hx hb dX11_count_77 ?_
              refine zz_i (v := nI ((cntP (fun g => ¬ (tn g).toInt = 0) q) + 0)) (nI_add (cntP (fun g => ¬ (tn g).toInt = 0) q) 0) ?_
              refine lv_istore (lv' := [(4, .int (nI ((cntP (fun g => ¬ (tn g).toInt = 0) q) + 0))), (3, .int (nI ((cntP (fun g => (st g).toInt = 2) q) + 0))), (2, .int (nI ((cntP (fun g => (st g).toInt = 1) q) + 0))), (6, .int (nI q)), (5, .int (nI (smP (lvF ft st tn) (fun g => nN (mn g)) q))), (0, .ref k0), (1, .int 2)]) hx hb dX11_count_78 hl (by decide) rfl (fun ls hl => ?_)
              refine lv_iload hx hb dX11_count_80 (lv_at hl 4 rfl) ?_
              refine lv_aload_n hx hb dX11_count_82 rfl (lv_at hl 5 rfl) ?_
              refine lv_iload hx hb dX11_count_83 (lv_at hl 3 rfl) ?_
              have hPc := hP.sub (ws' := [(om k0 a I0 J0), (oa (a 5) cI 201 st), (oa (a 6) cZ 201 tn)]) [0, 1, 2] rfl
              have hDc := hD.sub (ws' := [(om k0 a I0 J0), (oa (a 5) cI 201 st), (oa (a 6) cZ 201 tn)]) [0, 1, 2] (by decide) rfl
              have hFc := va_free (wc := [(om k0 a I0 J0), (oa (a 5) cI 201 st), (oa (a 6) cZ 201 tn)]) hD hS hA [0, 1, 2] rfl
              refine zcall (st1 := [.int (pI (q < ft ∧ (st q).toInt = 1 ∧ (tn q).toInt = 0)), .int (nI (smP (lvF ft st tn) (fun g => nN (mn g)) q))]) (va_runV (As := [.int (nI q)]) (rest := [.int (nI (smP (lvF ft st tn) (fun g => nN (mn g)) q))]) ⟨hx, hb, hml, hown, hts⟩ (k_M_is_n l dC dI cI cZ cF H.size k0 a I0 J0 q ft st tn (by assumption) (by omega) (by omega)) (cwV 1 hts (zz_gV mw_1447 mw_1449 mw_56 mw_110 mc_yX11_is) rfl rfl rfl (by decide +kernel) ⟨Nat.le_of_ble_eq_true rfl, Nat.le_of_ble_eq_true rfl⟩) (zPV2 (q0 := 0) (ci := 9) hPc hDc hK hXN rfl rfl) rfl rfl hl.1 rfl (lv_room (Nat.le_of_ble_eq_true rfl)) dX11_count_85 ⟨Nat.le_of_ble_eq_true rfl, Nat.le_of_ble_eq_true rfl⟩) hS hFc hFc rfl (fun t H1 locs ht hB hk1 hS => ?_)
              obtain ⟨hP1, hD1⟩ := hB
              rw [ht] at hP1
              obtain ⟨hP, hD⟩ := va_join (wr := [(oa (a 11) cI 201 mn)]) (w1 := [(om k0 a I0 J0), (oa (a 5) cI 201 st), (oa (a 6) cZ 201 tn)]) hP hD [0, 1, 2] [3] rfl rfl (by decide) (by decide) hk1 hFc hP1 hD1
              clear hk1 hPc hDc hFc hP1 hD1 ht
              generalize H1 = H at hP hS ⊢
              have hP := hP.sub (ws' := [(om k0 a I0 J0), (oa (a 5) cI 201 st), (oa (a 6) cZ 201 tn), (oa (a 11) cI 201 mn)]) [1, 2, 3, 0] rfl
              have hD := hD.sub (ws' := [(om k0 a I0 J0), (oa (a 5) cI 201 st), (oa (a 6) cZ 201 tn), (oa (a 11) cI 201 mn)]) [1, 2, 3, 0] (by decide) rfl
              have hP : va_P (dC, dI) classes [(om k0 a I0 J0), (oa (a 5) cI 201 st), (oa (a 6) cZ 201 tn), (oa (a 11) cI 201 mn)] H := hP
              have hD : va_D A [(om k0 a I0 J0), (oa (a 5) cI 201 st), (oa (a 6) cZ 201 tn), (oa (a 11) cI 201 mn)] := hD
              refine lv_if_eq (tgt := 101) hx hb dX11_count_88 (by decide) (fun c_5 => ?_) (fun c_5 => ?_)
              · have c_5 : ¬ (q < ft ∧ (st q).toInt = 1 ∧ (tn q).toInt = 0) := zp_0 c_5
                refine lv_iconst (v := 0) hx hb dX11_count_101 (by decide) ?_
                refine lv_iadd hx hb dX11_count_102 ?_
                refine zz_i (v := nI ((smP (lvF ft st tn) (fun g => nN (mn g)) q) + 0)) (nI_add (smP (lvF ft st tn) (fun g => nN (mn g)) q) 0) ?_
                refine lv_istore (lv' := [(5, .int (nI ((smP (lvF ft st tn) (fun g => nN (mn g)) q) + 0))), (4, .int (nI ((cntP (fun g => ¬ (tn g).toInt = 0) q) + 0))), (3, .int (nI ((cntP (fun g => (st g).toInt = 2) q) + 0))), (2, .int (nI ((cntP (fun g => (st g).toInt = 1) q) + 0))), (6, .int (nI q)), (0, .ref k0), (1, .int 2)]) hx hb dX11_count_103 hl (by decide) rfl (fun ls hl => ?_)
                refine lv_iinc (v := nI (q + 1)) (lv' := [(6, .int (nI (q + 1))), (5, .int (nI ((smP (lvF ft st tn) (fun g => nN (mn g)) q) + 0))), (4, .int (nI ((cntP (fun g => ¬ (tn g).toInt = 0) q) + 0))), (3, .int (nI ((cntP (fun g => (st g).toInt = 2) q) + 0))), (2, .int (nI ((cntP (fun g => (st g).toInt = 1) q) + 0))), (0, .ref k0), (1, .int 2)]) hx hb dX11_count_105 hl (k := 4) rfl (nI_add q 1) (by decide) rfl (fun ls hl => ?_)
                refine lv_goto (tgt := 13) hx hb dX11_count_108 (by decide) ?_
                have hl9 := lv_sub hl [0, 1, 2, 3, 4, 5, 6] rfl
                have e9_2 : nI (cntP (fun g => (st g).toInt = 1) (q + 1)) = (nI ((cntP (fun g => (st g).toInt = 1) q) + 0) : Int32) := by first | exact congrArg nI (cntP_y (P := fun g => (st g).toInt = 1) (show (st q).toInt = 1 by omega)) | exact congrArg nI (cntP_n0 (P := fun g => (st g).toInt = 1) (show ¬ (st q).toInt = 1 by omega))
                have e9_3 : nI (cntP (fun g => (st g).toInt = 2) (q + 1)) = (nI ((cntP (fun g => (st g).toInt = 2) q) + 0) : Int32) := by first | exact congrArg nI (cntP_y (P := fun g => (st g).toInt = 2) (show (st q).toInt = 2 by omega)) | exact congrArg nI (cntP_n0 (P := fun g => (st g).toInt = 2) (show ¬ (st q).toInt = 2 by omega))
                have e9_4 : nI (cntP (fun g => ¬ (tn g).toInt = 0) (q + 1)) = (nI ((cntP (fun g => ¬ (tn g).toInt = 0) q) + 0) : Int32) := by first | exact congrArg nI (cntP_y (P := fun g => ¬ (tn g).toInt = 0) (show ¬ (tn q).toInt = 0 by omega)) | exact congrArg nI (cntP_n0 (P := fun g => ¬ (tn g).toInt = 0) (show ¬ ¬ (tn q).toInt = 0 by omega))
                have e9_5 : nI (smP (lvF ft st tn) (fun g => nN (mn g)) (q + 1)) = (nI ((smP (lvF ft st tn) (fun g => nN (mn g)) q) + 0) : Int32) := by first | exact congrArg nI (smP_y (P := lvF ft st tn) (by assumption)) | exact congrArg nI (smP_n (P := lvF ft st tn) (by assumption))
                have hl9 : lv_has ls 7 [(6, .int (nI (q + 1))), (5, .int (nI (smP (lvF ft st tn) (fun g => nN (mn g)) (q + 1)))), (4, .int (nI (cntP (fun g => ¬ (tn g).toInt = 0) (q + 1)))), (3, .int (nI (cntP (fun g => (st g).toInt = 2) (q + 1)))), (2, .int (nI (cntP (fun g => (st g).toInt = 1) (q + 1)))), (0, .ref k0), (1, .int 2)] := by rw [e9_2]; rw [e9_3]; rw [e9_4]; rw [e9_5]; exact hl9
                exact ih_13 (q + 1) H locs ls (by omega) (by omega) hP hD hS hl9
              · have c_5 : q < ft ∧ (st q).toInt = 1 ∧ (tn q).toInt = 0 := zp_1 c_5
                refine lv_aload_n hx hb dX11_count_91 rfl (lv_at hl 5 rfl) ?_
                refine va_get (D := (dC, dI)) (ci := 9) (v := .ref (a 11)) (C := RX11) (T := TX11) (N := 55) hx hb hts inX11 hown hK hP 0 rfl rfl 11 (by decide) (hts _ mw_1170) (fun _ h9 => h9) rfl dX11_count_92 ?_
                refine lv_iload hx hb dX11_count_95 (lv_at hl 3 rfl) ?_
                refine z_iald hx hb hK hP 3 0 rfl rfl (e := q) rfl (by omega) (by omega) dX11_count_97 ?_
                refine zz_i (v := nI (nN (mn q))) ((hmw q (by assumption)).1) ?_
                refine lv_goto (tgt := 102) hx hb dX11_count_98 (by decide) ?_
                refine lv_iadd hx hb dX11_count_102 ?_
                refine zz_i (v := nI ((smP (lvF ft st tn) (fun g => nN (mn g)) q) + (nN (mn q)))) (nI_add (smP (lvF ft st tn) (fun g => nN (mn g)) q) (nN (mn q))) ?_
                refine lv_istore (lv' := [(5, .int (nI ((smP (lvF ft st tn) (fun g => nN (mn g)) q) + (nN (mn q))))), (4, .int (nI ((cntP (fun g => ¬ (tn g).toInt = 0) q) + 0))), (3, .int (nI ((cntP (fun g => (st g).toInt = 2) q) + 0))), (2, .int (nI ((cntP (fun g => (st g).toInt = 1) q) + 0))), (6, .int (nI q)), (0, .ref k0), (1, .int 2)]) hx hb dX11_count_103 hl (by decide) rfl (fun ls hl => ?_)
                refine lv_iinc (v := nI (q + 1)) (lv' := [(6, .int (nI (q + 1))), (5, .int (nI ((smP (lvF ft st tn) (fun g => nN (mn g)) q) + (nN (mn q))))), (4, .int (nI ((cntP (fun g => ¬ (tn g).toInt = 0) q) + 0))), (3, .int (nI ((cntP (fun g => (st g).toInt = 2) q) + 0))), (2, .int (nI ((cntP (fun g => (st g).toInt = 1) q) + 0))), (0, .ref k0), (1, .int 2)]) hx hb dX11_count_105 hl (k := 4) rfl (nI_add q 1) (by decide) rfl (fun ls hl => ?_)
                refine lv_goto (tgt := 13) hx hb dX11_count_108 (by decide) ?_
                have hl9 := lv_sub hl [0, 1, 2, 3, 4, 5, 6] rfl
                have e9_2 : nI (cntP (fun g => (st g).toInt = 1) (q + 1)) = (nI ((cntP (fun g => (st g).toInt = 1) q) + 0) : Int32) := by first | exact congrArg nI (cntP_y (P := fun g => (st g).toInt = 1) (show (st q).toInt = 1 by omega)) | exact congrArg nI (cntP_n0 (P := fun g => (st g).toInt = 1) (show ¬ (st q).toInt = 1 by omega))
                have e9_3 : nI (cntP (fun g => (st g).toInt = 2) (q + 1)) = (nI ((cntP (fun g => (st g).toInt = 2) q) + 0) : Int32) := by first | exact congrArg nI (cntP_y (P := fun g => (st g).toInt = 2) (show (st q).toInt = 2 by omega)) | exact congrArg nI (cntP_n0 (P := fun g => (st g).toInt = 2) (show ¬ (st q).toInt = 2 by omega))
                have e9_4 : nI (cntP (fun g => ¬ (tn g).toInt = 0) (q + 1)) = (nI ((cntP (fun g => ¬ (tn g).toInt = 0) q) + 0) : Int32) := by first | exact congrArg nI (cntP_y (P := fun g => ¬ (tn g).toInt = 0) (show ¬ (tn q).toInt = 0 by omega)) | exact congrArg nI (cntP_n0 (P := fun g => ¬ (tn g).toInt = 0) (show ¬ ¬ (tn q).toInt = 0 by omega))
                have e9_5 : nI (smP (lvF ft st tn) (fun g => nN (mn g)) (q + 1)) = (nI ((smP (lvF ft st tn) (fun g => nN (mn g)) q) + (nN (mn q))) : Int32) := by first | exact congrArg nI (smP_y (P := lvF ft st tn) (by assumption)) | exact congrArg nI (smP_n (P := lvF ft st tn) (by assumption))
                have hl9 : lv_has ls 7 [(6, .int (nI (q + 1))), (5, .int (nI (smP (lvF ft st tn) (fun g => nN (mn g)) (q + 1)))), (4, .int (nI (cntP (fun g => ¬ (tn g).toInt = 0) (q + 1)))), (3, .int (nI (cntP (fun g => (st g).toInt = 2) (q + 1)))), (2, .int (nI (cntP (fun g => (st g).toInt = 1) (q + 1)))), (0, .ref k0), (1, .int 2)] := by rw [e9_2]; rw [e9_3]; rw [e9_4]; rw [e9_5]; exact hl9
                exact ih_13 (q + 1) H locs ls (by omega) (by omega) hP hD hS hl9
            · have c_4 : ¬ (tn q).toInt = 0 := zc_ne rfl (by decide) c_4
              refine lv_iconst (v := 1) hx hb dX11_count_72 (by decide) ?_
              refine lv_goto (tgt := 77) hx hb dX11_count_73 (by decide) ?_
              refine lv_iadd hx hb dX11_count_77 ?_
              refine zz_i (v := nI ((cntP (fun g => ¬ (tn g).toInt = 0) q) + 1)) (nI_add (cntP (fun g => ¬ (tn g).toInt = 0) q) 1) ?_
              refine lv_istore (lv' := [(4, .int (nI ((cntP (fun g => ¬ (tn g).toInt = 0) q) + 1))), (3, .int (nI ((cntP (fun g => (st g).toInt = 2) q) + 0))), (2, .int (nI ((cntP (fun g => (st g).toInt = 1) q) + 0))), (6, .int (nI q)), (5, .int (nI (smP (lvF ft st tn) (fun g => nN (mn g)) q))), (0, .ref k0), (1, .int 2)]) hx hb dX11_count_78 hl (by decide) rfl (fun ls hl => ?_)
              refine lv_iload hx hb dX11_count_80 (lv_at hl 4 rfl) ?_
              refine lv_aload_n hx hb dX11_count_82 rfl (lv_at hl 5 rfl) ?_
              refine lv_iload hx hb dX11_count_83 (lv_at hl 3 rfl) ?_
              have hPc := hP.sub (ws' := [(om k0 a I0 J0), (oa (a 5) cI 201 st), (oa (a 6) cZ 201 tn)]) [0, 1, 2] rfl
              have hDc := hD.sub (ws' := [(om k0 a I0 J0), (oa (a 5) cI 201 st), (oa (a 6) cZ 201 tn)]) [0, 1, 2] (by decide) rfl
              have hFc := va_free (wc := [(om k0 a I0 J0), (oa (a 5) cI 201 st), (oa (a 6) cZ 201 tn)]) hD hS hA [0, 1, 2] rfl
              refine zcall (st1 := [.int (pI (q < ft ∧ (st q).toInt = 1 ∧ (tn q).toInt = 0)), .int (nI (smP (lvF ft st tn) (fun g => nN (mn g)) q))]) (va_runV (As := [.int (nI q)]) (rest := [.int (nI (smP (lvF ft st tn) (fun g => nN (mn g)) q))]) ⟨hx, hb, hml, hown, hts⟩ (k_M_is_n l dC dI cI cZ cF H.size k0 a I0 J0 q ft st tn (by assumption) (by omega) (by omega)) (cwV 1 hts (zz_gV mw_1447 mw_1449 mw_56 mw_110 mc_yX11_is) rfl rfl rfl (by decide +kernel) ⟨Nat.le_of_ble_eq_true rfl, Nat.le_of_ble_eq_true rfl⟩) (zPV2 (q0 := 0) (ci := 9) hPc hDc hK hXN rfl rfl) rfl rfl hl.1 rfl (lv_room (Nat.le_of_ble_eq_true rfl)) dX11_count_85 ⟨Nat.le_of_ble_eq_true rfl, Nat.le_of_ble_eq_true rfl⟩) hS hFc hFc rfl (fun t H1 locs ht hB hk1 hS => ?_)
              obtain ⟨hP1, hD1⟩ := hB
              rw [ht] at hP1
              obtain ⟨hP, hD⟩ := va_join (wr := [(oa (a 11) cI 201 mn)]) (w1 := [(om k0 a I0 J0), (oa (a 5) cI 201 st), (oa (a 6) cZ 201 tn)]) hP hD [0, 1, 2] [3] rfl rfl (by decide) (by decide) hk1 hFc hP1 hD1
              clear hk1 hPc hDc hFc hP1 hD1 ht
              generalize H1 = H at hP hS ⊢
              have hP := hP.sub (ws' := [(om k0 a I0 J0), (oa (a 5) cI 201 st), (oa (a 6) cZ 201 tn), (oa (a 11) cI 201 mn)]) [1, 2, 3, 0] rfl
              have hD := hD.sub (ws' := [(om k0 a I0 J0), (oa (a 5) cI 201 st), (oa (a 6) cZ 201 tn), (oa (a 11) cI 201 mn)]) [1, 2, 3, 0] (by decide) rfl
              have hP : va_P (dC, dI) classes [(om k0 a I0 J0), (oa (a 5) cI 201 st), (oa (a 6) cZ 201 tn), (oa (a 11) cI 201 mn)] H := hP
              have hD : va_D A [(om k0 a I0 J0), (oa (a 5) cI 201 st), (oa (a 6) cZ 201 tn), (oa (a 11) cI 201 mn)] := hD
              refine lv_if_eq (tgt := 101) hx hb dX11_count_88 (by decide) (fun c_6 => ?_) (fun c_6 => ?_)
              · have c_6 : ¬ (q < ft ∧ (st q).toInt = 1 ∧ (tn q).toInt = 0) := zp_0 c_6
                refine lv_iconst (v := 0) hx hb dX11_count_101 (by decide) ?_
                refine lv_iadd hx hb dX11_count_102 ?_
                refine zz_i (v := nI ((smP (lvF ft st tn) (fun g => nN (mn g)) q) + 0)) (nI_add (smP (lvF ft st tn) (fun g => nN (mn g)) q) 0) ?_
                refine lv_istore (lv' := [(5, .int (nI ((smP (lvF ft st tn) (fun g => nN (mn g)) q) + 0))), (4, .int (nI ((cntP (fun g => ¬ (tn g).toInt = 0) q) + 1))), (3, .int (nI ((cntP (fun g => (st g).toInt = 2) q) + 0))), (2, .int (nI ((cntP (fun g => (st g).toInt = 1) q) + 0))), (6, .int (nI q)), (0, .ref k0), (1, .int 2)]) hx hb dX11_count_103 hl (by decide) rfl (fun ls hl => ?_)
                refine lv_iinc (v := nI (q + 1)) (lv' := [(6, .int (nI (q + 1))), (5, .int (nI ((smP (lvF ft st tn) (fun g => nN (mn g)) q) + 0))), (4, .int (nI ((cntP (fun g => ¬ (tn g).toInt = 0) q) + 1))), (3, .int (nI ((cntP (fun g => (st g).toInt = 2) q) + 0))), (2, .int (nI ((cntP (fun g => (st g).toInt = 1) q) + 0))), (0, .ref k0), (1, .int 2)]) hx hb dX11_count_105 hl (k := 4) rfl (nI_add q 1) (by decide) rfl (fun ls hl => ?_)
                refine lv_goto (tgt := 13) hx hb dX11_count_108 (by decide) ?_
                have hl9 := lv_sub hl [0, 1, 2, 3, 4, 5, 6] rfl
                have e9_2 : nI (cntP (fun g => (st g).toInt = 1) (q + 1)) = (nI ((cntP (fun g => (st g).toInt = 1) q) + 0) : Int32) := by first | exact congrArg nI (cntP_y (P := fun g => (st g).toInt = 1) (show (st q).toInt = 1 by omega)) | exact congrArg nI (cntP_n0 (P := fun g => (st g).toInt = 1) (show ¬ (st q).toInt = 1 by omega))
                have e9_3 : nI (cntP (fun g => (st g).toInt = 2) (q + 1)) = (nI ((cntP (fun g => (st g).toInt = 2) q) + 0) : Int32) := by first | exact congrArg nI (cntP_y (P := fun g => (st g).toInt = 2) (show (st q).toInt = 2 by omega)) | exact congrArg nI (cntP_n0 (P := fun g => (st g).toInt = 2) (show ¬ (st q).toInt = 2 by omega))
                have e9_4 : nI (cntP (fun g => ¬ (tn g).toInt = 0) (q + 1)) = (nI ((cntP (fun g => ¬ (tn g).toInt = 0) q) + 1) : Int32) := by first | exact congrArg nI (cntP_y (P := fun g => ¬ (tn g).toInt = 0) (show ¬ (tn q).toInt = 0 by omega)) | exact congrArg nI (cntP_n0 (P := fun g => ¬ (tn g).toInt = 0) (show ¬ ¬ (tn q).toInt = 0 by omega))
                have e9_5 : nI (smP (lvF ft st tn) (fun g => nN (mn g)) (q + 1)) = (nI ((smP (lvF ft st tn) (fun g => nN (mn g)) q) + 0) : Int32) := by first | exact congrArg nI (smP_y (P := lvF ft st tn) (by assumption)) | exact congrArg nI (smP_n (P := lvF ft st tn) (by assumption))
                have hl9 : lv_has ls 7 [(6, .int (nI (q + 1))), (5, .int (nI (smP (lvF ft st tn) (fun g => nN (mn g)) (q + 1)))), (4, .int (nI (cntP (fun g => ¬ (tn g).toInt = 0) (q + 1)))), (3, .int (nI (cntP (fun g => (st g).toInt = 2) (q + 1)))), (2, .int (nI (cntP (fun g => (st g).toInt = 1) (q + 1)))), (0, .ref k0), (1, .int 2)] := by rw [e9_2]; rw [e9_3]; rw [e9_4]; rw [e9_5]; exact hl9
                exact ih_13 (q + 1) H locs ls (by omega) (by omega) hP hD hS hl9
              · have c_6 : q < ft ∧ (st q).toInt = 1 ∧ (tn q).toInt = 0 := zp_1 c_6
                refine lv_aload_n hx hb dX11_count_91 rfl (lv_at hl 5 rfl) ?_
                refine va_get (D := (dC, dI)) (ci := 9) (v := .ref (a 11)) (C := RX11) (T := TX11) (N := 55) hx hb hts inX11 hown hK hP 0 rfl rfl 11 (by decide) (hts _ mw_1170) (fun _ h9 => h9) rfl dX11_count_92 ?_
                refine lv_iload hx hb dX11_count_95 (lv_at hl 3 rfl) ?_
                refine z_iald hx hb hK hP 3 0 rfl rfl (e := q) rfl (by omega) (by omega) dX11_count_97 ?_
                refine zz_i (v := nI (nN (mn q))) ((hmw q (by assumption)).1) ?_
                refine lv_goto (tgt := 102) hx hb dX11_count_98 (by decide) ?_
                refine lv_iadd hx hb dX11_count_102 ?_
                refine zz_i (v := nI ((smP (lvF ft st tn) (fun g => nN (mn g)) q) + (nN (mn q)))) (nI_add (smP (lvF ft st tn) (fun g => nN (mn g)) q) (nN (mn q))) ?_
                refine lv_istore (lv' := [(5, .int (nI ((smP (lvF ft st tn) (fun g => nN (mn g)) q) + (nN (mn q))))), (4, .int (nI ((cntP (fun g => ¬ (tn g).toInt = 0) q) + 1))), (3, .int (nI ((cntP (fun g => (st g).toInt = 2) q) + 0))), (2, .int (nI ((cntP (fun g => (st g).toInt = 1) q) + 0))), (6, .int (nI q)), (0, .ref k0), (1, .int 2)]) hx hb dX11_count_103 hl (by decide) rfl (fun ls hl => ?_)
                refine lv_iinc (v := nI (q + 1)) (lv' := [(6, .int (nI (q + 1))), (5, .int (nI ((smP (lvF ft st tn) (fun g => nN (mn g)) q) + (nN (mn q))))), (4, .int (nI ((cntP (fun g => ¬ (tn g).toInt = 0) q) + 1))), (3, .int (nI ((cntP (fun g => (st g).toInt = 2) q) + 0))), (2, .int (nI ((cntP (fun g => (st g).toInt = 1) q) + 0))), (0, .ref k0), (1, .int 2)]) hx hb dX11_count_105 hl (k := 4) rfl (nI_add q 1) (by decide) rfl (fun ls hl => ?_)
                refine lv_goto (tgt := 13) hx hb dX11_count_108 (by decide) ?_
                have hl9 := lv_sub hl [0, 1, 2, 3, 4, 5, 6] rfl
                have e9_2 : nI (cntP (fun g => (st g).toInt = 1) (q + 1)) = (nI ((cntP (fun g => (st g).toInt = 1) q) + 0) : Int32) := by first | exact congrArg nI (cntP_y (P := fun g => (st g).toInt = 1) (show (st q).toInt = 1 by omega)) | exact congrArg nI (cntP_n0 (P := fun g => (st g).toInt = 1) (show ¬ (st q).toInt = 1 by omega))
                have e9_3 : nI (cntP (fun g => (st g).toInt = 2) (q + 1)) = (nI ((cntP (fun g => (st g).toInt = 2) q) + 0) : Int32) := by first | exact congrArg nI (cntP_y (P := fun g => (st g).toInt = 2) (show (st q).toInt = 2 by omega)) | exact congrArg nI (cntP_n0 (P := fun g => (st g).toInt = 2) (show ¬ (st q).toInt = 2 by omega))
                have e9_4 : nI (cntP (fun g => ¬ (tn g).toInt = 0) (q + 1)) = (nI ((cntP (fun g => ¬ (tn g).toInt = 0) q) + 1) : Int32) := by first | exact congrArg nI (cntP_y (P := fun g => ¬ (tn g).toInt = 0) (show ¬ (tn q).toInt = 0 by omega)) | exact congrArg nI (cntP_n0 (P := fun g => ¬ (tn g).toInt = 0) (show ¬ ¬ (tn q).toInt = 0 by omega))
                have e9_5 : nI (smP (lvF ft st tn) (fun g => nN (mn g)) (q + 1)) = (nI ((smP (lvF ft st tn) (fun g => nN (mn g)) q) + (nN (mn q))) : Int32) := by first | exact congrArg nI (smP_y (P := lvF ft st tn) (by assumption)) | exact congrArg nI (smP_n (P := lvF ft st tn) (by assumption))
                have hl9 : lv_has ls 7 [(6, .int (nI (q + 1))), (5, .int (nI (smP (lvF ft st tn) (fun g => nN (mn g)) (q + 1)))), (4, .int (nI (cntP (fun g => ¬ (tn g).toInt = 0) (q + 1)))), (3, .int (nI (cntP (fun g => (st g).toInt = 2) (q + 1)))), (2, .int (nI (cntP (fun g => (st g).toInt = 1) (q + 1)))), (0, .ref k0), (1, .int 2)] := by rw [e9_2]; rw [e9_3]; rw [e9_4]; rw [e9_5]; exact hl9
                exact ih_13 (q + 1) H locs ls (by omega) (by omega) hP hD hS hl9
          · have c_3 : (st q).toInt = 2 := zc_eq rfl (by decide) c_3
            refine lv_iconst (v := 1) hx hb dX11_count_53 (by decide) ?_
            refine lv_goto (tgt := 58) hx hb dX11_count_54 (by decide) ?_
            refine lv_iadd hx hb dX11_count_58 ?_
            refine zz_i (v := nI ((cntP (fun g => (st g).toInt = 2) q) + 1)) (nI_add (cntP (fun g => (st g).toInt = 2) q) 1) ?_
            refine lv_istore_n (lv' := [(3, .int (nI ((cntP (fun g => (st g).toInt = 2) q) + 1))), (2, .int (nI ((cntP (fun g => (st g).toInt = 1) q) + 0))), (6, .int (nI q)), (5, .int (nI (smP (lvF ft st tn) (fun g => nN (mn g)) q))), (4, .int (nI (cntP (fun g => ¬ (tn g).toInt = 0) q))), (0, .ref k0), (1, .int 2)]) hx hb dX11_count_59 rfl hl (by decide) rfl (fun ls hl => ?_)
            refine lv_iload hx hb dX11_count_60 (lv_at hl 4 rfl) ?_
            refine lv_aload_n hx hb dX11_count_62 rfl (lv_at hl 5 rfl) ?_
            refine va_get (D := (dC, dI)) (ci := 9) (v := .ref (a 6)) (C := RX11) (T := TX11) (N := 55) hx hb hts inX11 hown hK hP 0 rfl rfl 6 (by decide) (hts _ mw_1165) (fun _ h9 => h9) rfl dX11_count_63 ?_
            refine lv_iload hx hb dX11_count_66 (lv_at hl 2 rfl) ?_
            refine z_zald hx hb hK hP 2 1 rfl rfl (e := q) rfl (by omega) (by omega) dX11_count_68 ?_
            refine lv_if_eq (tgt := 76) hx hb dX11_count_69 (by decide) (fun c_7 => ?_) (fun c_7 => ?_)
            · have c_7 : (tn q).toInt = 0 := zc_eq rfl (by decide) c_7
              refine lv_iconst (v := 0) hx hb dX11_count_76 (by decide) ?_
              refine lv_iadd hx hb dX11_count_77 ?_
              refine zz_i (v := nI ((cntP (fun g => ¬ (tn g).toInt = 0) q) + 0)) (nI_add (cntP (fun g => ¬ (tn g).toInt = 0) q) 0) ?_
              refine lv_istore (lv' := [(4, .int (nI ((cntP (fun g => ¬ (tn g).toInt = 0) q) + 0))), (3, .int (nI ((cntP (fun g => (st g).toInt = 2) q) + 1))), (2, .int (nI ((cntP (fun g => (st g).toInt = 1) q) + 0))), (6, .int (nI q)), (5, .int (nI (smP (lvF ft st tn) (fun g => nN (mn g)) q))), (0, .ref k0), (1, .int 2)]) hx hb dX11_count_78 hl (by decide) rfl (fun ls hl => ?_)
              refine lv_iload hx hb dX11_count_80 (lv_at hl 4 rfl) ?_
              refine lv_aload_n hx hb dX11_count_82 rfl (lv_at hl 5 rfl) ?_
              refine lv_iload hx hb dX11_count_83 (lv_at hl 3 rfl) ?_
              have hPc := hP.sub (ws' := [(om k0 a I0 J0), (oa (a 5) cI 201 st), (oa (a 6) cZ 201 tn)]) [0, 1, 2] rfl
              have hDc := hD.sub (ws' := [(om k0 a I0 J0), (oa (a 5) cI 201 st), (oa (a 6) cZ 201 tn)]) [0, 1, 2] (by decide) rfl
              have hFc := va_free (wc := [(om k0 a I0 J0), (oa (a 5) cI 201 st), (oa (a 6) cZ 201 tn)]) hD hS hA [0, 1, 2] rfl
              refine zcall (st1 := [.int (pI (q < ft ∧ (st q).toInt = 1 ∧ (tn q).toInt = 0)), .int (nI (smP (lvF ft st tn) (fun g => nN (mn g)) q))]) (va_runV (As := [.int (nI q)]) (rest := [.int (nI (smP (lvF ft st tn) (fun g => nN (mn g)) q))]) ⟨hx, hb, hml, hown, hts⟩ (k_M_is_n l dC dI cI cZ cF H.size k0 a I0 J0 q ft st tn (by assumption) (by omega) (by omega)) (cwV 1 hts (zz_gV mw_1447 mw_1449 mw_56 mw_110 mc_yX11_is) rfl rfl rfl (by decide +kernel) ⟨Nat.le_of_ble_eq_true rfl, Nat.le_of_ble_eq_true rfl⟩) (zPV2 (q0 := 0) (ci := 9) hPc hDc hK hXN rfl rfl) rfl rfl hl.1 rfl (lv_room (Nat.le_of_ble_eq_true rfl)) dX11_count_85 ⟨Nat.le_of_ble_eq_true rfl, Nat.le_of_ble_eq_true rfl⟩) hS hFc hFc rfl (fun t H1 locs ht hB hk1 hS => ?_)
              obtain ⟨hP1, hD1⟩ := hB
              rw [ht] at hP1
              obtain ⟨hP, hD⟩ := va_join (wr := [(oa (a 11) cI 201 mn)]) (w1 := [(om k0 a I0 J0), (oa (a 5) cI 201 st), (oa (a 6) cZ 201 tn)]) hP hD [0, 1, 2] [3] rfl rfl (by decide) (by decide) hk1 hFc hP1 hD1
              clear hk1 hPc hDc hFc hP1 hD1 ht
              generalize H1 = H at hP hS ⊢
              have hP := hP.sub (ws' := [(om k0 a I0 J0), (oa (a 5) cI 201 st), (oa (a 6) cZ 201 tn), (oa (a 11) cI 201 mn)]) [1, 2, 3, 0] rfl
              have hD := hD.sub (ws' := [(om k0 a I0 J0), (oa (a 5) cI 201 st), (oa (a 6) cZ 201 tn), (oa (a 11) cI 201 mn)]) [1, 2, 3, 0] (by decide) rfl
              have hP : va_P (dC, dI) classes [(om k0 a I0 J0), (oa (a 5) cI 201 st), (oa (a 6) cZ 201 tn), (oa (a 11) cI 201 mn)] H := hP
              have hD : va_D A [(om k0 a I0 J0), (oa (a 5) cI 201 st), (oa (a 6) cZ 201 tn), (oa (a 11) cI 201 mn)] := hD
              refine lv_if_eq (tgt := 101) hx hb dX11_count_88 (by decide) (fun c_8 => ?_) (fun c_8 => ?_)
              · have c_8 : ¬ (q < ft ∧ (st q).toInt = 1 ∧ (tn q).toInt = 0) := zp_0 c_8
                refine lv_iconst (v := 0) hx hb dX11_count_101 (by decide) ?_
                refine lv_iadd hx hb dX11_count_102 ?_
                refine zz_i (v := nI ((smP (lvF ft st tn) (fun g => nN (mn g)) q) + 0)) (nI_add (smP (lvF ft st tn) (fun g => nN (mn g)) q) 0) ?_
                refine lv_istore (lv' := [(5, .int (nI ((smP (lvF ft st tn) (fun g => nN (mn g)) q) + 0))), (4, .int (nI ((cntP (fun g => ¬ (tn g).toInt = 0) q) + 0))), (3, .int (nI ((cntP (fun g => (st g).toInt = 2) q) + 1))), (2, .int (nI ((cntP (fun g => (st g).toInt = 1) q) + 0))), (6, .int (nI q)), (0, .ref k0), (1, .int 2)]) hx hb dX11_count_103 hl (by decide) rfl (fun ls hl => ?_)
                refine lv_iinc (v := nI (q + 1)) (lv' := [(6, .int (nI (q + 1))), (5, .int (nI ((smP (lvF ft st tn) (fun g => nN (mn g)) q) + 0))), (4, .int (nI ((cntP (fun g => ¬ (tn g).toInt = 0) q) + 0))), (3, .int (nI ((cntP (fun g => (st g).toInt = 2) q) + 1))), (2, .int (nI ((cntP (fun g => (st g).toInt = 1) q) + 0))), (0, .ref k0), (1, .int 2)]) hx hb dX11_count_105 hl (k := 4) rfl (nI_add q 1) (by decide) rfl (fun ls hl => ?_)
                refine lv_goto (tgt := 13) hx hb dX11_count_108 (by decide) ?_
                have hl9 := lv_sub hl [0, 1, 2, 3, 4, 5, 6] rfl
                have e9_2 : nI (cntP (fun g => (st g).toInt = 1) (q + 1)) = (nI ((cntP (fun g => (st g).toInt = 1) q) + 0) : Int32) := by first | exact congrArg nI (cntP_y (P := fun g => (st g).toInt = 1) (show (st q).toInt = 1 by omega)) | exact congrArg nI (cntP_n0 (P := fun g => (st g).toInt = 1) (show ¬ (st q).toInt = 1 by omega))
                have e9_3 : nI (cntP (fun g => (st g).toInt = 2) (q + 1)) = (nI ((cntP (fun g => (st g).toInt = 2) q) + 1) : Int32) := by first | exact congrArg nI (cntP_y (P := fun g => (st g).toInt = 2) (show (st q).toInt = 2 by omega)) | exact congrArg nI (cntP_n0 (P := fun g => (st g).toInt = 2) (show ¬ (st q).toInt = 2 by omega))
                have e9_4 : nI (cntP (fun g => ¬ (tn g).toInt = 0) (q + 1)) = (nI ((cntP (fun g => ¬ (tn g).toInt = 0) q) + 0) : Int32) := by first | exact congrArg nI (cntP_y (P := fun g => ¬ (tn g).toInt = 0) (show ¬ (tn q).toInt = 0 by omega)) | exact congrArg nI (cntP_n0 (P := fun g => ¬ (tn g).toInt = 0) (show ¬ ¬ (tn q).toInt = 0 by omega))
                have e9_5 : nI (smP (lvF ft st tn) (fun g => nN (mn g)) (q + 1)) = (nI ((smP (lvF ft st tn) (fun g => nN (mn g)) q) + 0) : Int32) := by first | exact congrArg nI (smP_y (P := lvF ft st tn) (by assumption)) | exact congrArg nI (smP_n (P := lvF ft st tn) (by assumption))
                have hl9 : lv_has ls 7 [(6, .int (nI (q + 1))), (5, .int (nI (smP (lvF ft st tn) (fun g => nN (mn g)) (q + 1)))), (4, .int (nI (cntP (fun g => ¬ (tn g).toInt = 0) (q + 1)))), (3, .int (nI (cntP (fun g => (st g).toInt = 2) (q + 1)))), (2, .int (nI (cntP (fun g => (st g).toInt = 1) (q + 1)))), (0, .ref k0), (1, .int 2)] := by rw [e9_2]; rw [e9_3]; rw [e9_4]; rw [e9_5]; exact hl9
                exact ih_13 (q + 1) H locs ls (by omega) (by omega) hP hD hS hl9
              · have c_8 : q < ft ∧ (st q).toInt = 1 ∧ (tn q).toInt = 0 := zp_1 c_8
                refine lv_aload_n hx hb dX11_count_91 rfl (lv_at hl 5 rfl) ?_
                refine va_get (D := (dC, dI)) (ci := 9) (v := .ref (a 11)) (C := RX11) (T := TX11) (N := 55) hx hb hts inX11 hown hK hP 0 rfl rfl 11 (by decide) (hts _ mw_1170) (fun _ h9 => h9) rfl dX11_count_92 ?_
                refine lv_iload hx hb dX11_count_95 (lv_at hl 3 rfl) ?_
                refine z_iald hx hb hK hP 3 0 rfl rfl (e := q) rfl (by omega) (by omega) dX11_count_97 ?_
                refine zz_i (v := nI (nN (mn q))) ((hmw q (by assumption)).1) ?_
                refine lv_goto (tgt := 102) hx hb dX11_count_98 (by decide) ?_
                refine lv_iadd hx hb dX11_count_102 ?_
                refine zz_i (v := nI ((smP (lvF ft st tn) (fun g => nN (mn g)) q) + (nN (mn q)))) (nI_add (smP (lvF ft st tn) (fun g => nN (mn g)) q) (nN (mn q))) ?_
                refine lv_istore (lv' := [(5, .int (nI ((smP (lvF ft st tn) (fun g => nN (mn g)) q) + (nN (mn q))))), (4, .int (nI ((cntP (fun g => ¬ (tn g).toInt = 0) q) + 0))), (3, .int (nI ((cntP (fun g => (st g).toInt = 2) q) + 1))), (2, .int (nI ((cntP (fun g => (st g).toInt = 1) q) + 0))), (6, .int (nI q)), (0, .ref k0), (1, .int 2)]) hx hb dX11_count_103 hl (by decide) rfl (fun ls hl => ?_)
                refine lv_iinc (v := nI (q + 1)) (lv' := [(6, .int (nI (q + 1))), (5, .int (nI ((smP (lvF ft st tn) (fun g => nN (mn g)) q) + (nN (mn q))))), (4, .int (nI ((cntP (fun g => ¬ (tn g).toInt = 0) q) + 0))), (3, .int (nI ((cntP (fun g => (st g).toInt = 2) q) + 1))), (2, .int (nI ((cntP (fun g => (st g).toInt = 1) q) + 0))), (0, .ref k0), (1, .int 2)]) hx hb dX11_count_105 hl (k := 4) rfl (nI_add q 1) (by decide) rfl (fun ls hl => ?_)
                refine lv_goto (tgt := 13) hx hb dX11_count_108 (by decide) ?_
                have hl9 := lv_sub hl [0, 1, 2, 3, 4, 5, 6] rfl
                have e9_2 : nI (cntP (fun g => (st g).toInt = 1) (q + 1)) = (nI ((cntP (fun g => (st g).toInt = 1) q) + 0) : Int32) := by first | exact congrArg nI (cntP_y (P := fun g => (st g).toInt = 1) (show (st q).toInt = 1 by omega)) | exact congrArg nI (cntP_n0 (P := fun g => (st g).toInt = 1) (show ¬ (st q).toInt = 1 by omega))
                have e9_3 : nI (cntP (fun g => (st g).toInt = 2) (q + 1)) = (nI ((cntP (fun g => (st g).toInt = 2) q) + 1) : Int32) := by first | exact congrArg nI (cntP_y (P := fun g => (st g).toInt = 2) (show (st q).toInt = 2 by omega)) | exact congrArg nI (cntP_n0 (P := fun g => (st g).toInt = 2) (show ¬ (st q).toInt = 2 by omega))
                have e9_4 : nI (cntP (fun g => ¬ (tn g).toInt = 0) (q + 1)) = (nI ((cntP (fun g => ¬ (tn g).toInt = 0) q) + 0) : Int32) := by first | exact congrArg nI (cntP_y (P := fun g => ¬ (tn g).toInt = 0) (show ¬ (tn q).toInt = 0 by omega)) | exact congrArg nI (cntP_n0 (P := fun g => ¬ (tn g).toInt = 0) (show ¬ ¬ (tn q).toInt = 0 by omega))
                have e9_5 : nI (smP (lvF ft st tn) (fun g => nN (mn g)) (q + 1)) = (nI ((smP (lvF ft st tn) (fun g => nN (mn g)) q) + (nN (mn q))) : Int32) := by first | exact congrArg nI (smP_y (P := lvF ft st tn) (by assumption)) | exact congrArg nI (smP_n (P := lvF ft st tn) (by assumption))
                have hl9 : lv_has ls 7 [(6, .int (nI (q + 1))), (5, .int (nI (smP (lvF ft st tn) (fun g => nN (mn g)) (q + 1)))), (4, .int (nI (cntP (fun g => ¬ (tn g).toInt = 0) (q + 1)))), (3, .int (nI (cntP (fun g => (st g).toInt = 2) (q + 1)))), (2, .int (nI (cntP (fun g => (st g).toInt = 1) (q + 1)))), (0, .ref k0), (1, .int 2)] := by rw [e9_2]; rw [e9_3]; rw [e9_4]; rw [e9_5]; exact hl9
                exact ih_13 (q + 1) H locs ls (by omega) (by omega) hP hD hS hl9
            · have c_7 : ¬ (tn q).toInt = 0 := zc_ne rfl (by decide) c_7
              refine lv_iconst (v := 1) hx hb dX11_count_72 (by decide) ?_
              refine lv_goto (tgt := 77) hx hb dX11_count_73 (by decide) ?_
              refine lv_iadd hx hb dX11_count_77 ?_
              refine zz_i (v := nI ((cntP (fun g => ¬ (tn g).toInt = 0) q) + 1)) (nI_add (cntP (fun g => ¬ (tn g).toInt = 0) q) 1) ?_
              refine lv_istore (lv' := [(4, .int (nI ((cntP (fun g => ¬ (tn g).toInt = 0) q) + 1))), (3, .int (nI ((cntP (fun g => (st g).toInt = 2) q) + 1))), (2, .int (nI ((cntP (fun g => (st g).toInt = 1) q) + 0))), (6, .int (nI q)), (5, .int (nI (smP (lvF ft st tn) (fun g => nN (mn g)) q))), (0, .ref k0), (1, .int 2)]) hx hb dX11_count_78 hl (by decide) rfl (fun ls hl => ?_)
              refine lv_iload hx hb dX11_count_80 (lv_at hl 4 rfl) ?_
              refine lv_aload_n hx hb dX11_count_82 rfl (lv_at hl 5 rfl) ?_
              refine lv_iload hx hb dX11_count_83 (lv_at hl 3 rfl) ?_
              have hPc := hP.sub (ws' := [(om k0 a I0 J0), (oa (a 5) cI 201 st), (oa (a 6) cZ 201 tn)]) [0, 1, 2] rfl
              have hDc := hD.sub (ws' := [(om k0 a I0 J0), (oa (a 5) cI 201 st), (oa (a 6) cZ 201 tn)]) [0, 1, 2] (by decide) rfl
              have hFc := va_free (wc := [(om k0 a I0 J0), (oa (a 5) cI 201 st), (oa (a 6) cZ 201 tn)]) hD hS hA [0, 1, 2] rfl
              refine zcall (st1 := [.int (pI (q < ft ∧ (st q).toInt = 1 ∧ (tn q).toInt = 0)), .int (nI (smP (lvF ft st tn) (fun g => nN (mn g)) q))]) (va_runV (As := [.int (nI q)]) (rest := [.int (nI (smP (lvF ft st tn) (fun g => nN (mn g)) q))]) ⟨hx, hb, hml, hown, hts⟩ (k_M_is_n l dC dI cI cZ cF H.size k0 a I0 J0 q ft st tn (by assumption) (by omega) (by omega)) (cwV 1 hts (zz_gV mw_1447 mw_1449 mw_56 mw_110 mc_yX11_is) rfl rfl rfl (by decide +kernel) ⟨Nat.le_of_ble_eq_true rfl, Nat.le_of_ble_eq_true rfl⟩) (zPV2 (q0 := 0) (ci := 9) hPc hDc hK hXN rfl rfl) rfl rfl hl.1 rfl (lv_room (Nat.le_of_ble_eq_true rfl)) dX11_count_85 ⟨Nat.le_of_ble_eq_true rfl, Nat.le_of_ble_eq_true rfl⟩) hS hFc hFc rfl (fun t H1 locs ht hB hk1 hS => ?_)
              obtain ⟨hP1, hD1⟩ := hB
              rw [ht] at hP1
              obtain ⟨hP, hD⟩ := va_join (wr := [(oa (a 11) cI 201 mn)]) (w1 := [(om k0 a I0 J0), (oa (a 5) cI 201 st), (oa (a 6) cZ 201 tn)]) hP hD [0, 1, 2] [3] rfl rfl (by decide) (by decide) hk1 hFc hP1 hD1
              clear hk1 hPc hDc hFc hP1 hD1 ht
              generalize H1 = H at hP hS ⊢
              have hP := hP.sub (ws' := [(om k0 a I0 J0), (oa (a 5) cI 201 st), (oa (a 6) cZ 201 tn), (oa (a 11) cI 201 mn)]) [1, 2, 3, 0] rfl
              have hD := hD.sub (ws' := [(om k0 a I0 J0), (oa (a 5) cI 201 st), (oa (a 6) cZ 201 tn), (oa (a 11) cI 201 mn)]) [1, 2, 3, 0] (by decide) rfl
              have hP : va_P (dC, dI) classes [(om k0 a I0 J0), (oa (a 5) cI 201 st), (oa (a 6) cZ 201 tn), (oa (a 11) cI 201 mn)] H := hP
              have hD : va_D A [(om k0 a I0 J0), (oa (a 5) cI 201 st), (oa (a 6) cZ 201 tn), (oa (a 11) cI 201 mn)] := hD
              refine lv_if_eq (tgt := 101) hx hb dX11_count_88 (by decide) (fun c_9 => ?_) (fun c_9 => ?_)
              · have c_9 : ¬ (q < ft ∧ (st q).toInt = 1 ∧ (tn q).toInt = 0) := zp_0 c_9
                refine lv_iconst (v := 0) hx hb dX11_count_101 (by decide) ?_
                refine lv_iadd hx hb dX11_count_102 ?_
                refine zz_i (v := nI ((smP (lvF ft st tn) (fun g => nN (mn g)) q) + 0)) (nI_add (smP (lvF ft st tn) (fun g => nN (mn g)) q) 0) ?_
                refine lv_istore (lv' := [(5, .int (nI ((smP (lvF ft st tn) (fun g => nN (mn g)) q) + 0))), (4, .int (nI ((cntP (fun g => ¬ (tn g).toInt = 0) q) + 1))), (3, .int (nI ((cntP (fun g => (st g).toInt = 2) q) + 1))), (2, .int (nI ((cntP (fun g => (st g).toInt = 1) q) + 0))), (6, .int (nI q)), (0, .ref k0), (1, .int 2)]) hx hb dX11_count_103 hl (by decide) rfl (fun ls hl => ?_)
                refine lv_iinc (v := nI (q + 1)) (lv' := [(6, .int (nI (q + 1))), (5, .int (nI ((smP (lvF ft st tn) (fun g => nN (mn g)) q) + 0))), (4, .int (nI ((cntP (fun g => ¬ (tn g).toInt = 0) q) + 1))), (3, .int (nI ((cntP (fun g => (st g).toInt = 2) q) + 1))), (2, .int (nI ((cntP (fun g => (st g).toInt = 1) q) + 0))), (0, .ref k0), (1, .int 2)]) hx hb dX11_count_105 hl (k := 4) rfl (nI_add q 1) (by decide) rfl (fun ls hl => ?_)
                refine lv_goto (tgt := 13) hx hb dX11_count_108 (by decide) ?_
                have hl9 := lv_sub hl [0, 1, 2, 3, 4, 5, 6] rfl
                have e9_2 : nI (cntP (fun g => (st g).toInt = 1) (q + 1)) = (nI ((cntP (fun g => (st g).toInt = 1) q) + 0) : Int32) := by first | exact congrArg nI (cntP_y (P := fun g => (st g).toInt = 1) (show (st q).toInt = 1 by omega)) | exact congrArg nI (cntP_n0 (P := fun g => (st g).toInt = 1) (show ¬ (st q).toInt = 1 by omega))
                have e9_3 : nI (cntP (fun g => (st g).toInt = 2) (q + 1)) = (nI ((cntP (fun g => (st g).toInt = 2) q) + 1) : Int32) := by first | exact congrArg nI (cntP_y (P := fun g => (st g).toInt = 2) (show (st q).toInt = 2 by omega)) | exact congrArg nI (cntP_n0 (P := fun g => (st g).toInt = 2) (show ¬ (st q).toInt = 2 by omega))
                have e9_4 : nI (cntP (fun g => ¬ (tn g).toInt = 0) (q + 1)) = (nI ((cntP (fun g => ¬ (tn g).toInt = 0) q) + 1) : Int32) := by first | exact congrArg nI (cntP_y (P := fun g => ¬ (tn g).toInt = 0) (show ¬ (tn q).toInt = 0 by omega)) | exact congrArg nI (cntP_n0 (P := fun g => ¬ (tn g).toInt = 0) (show ¬ ¬ (tn q).toInt = 0 by omega))
                have e9_5 : nI (smP (lvF ft st tn) (fun g => nN (mn g)) (q + 1)) = (nI ((smP (lvF ft st tn) (fun g => nN (mn g)) q) + 0) : Int32) := by first | exact congrArg nI (smP_y (P := lvF ft st tn) (by assumption)) | exact congrArg nI (smP_n (P := lvF ft st tn) (by assumption))
                have hl9 : lv_has ls 7 [(6, .int (nI (q + 1))), (5, .int (nI (smP (lvF ft st tn) (fun g => nN (mn g)) (q + 1)))), (4, .int (nI (cntP (fun g => ¬ (tn g).toInt = 0) (q + 1)))), (3, .int (nI (cntP (fun g => (st g).toInt = 2) (q + 1)))), (2, .int (nI (cntP (fun g => (st g).toInt = 1) (q + 1)))), (0, .ref k0), (1, .int 2)] := by rw [e9_2]; rw [e9_3]; rw [e9_4]; rw [e9_5]; exact hl9
                exact ih_13 (q + 1) H locs ls (by omega) (by omega) hP hD hS hl9
              · have c_9 : q < ft ∧ (st q).toInt = 1 ∧ (tn q).toInt = 0 := zp_1 c_9
                refine lv_aload_n hx hb dX11_count_91 rfl (lv_at hl 5 rfl) ?_
                refine va_get (D := (dC, dI)) (ci := 9) (v := .ref (a 11)) (C := RX11) (T := TX11) (N := 55) hx hb hts inX11 hown hK hP 0 rfl rfl 11 (by decide) (hts _ mw_1170) (fun _ h9 => h9) rfl dX11_count_92 ?_
                refine lv_iload hx hb dX11_count_95 (lv_at hl 3 rfl) ?_
                refine z_iald hx hb hK hP 3 0 rfl rfl (e := q) rfl (by omega) (by omega) dX11_count_97 ?_
                refine zz_i (v := nI (nN (mn q))) ((hmw q (by assumption)).1) ?_
                refine lv_goto (tgt := 102) hx hb dX11_count_98 (by decide) ?_
                refine lv_iadd hx hb dX11_count_102 ?_
                refine zz_i (v := nI ((smP (lvF ft st tn) (fun g => nN (mn g)) q) + (nN (mn q)))) (nI_add (smP (lvF ft st tn) (fun g => nN (mn g)) q) (nN (mn q))) ?_
                refine lv_istore (lv' := [(5, .int (nI ((smP (lvF ft st tn) (fun g => nN (mn g)) q) + (nN (mn q))))), (4, .int (nI ((cntP (fun g => ¬ (tn g).toInt = 0) q) + 1))), (3, .int (nI ((cntP (fun g => (st g).toInt = 2) q) + 1))), (2, .int (nI ((cntP (fun g => (st g).toInt = 1) q) + 0))), (6, .int (nI q)), (0, .ref k0), (1, .int 2)]) hx hb dX11_count_103 hl (by decide) rfl (fun ls hl => ?_)
                refine lv_iinc (v := nI (q + 1)) (lv' := [(6, .int (nI (q + 1))), (5, .int (nI ((smP (lvF ft st tn) (fun g => nN (mn g)) q) + (nN (mn q))))), (4, .int (nI ((cntP (fun g => ¬ (tn g).toInt = 0) q) + 1))), (3, .int (nI ((cntP (fun g => (st g).toInt = 2) q) + 1))), (2, .int (nI ((cntP (fun g => (st g).toInt = 1) q) + 0))), (0, .ref k0), (1, .int 2)]) hx hb dX11_count_105 hl (k := 4) rfl (nI_add q 1) (by decide) rfl (fun ls hl => ?_)
                refine lv_goto (tgt := 13) hx hb dX11_count_108 (by decide) ?_
                have hl9 := lv_sub hl [0, 1, 2, 3, 4, 5, 6] rfl
                have e9_2 : nI (cntP (fun g => (st g).toInt = 1) (q + 1)) = (nI ((cntP (fun g => (st g).toInt = 1) q) + 0) : Int32) := by first | exact congrArg nI (cntP_y (P := fun g => (st g).toInt = 1) (show (st q).toInt = 1 by omega)) | exact congrArg nI (cntP_n0 (P := fun g => (st g).toInt = 1) (show ¬ (st q).toInt = 1 by omega))
                have e9_3 : nI (cntP (fun g => (st g).toInt = 2) (q + 1)) = (nI ((cntP (fun g => (st g).toInt = 2) q) + 1) : Int32) := by first | exact congrArg nI (cntP_y (P := fun g => (st g).toInt = 2) (show (st q).toInt = 2 by omega)) | exact congrArg nI (cntP_n0 (P := fun g => (st g).toInt = 2) (show ¬ (st q).toInt = 2 by omega))
                have e9_4 : nI (cntP (fun g => ¬ (tn g).toInt = 0) (q + 1)) = (nI ((cntP (fun g => ¬ (tn g).toInt = 0) q) + 1) : Int32) := by first | exact congrArg nI (cntP_y (P := fun g => ¬ (tn g).toInt = 0) (show ¬ (tn q).toInt = 0 by omega)) | exact congrArg nI (cntP_n0 (P := fun g => ¬ (tn g).toInt = 0) (show ¬ ¬ (tn q).toInt = 0 by omega))
                have e9_5 : nI (smP (lvF ft st tn) (fun g => nN (mn g)) (q + 1)) = (nI ((smP (lvF ft st tn) (fun g => nN (mn g)) q) + (nN (mn q))) : Int32) := by first | exact congrArg nI (smP_y (P := lvF ft st tn) (by assumption)) | exact congrArg nI (smP_n (P := lvF ft st tn) (by assumption))
                have hl9 : lv_has ls 7 [(6, .int (nI (q + 1))), (5, .int (nI (smP (lvF ft st tn) (fun g => nN (mn g)) (q + 1)))), (4, .int (nI (cntP (fun g => ¬ (tn g).toInt = 0) (q + 1)))), (3, .int (nI (cntP (fun g => (st g).toInt = 2) (q + 1)))), (2, .int (nI (cntP (fun g => (st g).toInt = 1) (q + 1)))), (0, .ref k0), (1, .int 2)] := by rw [e9_2]; rw [e9_3]; rw [e9_4]; rw [e9_5]; exact hl9
                exact ih_13 (q + 1) H locs ls (by omega) (by omega) hP hD hS hl9
        · have c_2 : (st q).toInt = 1 := zc_eq rfl (by decide) c_2
          refine lv_iconst (v := 1) hx hb dX11_count_34 (by decide) ?_
          refine lv_goto (tgt := 39) hx hb dX11_count_35 (by decide) ?_
          refine lv_iadd hx hb dX11_count_39 ?_
          refine zz_i (v := nI ((cntP (fun g => (st g).toInt = 1) q) + 1)) (nI_add (cntP (fun g => (st g).toInt = 1) q) 1) ?_
          refine lv_istore_n (lv' := [(2, .int (nI ((cntP (fun g => (st g).toInt = 1) q) + 1))), (6, .int (nI q)), (5, .int (nI (smP (lvF ft st tn) (fun g => nN (mn g)) q))), (4, .int (nI (cntP (fun g => ¬ (tn g).toInt = 0) q))), (3, .int (nI (cntP (fun g => (st g).toInt = 2) q))), (0, .ref k0), (1, .int 2)]) hx hb dX11_count_40 rfl hl (by decide) rfl (fun ls hl => ?_)
          refine lv_iload_n hx hb dX11_count_41 rfl (lv_at hl 4 rfl) ?_
          refine lv_aload_n hx hb dX11_count_42 rfl (lv_at hl 5 rfl) ?_
          refine va_get (D := (dC, dI)) (ci := 9) (v := .ref (a 5)) (C := RX11) (T := TX11) (N := 55) hx hb hts inX11 hown hK hP 0 rfl rfl 5 (by decide) (hts _ mw_1164) (fun _ h9 => h9) rfl dX11_count_43 ?_
          refine lv_iload hx hb dX11_count_46 (lv_at hl 1 rfl) ?_
          refine z_iald hx hb hK hP 1 0 rfl rfl (e := q) rfl (by omega) (by omega) dX11_count_48 ?_
          refine lv_iconst (v := 2) hx hb dX11_count_49 (by decide) ?_
          refine lv_icmp_ne (tgt := 57) hx hb dX11_count_50 (by decide) (fun c_10 => ?_) (fun c_10 => ?_)
          · have c_10 : ¬ (st q).toInt = 2 := zc_ne rfl (by decide) c_10
            refine lv_iconst (v := 0) hx hb dX11_count_57 (by decide) ?_
            refine lv_iadd hx hb dX11_count_58 ?_
            refine zz_i (v := nI ((cntP (fun g => (st g).toInt = 2) q) + 0)) (nI_add (cntP (fun g => (st g).toInt = 2) q) 0) ?_
            refine lv_istore_n (lv' := [(3, .int (nI ((cntP (fun g => (st g).toInt = 2) q) + 0))), (2, .int (nI ((cntP (fun g => (st g).toInt = 1) q) + 1))), (6, .int (nI q)), (5, .int (nI (smP (lvF ft st tn) (fun g => nN (mn g)) q))), (4, .int (nI (cntP (fun g => ¬ (tn g).toInt = 0) q))), (0, .ref k0), (1, .int 2)]) hx hb dX11_count_59 rfl hl (by decide) rfl (fun ls hl => ?_)
            refine lv_iload hx hb dX11_count_60 (lv_at hl 4 rfl) ?_
            refine lv_aload_n hx hb dX11_count_62 rfl (lv_at hl 5 rfl) ?_
            refine va_get (D := (dC, dI)) (ci := 9) (v := .ref (a 6)) (C := RX11) (T := TX11) (N := 55) hx hb hts inX11 hown hK hP 0 rfl rfl 6 (by decide) (hts _ mw_1165) (fun _ h9 => h9) rfl dX11_count_63 ?_
            refine lv_iload hx hb dX11_count_66 (lv_at hl 2 rfl) ?_
            refine z_zald hx hb hK hP 2 1 rfl rfl (e := q) rfl (by omega) (by omega) dX11_count_68 ?_
            refine lv_if_eq (tgt := 76) hx hb dX11_count_69 (by decide) (fun c_11 => ?_) (fun c_11 => ?_)
            · have c_11 : (tn q).toInt = 0 := zc_eq rfl (by decide) c_11
              refine lv_iconst (v := 0) hx hb dX11_count_76 (by decide) ?_
              refine lv_iadd hx hb dX11_count_77 ?_
              refine zz_i (v := nI ((cntP (fun g => ¬ (tn g).toInt = 0) q) + 0)) (nI_add (cntP (fun g => ¬ (tn g).toInt = 0) q) 0) ?_
              refine lv_istore (lv' := [(4, .int (nI ((cntP (fun g => ¬ (tn g).toInt = 0) q) + 0))), (3, .int (nI ((cntP (fun g => (st g).toInt = 2) q) + 0))), (2, .int (nI ((cntP (fun g => (st g).toInt = 1) q) + 1))), (6, .int (nI q)), (5, .int (nI (smP (lvF ft st tn) (fun g => nN (mn g)) q))), (0, .ref k0), (1, .int 2)]) hx hb dX11_count_78 hl (by decide) rfl (fun ls hl => ?_)
              refine lv_iload hx hb dX11_count_80 (lv_at hl 4 rfl) ?_
              refine lv_aload_n hx hb dX11_count_82 rfl (lv_at hl 5 rfl) ?_
              refine lv_iload hx hb dX11_count_83 (lv_at hl 3 rfl) ?_
              have hPc := hP.sub (ws' := [(om k0 a I0 J0), (oa (a 5) cI 201 st), (oa (a 6) cZ 201 tn)]) [0, 1, 2] rfl
              have hDc := hD.sub (ws' := [(om k0 a I0 J0), (oa (a 5) cI 201 st), (oa (a 6) cZ 201 tn)]) [0, 1, 2] (by decide) rfl
              have hFc := va_free (wc := [(om k0 a I0 J0), (oa (a 5) cI 201 st), (oa (a 6) cZ 201 tn)]) hD hS hA [0, 1, 2] rfl
              refine zcall (st1 := [.int (pI (q < ft ∧ (st q).toInt = 1 ∧ (tn q).toInt = 0)), .int (nI (smP (lvF ft st tn) (fun g => nN (mn g)) q))]) (va_runV (As := [.int (nI q)]) (rest := [.int (nI (smP (lvF ft st tn) (fun g => nN (mn g)) q))]) ⟨hx, hb, hml, hown, hts⟩ (k_M_is_n l dC dI cI cZ cF H.size k0 a I0 J0 q ft st tn (by assumption) (by omega) (by omega)) (cwV 1 hts (zz_gV mw_1447 mw_1449 mw_56 mw_110 mc_yX11_is) rfl rfl rfl (by decide +kernel) ⟨Nat.le_of_ble_eq_true rfl, Nat.le_of_ble_eq_true rfl⟩) (zPV2 (q0 := 0) (ci := 9) hPc hDc hK hXN rfl rfl) rfl rfl hl.1 rfl (lv_room (Nat.le_of_ble_eq_true rfl)) dX11_count_85 ⟨Nat.le_of_ble_eq_true rfl, Nat.le_of_ble_eq_true rfl⟩) hS hFc hFc rfl (fun t H1 locs ht hB hk1 hS => ?_)
              obtain ⟨hP1, hD1⟩ := hB
              rw [ht] at hP1
              obtain ⟨hP, hD⟩ := va_join (wr := [(oa (a 11) cI 201 mn)]) (w1 := [(om k0 a I0 J0), (oa (a 5) cI 201 st), (oa (a 6) cZ 201 tn)]) hP hD [0, 1, 2] [3] rfl rfl (by decide) (by decide) hk1 hFc hP1 hD1
              clear hk1 hPc hDc hFc hP1 hD1 ht
              generalize H1 = H at hP hS ⊢
              have hP := hP.sub (ws' := [(om k0 a I0 J0), (oa (a 5) cI 201 st), (oa (a 6) cZ 201 tn), (oa (a 11) cI 201 mn)]) [1, 2, 3, 0] rfl
              have hD := hD.sub (ws' := [(om k0 a I0 J0), (oa (a 5) cI 201 st), (oa (a 6) cZ 201 tn), (oa (a 11) cI 201 mn)]) [1, 2, 3, 0] (by decide) rfl
              have hP : va_P (dC, dI) classes [(om k0 a I0 J0), (oa (a 5) cI 201 st), (oa (a 6) cZ 201 tn), (oa (a 11) cI 201 mn)] H := hP
              have hD : va_D A [(om k0 a I0 J0), (oa (a 5) cI 201 st), (oa (a 6) cZ 201 tn), (oa (a 11) cI 201 mn)] := hD
              refine lv_if_eq (tgt := 101) hx hb dX11_count_88 (by decide) (fun c_12 => ?_) (fun c_12 => ?_)
              · have c_12 : ¬ (q < ft ∧ (st q).toInt = 1 ∧ (tn q).toInt = 0) := zp_0 c_12
                refine lv_iconst (v := 0) hx hb dX11_count_101 (by decide) ?_
                refine lv_iadd hx hb dX11_count_102 ?_
                refine zz_i (v := nI ((smP (lvF ft st tn) (fun g => nN (mn g)) q) + 0)) (nI_add (smP (lvF ft st tn) (fun g => nN (mn g)) q) 0) ?_
                refine lv_istore (lv' := [(5, .int (nI ((smP (lvF ft st tn) (fun g => nN (mn g)) q) + 0))), (4, .int (nI ((cntP (fun g => ¬ (tn g).toInt = 0) q) + 0))), (3, .int (nI ((cntP (fun g => (st g).toInt = 2) q) + 0))), (2, .int (nI ((cntP (fun g => (st g).toInt = 1) q) + 1))), (6, .int (nI q)), (0, .ref k0), (1, .int 2)]) hx hb dX11_count_103 hl (by decide) rfl (fun ls hl => ?_)
                refine lv_iinc (v := nI (q + 1)) (lv' := [(6, .int (nI (q + 1))), (5, .int (nI ((smP (lvF ft st tn) (fun g => nN (mn g)) q) + 0))), (4, .int (nI ((cntP (fun g => ¬ (tn g).toInt = 0) q) + 0))), (3, .int (nI ((cntP (fun g => (st g).toInt = 2) q) + 0))), (2, .int (nI ((cntP (fun g => (st g).toInt = 1) q) + 1))), (0, .ref k0), (1, .int 2)]) hx hb dX11_count_105 hl (k := 4) rfl (nI_add q 1) (by decide) rfl (fun ls hl => ?_)
                refine lv_goto (tgt := 13) hx hb dX11_count_108 (by decide) ?_
                have hl9 := lv_sub hl [0, 1, 2, 3, 4, 5, 6] rfl
                have e9_2 : nI (cntP (fun g => (st g).toInt = 1) (q + 1)) = (nI ((cntP (fun g => (st g).toInt = 1) q) + 1) : Int32) := by first | exact congrArg nI (cntP_y (P := fun g => (st g).toInt = 1) (show (st q).toInt = 1 by omega)) | exact congrArg nI (cntP_n0 (P := fun g => (st g).toInt = 1) (show ¬ (st q).toInt = 1 by omega))
                have e9_3 : nI (cntP (fun g => (st g).toInt = 2) (q + 1)) = (nI ((cntP (fun g => (st g).toInt = 2) q) + 0) : Int32) := by first | exact congrArg nI (cntP_y (P := fun g => (st g).toInt = 2) (show (st q).toInt = 2 by omega)) | exact congrArg nI (cntP_n0 (P := fun g => (st g).toInt = 2) (show ¬ (st q).toInt = 2 by omega))
                have e9_4 : nI (cntP (fun g => ¬ (tn g).toInt = 0) (q + 1)) = (nI ((cntP (fun g => ¬ (tn g).toInt = 0) q) + 0) : Int32) := by first | exact congrArg nI (cntP_y (P := fun g => ¬ (tn g).toInt = 0) (show ¬ (tn q).toInt = 0 by omega)) | exact congrArg nI (cntP_n0 (P := fun g => ¬ (tn g).toInt = 0) (show ¬ ¬ (tn q).toInt = 0 by omega))
                have e9_5 : nI (smP (lvF ft st tn) (fun g => nN (mn g)) (q + 1)) = (nI ((smP (lvF ft st tn) (fun g => nN (mn g)) q) + 0) : Int32) := by first | exact congrArg nI (smP_y (P := lvF ft st tn) (by assumption)) | exact congrArg nI (smP_n (P := lvF ft st tn) (by assumption))
                have hl9 : lv_has ls 7 [(6, .int (nI (q + 1))), (5, .int (nI (smP (lvF ft st tn) (fun g => nN (mn g)) (q + 1)))), (4, .int (nI (cntP (fun g => ¬ (tn g).toInt = 0) (q + 1)))), (3, .int (nI (cntP (fun g => (st g).toInt = 2) (q + 1)))), (2, .int (nI (cntP (fun g => (st g).toInt = 1) (q + 1)))), (0, .ref k0), (1, .int 2)] := by rw [e9_2]; rw [e9_3]; rw [e9_4]; rw [e9_5]; exact hl9
                exact ih_13 (q + 1) H locs ls (by omega) (by omega) hP hD hS hl9
              · have c_12 : q < ft ∧ (st q).toInt = 1 ∧ (tn q).toInt = 0 := zp_1 c_12
                refine lv_aload_n hx hb dX11_count_91 rfl (lv_at hl 5 rfl) ?_
                refine va_get (D := (dC, dI)) (ci := 9) (v := .ref (a 11)) (C := RX11) (T := TX11) (N := 55) hx hb hts inX11 hown hK hP 0 rfl rfl 11 (by decide) (hts _ mw_1170) (fun _ h9 => h9) rfl dX11_count_92 ?_
                refine lv_iload hx hb dX11_count_95 (lv_at hl 3 rfl) ?_
                refine z_iald hx hb hK hP 3 0 rfl rfl (e := q) rfl (by omega) (by omega) dX11_count_97 ?_
                refine zz_i (v := nI (nN (mn q))) ((hmw q (by assumption)).1) ?_
                refine lv_goto (tgt := 102) hx hb dX11_count_98 (by decide) ?_
                refine lv_iadd hx hb dX11_count_102 ?_
                refine zz_i (v := nI ((smP (lvF ft st tn) (fun g => nN (mn g)) q) + (nN (mn q)))) (nI_add (smP (lvF ft st tn) (fun g => nN (mn g)) q) (nN (mn q))) ?_
                refine lv_istore (lv' := [(5, .int (nI ((smP (lvF ft st tn) (fun g => nN (mn g)) q) + (nN (mn q))))), (4, .int (nI ((cntP (fun g => ¬ (tn g).toInt = 0) q) + 0))), (3, .int (nI ((cntP (fun g => (st g).toInt = 2) q) + 0))), (2, .int (nI ((cntP (fun g => (st g).toInt = 1) q) + 1))), (6, .int (nI q)), (0, .ref k0), (1, .int 2)]) hx hb dX11_count_103 hl (by decide) rfl (fun ls hl => ?_)
                refine lv_iinc (v := nI (q + 1)) (lv' := [(6, .int (nI (q + 1))), (5, .int (nI ((smP (lvF ft st tn) (fun g => nN (mn g)) q) + (nN (mn q))))), (4, .int (nI ((cntP (fun g => ¬ (tn g).toInt = 0) q) + 0))), (3, .int (nI ((cntP (fun g => (st g).toInt = 2) q) + 0))), (2, .int (nI ((cntP (fun g => (st g).toInt = 1) q) + 1))), (0, .ref k0), (1, .int 2)]) hx hb dX11_count_105 hl (k := 4) rfl (nI_add q 1) (by decide) rfl (fun ls hl => ?_)
                refine lv_goto (tgt := 13) hx hb dX11_count_108 (by decide) ?_
                have hl9 := lv_sub hl [0, 1, 2, 3, 4, 5, 6] rfl
                have e9_2 : nI (cntP (fun g => (st g).toInt = 1) (q + 1)) = (nI ((cntP (fun g => (st g).toInt = 1) q) + 1) : Int32) := by first | exact congrArg nI (cntP_y (P := fun g => (st g).toInt = 1) (show (st q).toInt = 1 by omega)) | exact congrArg nI (cntP_n0 (P := fun g => (st g).toInt = 1) (show ¬ (st q).toInt = 1 by omega))
                have e9_3 : nI (cntP (fun g => (st g).toInt = 2) (q + 1)) = (nI ((cntP (fun g => (st g).toInt = 2) q) + 0) : Int32) := by first | exact congrArg nI (cntP_y (P := fun g => (st g).toInt = 2) (show (st q).toInt = 2 by omega)) | exact congrArg nI (cntP_n0 (P := fun g => (st g).toInt = 2) (show ¬ (st q).toInt = 2 by omega))
                have e9_4 : nI (cntP (fun g => ¬ (tn g).toInt = 0) (q + 1)) = (nI ((cntP (fun g => ¬ (tn g).toInt = 0) q) + 0) : Int32) := by first | exact congrArg nI (cntP_y (P := fun g => ¬ (tn g).toInt = 0) (show ¬ (tn q).toInt = 0 by omega)) | exact congrArg nI (cntP_n0 (P := fun g => ¬ (tn g).toInt = 0) (show ¬ ¬ (tn q).toInt = 0 by omega))
                have e9_5 : nI (smP (lvF ft st tn) (fun g => nN (mn g)) (q + 1)) = (nI ((smP (lvF ft st tn) (fun g => nN (mn g)) q) + (nN (mn q))) : Int32) := by first | exact congrArg nI (smP_y (P := lvF ft st tn) (by assumption)) | exact congrArg nI (smP_n (P := lvF ft st tn) (by assumption))
                have hl9 : lv_has ls 7 [(6, .int (nI (q + 1))), (5, .int (nI (smP (lvF ft st tn) (fun g => nN (mn g)) (q + 1)))), (4, .int (nI (cntP (fun g => ¬ (tn g).toInt = 0) (q + 1)))), (3, .int (nI (cntP (fun g => (st g).toInt = 2) (q + 1)))), (2, .int (nI (cntP (fun g => (st g).toInt = 1) (q + 1)))), (0, .ref k0), (1, .int 2)] := by rw [e9_2]; rw [e9_3]; rw [e9_4]; rw [e9_5]; exact hl9
                exact ih_13 (q + 1) H locs ls (by omega) (by omega) hP hD hS hl9
            · have c_11 : ¬ (tn q).toInt = 0 := zc_ne rfl (by decide) c_11
              refine lv_iconst (v := 1) hx hb dX11_count_72 (by decide) ?_
              refine lv_goto (tgt := 77) hx hb dX11_count_73 (by decide) ?_
              refine lv_iadd hx hb dX11_count_77 ?_
              refine zz_i (v := nI ((cntP (fun g => ¬ (tn g).toInt = 0) q) + 1)) (nI_add (cntP (fun g => ¬ (tn g).toInt = 0) q) 1) ?_
              refine lv_istore (lv' := [(4, .int (nI ((cntP (fun g => ¬ (tn g).toInt = 0) q) + 1))), (3, .int (nI ((cntP (fun g => (st g).toInt = 2) q) + 0))), (2, .int (nI ((cntP (fun g => (st g).toInt = 1) q) + 1))), (6, .int (nI q)), (5, .int (nI (smP (lvF ft st tn) (fun g => nN (mn g)) q))), (0, .ref k0), (1, .int 2)]) hx hb dX11_count_78 hl (by decide) rfl (fun ls hl => ?_)
              refine lv_iload hx hb dX11_count_80 (lv_at hl 4 rfl) ?_
              refine lv_aload_n hx hb dX11_count_82 rfl (lv_at hl 5 rfl) ?_
              refine lv_iload hx hb dX11_count_83 (lv_at hl 3 rfl) ?_
              have hPc := hP.sub (ws' := [(om k0 a I0 J0), (oa (a 5) cI 201 st), (oa (a 6) cZ 201 tn)]) [0, 1, 2] rfl
              have hDc := hD.sub (ws' := [(om k0 a I0 J0), (oa (a 5) cI 201 st), (oa (a 6) cZ 201 tn)]) [0, 1, 2] (by decide) rfl
              have hFc := va_free (wc := [(om k0 a I0 J0), (oa (a 5) cI 201 st), (oa (a 6) cZ 201 tn)]) hD hS hA [0, 1, 2] rfl
              refine zcall (st1 := [.int (pI (q < ft ∧ (st q).toInt = 1 ∧ (tn q).toInt = 0)), .int (nI (smP (lvF ft st tn) (fun g => nN (mn g)) q))]) (va_runV (As := [.int (nI q)]) (rest := [.int (nI (smP (lvF ft st tn) (fun g => nN (mn g)) q))]) ⟨hx, hb, hml, hown, hts⟩ (k_M_is_n l dC dI cI cZ cF H.size k0 a I0 J0 q ft st tn (by assumption) (by omega) (by omega)) (cwV 1 hts (zz_gV mw_1447 mw_1449 mw_56 mw_110 mc_yX11_is) rfl rfl rfl (by decide +kernel) ⟨Nat.le_of_ble_eq_true rfl, Nat.le_of_ble_eq_true rfl⟩) (zPV2 (q0 := 0) (ci := 9) hPc hDc hK hXN rfl rfl) rfl rfl hl.1 rfl (lv_room (Nat.le_of_ble_eq_true rfl)) dX11_count_85 ⟨Nat.le_of_ble_eq_true rfl, Nat.le_of_ble_eq_true rfl⟩) hS hFc hFc rfl (fun t H1 locs ht hB hk1 hS => ?_)
              obtain ⟨hP1, hD1⟩ := hB
              rw [ht] at hP1
              obtain ⟨hP, hD⟩ := va_join (wr := [(oa (a 11) cI 201 mn)]) (w1 := [(om k0 a I0 J0), (oa (a 5) cI 201 st), (oa (a 6) cZ 201 tn)]) hP hD [0, 1, 2] [3] rfl rfl (by decide) (by decide) hk1 hFc hP1 hD1
              clear hk1 hPc hDc hFc hP1 hD1 ht
              generalize H1 = H at hP hS ⊢
              have hP := hP.sub (ws' := [(om k0 a I0 J0), (oa (a 5) cI 201 st), (oa (a 6) cZ 201 tn), (oa (a 11) cI 201 mn)]) [1, 2, 3, 0] rfl
              have hD := hD.sub (ws' := [(om k0 a I0 J0), (oa (a 5) cI 201 st), (oa (a 6) cZ 201 tn), (oa (a 11) cI 201 mn)]) [1, 2, 3, 0] (by decide) rfl
              have hP : va_P (dC, dI) classes [(om k0 a I0 J0), (oa (a 5) cI 201 st), (oa (a 6) cZ 201 tn), (oa (a 11) cI 201 mn)] H := hP
              have hD : va_D A [(om k0 a I0 J0), (oa (a 5) cI 201 st), (oa (a 6) cZ 201 tn), (oa (a 11) cI 201 mn)] := hD
              refine lv_if_eq (tgt := 101) hx hb dX11_count_88 (by decide) (fun c_13 => ?_) (fun c_13 => ?_)
              · have c_13 : ¬ (q < ft ∧ (st q).toInt = 1 ∧ (tn q).toInt = 0) := zp_0 c_13
                refine lv_iconst (v := 0) hx hb dX11_count_101 (by decide) ?_
                refine lv_iadd hx hb dX11_count_102 ?_
                refine zz_i (v := nI ((smP (lvF ft st tn) (fun g => nN (mn g)) q) + 0)) (nI_add (smP (lvF ft st tn) (fun g => nN (mn g)) q) 0) ?_
                refine lv_istore (lv' := [(5, .int (nI ((smP (lvF ft st tn) (fun g => nN (mn g)) q) + 0))), (4, .int (nI ((cntP (fun g => ¬ (tn g).toInt = 0) q) + 1))), (3, .int (nI ((cntP (fun g => (st g).toInt = 2) q) + 0))), (2, .int (nI ((cntP (fun g => (st g).toInt = 1) q) + 1))), (6, .int (nI q)), (0, .ref k0), (1, .int 2)]) hx hb dX11_count_103 hl (by decide) rfl (fun ls hl => ?_)
                refine lv_iinc (v := nI (q + 1)) (lv' := [(6, .int (nI (q + 1))), (5, .int (nI ((smP (lvF ft st tn) (fun g => nN (mn g)) q) + 0))), (4, .int (nI ((cntP (fun g => ¬ (tn g).toInt = 0) q) + 1))), (3, .int (nI ((cntP (fun g => (st g).toInt = 2) q) + 0))), (2, .int (nI ((cntP (fun g => (st g).toInt = 1) q) + 1))), (0, .ref k0), (1, .int 2)]) hx hb dX11_count_105 hl (k := 4) rfl (nI_add q 1) (by decide) rfl (fun ls hl => ?_)
                refine lv_goto (tgt := 13) hx hb dX11_count_108 (by decide) ?_
                have hl9 := lv_sub hl [0, 1, 2, 3, 4, 5, 6] rfl
                have e9_2 : nI (cntP (fun g => (st g).toInt = 1) (q + 1)) = (nI ((cntP (fun g => (st g).toInt = 1) q) + 1) : Int32) := by first | exact congrArg nI (cntP_y (P := fun g => (st g).toInt = 1) (show (st q).toInt = 1 by omega)) | exact congrArg nI (cntP_n0 (P := fun g => (st g).toInt = 1) (show ¬ (st q).toInt = 1 by omega))
                have e9_3 : nI (cntP (fun g => (st g).toInt = 2) (q + 1)) = (nI ((cntP (fun g => (st g).toInt = 2) q) + 0) : Int32) := by first | exact congrArg nI (cntP_y (P := fun g => (st g).toInt = 2) (show (st q).toInt = 2 by omega)) | exact congrArg nI (cntP_n0 (P := fun g => (st g).toInt = 2) (show ¬ (st q).toInt = 2 by omega))
                have e9_4 : nI (cntP (fun g => ¬ (tn g).toInt = 0) (q + 1)) = (nI ((cntP (fun g => ¬ (tn g).toInt = 0) q) + 1) : Int32) := by first | exact congrArg nI (cntP_y (P := fun g => ¬ (tn g).toInt = 0) (show ¬ (tn q).toInt = 0 by omega)) | exact congrArg nI (cntP_n0 (P := fun g => ¬ (tn g).toInt = 0) (show ¬ ¬ (tn q).toInt = 0 by omega))
                have e9_5 : nI (smP (lvF ft st tn) (fun g => nN (mn g)) (q + 1)) = (nI ((smP (lvF ft st tn) (fun g => nN (mn g)) q) + 0) : Int32) := by first | exact congrArg nI (smP_y (P := lvF ft st tn) (by assumption)) | exact congrArg nI (smP_n (P := lvF ft st tn) (by assumption))
                have hl9 : lv_has ls 7 [(6, .int (nI (q + 1))), (5, .int (nI (smP (lvF ft st tn) (fun g => nN (mn g)) (q + 1)))), (4, .int (nI (cntP (fun g => ¬ (tn g).toInt = 0) (q + 1)))), (3, .int (nI (cntP (fun g => (st g).toInt = 2) (q + 1)))), (2, .int (nI (cntP (fun g => (st g).toInt = 1) (q + 1)))), (0, .ref k0), (1, .int 2)] := by rw [e9_2]; rw [e9_3]; rw [e9_4]; rw [e9_5]; exact hl9
                exact ih_13 (q + 1) H locs ls (by omega) (by omega) hP hD hS hl9
              · have c_13 : q < ft ∧ (st q).toInt = 1 ∧ (tn q).toInt = 0 := zp_1 c_13
                refine lv_aload_n hx hb dX11_count_91 rfl (lv_at hl 5 rfl) ?_
                refine va_get (D := (dC, dI)) (ci := 9) (v := .ref (a 11)) (C := RX11) (T := TX11) (N := 55) hx hb hts inX11 hown hK hP 0 rfl rfl 11 (by decide) (hts _ mw_1170) (fun _ h9 => h9) rfl dX11_count_92 ?_
                refine lv_iload hx hb dX11_count_95 (lv_at hl 3 rfl) ?_
                refine z_iald hx hb hK hP 3 0 rfl rfl (e := q) rfl (by omega) (by omega) dX11_count_97 ?_
                refine zz_i (v := nI (nN (mn q))) ((hmw q (by assumption)).1) ?_
                refine lv_goto (tgt := 102) hx hb dX11_count_98 (by decide) ?_
                refine lv_iadd hx hb dX11_count_102 ?_
                refine zz_i (v := nI ((smP (lvF ft st tn) (fun g => nN (mn g)) q) + (nN (mn q)))) (nI_add (smP (lvF ft st tn) (fun g => nN (mn g)) q) (nN (mn q))) ?_
                refine lv_istore (lv' := [(5, .int (nI ((smP (lvF ft st tn) (fun g => nN (mn g)) q) + (nN (mn q))))), (4, .int (nI ((cntP (fun g => ¬ (tn g).toInt = 0) q) + 1))), (3, .int (nI ((cntP (fun g => (st g).toInt = 2) q) + 0))), (2, .int (nI ((cntP (fun g => (st g).toInt = 1) q) + 1))), (6, .int (nI q)), (0, .ref k0), (1, .int 2)]) hx hb dX11_count_103 hl (by decide) rfl (fun ls hl => ?_)
                refine lv_iinc (v := nI (q + 1)) (lv' := [(6, .int (nI (q + 1))), (5, .int (nI ((smP (lvF ft st tn) (fun g => nN (mn g)) q) + (nN (mn q))))), (4, .int (nI ((cntP (fun g => ¬ (tn g).toInt = 0) q) + 1))), (3, .int (nI ((cntP (fun g => (st g).toInt = 2) q) + 0))), (2, .int (nI ((cntP (fun g => (st g).toInt = 1) q) + 1))), (0, .ref k0), (1, .int 2)]) hx hb dX11_count_105 hl (k := 4) rfl (nI_add q 1) (by decide) rfl (fun ls hl => ?_)
                refine lv_goto (tgt := 13) hx hb dX11_count_108 (by decide) ?_
                have hl9 := lv_sub hl [0, 1, 2, 3, 4, 5, 6] rfl
                have e9_2 : nI (cntP (fun g => (st g).toInt = 1) (q + 1)) = (nI ((cntP (fun g => (st g).toInt = 1) q) + 1) : Int32) := by first | exact congrArg nI (cntP_y (P := fun g => (st g).toInt = 1) (show (st q).toInt = 1 by omega)) | exact congrArg nI (cntP_n0 (P := fun g => (st g).toInt = 1) (show ¬ (st q).toInt = 1 by omega))
                have e9_3 : nI (cntP (fun g => (st g).toInt = 2) (q + 1)) = (nI ((cntP (fun g => (st g).toInt = 2) q) + 0) : Int32) := by first | exact congrArg nI (cntP_y (P := fun g => (st g).toInt = 2) (show (st q).toInt = 2 by omega)) | exact congrArg nI (cntP_n0 (P := fun g => (st g).toInt = 2) (show ¬ (st q).toInt = 2 by omega))
                have e9_4 : nI (cntP (fun g => ¬ (tn g).toInt = 0) (q + 1)) = (nI ((cntP (fun g => ¬ (tn g).toInt = 0) q) + 1) : Int32) := by first | exact congrArg nI (cntP_y (P := fun g => ¬ (tn g).toInt = 0) (show ¬ (tn q).toInt = 0 by omega)) | exact congrArg nI (cntP_n0 (P := fun g => ¬ (tn g).toInt = 0) (show ¬ ¬ (tn q).toInt = 0 by omega))
                have e9_5 : nI (smP (lvF ft st tn) (fun g => nN (mn g)) (q + 1)) = (nI ((smP (lvF ft st tn) (fun g => nN (mn g)) q) + (nN (mn q))) : Int32) := by first | exact congrArg nI (smP_y (P := lvF ft st tn) (by assumption)) | exact congrArg nI (smP_n (P := lvF ft st tn) (by assumption))
                have hl9 : lv_has ls 7 [(6, .int (nI (q + 1))), (5, .int (nI (smP (lvF ft st tn) (fun g => nN (mn g)) (q + 1)))), (4, .int (nI (cntP (fun g => ¬ (tn g).toInt = 0) (q + 1)))), (3, .int (nI (cntP (fun g => (st g).toInt = 2) (q + 1)))), (2, .int (nI (cntP (fun g => (st g).toInt = 1) (q + 1)))), (0, .ref k0), (1, .int 2)] := by rw [e9_2]; rw [e9_3]; rw [e9_4]; rw [e9_5]; exact hl9
                exact ih_13 (q + 1) H locs ls (by omega) (by omega) hP hD hS hl9
          · have c_10 : (st q).toInt = 2 := zc_eq rfl (by decide) c_10
            refine lv_iconst (v := 1) hx hb dX11_count_53 (by decide) ?_
            refine lv_goto (tgt := 58) hx hb dX11_count_54 (by decide) ?_
            refine lv_iadd hx hb dX11_count_58 ?_
            refine zz_i (v := nI ((cntP (fun g => (st g).toInt = 2) q) + 1)) (nI_add (cntP (fun g => (st g).toInt = 2) q) 1) ?_
            refine lv_istore_n (lv' := [(3, .int (nI ((cntP (fun g => (st g).toInt = 2) q) + 1))), (2, .int (nI ((cntP (fun g => (st g).toInt = 1) q) + 1))), (6, .int (nI q)), (5, .int (nI (smP (lvF ft st tn) (fun g => nN (mn g)) q))), (4, .int (nI (cntP (fun g => ¬ (tn g).toInt = 0) q))), (0, .ref k0), (1, .int 2)]) hx hb dX11_count_59 rfl hl (by decide) rfl (fun ls hl => ?_)
            refine lv_iload hx hb dX11_count_60 (lv_at hl 4 rfl) ?_
            refine lv_aload_n hx hb dX11_count_62 rfl (lv_at hl 5 rfl) ?_
            refine va_get (D := (dC, dI)) (ci := 9) (v := .ref (a 6)) (C := RX11) (T := TX11) (N := 55) hx hb hts inX11 hown hK hP 0 rfl rfl 6 (by decide) (hts _ mw_1165) (fun _ h9 => h9) rfl dX11_count_63 ?_
            refine lv_iload hx hb dX11_count_66 (lv_at hl 2 rfl) ?_
            refine z_zald hx hb hK hP 2 1 rfl rfl (e := q) rfl (by omega) (by omega) dX11_count_68 ?_
            refine lv_if_eq (tgt := 76) hx hb dX11_count_69 (by decide) (fun c_14 => ?_) (fun c_14 => ?_)
            · have c_14 : (tn q).toInt = 0 := zc_eq rfl (by decide) c_14
              refine lv_iconst (v := 0) hx hb dX11_count_76 (by decide) ?_
              refine lv_iadd hx hb dX11_count_77 ?_
              refine zz_i (v := nI ((cntP (fun g => ¬ (tn g).toInt = 0) q) + 0)) (nI_add (cntP (fun g => ¬ (tn g).toInt = 0) q) 0) ?_
              refine lv_istore (lv' := [(4, .int (nI ((cntP (fun g => ¬ (tn g).toInt = 0) q) + 0))), (3, .int (nI ((cntP (fun g => (st g).toInt = 2) q) + 1))), (2, .int (nI ((cntP (fun g => (st g).toInt = 1) q) + 1))), (6, .int (nI q)), (5, .int (nI (smP (lvF ft st tn) (fun g => nN (mn g)) q))), (0, .ref k0), (1, .int 2)]) hx hb dX11_count_78 hl (by decide) rfl (fun ls hl => ?_)
              refine lv_iload hx hb dX11_count_80 (lv_at hl 4 rfl) ?_
              refine lv_aload_n hx hb dX11_count_82 rfl (lv_at hl 5 rfl) ?_
              refine lv_iload hx hb dX11_count_83 (lv_at hl 3 rfl) ?_
              have hPc := hP.sub (ws' := [(om k0 a I0 J0), (oa (a 5) cI 201 st), (oa (a 6) cZ 201 tn)]) [0, 1, 2] rfl
              have hDc := hD.sub (ws' := [(om k0 a I0 J0), (oa (a 5) cI 201 st), (oa (a 6) cZ 201 tn)]) [0, 1, 2] (by decide) rfl
              have hFc := va_free (wc := [(om k0 a I0 J0), (oa (a 5) cI 201 st), (oa (a 6) cZ 201 tn)]) hD hS hA [0, 1, 2] rfl
              refine zcall (st1 := [.int (pI (q < ft ∧ (st q).toInt = 1 ∧ (tn q).toInt = 0)), .int (nI (smP (lvF ft st tn) (fun g => nN (mn g)) q))]) (va_runV (As := [.int (nI q)]) (rest := [.int (nI (smP (lvF ft st tn) (fun g => nN (mn g)) q))]) ⟨hx, hb, hml, hown, hts⟩ (k_M_is_n l dC dI cI cZ cF H.size k0 a I0 J0 q ft st tn (by assumption) (by omega) (by omega)) (cwV 1 hts (zz_gV mw_1447 mw_1449 mw_56 mw_110 mc_yX11_is) rfl rfl rfl (by decide +kernel) ⟨Nat.le_of_ble_eq_true rfl, Nat.le_of_ble_eq_true rfl⟩) (zPV2 (q0 := 0) (ci := 9) hPc hDc hK hXN rfl rfl) rfl rfl hl.1 rfl (lv_room (Nat.le_of_ble_eq_true rfl)) dX11_count_85 ⟨Nat.le_of_ble_eq_true rfl, Nat.le_of_ble_eq_true rfl⟩) hS hFc hFc rfl (fun t H1 locs ht hB hk1 hS => ?_)
              obtain ⟨hP1, hD1⟩ := hB
              rw [ht] at hP1
              obtain ⟨hP, hD⟩ := va_join (wr := [(oa (a 11) cI 201 mn)]) (w1 := [(om k0 a I0 J0), (oa (a 5) cI 201 st), (oa (a 6) cZ 201 tn)]) hP hD [0, 1, 2] [3] rfl rfl (by decide) (by decide) hk1 hFc hP1 hD1
              clear hk1 hPc hDc hFc hP1 hD1 ht
              generalize H1 = H at hP hS ⊢
              have hP := hP.sub (ws' := [(om k0 a I0 J0), (oa (a 5) cI 201 st), (oa (a 6) cZ 201 tn), (oa (a 11) cI 201 mn)]) [1, 2, 3, 0] rfl
              have hD := hD.sub (ws' := [(om k0 a I0 J0), (oa (a 5) cI 201 st), (oa (a 6) cZ 201 tn), (oa (a 11) cI 201 mn)]) [1, 2, 3, 0] (by decide) rfl
              have hP : va_P (dC, dI) classes [(om k0 a I0 J0), (oa (a 5) cI 201 st), (oa (a 6) cZ 201 tn), (oa (a 11) cI 201 mn)] H := hP
              have hD : va_D A [(om k0 a I0 J0), (oa (a 5) cI 201 st), (oa (a 6) cZ 201 tn), (oa (a 11) cI 201 mn)] := hD
              refine lv_if_eq (tgt := 101) hx hb dX11_count_88 (by decide) (fun c_15 => ?_) (fun c_15 => ?_)
              · have c_15 : ¬ (q < ft ∧ (st q).toInt = 1 ∧ (tn q).toInt = 0) := zp_0 c_15
                refine lv_iconst (v := 0) hx hb dX11_count_101 (by decide) ?_
                refine lv_iadd hx hb dX11_count_102 ?_
                refine zz_i (v := nI ((smP (lvF ft st tn) (fun g => nN (mn g)) q) + 0)) (nI_add (smP (lvF ft st tn) (fun g => nN (mn g)) q) 0) ?_
                refine lv_istore (lv' := [(5, .int (nI ((smP (lvF ft st tn) (fun g => nN (mn g)) q) + 0))), (4, .int (nI ((cntP (fun g => ¬ (tn g).toInt = 0) q) + 0))), (3, .int (nI ((cntP (fun g => (st g).toInt = 2) q) + 1))), (2, .int (nI ((cntP (fun g => (st g).toInt = 1) q) + 1))), (6, .int (nI q)), (0, .ref k0), (1, .int 2)]) hx hb dX11_count_103 hl (by decide) rfl (fun ls hl => ?_)
                refine lv_iinc (v := nI (q + 1)) (lv' := [(6, .int (nI (q + 1))), (5, .int (nI ((smP (lvF ft st tn) (fun g => nN (mn g)) q) + 0))), (4, .int (nI ((cntP (fun g => ¬ (tn g).toInt = 0) q) + 0))), (3, .int (nI ((cntP (fun g => (st g).toInt = 2) q) + 1))), (2, .int (nI ((cntP (fun g => (st g).toInt = 1) q) + 1))), (0, .ref k0), (1, .int 2)]) hx hb dX11_count_105 hl (k := 4) rfl (nI_add q 1) (by decide) rfl (fun ls hl => ?_)
                refine lv_goto (tgt := 13) hx hb dX11_count_108 (by decide) ?_
                have hl9 := lv_sub hl [0, 1, 2, 3, 4, 5, 6] rfl
                have e9_2 : nI (cntP (fun g => (st g).toInt = 1) (q + 1)) = (nI ((cntP (fun g => (st g).toInt = 1) q) + 1) : Int32) := by first | exact congrArg nI (cntP_y (P := fun g => (st g).toInt = 1) (show (st q).toInt = 1 by omega)) | exact congrArg nI (cntP_n0 (P := fun g => (st g).toInt = 1) (show ¬ (st q).toInt = 1 by omega))
                have e9_3 : nI (cntP (fun g => (st g).toInt = 2) (q + 1)) = (nI ((cntP (fun g => (st g).toInt = 2) q) + 1) : Int32) := by first | exact congrArg nI (cntP_y (P := fun g => (st g).toInt = 2) (show (st q).toInt = 2 by omega)) | exact congrArg nI (cntP_n0 (P := fun g => (st g).toInt = 2) (show ¬ (st q).toInt = 2 by omega))
                have e9_4 : nI (cntP (fun g => ¬ (tn g).toInt = 0) (q + 1)) = (nI ((cntP (fun g => ¬ (tn g).toInt = 0) q) + 0) : Int32) := by first | exact congrArg nI (cntP_y (P := fun g => ¬ (tn g).toInt = 0) (show ¬ (tn q).toInt = 0 by omega)) | exact congrArg nI (cntP_n0 (P := fun g => ¬ (tn g).toInt = 0) (show ¬ ¬ (tn q).toInt = 0 by omega))
                have e9_5 : nI (smP (lvF ft st tn) (fun g => nN (mn g)) (q + 1)) = (nI ((smP (lvF ft st tn) (fun g => nN (mn g)) q) + 0) : Int32) := by first | exact congrArg nI (smP_y (P := lvF ft st tn) (by assumption)) | exact congrArg nI (smP_n (P := lvF ft st tn) (by assumption))
                have hl9 : lv_has ls 7 [(6, .int (nI (q + 1))), (5, .int (nI (smP (lvF ft st tn) (fun g => nN (mn g)) (q + 1)))), (4, .int (nI (cntP (fun g => ¬ (tn g).toInt = 0) (q + 1)))), (3, .int (nI (cntP (fun g => (st g).toInt = 2) (q + 1)))), (2, .int (nI (cntP (fun g => (st g).toInt = 1) (q + 1)))), (0, .ref k0), (1, .int 2)] := by rw [e9_2]; rw [e9_3]; rw [e9_4]; rw [e9_5]; exact hl9
                exact ih_13 (q + 1) H locs ls (by omega) (by omega) hP hD hS hl9
              · have c_15 : q < ft ∧ (st q).toInt = 1 ∧ (tn q).toInt = 0 := zp_1 c_15
                refine lv_aload_n hx hb dX11_count_91 rfl (lv_at hl 5 rfl) ?_
                refine va_get (D := (dC, dI)) (ci := 9) (v := .ref (a 11)) (C := RX11) (T := TX11) (N := 55) hx hb hts inX11 hown hK hP 0 rfl rfl 11 (by decide) (hts _ mw_1170) (fun _ h9 => h9) rfl dX11_count_92 ?_
                refine lv_iload hx hb dX11_count_95 (lv_at hl 3 rfl) ?_
                refine z_iald hx hb hK hP 3 0 rfl rfl (e := q) rfl (by omega) (by omega) dX11_count_97 ?_
                refine zz_i (v := nI (nN (mn q))) ((hmw q (by assumption)).1) ?_
                refine lv_goto (tgt := 102) hx hb dX11_count_98 (by decide) ?_
                refine lv_iadd hx hb dX11_count_102 ?_
                refine zz_i (v := nI ((smP (lvF ft st tn) (fun g => nN (mn g)) q) + (nN (mn q)))) (nI_add (smP (lvF ft st tn) (fun g => nN (mn g)) q) (nN (mn q))) ?_
                refine lv_istore (lv' := [(5, .int (nI ((smP (lvF ft st tn) (fun g => nN (mn g)) q) + (nN (mn q))))), (4, .int (nI ((cntP (fun g => ¬ (tn g).toInt = 0) q) + 0))), (3, .int (nI ((cntP (fun g => (st g).toInt = 2) q) + 1))), (2, .int (nI ((cntP (fun g => (st g).toInt = 1) q) + 1))), (6, .int (nI q)), (0, .ref k0), (1, .int 2)]) hx hb dX11_count_103 hl (by decide) rfl (fun ls hl => ?_)
                refine lv_iinc (v := nI (q + 1)) (lv' := [(6, .int (nI (q + 1))), (5, .int (nI ((smP (lvF ft st tn) (fun g => nN (mn g)) q) + (nN (mn q))))), (4, .int (nI ((cntP (fun g => ¬ (tn g).toInt = 0) q) + 0))), (3, .int (nI ((cntP (fun g => (st g).toInt = 2) q) + 1))), (2, .int (nI ((cntP (fun g => (st g).toInt = 1) q) + 1))), (0, .ref k0), (1, .int 2)]) hx hb dX11_count_105 hl (k := 4) rfl (nI_add q 1) (by decide) rfl (fun ls hl => ?_)
                refine lv_goto (tgt := 13) hx hb dX11_count_108 (by decide) ?_
                have hl9 := lv_sub hl [0, 1, 2, 3, 4, 5, 6] rfl
                have e9_2 : nI (cntP (fun g => (st g).toInt = 1) (q + 1)) = (nI ((cntP (fun g => (st g).toInt = 1) q) + 1) : Int32) := by first | exact congrArg nI (cntP_y (P := fun g => (st g).toInt = 1) (show (st q).toInt = 1 by omega)) | exact congrArg nI (cntP_n0 (P := fun g => (st g).toInt = 1) (show ¬ (st q).toInt = 1 by omega))
                have e9_3 : nI (cntP (fun g => (st g).toInt = 2) (q + 1)) = (nI ((cntP (fun g => (st g).toInt = 2) q) + 1) : Int32) := by first | exact congrArg nI (cntP_y (P := fun g => (st g).toInt = 2) (show (st q).toInt = 2 by omega)) | exact congrArg nI (cntP_n0 (P := fun g => (st g).toInt = 2) (show ¬ (st q).toInt = 2 by omega))
                have e9_4 : nI (cntP (fun g => ¬ (tn g).toInt = 0) (q + 1)) = (nI ((cntP (fun g => ¬ (tn g).toInt = 0) q) + 0) : Int32) := by first | exact congrArg nI (cntP_y (P := fun g => ¬ (tn g).toInt = 0) (show ¬ (tn q).toInt = 0 by omega)) | exact congrArg nI (cntP_n0 (P := fun g => ¬ (tn g).toInt = 0) (show ¬ ¬ (tn q).toInt = 0 by omega))
                have e9_5 : nI (smP (lvF ft st tn) (fun g => nN (mn g)) (q + 1)) = (nI ((smP (lvF ft st tn) (fun g => nN (mn g)) q) + (nN (mn q))) : Int32) := by first | exact congrArg nI (smP_y (P := lvF ft st tn) (by assumption)) | exact congrArg nI (smP_n (P := lvF ft st tn) (by assumption))
                have hl9 : lv_has ls 7 [(6, .int (nI (q + 1))), (5, .int (nI (smP (lvF ft st tn) (fun g => nN (mn g)) (q + 1)))), (4, .int (nI (cntP (fun g => ¬ (tn g).toInt = 0) (q + 1)))), (3, .int (nI (cntP (fun g => (st g).toInt = 2) (q + 1)))), (2, .int (nI (cntP (fun g => (st g).toInt = 1) (q + 1)))), (0, .ref k0), (1, .int 2)] := by rw [e9_2]; rw [e9_3]; rw [e9_4]; rw [e9_5]; exact hl9
                exact ih_13 (q + 1) H locs ls (by omega) (by omega) hP hD hS hl9
            · have c_14 : ¬ (tn q).toInt = 0 := zc_ne rfl (by decide) c_14
              refine lv_iconst (v := 1) hx hb dX11_count_72 (by decide) ?_
              refine lv_goto (tgt := 77) hx hb dX11_count_73 (by decide) ?_
              refine lv_iadd hx hb dX11_count_77 ?_
              refine zz_i (v := nI ((cntP (fun g => ¬ (tn g).toInt = 0) q) + 1)) (nI_add (cntP (fun g => ¬ (tn g).toInt = 0) q) 1) ?_
              refine lv_istore (lv' := [(4, .int (nI ((cntP (fun g => ¬ (tn g).toInt = 0) q) + 1))), (3, .int (nI ((cntP (fun g => (st g).toInt = 2) q) + 1))), (2, .int (nI ((cntP (fun g => (st g).toInt = 1) q) + 1))), (6, .int (nI q)), (5, .int (nI (smP (lvF ft st tn) (fun g => nN (mn g)) q))), (0, .ref k0), (1, .int 2)]) hx hb dX11_count_78 hl (by decide) rfl (fun ls hl => ?_)
              refine lv_iload hx hb dX11_count_80 (lv_at hl 4 rfl) ?_
              refine lv_aload_n hx hb dX11_count_82 rfl (lv_at hl 5 rfl) ?_
              refine lv_iload hx hb dX11_count_83 (lv_at hl 3 rfl) ?_
              have hPc := hP.sub (ws' := [(om k0 a I0 J0), (oa (a 5) cI 201 st), (oa (a 6) cZ 201 tn)]) [0, 1, 2] rfl
              have hDc := hD.sub (ws' := [(om k0 a I0 J0), (oa (a 5) cI 201 st), (oa (a 6) cZ 201 tn)]) [0, 1, 2] (by decide) rfl
              have hFc := va_free (wc := [(om k0 a I0 J0), (oa (a 5) cI 201 st), (oa (a 6) cZ 201 tn)]) hD hS hA [0, 1, 2] rfl
              refine zcall (st1 := [.int (pI (q < ft ∧ (st q).toInt = 1 ∧ (tn q).toInt = 0)), .int (nI (smP (lvF ft st tn) (fun g => nN (mn g)) q))]) (va_runV (As := [.int (nI q)]) (rest := [.int (nI (smP (lvF ft st tn) (fun g => nN (mn g)) q))]) ⟨hx, hb, hml, hown, hts⟩ (k_M_is_n l dC dI cI cZ cF H.size k0 a I0 J0 q ft st tn (by assumption) (by omega) (by omega)) (cwV 1 hts (zz_gV mw_1447 mw_1449 mw_56 mw_110 mc_yX11_is) rfl rfl rfl (by decide +kernel) ⟨Nat.le_of_ble_eq_true rfl, Nat.le_of_ble_eq_true rfl⟩) (zPV2 (q0 := 0) (ci := 9) hPc hDc hK hXN rfl rfl) rfl rfl hl.1 rfl (lv_room (Nat.le_of_ble_eq_true rfl)) dX11_count_85 ⟨Nat.le_of_ble_eq_true rfl, Nat.le_of_ble_eq_true rfl⟩) hS hFc hFc rfl (fun t H1 locs ht hB hk1 hS => ?_)
              obtain ⟨hP1, hD1⟩ := hB
              rw [ht] at hP1
              obtain ⟨hP, hD⟩ := va_join (wr := [(oa (a 11) cI 201 mn)]) (w1 := [(om k0 a I0 J0), (oa (a 5) cI 201 st), (oa (a 6) cZ 201 tn)]) hP hD [0, 1, 2] [3] rfl rfl (by decide) (by decide) hk1 hFc hP1 hD1
              clear hk1 hPc hDc hFc hP1 hD1 ht
              generalize H1 = H at hP hS ⊢
              have hP := hP.sub (ws' := [(om k0 a I0 J0), (oa (a 5) cI 201 st), (oa (a 6) cZ 201 tn), (oa (a 11) cI 201 mn)]) [1, 2, 3, 0] rfl
              have hD := hD.sub (ws' := [(om k0 a I0 J0), (oa (a 5) cI 201 st), (oa (a 6) cZ 201 tn), (oa (a 11) cI 201 mn)]) [1, 2, 3, 0] (by decide) rfl
              have hP : va_P (dC, dI) classes [(om k0 a I0 J0), (oa (a 5) cI 201 st), (oa (a 6) cZ 201 tn), (oa (a 11) cI 201 mn)] H := hP
              have hD : va_D A [(om k0 a I0 J0), (oa (a 5) cI 201 st), (oa (a 6) cZ 201 tn), (oa (a 11) cI 201 mn)] := hD
              refine lv_if_eq (tgt := 101) hx hb dX11_count_88 (by decide) (fun c_16 => ?_) (fun c_16 => ?_)
              · have c_16 : ¬ (q < ft ∧ (st q).toInt = 1 ∧ (tn q).toInt = 0) := zp_0 c_16
                refine lv_iconst (v := 0) hx hb dX11_count_101 (by decide) ?_
                refine lv_iadd hx hb dX11_count_102 ?_
                refine zz_i (v := nI ((smP (lvF ft st tn) (fun g => nN (mn g)) q) + 0)) (nI_add (smP (lvF ft st tn) (fun g => nN (mn g)) q) 0) ?_
                refine lv_istore (lv' := [(5, .int (nI ((smP (lvF ft st tn) (fun g => nN (mn g)) q) + 0))), (4, .int (nI ((cntP (fun g => ¬ (tn g).toInt = 0) q) + 1))), (3, .int (nI ((cntP (fun g => (st g).toInt = 2) q) + 1))), (2, .int (nI ((cntP (fun g => (st g).toInt = 1) q) + 1))), (6, .int (nI q)), (0, .ref k0), (1, .int 2)]) hx hb dX11_count_103 hl (by decide) rfl (fun ls hl => ?_)
                refine lv_iinc (v := nI (q + 1)) (lv' := [(6, .int (nI (q + 1))), (5, .int (nI ((smP (lvF ft st tn) (fun g => nN (mn g)) q) + 0))), (4, .int (nI ((cntP (fun g => ¬ (tn g).toInt = 0) q) + 1))), (3, .int (nI ((cntP (fun g => (st g).toInt = 2) q) + 1))), (2, .int (nI ((cntP (fun g => (st g).toInt = 1) q) + 1))), (0, .ref k0), (1, .int 2)]) hx hb dX11_count_105 hl (k := 4) rfl (nI_add q 1) (by decide) rfl (fun ls hl => ?_)
                refine lv_goto (tgt := 13) hx hb dX11_count_108 (by decide) ?_
                have hl9 := lv_sub hl [0, 1, 2, 3, 4, 5, 6] rfl
                have e9_2 : nI (cntP (fun g => (st g).toInt = 1) (q + 1)) = (nI ((cntP (fun g => (st g).toInt = 1) q) + 1) : Int32) := by first | exact congrArg nI (cntP_y (P := fun g => (st g).toInt = 1) (show (st q).toInt = 1 by omega)) | exact congrArg nI (cntP_n0 (P := fun g => (st g).toInt = 1) (show ¬ (st q).toInt = 1 by omega))
                have e9_3 : nI (cntP (fun g => (st g).toInt = 2) (q + 1)) = (nI ((cntP (fun g => (st g).toInt = 2) q) + 1) : Int32) := by first | exact congrArg nI (cntP_y (P := fun g => (st g).toInt = 2) (show (st q).toInt = 2 by omega)) | exact congrArg nI (cntP_n0 (P := fun g => (st g).toInt = 2) (show ¬ (st q).toInt = 2 by omega))
                have e9_4 : nI (cntP (fun g => ¬ (tn g).toInt = 0) (q + 1)) = (nI ((cntP (fun g => ¬ (tn g).toInt = 0) q) + 1) : Int32) := by first | exact congrArg nI (cntP_y (P := fun g => ¬ (tn g).toInt = 0) (show ¬ (tn q).toInt = 0 by omega)) | exact congrArg nI (cntP_n0 (P := fun g => ¬ (tn g).toInt = 0) (show ¬ ¬ (tn q).toInt = 0 by omega))
                have e9_5 : nI (smP (lvF ft st tn) (fun g => nN (mn g)) (q + 1)) = (nI ((smP (lvF ft st tn) (fun g => nN (mn g)) q) + 0) : Int32) := by first | exact congrArg nI (smP_y (P := lvF ft st tn) (by assumption)) | exact congrArg nI (smP_n (P := lvF ft st tn) (by assumption))
                have hl9 : lv_has ls 7 [(6, .int (nI (q + 1))), (5, .int (nI (smP (lvF ft st tn) (fun g => nN (mn g)) (q + 1)))), (4, .int (nI (cntP (fun g => ¬ (tn g).toInt = 0) (q + 1)))), (3, .int (nI (cntP (fun g => (st g).toInt = 2) (q + 1)))), (2, .int (nI (cntP (fun g => (st g).toInt = 1) (q + 1)))), (0, .ref k0), (1, .int 2)] := by rw [e9_2]; rw [e9_3]; rw [e9_4]; rw [e9_5]; exact hl9
                exact ih_13 (q + 1) H locs ls (by omega) (by omega) hP hD hS hl9
              · have c_16 : q < ft ∧ (st q).toInt = 1 ∧ (tn q).toInt = 0 := zp_1 c_16
                refine lv_aload_n hx hb dX11_count_91 rfl (lv_at hl 5 rfl) ?_
                refine va_get (D := (dC, dI)) (ci := 9) (v := .ref (a 11)) (C := RX11) (T := TX11) (N := 55) hx hb hts inX11 hown hK hP 0 rfl rfl 11 (by decide) (hts _ mw_1170) (fun _ h9 => h9) rfl dX11_count_92 ?_
                refine lv_iload hx hb dX11_count_95 (lv_at hl 3 rfl) ?_
                refine z_iald hx hb hK hP 3 0 rfl rfl (e := q) rfl (by omega) (by omega) dX11_count_97 ?_
                refine zz_i (v := nI (nN (mn q))) ((hmw q (by assumption)).1) ?_
                refine lv_goto (tgt := 102) hx hb dX11_count_98 (by decide) ?_
                refine lv_iadd hx hb dX11_count_102 ?_
                refine zz_i (v := nI ((smP (lvF ft st tn) (fun g => nN (mn g)) q) + (nN (mn q)))) (nI_add (smP (lvF ft st tn) (fun g => nN (mn g)) q) (nN (mn q))) ?_
                refine lv_istore (lv' := [(5, .int (nI ((smP (lvF ft st tn) (fun g => nN (mn g)) q) + (nN (mn q))))), (4, .int (nI ((cntP (fun g => ¬ (tn g).toInt = 0) q) + 1))), (3, .int (nI ((cntP (fun g => (st g).toInt = 2) q) + 1))), (2, .int (nI ((cntP (fun g => (st g).toInt = 1) q) + 1))), (6, .int (nI q)), (0, .ref k0), (1, .int 2)]) hx hb dX11_count_103 hl (by decide) rfl (fun ls hl => ?_)
                refine lv_iinc (v := nI (q + 1)) (lv' := [(6, .int (nI (q + 1))), (5, .int (nI ((smP (lvF ft st tn) (fun g => nN (mn g)) q) + (nN (mn q))))), (4, .int (nI ((cntP (fun g => ¬ (tn g).toInt = 0) q) + 1))), (3, .int (nI ((cntP (fun g => (st g).toInt = 2) q) + 1))), (2, .int (nI ((cntP (fun g => (st g).toInt = 1) q) + 1))), (0, .ref k0), (1, .int 2)]) hx hb dX11_count_105 hl (k := 4) rfl (nI_add q 1) (by decide) rfl (fun ls hl => ?_)
                refine lv_goto (tgt := 13) hx hb dX11_count_108 (by decide) ?_
                have hl9 := lv_sub hl [0, 1, 2, 3, 4, 5, 6] rfl
                have e9_2 : nI (cntP (fun g => (st g).toInt = 1) (q + 1)) = (nI ((cntP (fun g => (st g).toInt = 1) q) + 1) : Int32) := by first | exact congrArg nI (cntP_y (P := fun g => (st g).toInt = 1) (show (st q).toInt = 1 by omega)) | exact congrArg nI (cntP_n0 (P := fun g => (st g).toInt = 1) (show ¬ (st q).toInt = 1 by omega))
                have e9_3 : nI (cntP (fun g => (st g).toInt = 2) (q + 1)) = (nI ((cntP (fun g => (st g).toInt = 2) q) + 1) : Int32) := by first | exact congrArg nI (cntP_y (P := fun g => (st g).toInt = 2) (show (st q).toInt = 2 by omega)) | exact congrArg nI (cntP_n0 (P := fun g => (st g).toInt = 2) (show ¬ (st q).toInt = 2 by omega))
                have e9_4 : nI (cntP (fun g => ¬ (tn g).toInt = 0) (q + 1)) = (nI ((cntP (fun g => ¬ (tn g).toInt = 0) q) + 1) : Int32) := by first | exact congrArg nI (cntP_y (P := fun g => ¬ (tn g).toInt = 0) (show ¬ (tn q).toInt = 0 by omega)) | exact congrArg nI (cntP_n0 (P := fun g => ¬ (tn g).toInt = 0) (show ¬ ¬ (tn q).toInt = 0 by omega))
                have e9_5 : nI (smP (lvF ft st tn) (fun g => nN (mn g)) (q + 1)) = (nI ((smP (lvF ft st tn) (fun g => nN (mn g)) q) + (nN (mn q))) : Int32) := by first | exact congrArg nI (smP_y (P := lvF ft st tn) (by assumption)) | exact congrArg nI (smP_n (P := lvF ft st tn) (by assumption))
                have hl9 : lv_has ls 7 [(6, .int (nI (q + 1))), (5, .int (nI (smP (lvF ft st tn) (fun g => nN (mn g)) (q + 1)))), (4, .int (nI (cntP (fun g => ¬ (tn g).toInt = 0) (q + 1)))), (3, .int (nI (cntP (fun g => (st g).toInt = 2) (q + 1)))), (2, .int (nI (cntP (fun g => (st g).toInt = 1) (q + 1)))), (0, .ref k0), (1, .int 2)] := by rw [e9_2]; rw [e9_3]; rw [e9_4]; rw [e9_5]; exact hl9
                exact ih_13 (q + 1) H locs ls (by omega) (by omega) hP hD hS hl9
  have e9_2 : nI (cntP (fun g => (st g).toInt = 1) 0) = (0 : Int32) := by rfl
  have e9_3 : nI (cntP (fun g => (st g).toInt = 2) 0) = (0 : Int32) := by rfl
  have e9_4 : nI (cntP (fun g => ¬ (tn g).toInt = 0) 0) = (0 : Int32) := by rfl
  have e9_5 : nI (smP (lvF ft st tn) (fun g => nN (mn g)) 0) = (0 : Int32) := by rfl
  have hl9 : lv_has ls 7 [(6, .int (nI 0)), (5, .int (nI (smP (lvF ft st tn) (fun g => nN (mn g)) 0))), (4, .int (nI (cntP (fun g => ¬ (tn g).toInt = 0) 0))), (3, .int (nI (cntP (fun g => (st g).toInt = 2) 0))), (2, .int (nI (cntP (fun g => (st g).toInt = 1) 0))), (0, .ref k0), (1, .int 2)] := by rw [e9_2]; rw [e9_3]; rw [e9_4]; rw [e9_5]; exact lv_sub hl [0, 1, 2, 3, 4, 5, 6] rfl
  exact hl_13 _ 0 s.heap [] ls (Nat.lt_succ_self _) (by omega) hP hD hS hl9
set_option maxHeartbeats 4000000 in
set_option maxRecDepth 100000 in
theorem k_M_count_3 (l : Launch) (dC : Nat → ClassId) (dI : Nat → Nat → Nat) (cI cZ cF : ClassId) (sz : Nat) (k0 : Nat) (a : Nat → Nat) (I0 : Nat → Int32) (J0 : Nat → Int64) (ft : Nat) (st : Nat → Int32) (tn : Nat → Int32) (mn : Nat → Int32) (hft : I0 0 = nI ft) (h200 : ft ≤ 200) (hmw : ∀ q, lvF ft st tn q → mn q = nI (nN (mn q)) ∧ nN (mn q) ≤ 40) : Met l yX11_count (.code yX11_count cX11_count 7 (some .int) :: ws0) ({ frames := 2, cells := 0, slots := 0, locals := 42 } : Room) (va_Pc [.ref k0, .int 3] (zPre (dC, dI) classes (zTy cI cZ cF) [(om k0 a I0 J0), (oa (a 5) cI 201 st), (oa (a 6) cZ 201 tn), (oa (a 11) cI 201 mn)] sz zXN)) (zQ (some (.int (nI (cntP (fun g => ¬ (tn g).toInt = 0) ft)))) (fun t => va_P (dC, dI) classes [(om k0 a I0 J0), (oa (a 5) cI 201 st), (oa (a 6) cZ 201 tn), (oa (a 11) cI 201 mn)] t.heap ∧ va_D (va_A [(om k0 a I0 J0), (oa (a 5) cI 201 st), (oa (a 6) cZ 201 tn), (oa (a 11) cI 201 mn)] sz) [(om k0 a I0 J0), (oa (a 5) cI 201 st), (oa (a 6) cZ 201 tn), (oa (a 11) cI 201 mn)]) (va_A [(om k0 a I0 J0), (oa (a 5) cI 201 st), (oa (a 6) cZ 201 tn), (oa (a 11) cI 201 mn)] sz)) 0 0 (va_A [(om k0 a I0 J0), (oa (a 5) cI 201 st), (oa (a 6) cZ 201 tn), (oa (a 11) cI 201 mn)] sz) := by
  refine Met.ofW (cc := cX11_count) (maxL := 7) (ret := (some .int)) (by decide) rfl ?_
  intro p e s m args below meth c s₁ B hml hv
  obtain ⟨rfl, hsz, hP, hK, hD0, hXN⟩ := hv
  have hx := B.exec
  have hb := B.bytes
  have hr := B.returns
  have hts0 := atoms_spec (ws := .code yX11_count cX11_count 7 (some .int) :: ws0) B.pre
  have hts : ∀ w9 ∈ ws0, w9.before ([.ref k0, .int 3] : List Value).toArray s = true := fun w9 h => hts0 w9 (List.mem_cons_of_mem _ h)
  have hown : s.vm.findClass "ScaleShopModel" = some m.cls := findClass_of_methodNamed B.named
  have hlocks := B.notSynchronized
  subst hsz
  have hD := hD0.self (sz := s.heap.size)
  clear hD0
  generalize hAe : va_A [(om k0 a I0 J0), (oa (a 5) cI 201 st), (oa (a 6) cZ 201 tn), (oa (a 11) cI 201 mn)] s.heap.size = A at hD ⊢
  have hA : ∀ q : Nat, s.heap.size ≤ q → A q := fun q h => by rw [← hAe]; exact Or.inr h
  clear hAe
  have hS : va_S A s.heap s.heap [] := va_S.rf
  have hP : va_P (dC, dI) classes [(om k0 a I0 J0), (oa (a 5) cI 201 st), (oa (a 6) cZ 201 tn), (oa (a 11) cI 201 mn)] s.heap := hP
  obtain ⟨Q9, hQ9⟩ : ∃ Q9 : State → Prop, Q9 = MQ below (zQ (some (.int (nI (cntP (fun g => ¬ (tn g).toInt = 0) ft)))) (fun t => va_P (dC, dI) classes [(om k0 a I0 J0), (oa (a 5) cI 201 st), (oa (a 6) cZ 201 tn), (oa (a 11) cI 201 mn)] t.heap ∧ va_D A [(om k0 a I0 J0), (oa (a 5) cI 201 st), (oa (a 6) cZ 201 tn), (oa (a 11) cI 201 mn)]) A) ([.ref k0, .int 3] : List Value).toArray s 0 0 A := ⟨_, rfl⟩
  rw [← hQ9]
  have hl := lv_entry ([.ref k0, .int 3]) (n := 7) (Nat.le_of_ble_eq_true rfl)
  rw [lg_entry_eq]
  generalize (lg_sl ([.ref k0, .int 3]) ++ List.replicate (7 - (lg_sl ([.ref k0, .int 3])).length) Slot.unset).toArray = ls at hl ⊢
  have hl : lv_has ls 7 [(0, .ref k0), (1, .int 3)] := hl
  refine lv_iconst (v := 0) hx hb dX11_count_0 (by decide) ?_
  refine lv_istore_n (lv' := [(2, .int 0), (0, .ref k0), (1, .int 3)]) hx hb dX11_count_1 rfl hl (by decide) rfl (fun ls hl => ?_)
  refine lv_iconst (v := 0) hx hb dX11_count_2 (by decide) ?_
  refine lv_istore_n (lv' := [(3, .int 0), (2, .int 0), (0, .ref k0), (1, .int 3)]) hx hb dX11_count_3 rfl hl (by decide) rfl (fun ls hl => ?_)
  refine lv_iconst (v := 0) hx hb dX11_count_4 (by decide) ?_
  refine lv_istore (lv' := [(4, .int 0), (3, .int 0), (2, .int 0), (0, .ref k0), (1, .int 3)]) hx hb dX11_count_5 hl (by decide) rfl (fun ls hl => ?_)
  refine lv_iconst (v := 0) hx hb dX11_count_7 (by decide) ?_
  refine lv_istore (lv' := [(5, .int 0), (4, .int 0), (3, .int 0), (2, .int 0), (0, .ref k0), (1, .int 3)]) hx hb dX11_count_8 hl (by decide) rfl (fun ls hl => ?_)
  refine lv_iconst (v := 0) hx hb dX11_count_10 (by decide) ?_
  refine lv_istore (lv' := [(6, .int 0), (5, .int 0), (4, .int 0), (3, .int 0), (2, .int 0), (0, .ref k0), (1, .int 3)]) hx hb dX11_count_11 hl (by decide) rfl (fun ls hl => ?_)
  have hl_13 : ∀ (n9 : Nat) (q : Nat) (H : Heap) (locs : List Loc) (ls : Array Slot), ft - q < n9 → (q ≤ ft) → va_P (dC, dI) classes [(om k0 a I0 J0), (oa (a 5) cI 201 st), (oa (a 6) cZ 201 tn), (oa (a 11) cI 201 mn)] H → va_D A [(om k0 a I0 J0), (oa (a 5) cI 201 st), (oa (a 6) cZ 201 tn), (oa (a 11) cI 201 mn)] → va_S A s.heap H locs → lv_has ls 7 [(6, .int (nI q)), (5, .int (nI (smP (lvF ft st tn) (fun g => nN (mn g)) q))), (4, .int (nI (cntP (fun g => ¬ (tn g).toInt = 0) q))), (3, .int (nI (cntP (fun g => (st g).toInt = 2) q))), (2, .int (nI (cntP (fun g => (st g).toInt = 1) q))), (0, .ref k0), (1, .int 3)] → W p l e ((headSpec (.code yX11_count cX11_count 7 (some .int) :: ws0) ({ frames := 2, cells := 0, slots := 0, locals := 42 } : Room)).room) s m ([.ref k0, .int 3] : List Value).toArray below meth c H locs 0 0 Q9 (F0 m 13 ls []) := by
    intro n9
    induction n9 with
    | zero => intro q H locs ls hm; exact absurd hm (Nat.not_lt_zero _)
    | succ n9 ih_13 =>
      intro q H locs ls hm hq hP hD hS hl
      have hc2 := cntP_b (fun g => (st g).toInt = 1) q
      have hc3 := cntP_b (fun g => (st g).toInt = 2) q
      have hc4 := cntP_b (fun g => ¬ (tn g).toInt = 0) q
      have hc5 := smP_b (P := lvF ft st tn) (c := fun g => nN (mn g)) q (fun j _ h => (hmw j h).2)
      refine lv_iload hx hb dX11_count_13 (lv_at hl 0 rfl) ?_
      refine lv_aload_n hx hb dX11_count_15 rfl (lv_at hl 5 rfl) ?_
      refine va_get (D := (dC, dI)) (ci := 9) (v := .int (I0 0)) (C := RX11) (T := TX11) (N := 55) hx hb hts inX11 hown hK hP 0 rfl rfl 0 (by decide) (hts _ mw_1159) (fun _ h9 => h9) rfl dX11_count_16 ?_
      refine zz_i (v := nI ft) (hft) ?_
      refine lv_icmp_ge (tgt := 111) hx hb dX11_count_19 (by decide) (fun c_1 => ?_) (fun c_1 => ?_)
      · have c_1 : ((ft : Nat) : Int) ≤ ((q : Nat) : Int) := zc_le (nI_toInt (by omega)) (nI_toInt (by omega)) c_1
        refine lv_iload_n hx hb dX11_count_111 rfl (lv_at hl 6 rfl) ?_
        refine lv_tableIn (tgt := 169) (off := 57) hx hb dX11_count_112 (by decide) (by decide) (by decide) (by decide) ?_
        refine lv_iload hx hb dX11_count_169 (lv_at hl 2 rfl) ?_
        have hP9 := hP.sub (ws' := [(om k0 a I0 J0), (oa (a 5) cI 201 st), (oa (a 6) cZ 201 tn), (oa (a 11) cI 201 mn)]) [0, 1, 2, 3] rfl
        have hD9 := hD.sub (ws' := [(om k0 a I0 J0), (oa (a 5) cI 201 st), (oa (a 6) cZ 201 tn), (oa (a 11) cI 201 mn)]) [0, 1, 2, 3] (by decide) rfl
        rw [hQ9]
        exact W.iret (v := nI (cntP (fun g => ¬ (tn g).toInt = 0) q)) hx hb hr (fun t ht hW => ⟨⟨congrArg (fun z => Outcome.returned (some (Value.int z))) (show (nI (cntP (fun g => ¬ (tn g).toInt = 0) q) : Int32) = nI (cntP (fun g => ¬ (tn g).toInt = 0) ft) from zn_eq (by rw [show q = ft by omega])), by rw [ht]; exact hP9, hD9⟩, hS.F ht⟩) hS.2.2 dX11_count_171
      · have c_1 : ((q : Nat) : Int) < ((ft : Nat) : Int) := zc_nle (nI_toInt (by omega)) (nI_toInt (by omega)) c_1
        refine lv_iload_n hx hb dX11_count_22 rfl (lv_at hl 4 rfl) ?_
        refine lv_aload_n hx hb dX11_count_23 rfl (lv_at hl 5 rfl) ?_
        refine va_get (D := (dC, dI)) (ci := 9) (v := .ref (a 5)) (C := RX11) (T := TX11) (N := 55) hx hb hts inX11 hown hK hP 0 rfl rfl 5 (by decide) (hts _ mw_1164) (fun _ h9 => h9) rfl dX11_count_24 ?_
        refine lv_iload hx hb dX11_count_27 (lv_at hl 0 rfl) ?_
        refine z_iald hx hb hK hP 1 0 rfl rfl (e := q) rfl (by omega) (by omega) dX11_count_29 ?_
        refine lv_iconst (v := 1) hx hb dX11_count_30 (by decide) ?_
        refine lv_icmp_ne (tgt := 38) hx hb dX11_count_31 (by decide) (fun c_2 => ?_) (fun c_2 => ?_)
        · have c_2 : ¬ (st q).toInt = 1 := zc_ne rfl (by decide) c_2
          refine lv_iconst (v := 0) hx hb dX11_count_38 (by decide) ?_
          refine lv_iadd hx hb dX11_count_39 ?_
          refine zz_i (v := nI ((cntP (fun g => (st g).toInt = 1) q) + 0)) (nI_add (cntP (fun g => (st g).toInt = 1) q) 0) ?_
          refine lv_istore_n (lv' := [(2, .int (nI ((cntP (fun g => (st g).toInt = 1) q) + 0))), (6, .int (nI q)), (5, .int (nI (smP (lvF ft st tn) (fun g => nN (mn g)) q))), (4, .int (nI (cntP (fun g => ¬ (tn g).toInt = 0) q))), (3, .int (nI (cntP (fun g => (st g).toInt = 2) q))), (0, .ref k0), (1, .int 3)]) hx hb dX11_count_40 rfl hl (by decide) rfl (fun ls hl => ?_)
          refine lv_iload_n hx hb dX11_count_41 rfl (lv_at hl 4 rfl) ?_
          refine lv_aload_n hx hb dX11_count_42 rfl (lv_at hl 5 rfl) ?_
          refine va_get (D := (dC, dI)) (ci := 9) (v := .ref (a 5)) (C := RX11) (T := TX11) (N := 55) hx hb hts inX11 hown hK hP 0 rfl rfl 5 (by decide) (hts _ mw_1164) (fun _ h9 => h9) rfl dX11_count_43 ?_
          refine lv_iload hx hb dX11_count_46 (lv_at hl 1 rfl) ?_
          refine z_iald hx hb hK hP 1 0 rfl rfl (e := q) rfl (by omega) (by omega) dX11_count_48 ?_
          refine lv_iconst (v := 2) hx hb dX11_count_49 (by decide) ?_
          refine lv_icmp_ne (tgt := 57) hx hb dX11_count_50 (by decide) (fun c_3 => ?_) (fun c_3 => ?_)
          · have c_3 : ¬ (st q).toInt = 2 := zc_ne rfl (by decide) c_3
            refine lv_iconst (v := 0) hx hb dX11_count_57 (by decide) ?_
            refine lv_iadd hx hb dX11_count_58 ?_
            refine zz_i (v := nI ((cntP (fun g => (st g).toInt = 2) q) + 0)) (nI_add (cntP (fun g => (st g).toInt = 2) q) 0) ?_
            refine lv_istore_n (lv' := [(3, .int (nI ((cntP (fun g => (st g).toInt = 2) q) + 0))), (2, .int (nI ((cntP (fun g => (st g).toInt = 1) q) + 0))), (6, .int (nI q)), (5, .int (nI (smP (lvF ft st tn) (fun g => nN (mn g)) q))), (4, .int (nI (cntP (fun g => ¬ (tn g).toInt = 0) q))), (0, .ref k0), (1, .int 3)]) hx hb dX11_count_59 rfl hl (by decide) rfl (fun ls hl => ?_)
            refine lv_iload hx hb dX11_count_60 (lv_at hl 4 rfl) ?_
            refine lv_aload_n hx hb dX11_count_62 rfl (lv_at hl 5 rfl) ?_
            refine va_get (D := (dC, dI)) (ci := 9) (v := .ref (a 6)) (C := RX11) (T := TX11) (N := 55) hx hb hts inX11 hown hK hP 0 rfl rfl 6 (by decide) (hts _ mw_1165) (fun _ h9 => h9) rfl dX11_count_63 ?_
            refine lv_iload hx hb dX11_count_66 (lv_at hl 2 rfl) ?_
            refine z_zald hx hb hK hP 2 1 rfl rfl (e := q) rfl (by omega) (by omega) dX11_count_68 ?_
            refine lv_if_eq (tgt := 76) hx hb dX11_count_69 (by decide) (fun c_4 => ?_) (fun c_4 => ?_)
            · have c_4 : (tn q).toInt = 0 := zc_eq rfl (by decide) c_4
              refine lv_iconst (v := 0) hx hb dX11_count_76 (by decide) ?_
              refine lv_iadd hx hb dX11_count_77 ?_
              refine zz_i (v := nI ((cntP (fun g => ¬ (tn g).toInt = 0) q) + 0)) (nI_add (cntP (fun g => ¬ (tn g).toInt = 0) q) 0) ?_
              refine lv_istore (lv' := [(4, .int (nI ((cntP (fun g => ¬ (tn g).toInt = 0) q) + 0))), (3, .int (nI ((cntP (fun g => (st g).toInt = 2) q) + 0))), (2, .int (nI ((cntP (fun g => (st g).toInt = 1) q) + 0))), (6, .int (nI q)), (5, .int (nI (smP (lvF ft st tn) (fun g => nN (mn g)) q))), (0, .ref k0), (1, .int 3)]) hx hb dX11_count_78 hl (by decide) rfl (fun ls hl => ?_)
              refine lv_iload hx hb dX11_count_80 (lv_at hl 4 rfl) ?_
              refine lv_aload_n hx hb dX11_count_82 rfl (lv_at hl 5 rfl) ?_
              refine lv_iload hx hb dX11_count_83 (lv_at hl 3 rfl) ?_
              have hPc := hP.sub (ws' := [(om k0 a I0 J0), (oa (a 5) cI 201 st), (oa (a 6) cZ 201 tn)]) [0, 1, 2] rfl
              have hDc := hD.sub (ws' := [(om k0 a I0 J0), (oa (a 5) cI 201 st), (oa (a 6) cZ 201 tn)]) [0, 1, 2] (by decide) rfl
              have hFc := va_free (wc := [(om k0 a I0 J0), (oa (a 5) cI 201 st), (oa (a 6) cZ 201 tn)]) hD hS hA [0, 1, 2] rfl
              refine zcall (st1 := [.int (pI (q < ft ∧ (st q).toInt = 1 ∧ (tn q).toInt = 0)), .int (nI (smP (lvF ft st tn) (fun g => nN (mn g)) q))]) (va_runV (As := [.int (nI q)]) (rest := [.int (nI (smP (lvF ft st tn) (fun g => nN (mn g)) q))]) ⟨hx, hb, hml, hown, hts⟩ (k_M_is_n l dC dI cI cZ cF H.size k0 a I0 J0 q ft st tn (by assumption) (by omega) (by omega)) (cwV 1 hts (zz_gV mw_1447 mw_1449 mw_56 mw_110 mc_yX11_is) rfl rfl rfl (by decide +kernel) ⟨Nat.le_of_ble_eq_true rfl, Nat.le_of_ble_eq_true rfl⟩) (zPV2 (q0 := 0) (ci := 9) hPc hDc hK hXN rfl rfl) rfl rfl hl.1 rfl (lv_room (Nat.le_of_ble_eq_true rfl)) dX11_count_85 ⟨Nat.le_of_ble_eq_true rfl, Nat.le_of_ble_eq_true rfl⟩) hS hFc hFc rfl (fun t H1 locs ht hB hk1 hS => ?_)
              obtain ⟨hP1, hD1⟩ := hB
              rw [ht] at hP1
              obtain ⟨hP, hD⟩ := va_join (wr := [(oa (a 11) cI 201 mn)]) (w1 := [(om k0 a I0 J0), (oa (a 5) cI 201 st), (oa (a 6) cZ 201 tn)]) hP hD [0, 1, 2] [3] rfl rfl (by decide) (by decide) hk1 hFc hP1 hD1
              clear hk1 hPc hDc hFc hP1 hD1 ht
              generalize H1 = H at hP hS ⊢
              have hP := hP.sub (ws' := [(om k0 a I0 J0), (oa (a 5) cI 201 st), (oa (a 6) cZ 201 tn), (oa (a 11) cI 201 mn)]) [1, 2, 3, 0] rfl
              have hD := hD.sub (ws' := [(om k0 a I0 J0), (oa (a 5) cI 201 st), (oa (a 6) cZ 201 tn), (oa (a 11) cI 201 mn)]) [1, 2, 3, 0] (by decide) rfl
              have hP : va_P (dC, dI) classes [(om k0 a I0 J0), (oa (a 5) cI 201 st), (oa (a 6) cZ 201 tn), (oa (a 11) cI 201 mn)] H := hP
              have hD : va_D A [(om k0 a I0 J0), (oa (a 5) cI 201 st), (oa (a 6) cZ 201 tn), (oa (a 11) cI 201 mn)] := hD
              refine lv_if_eq (tgt := 101) hx hb dX11_count_88 (by decide) (fun c_5 => ?_) (fun c_5 => ?_)
              · have c_5 : ¬ (q < ft ∧ (st q).toInt = 1 ∧ (tn q).toInt = 0) := zp_0 c_5
                refine lv_iconst (v := 0) hx hb dX11_count_101 (by decide) ?_
                refine lv_iadd hx hb dX11_count_102 ?_
                refine zz_i (v := nI ((smP (lvF ft st tn) (fun g => nN (mn g)) q) + 0)) (nI_add (smP (lvF ft st tn) (fun g => nN (mn g)) q) 0) ?_
                refine lv_istore (lv' := [(5, .int (nI ((smP (lvF ft st tn) (fun g => nN (mn g)) q) + 0))), (4, .int (nI ((cntP (fun g => ¬ (tn g).toInt = 0) q) + 0))), (3, .int (nI ((cntP (fun g => (st g).toInt = 2) q) + 0))), (2, .int (nI ((cntP (fun g => (st g).toInt = 1) q) + 0))), (6, .int (nI q)), (0, .ref k0), (1, .int 3)]) hx hb dX11_count_103 hl (by decide) rfl (fun ls hl => ?_)
                refine lv_iinc (v := nI (q + 1)) (lv' := [(6, .int (nI (q + 1))), (5, .int (nI ((smP (lvF ft st tn) (fun g => nN (mn g)) q) + 0))), (4, .int (nI ((cntP (fun g => ¬ (tn g).toInt = 0) q) + 0))), (3, .int (nI ((cntP (fun g => (st g).toInt = 2) q) + 0))), (2, .int (nI ((cntP (fun g => (st g).toInt = 1) q) + 0))), (0, .ref k0), (1, .int 3)]) hx hb dX11_count_105 hl (k := 4) rfl (nI_add q 1) (by decide) rfl (fun ls hl => ?_)
                refine lv_goto (tgt := 13) hx hb dX11_count_108 (by decide) ?_
                have hl9 := lv_sub hl [0, 1, 2, 3, 4, 5, 6] rfl
                have e9_2 : nI (cntP (fun g => (st g).toInt = 1) (q + 1)) = (nI ((cntP (fun g => (st g).toInt = 1) q) + 0) : Int32) := by first | exact congrArg nI (cntP_y (P := fun g => (st g).toInt = 1) (show (st q).toInt = 1 by omega)) | exact congrArg nI (cntP_n0 (P := fun g => (st g).toInt = 1) (show ¬ (st q).toInt = 1 by omega))
                have e9_3 : nI (cntP (fun g => (st g).toInt = 2) (q + 1)) = (nI ((cntP (fun g => (st g).toInt = 2) q) + 0) : Int32) := by first | exact congrArg nI (cntP_y (P := fun g => (st g).toInt = 2) (show (st q).toInt = 2 by omega)) | exact congrArg nI (cntP_n0 (P := fun g => (st g).toInt = 2) (show ¬ (st q).toInt = 2 by omega))
                have e9_4 : nI (cntP (fun g => ¬ (tn g).toInt = 0) (q + 1)) = (nI ((cntP (fun g => ¬ (tn g).toInt = 0) q) + 0) : Int32) := by first | exact congrArg nI (cntP_y (P := fun g => ¬ (tn g).toInt = 0) (show ¬ (tn q).toInt = 0 by omega)) | exact congrArg nI (cntP_n0 (P := fun g => ¬ (tn g).toInt = 0) (show ¬ ¬ (tn q).toInt = 0 by omega))
                have e9_5 : nI (smP (lvF ft st tn) (fun g => nN (mn g)) (q + 1)) = (nI ((smP (lvF ft st tn) (fun g => nN (mn g)) q) + 0) : Int32) := by first | exact congrArg nI (smP_y (P := lvF ft st tn) (by assumption)) | exact congrArg nI (smP_n (P := lvF ft st tn) (by assumption))
                have hl9 : lv_has ls 7 [(6, .int (nI (q + 1))), (5, .int (nI (smP (lvF ft st tn) (fun g => nN (mn g)) (q + 1)))), (4, .int (nI (cntP (fun g => ¬ (tn g).toInt = 0) (q + 1)))), (3, .int (nI (cntP (fun g => (st g).toInt = 2) (q + 1)))), (2, .int (nI (cntP (fun g => (st g).toInt = 1) (q + 1)))), (0, .ref k0), (1, .int 3)] := by rw [e9_2]; rw [e9_3]; rw [e9_4]; rw [e9_5]; exact hl9
                exact ih_13 (q + 1) H locs ls (by omega) (by omega) hP hD hS hl9
              · have c_5 : q < ft ∧ (st q).toInt = 1 ∧ (tn q).toInt = 0 := zp_1 c_5
                refine lv_aload_n hx hb dX11_count_91 rfl (lv_at hl 5 rfl) ?_
                refine va_get (D := (dC, dI)) (ci := 9) (v := .ref (a 11)) (C := RX11) (T := TX11) (N := 55) hx hb hts inX11 hown hK hP 0 rfl rfl 11 (by decide) (hts _ mw_1170) (fun _ h9 => h9) rfl dX11_count_92 ?_
                refine lv_iload hx hb dX11_count_95 (lv_at hl 3 rfl) ?_
                refine z_iald hx hb hK hP 3 0 rfl rfl (e := q) rfl (by omega) (by omega) dX11_count_97 ?_
                refine zz_i (v := nI (nN (mn q))) ((hmw q (by assumption)).1) ?_
                refine lv_goto (tgt := 102) hx hb dX11_count_98 (by decide) ?_
                refine lv_iadd hx hb dX11_count_102 ?_
                refine zz_i (v := nI ((smP (lvF ft st tn) (fun g => nN (mn g)) q) + (nN (mn q)))) (nI_add (smP (lvF ft st tn) (fun g => nN (mn g)) q) (nN (mn q))) ?_
                refine lv_istore (lv' := [(5, .int (nI ((smP (lvF ft st tn) (fun g => nN (mn g)) q) + (nN (mn q))))), (4, .int (nI ((cntP (fun g => ¬ (tn g).toInt = 0) q) + 0))), (3, .int (nI ((cntP (fun g => (st g).toInt = 2) q) + 0))), (2, .int (nI ((cntP (fun g => (st g).toInt = 1) q) + 0))), (6, .int (nI q)), (0, .ref k0), (1, .int 3)]) hx hb dX11_count_103 hl (by decide) rfl (fun ls hl => ?_)
                refine lv_iinc (v := nI (q + 1)) (lv' := [(6, .int (nI (q + 1))), (5, .int (nI ((smP (lvF ft st tn) (fun g => nN (mn g)) q) + (nN (mn q))))), (4, .int (nI ((cntP (fun g => ¬ (tn g).toInt = 0) q) + 0))), (3, .int (nI ((cntP (fun g => (st g).toInt = 2) q) + 0))), (2, .int (nI ((cntP (fun g => (st g).toInt = 1) q) + 0))), (0, .ref k0), (1, .int 3)]) hx hb dX11_count_105 hl (k := 4) rfl (nI_add q 1) (by decide) rfl (fun ls hl => ?_)
                refine lv_goto (tgt := 13) hx hb dX11_count_108 (by decide) ?_
                have hl9 := lv_sub hl [0, 1, 2, 3, 4, 5, 6] rfl
                have e9_2 : nI (cntP (fun g => (st g).toInt = 1) (q + 1)) = (nI ((cntP (fun g => (st g).toInt = 1) q) + 0) : Int32) := by first | exact congrArg nI (cntP_y (P := fun g => (st g).toInt = 1) (show (st q).toInt = 1 by omega)) | exact congrArg nI (cntP_n0 (P := fun g => (st g).toInt = 1) (show ¬ (st q).toInt = 1 by omega))
                have e9_3 : nI (cntP (fun g => (st g).toInt = 2) (q + 1)) = (nI ((cntP (fun g => (st g).toInt = 2) q) + 0) : Int32) := by first | exact congrArg nI (cntP_y (P := fun g => (st g).toInt = 2) (show (st q).toInt = 2 by omega)) | exact congrArg nI (cntP_n0 (P := fun g => (st g).toInt = 2) (show ¬ (st q).toInt = 2 by omega))
                have e9_4 : nI (cntP (fun g => ¬ (tn g).toInt = 0) (q + 1)) = (nI ((cntP (fun g => ¬ (tn g).toInt = 0) q) + 0) : Int32) := by first | exact congrArg nI (cntP_y (P := fun g => ¬ (tn g).toInt = 0) (show ¬ (tn q).toInt = 0 by omega)) | exact congrArg nI (cntP_n0 (P := fun g => ¬ (tn g).toInt = 0) (show ¬ ¬ (tn q).toInt = 0 by omega))
                have e9_5 : nI (smP (lvF ft st tn) (fun g => nN (mn g)) (q + 1)) = (nI ((smP (lvF ft st tn) (fun g => nN (mn g)) q) + (nN (mn q))) : Int32) := by first | exact congrArg nI (smP_y (P := lvF ft st tn) (by assumption)) | exact congrArg nI (smP_n (P := lvF ft st tn) (by assumption))
                have hl9 : lv_has ls 7 [(6, .int (nI (q + 1))), (5, .int (nI (smP (lvF ft st tn) (fun g => nN (mn g)) (q + 1)))), (4, .int (nI (cntP (fun g => ¬ (tn g).toInt = 0) (q + 1)))), (3, .int (nI (cntP (fun g => (st g).toInt = 2) (q + 1)))), (2, .int (nI (cntP (fun g => (st g).toInt = 1) (q + 1)))), (0, .ref k0), (1, .int 3)] := by rw [e9_2]; rw [e9_3]; rw [e9_4]; rw [e9_5]; exact hl9
                exact ih_13 (q + 1) H locs ls (by omega) (by omega) hP hD hS hl9
            · have c_4 : ¬ (tn q).toInt = 0 := zc_ne rfl (by decide) c_4
              refine lv_iconst (v := 1) hx hb dX11_count_72 (by decide) ?_
              refine lv_goto (tgt := 77) hx hb dX11_count_73 (by decide) ?_
              refine lv_iadd hx hb dX11_count_77 ?_
              refine zz_i (v := nI ((cntP (fun g => ¬ (tn g).toInt = 0) q) + 1)) (nI_add (cntP (fun g => ¬ (tn g).toInt = 0) q) 1) ?_
              refine lv_istore (lv' := [(4, .int (nI ((cntP (fun g => ¬ (tn g).toInt = 0) q) + 1))), (3, .int (nI ((cntP (fun g => (st g).toInt = 2) q) + 0))), (2, .int (nI ((cntP (fun g => (st g).toInt = 1) q) + 0))), (6, .int (nI q)), (5, .int (nI (smP (lvF ft st tn) (fun g => nN (mn g)) q))), (0, .ref k0), (1, .int 3)]) hx hb dX11_count_78 hl (by decide) rfl (fun ls hl => ?_)
              refine lv_iload hx hb dX11_count_80 (lv_at hl 4 rfl) ?_
              refine lv_aload_n hx hb dX11_count_82 rfl (lv_at hl 5 rfl) ?_
              refine lv_iload hx hb dX11_count_83 (lv_at hl 3 rfl) ?_
              have hPc := hP.sub (ws' := [(om k0 a I0 J0), (oa (a 5) cI 201 st), (oa (a 6) cZ 201 tn)]) [0, 1, 2] rfl
              have hDc := hD.sub (ws' := [(om k0 a I0 J0), (oa (a 5) cI 201 st), (oa (a 6) cZ 201 tn)]) [0, 1, 2] (by decide) rfl
              have hFc := va_free (wc := [(om k0 a I0 J0), (oa (a 5) cI 201 st), (oa (a 6) cZ 201 tn)]) hD hS hA [0, 1, 2] rfl
              refine zcall (st1 := [.int (pI (q < ft ∧ (st q).toInt = 1 ∧ (tn q).toInt = 0)), .int (nI (smP (lvF ft st tn) (fun g => nN (mn g)) q))]) (va_runV (As := [.int (nI q)]) (rest := [.int (nI (smP (lvF ft st tn) (fun g => nN (mn g)) q))]) ⟨hx, hb, hml, hown, hts⟩ (k_M_is_n l dC dI cI cZ cF H.size k0 a I0 J0 q ft st tn (by assumption) (by omega) (by omega)) (cwV 1 hts (zz_gV mw_1447 mw_1449 mw_56 mw_110 mc_yX11_is) rfl rfl rfl (by decide +kernel) ⟨Nat.le_of_ble_eq_true rfl, Nat.le_of_ble_eq_true rfl⟩) (zPV2 (q0 := 0) (ci := 9) hPc hDc hK hXN rfl rfl) rfl rfl hl.1 rfl (lv_room (Nat.le_of_ble_eq_true rfl)) dX11_count_85 ⟨Nat.le_of_ble_eq_true rfl, Nat.le_of_ble_eq_true rfl⟩) hS hFc hFc rfl (fun t H1 locs ht hB hk1 hS => ?_)
              obtain ⟨hP1, hD1⟩ := hB
              rw [ht] at hP1
              obtain ⟨hP, hD⟩ := va_join (wr := [(oa (a 11) cI 201 mn)]) (w1 := [(om k0 a I0 J0), (oa (a 5) cI 201 st), (oa (a 6) cZ 201 tn)]) hP hD [0, 1, 2] [3] rfl rfl (by decide) (by decide) hk1 hFc hP1 hD1
              clear hk1 hPc hDc hFc hP1 hD1 ht
              generalize H1 = H at hP hS ⊢
              have hP := hP.sub (ws' := [(om k0 a I0 J0), (oa (a 5) cI 201 st), (oa (a 6) cZ 201 tn), (oa (a 11) cI 201 mn)]) [1, 2, 3, 0] rfl
              have hD := hD.sub (ws' := [(om k0 a I0 J0), (oa (a 5) cI 201 st), (oa (a 6) cZ 201 tn), (oa (a 11) cI 201 mn)]) [1, 2, 3, 0] (by decide) rfl
              have hP : va_P (dC, dI) classes [(om k0 a I0 J0), (oa (a 5) cI 201 st), (oa (a 6) cZ 201 tn), (oa (a 11) cI 201 mn)] H := hP
              have hD : va_D A [(om k0 a I0 J0), (oa (a 5) cI 201 st), (oa (a 6) cZ 201 tn), (oa (a 11) cI 201 mn)] := hD
              refine lv_if_eq (tgt := 101) hx hb dX11_count_88 (by decide) (fun c_6 => ?_) (fun c_6 => ?_)
              · have c_6 : ¬ (q < ft ∧ (st q).toInt = 1 ∧ (tn q).toInt = 0) := zp_0 c_6
                refine lv_iconst (v := 0) hx hb dX11_count_101 (by decide) ?_
                refine lv_iadd hx hb dX11_count_102 ?_
                refine zz_i (v := nI ((smP (lvF ft st tn) (fun g => nN (mn g)) q) + 0)) (nI_add (smP (lvF ft st tn) (fun g => nN (mn g)) q) 0) ?_
                refine lv_istore (lv' := [(5, .int (nI ((smP (lvF ft st tn) (fun g => nN (mn g)) q) + 0))), (4, .int (nI ((cntP (fun g => ¬ (tn g).toInt = 0) q) + 1))), (3, .int (nI ((cntP (fun g => (st g).toInt = 2) q) + 0))), (2, .int (nI ((cntP (fun g => (st g).toInt = 1) q) + 0))), (6, .int (nI q)), (0, .ref k0), (1, .int 3)]) hx hb dX11_count_103 hl (by decide) rfl (fun ls hl => ?_)
                refine lv_iinc (v := nI (q + 1)) (lv' := [(6, .int (nI (q + 1))), (5, .int (nI ((smP (lvF ft st tn) (fun g => nN (mn g)) q) + 0))), (4, .int (nI ((cntP (fun g => ¬ (tn g).toInt = 0) q) + 1))), (3, .int (nI ((cntP (fun g => (st g).toInt = 2) q) + 0))), (2, .int (nI ((cntP (fun g => (st g).toInt = 1) q) + 0))), (0, .ref k0), (1, .int 3)]) hx hb dX11_count_105 hl (k := 4) rfl (nI_add q 1) (by decide) rfl (fun ls hl => ?_)
                refine lv_goto (tgt := 13) hx hb dX11_count_108 (by decide) ?_
                have hl9 := lv_sub hl [0, 1, 2, 3, 4, 5, 6] rfl
                have e9_2 : nI (cntP (fun g => (st g).toInt = 1) (q + 1)) = (nI ((cntP (fun g => (st g).toInt = 1) q) + 0) : Int32) := by first | exact congrArg nI (cntP_y (P := fun g => (st g).toInt = 1) (show (st q).toInt = 1 by omega)) | exact congrArg nI (cntP_n0 (P := fun g => (st g).toInt = 1) (show ¬ (st q).toInt = 1 by omega))
                have e9_3 : nI (cntP (fun g => (st g).toInt = 2) (q + 1)) = (nI ((cntP (fun g => (st g).toInt = 2) q) + 0) : Int32) := by first | exact congrArg nI (cntP_y (P := fun g => (st g).toInt = 2) (show (st q).toInt = 2 by omega)) | exact congrArg nI (cntP_n0 (P := fun g => (st g).toInt = 2) (show ¬ (st q).toInt = 2 by omega))
                have e9_4 : nI (cntP (fun g => ¬ (tn g).toInt = 0) (q + 1)) = (nI ((cntP (fun g => ¬ (tn g).toInt = 0) q) + 1) : Int32) := by first | exact congrArg nI (cntP_y (P := fun g => ¬ (tn g).toInt = 0) (show ¬ (tn q).toInt = 0 by omega)) | exact congrArg nI (cntP_n0 (P := fun g => ¬ (tn g).toInt = 0) (show ¬ ¬ (tn q).toInt = 0 by omega))
                have e9_5 : nI (smP (lvF ft st tn) (fun g => nN (mn g)) (q + 1)) = (nI ((smP (lvF ft st tn) (fun g => nN (mn g)) q) + 0) : Int32) := by first | exact congrArg nI (smP_y (P := lvF ft st tn) (by assumption)) | exact congrArg nI (smP_n (P := lvF ft st tn) (by assumption))
                have hl9 : lv_has ls 7 [(6, .int (nI (q + 1))), (5, .int (nI (smP (lvF ft st tn) (fun g => nN (mn g)) (q + 1)))), (4, .int (nI (cntP (fun g => ¬ (tn g).toInt = 0) (q + 1)))), (3, .int (nI (cntP (fun g => (st g).toInt = 2) (q + 1)))), (2, .int (nI (cntP (fun g => (st g).toInt = 1) (q + 1)))), (0, .ref k0), (1, .int 3)] := by rw [e9_2]; rw [e9_3]; rw [e9_4]; rw [e9_5]; exact hl9
                exact ih_13 (q + 1) H locs ls (by omega) (by omega) hP hD hS hl9
              · have c_6 : q < ft ∧ (st q).toInt = 1 ∧ (tn q).toInt = 0 := zp_1 c_6
                refine lv_aload_n hx hb dX11_count_91 rfl (lv_at hl 5 rfl) ?_
                refine va_get (D := (dC, dI)) (ci := 9) (v := .ref (a 11)) (C := RX11) (T := TX11) (N := 55) hx hb hts inX11 hown hK hP 0 rfl rfl 11 (by decide) (hts _ mw_1170) (fun _ h9 => h9) rfl dX11_count_92 ?_
                refine lv_iload hx hb dX11_count_95 (lv_at hl 3 rfl) ?_
                refine z_iald hx hb hK hP 3 0 rfl rfl (e := q) rfl (by omega) (by omega) dX11_count_97 ?_
                refine zz_i (v := nI (nN (mn q))) ((hmw q (by assumption)).1) ?_
                refine lv_goto (tgt := 102) hx hb dX11_count_98 (by decide) ?_
                refine lv_iadd hx hb dX11_count_102 ?_
                refine zz_i (v := nI ((smP (lvF ft st tn) (fun g => nN (mn g)) q) + (nN (mn q)))) (nI_add (smP (lvF ft st tn) (fun g => nN (mn g)) q) (nN (mn q))) ?_
                refine lv_istore (lv' := [(5, .int (nI ((smP (lvF ft st tn) (fun g => nN (mn g)) q) + (nN (mn q))))), (4, .int (nI ((cntP (fun g => ¬ (tn g).toInt = 0) q) + 1))), (3, .int (nI ((cntP (fun g => (st g).toInt = 2) q) + 0))), (2, .int (nI ((cntP (fun g => (st g).toInt = 1) q) + 0))), (6, .int (nI q)), (0, .ref k0), (1, .int 3)]) hx hb dX11_count_103 hl (by decide) rfl (fun ls hl => ?_)
                refine lv_iinc (v := nI (q + 1)) (lv' := [(6, .int (nI (q + 1))), (5, .int (nI ((smP (lvF ft st tn) (fun g => nN (mn g)) q) + (nN (mn q))))), (4, .int (nI ((cntP (fun g => ¬ (tn g).toInt = 0) q) + 1))), (3, .int (nI ((cntP (fun g => (st g).toInt = 2) q) + 0))), (2, .int (nI ((cntP (fun g => (st g).toInt = 1) q) + 0))), (0, .ref k0), (1, .int 3)]) hx hb dX11_count_105 hl (k := 4) rfl (nI_add q 1) (by decide) rfl (fun ls hl => ?_)
                refine lv_goto (tgt := 13) hx hb dX11_count_108 (by decide) ?_
                have hl9 := lv_sub hl [0, 1, 2, 3, 4, 5, 6] rfl
                have e9_2 : nI (cntP (fun g => (st g).toInt = 1) (q + 1)) = (nI ((cntP (fun g => (st g).toInt = 1) q) + 0) : Int32) := by first | exact congrArg nI (cntP_y (P := fun g => (st g).toInt = 1) (show (st q).toInt = 1 by omega)) | exact congrArg nI (cntP_n0 (P := fun g => (st g).toInt = 1) (show ¬ (st q).toInt = 1 by omega))
                have e9_3 : nI (cntP (fun g => (st g).toInt = 2) (q + 1)) = (nI ((cntP (fun g => (st g).toInt = 2) q) + 0) : Int32) := by first | exact congrArg nI (cntP_y (P := fun g => (st g).toInt = 2) (show (st q).toInt = 2 by omega)) | exact congrArg nI (cntP_n0 (P := fun g => (st g).toInt = 2) (show ¬ (st q).toInt = 2 by omega))
                have e9_4 : nI (cntP (fun g => ¬ (tn g).toInt = 0) (q + 1)) = (nI ((cntP (fun g => ¬ (tn g).toInt = 0) q) + 1) : Int32) := by first | exact congrArg nI (cntP_y (P := fun g => ¬ (tn g).toInt = 0) (show ¬ (tn q).toInt = 0 by omega)) | exact congrArg nI (cntP_n0 (P := fun g => ¬ (tn g).toInt = 0) (show ¬ ¬ (tn q).toInt = 0 by omega))
                have e9_5 : nI (smP (lvF ft st tn) (fun g => nN (mn g)) (q + 1)) = (nI ((smP (lvF ft st tn) (fun g => nN (mn g)) q) + (nN (mn q))) : Int32) := by first | exact congrArg nI (smP_y (P := lvF ft st tn) (by assumption)) | exact congrArg nI (smP_n (P := lvF ft st tn) (by assumption))
                have hl9 : lv_has ls 7 [(6, .int (nI (q + 1))), (5, .int (nI (smP (lvF ft st tn) (fun g => nN (mn g)) (q + 1)))), (4, .int (nI (cntP (fun g => ¬ (tn g).toInt = 0) (q + 1)))), (3, .int (nI (cntP (fun g => (st g).toInt = 2) (q + 1)))), (2, .int (nI (cntP (fun g => (st g).toInt = 1) (q + 1)))), (0, .ref k0), (1, .int 3)] := by rw [e9_2]; rw [e9_3]; rw [e9_4]; rw [e9_5]; exact hl9
                exact ih_13 (q + 1) H locs ls (by omega) (by omega) hP hD hS hl9
          · have c_3 : (st q).toInt = 2 := zc_eq rfl (by decide) c_3
            refine lv_iconst (v := 1) hx hb dX11_count_53 (by decide) ?_
            refine lv_goto (tgt := 58) hx hb dX11_count_54 (by decide) ?_
            refine lv_iadd hx hb dX11_count_58 ?_
            refine zz_i (v := nI ((cntP (fun g => (st g).toInt = 2) q) + 1)) (nI_add (cntP (fun g => (st g).toInt = 2) q) 1) ?_
            refine lv_istore_n (lv' := [(3, .int (nI ((cntP (fun g => (st g).toInt = 2) q) + 1))), (2, .int (nI ((cntP (fun g => (st g).toInt = 1) q) + 0))), (6, .int (nI q)), (5, .int (nI (smP (lvF ft st tn) (fun g => nN (mn g)) q))), (4, .int (nI (cntP (fun g => ¬ (tn g).toInt = 0) q))), (0, .ref k0), (1, .int 3)]) hx hb dX11_count_59 rfl hl (by decide) rfl (fun ls hl => ?_)
            refine lv_iload hx hb dX11_count_60 (lv_at hl 4 rfl) ?_
            refine lv_aload_n hx hb dX11_count_62 rfl (lv_at hl 5 rfl) ?_
            refine va_get (D := (dC, dI)) (ci := 9) (v := .ref (a 6)) (C := RX11) (T := TX11) (N := 55) hx hb hts inX11 hown hK hP 0 rfl rfl 6 (by decide) (hts _ mw_1165) (fun _ h9 => h9) rfl dX11_count_63 ?_
            refine lv_iload hx hb dX11_count_66 (lv_at hl 2 rfl) ?_
            refine z_zald hx hb hK hP 2 1 rfl rfl (e := q) rfl (by omega) (by omega) dX11_count_68 ?_
            refine lv_if_eq (tgt := 76) hx hb dX11_count_69 (by decide) (fun c_7 => ?_) (fun c_7 => ?_)
            · have c_7 : (tn q).toInt = 0 := zc_eq rfl (by decide) c_7
              refine lv_iconst (v := 0) hx hb dX11_count_76 (by decide) ?_
              refine lv_iadd hx hb dX11_count_77 ?_
              refine zz_i (v := nI ((cntP (fun g => ¬ (tn g).toInt = 0) q) + 0)) (nI_add (cntP (fun g => ¬ (tn g).toInt = 0) q) 0) ?_
              refine lv_istore (lv' := [(4, .int (nI ((cntP (fun g => ¬ (tn g).toInt = 0) q) + 0))), (3, .int (nI ((cntP (fun g => (st g).toInt = 2) q) + 1))), (2, .int (nI ((cntP (fun g => (st g).toInt = 1) q) + 0))), (6, .int (nI q)), (5, .int (nI (smP (lvF ft st tn) (fun g => nN (mn g)) q))), (0, .ref k0), (1, .int 3)]) hx hb dX11_count_78 hl (by decide) rfl (fun ls hl => ?_)
              refine lv_iload hx hb dX11_count_80 (lv_at hl 4 rfl) ?_
              refine lv_aload_n hx hb dX11_count_82 rfl (lv_at hl 5 rfl) ?_
              refine lv_iload hx hb dX11_count_83 (lv_at hl 3 rfl) ?_
              have hPc := hP.sub (ws' := [(om k0 a I0 J0), (oa (a 5) cI 201 st), (oa (a 6) cZ 201 tn)]) [0, 1, 2] rfl
              have hDc := hD.sub (ws' := [(om k0 a I0 J0), (oa (a 5) cI 201 st), (oa (a 6) cZ 201 tn)]) [0, 1, 2] (by decide) rfl
              have hFc := va_free (wc := [(om k0 a I0 J0), (oa (a 5) cI 201 st), (oa (a 6) cZ 201 tn)]) hD hS hA [0, 1, 2] rfl
              refine zcall (st1 := [.int (pI (q < ft ∧ (st q).toInt = 1 ∧ (tn q).toInt = 0)), .int (nI (smP (lvF ft st tn) (fun g => nN (mn g)) q))]) (va_runV (As := [.int (nI q)]) (rest := [.int (nI (smP (lvF ft st tn) (fun g => nN (mn g)) q))]) ⟨hx, hb, hml, hown, hts⟩ (k_M_is_n l dC dI cI cZ cF H.size k0 a I0 J0 q ft st tn (by assumption) (by omega) (by omega)) (cwV 1 hts (zz_gV mw_1447 mw_1449 mw_56 mw_110 mc_yX11_is) rfl rfl rfl (by decide +kernel) ⟨Nat.le_of_ble_eq_true rfl, Nat.le_of_ble_eq_true rfl⟩) (zPV2 (q0 := 0) (ci := 9) hPc hDc hK hXN rfl rfl) rfl rfl hl.1 rfl (lv_room (Nat.le_of_ble_eq_true rfl)) dX11_count_85 ⟨Nat.le_of_ble_eq_true rfl, Nat.le_of_ble_eq_true rfl⟩) hS hFc hFc rfl (fun t H1 locs ht hB hk1 hS => ?_)
              obtain ⟨hP1, hD1⟩ := hB
              rw [ht] at hP1
              obtain ⟨hP, hD⟩ := va_join (wr := [(oa (a 11) cI 201 mn)]) (w1 := [(om k0 a I0 J0), (oa (a 5) cI 201 st), (oa (a 6) cZ 201 tn)]) hP hD [0, 1, 2] [3] rfl rfl (by decide) (by decide) hk1 hFc hP1 hD1
              clear hk1 hPc hDc hFc hP1 hD1 ht
              generalize H1 = H at hP hS ⊢
              have hP := hP.sub (ws' := [(om k0 a I0 J0), (oa (a 5) cI 201 st), (oa (a 6) cZ 201 tn), (oa (a 11) cI 201 mn)]) [1, 2, 3, 0] rfl
              have hD := hD.sub (ws' := [(om k0 a I0 J0), (oa (a 5) cI 201 st), (oa (a 6) cZ 201 tn), (oa (a 11) cI 201 mn)]) [1, 2, 3, 0] (by decide) rfl
              have hP : va_P (dC, dI) classes [(om k0 a I0 J0), (oa (a 5) cI 201 st), (oa (a 6) cZ 201 tn), (oa (a 11) cI 201 mn)] H := hP
              have hD : va_D A [(om k0 a I0 J0), (oa (a 5) cI 201 st), (oa (a 6) cZ 201 tn), (oa (a 11) cI 201 mn)] := hD
              refine lv_if_eq (tgt := 101) hx hb dX11_count_88 (by decide) (fun c_8 => ?_) (fun c_8 => ?_)
              · have c_8 : ¬ (q < ft ∧ (st q).toInt = 1 ∧ (tn q).toInt = 0) := zp_0 c_8
                refine lv_iconst (v := 0) hx hb dX11_count_101 (by decide) ?_
                refine lv_iadd hx hb dX11_count_102 ?_
                refine zz_i (v := nI ((smP (lvF ft st tn) (fun g => nN (mn g)) q) + 0)) (nI_add (smP (lvF ft st tn) (fun g => nN (mn g)) q) 0) ?_
                refine lv_istore (lv' := [(5, .int (nI ((smP (lvF ft st tn) (fun g => nN (mn g)) q) + 0))), (4, .int (nI ((cntP (fun g => ¬ (tn g).toInt = 0) q) + 0))), (3, .int (nI ((cntP (fun g => (st g).toInt = 2) q) + 1))), (2, .int (nI ((cntP (fun g => (st g).toInt = 1) q) + 0))), (6, .int (nI q)), (0, .ref k0), (1, .int 3)]) hx hb dX11_count_103 hl (by decide) rfl (fun ls hl => ?_)
                refine lv_iinc (v := nI (q + 1)) (lv' := [(6, .int (nI (q + 1))), (5, .int (nI ((smP (lvF ft st tn) (fun g => nN (mn g)) q) + 0))), (4, .int (nI ((cntP (fun g => ¬ (tn g).toInt = 0) q) + 0))), (3, .int (nI ((cntP (fun g => (st g).toInt = 2) q) + 1))), (2, .int (nI ((cntP (fun g => (st g).toInt = 1) q) + 0))), (0, .ref k0), (1, .int 3)]) hx hb dX11_count_105 hl (k := 4) rfl (nI_add q 1) (by decide) rfl (fun ls hl => ?_)
                refine lv_goto (tgt := 13) hx hb dX11_count_108 (by decide) ?_
                have hl9 := lv_sub hl [0, 1, 2, 3, 4, 5, 6] rfl
                have e9_2 : nI (cntP (fun g => (st g).toInt = 1) (q + 1)) = (nI ((cntP (fun g => (st g).toInt = 1) q) + 0) : Int32) := by first | exact congrArg nI (cntP_y (P := fun g => (st g).toInt = 1) (show (st q).toInt = 1 by omega)) | exact congrArg nI (cntP_n0 (P := fun g => (st g).toInt = 1) (show ¬ (st q).toInt = 1 by omega))
                have e9_3 : nI (cntP (fun g => (st g).toInt = 2) (q + 1)) = (nI ((cntP (fun g => (st g).toInt = 2) q) + 1) : Int32) := by first | exact congrArg nI (cntP_y (P := fun g => (st g).toInt = 2) (show (st q).toInt = 2 by omega)) | exact congrArg nI (cntP_n0 (P := fun g => (st g).toInt = 2) (show ¬ (st q).toInt = 2 by omega))
                have e9_4 : nI (cntP (fun g => ¬ (tn g).toInt = 0) (q + 1)) = (nI ((cntP (fun g => ¬ (tn g).toInt = 0) q) + 0) : Int32) := by first | exact congrArg nI (cntP_y (P := fun g => ¬ (tn g).toInt = 0) (show ¬ (tn q).toInt = 0 by omega)) | exact congrArg nI (cntP_n0 (P := fun g => ¬ (tn g).toInt = 0) (show ¬ ¬ (tn q).toInt = 0 by omega))
                have e9_5 : nI (smP (lvF ft st tn) (fun g => nN (mn g)) (q + 1)) = (nI ((smP (lvF ft st tn) (fun g => nN (mn g)) q) + 0) : Int32) := by first | exact congrArg nI (smP_y (P := lvF ft st tn) (by assumption)) | exact congrArg nI (smP_n (P := lvF ft st tn) (by assumption))
                have hl9 : lv_has ls 7 [(6, .int (nI (q + 1))), (5, .int (nI (smP (lvF ft st tn) (fun g => nN (mn g)) (q + 1)))), (4, .int (nI (cntP (fun g => ¬ (tn g).toInt = 0) (q + 1)))), (3, .int (nI (cntP (fun g => (st g).toInt = 2) (q + 1)))), (2, .int (nI (cntP (fun g => (st g).toInt = 1) (q + 1)))), (0, .ref k0), (1, .int 3)] := by rw [e9_2]; rw [e9_3]; rw [e9_4]; rw [e9_5]; exact hl9
                exact ih_13 (q + 1) H locs ls (by omega) (by omega) hP hD hS hl9
              · have c_8 : q < ft ∧ (st q).toInt = 1 ∧ (tn q).toInt = 0 := zp_1 c_8
                refine lv_aload_n hx hb dX11_count_91 rfl (lv_at hl 5 rfl) ?_
                refine va_get (D := (dC, dI)) (ci := 9) (v := .ref (a 11)) (C := RX11) (T := TX11) (N := 55) hx hb hts inX11 hown hK hP 0 rfl rfl 11 (by decide) (hts _ mw_1170) (fun _ h9 => h9) rfl dX11_count_92 ?_
                refine lv_iload hx hb dX11_count_95 (lv_at hl 3 rfl) ?_
                refine z_iald hx hb hK hP 3 0 rfl rfl (e := q) rfl (by omega) (by omega) dX11_count_97 ?_
                refine zz_i (v := nI (nN (mn q))) ((hmw q (by assumption)).1) ?_
                refine lv_goto (tgt := 102) hx hb dX11_count_98 (by decide) ?_
                refine lv_iadd hx hb dX11_count_102 ?_
                refine zz_i (v := nI ((smP (lvF ft st tn) (fun g => nN (mn g)) q) + (nN (mn q)))) (nI_add (smP (lvF ft st tn) (fun g => nN (mn g)) q) (nN (mn q))) ?_
                refine lv_istore (lv' := [(5, .int (nI ((smP (lvF ft st tn) (fun g => nN (mn g)) q) + (nN (mn q))))), (4, .int (nI ((cntP (fun g => ¬ (tn g).toInt = 0) q) + 0))), (3, .int (nI ((cntP (fun g => (st g).toInt = 2) q) + 1))), (2, .int (nI ((cntP (fun g => (st g).toInt = 1) q) + 0))), (6, .int (nI q)), (0, .ref k0), (1, .int 3)]) hx hb dX11_count_103 hl (by decide) rfl (fun ls hl => ?_)
                refine lv_iinc (v := nI (q + 1)) (lv' := [(6, .int (nI (q + 1))), (5, .int (nI ((smP (lvF ft st tn) (fun g => nN (mn g)) q) + (nN (mn q))))), (4, .int (nI ((cntP (fun g => ¬ (tn g).toInt = 0) q) + 0))), (3, .int (nI ((cntP (fun g => (st g).toInt = 2) q) + 1))), (2, .int (nI ((cntP (fun g => (st g).toInt = 1) q) + 0))), (0, .ref k0), (1, .int 3)]) hx hb dX11_count_105 hl (k := 4) rfl (nI_add q 1) (by decide) rfl (fun ls hl => ?_)
                refine lv_goto (tgt := 13) hx hb dX11_count_108 (by decide) ?_
                have hl9 := lv_sub hl [0, 1, 2, 3, 4, 5, 6] rfl
                have e9_2 : nI (cntP (fun g => (st g).toInt = 1) (q + 1)) = (nI ((cntP (fun g => (st g).toInt = 1) q) + 0) : Int32) := by first | exact congrArg nI (cntP_y (P := fun g => (st g).toInt = 1) (show (st q).toInt = 1 by omega)) | exact congrArg nI (cntP_n0 (P := fun g => (st g).toInt = 1) (show ¬ (st q).toInt = 1 by omega))
                have e9_3 : nI (cntP (fun g => (st g).toInt = 2) (q + 1)) = (nI ((cntP (fun g => (st g).toInt = 2) q) + 1) : Int32) := by first | exact congrArg nI (cntP_y (P := fun g => (st g).toInt = 2) (show (st q).toInt = 2 by omega)) | exact congrArg nI (cntP_n0 (P := fun g => (st g).toInt = 2) (show ¬ (st q).toInt = 2 by omega))
                have e9_4 : nI (cntP (fun g => ¬ (tn g).toInt = 0) (q + 1)) = (nI ((cntP (fun g => ¬ (tn g).toInt = 0) q) + 0) : Int32) := by first | exact congrArg nI (cntP_y (P := fun g => ¬ (tn g).toInt = 0) (show ¬ (tn q).toInt = 0 by omega)) | exact congrArg nI (cntP_n0 (P := fun g => ¬ (tn g).toInt = 0) (show ¬ ¬ (tn q).toInt = 0 by omega))
                have e9_5 : nI (smP (lvF ft st tn) (fun g => nN (mn g)) (q + 1)) = (nI ((smP (lvF ft st tn) (fun g => nN (mn g)) q) + (nN (mn q))) : Int32) := by first | exact congrArg nI (smP_y (P := lvF ft st tn) (by assumption)) | exact congrArg nI (smP_n (P := lvF ft st tn) (by assumption))
                have hl9 : lv_has ls 7 [(6, .int (nI (q + 1))), (5, .int (nI (smP (lvF ft st tn) (fun g => nN (mn g)) (q + 1)))), (4, .int (nI (cntP (fun g => ¬ (tn g).toInt = 0) (q + 1)))), (3, .int (nI (cntP (fun g => (st g).toInt = 2) (q + 1)))), (2, .int (nI (cntP (fun g => (st g).toInt = 1) (q + 1)))), (0, .ref k0), (1, .int 3)] := by rw [e9_2]; rw [e9_3]; rw [e9_4]; rw [e9_5]; exact hl9
                exact ih_13 (q + 1) H locs ls (by omega) (by omega) hP hD hS hl9
            · have c_7 : ¬ (tn q).toInt = 0 := zc_ne rfl (by decide) c_7
              refine lv_iconst (v := 1) hx hb dX11_count_72 (by decide) ?_
              refine lv_goto (tgt := 77) hx hb dX11_count_73 (by decide) ?_
              refine lv_iadd hx hb dX11_count_77 ?_
              refine zz_i (v := nI ((cntP (fun g => ¬ (tn g).toInt = 0) q) + 1)) (nI_add (cntP (fun g => ¬ (tn g).toInt = 0) q) 1) ?_
              refine lv_istore (lv' := [(4, .int (nI ((cntP (fun g => ¬ (tn g).toInt = 0) q) + 1))), (3, .int (nI ((cntP (fun g => (st g).toInt = 2) q) + 1))), (2, .int (nI ((cntP (fun g => (st g).toInt = 1) q) + 0))), (6, .int (nI q)), (5, .int (nI (smP (lvF ft st tn) (fun g => nN (mn g)) q))), (0, .ref k0), (1, .int 3)]) hx hb dX11_count_78 hl (by decide) rfl (fun ls hl => ?_)
              refine lv_iload hx hb dX11_count_80 (lv_at hl 4 rfl) ?_
              refine lv_aload_n hx hb dX11_count_82 rfl (lv_at hl 5 rfl) ?_
              refine lv_iload hx hb dX11_count_83 (lv_at hl 3 rfl) ?_
              have hPc := hP.sub (ws' := [(om k0 a I0 J0), (oa (a 5) cI 201 st), (oa (a 6) cZ 201 tn)]) [0, 1, 2] rfl
              have hDc := hD.sub (ws' := [(om k0 a I0 J0), (oa (a 5) cI 201 st), (oa (a 6) cZ 201 tn)]) [0, 1, 2] (by decide) rfl
              have hFc := va_free (wc := [(om k0 a I0 J0), (oa (a 5) cI 201 st), (oa (a 6) cZ 201 tn)]) hD hS hA [0, 1, 2] rfl
              refine zcall (st1 := [.int (pI (q < ft ∧ (st q).toInt = 1 ∧ (tn q).toInt = 0)), .int (nI (smP (lvF ft st tn) (fun g => nN (mn g)) q))]) (va_runV (As := [.int (nI q)]) (rest := [.int (nI (smP (lvF ft st tn) (fun g => nN (mn g)) q))]) ⟨hx, hb, hml, hown, hts⟩ (k_M_is_n l dC dI cI cZ cF H.size k0 a I0 J0 q ft st tn (by assumption) (by omega) (by omega)) (cwV 1 hts (zz_gV mw_1447 mw_1449 mw_56 mw_110 mc_yX11_is) rfl rfl rfl (by decide +kernel) ⟨Nat.le_of_ble_eq_true rfl, Nat.le_of_ble_eq_true rfl⟩) (zPV2 (q0 := 0) (ci := 9) hPc hDc hK hXN rfl rfl) rfl rfl hl.1 rfl (lv_room (Nat.le_of_ble_eq_true rfl)) dX11_count_85 ⟨Nat.le_of_ble_eq_true rfl, Nat.le_of_ble_eq_true rfl⟩) hS hFc hFc rfl (fun t H1 locs ht hB hk1 hS => ?_)
              obtain ⟨hP1, hD1⟩ := hB
              rw [ht] at hP1
              obtain ⟨hP, hD⟩ := va_join (wr := [(oa (a 11) cI 201 mn)]) (w1 := [(om k0 a I0 J0), (oa (a 5) cI 201 st), (oa (a 6) cZ 201 tn)]) hP hD [0, 1, 2] [3] rfl rfl (by decide) (by decide) hk1 hFc hP1 hD1
              clear hk1 hPc hDc hFc hP1 hD1 ht
              generalize H1 = H at hP hS ⊢
              have hP := hP.sub (ws' := [(om k0 a I0 J0), (oa (a 5) cI 201 st), (oa (a 6) cZ 201 tn), (oa (a 11) cI 201 mn)]) [1, 2, 3, 0] rfl
              have hD := hD.sub (ws' := [(om k0 a I0 J0), (oa (a 5) cI 201 st), (oa (a 6) cZ 201 tn), (oa (a 11) cI 201 mn)]) [1, 2, 3, 0] (by decide) rfl
              have hP : va_P (dC, dI) classes [(om k0 a I0 J0), (oa (a 5) cI 201 st), (oa (a 6) cZ 201 tn), (oa (a 11) cI 201 mn)] H := hP
              have hD : va_D A [(om k0 a I0 J0), (oa (a 5) cI 201 st), (oa (a 6) cZ 201 tn), (oa (a 11) cI 201 mn)] := hD
              refine lv_if_eq (tgt := 101) hx hb dX11_count_88 (by decide) (fun c_9 => ?_) (fun c_9 => ?_)
              · have c_9 : ¬ (q < ft ∧ (st q).toInt = 1 ∧ (tn q).toInt = 0) := zp_0 c_9
                refine lv_iconst (v := 0) hx hb dX11_count_101 (by decide) ?_
                refine lv_iadd hx hb dX11_count_102 ?_
                refine zz_i (v := nI ((smP (lvF ft st tn) (fun g => nN (mn g)) q) + 0)) (nI_add (smP (lvF ft st tn) (fun g => nN (mn g)) q) 0) ?_
                refine lv_istore (lv' := [(5, .int (nI ((smP (lvF ft st tn) (fun g => nN (mn g)) q) + 0))), (4, .int (nI ((cntP (fun g => ¬ (tn g).toInt = 0) q) + 1))), (3, .int (nI ((cntP (fun g => (st g).toInt = 2) q) + 1))), (2, .int (nI ((cntP (fun g => (st g).toInt = 1) q) + 0))), (6, .int (nI q)), (0, .ref k0), (1, .int 3)]) hx hb dX11_count_103 hl (by decide) rfl (fun ls hl => ?_)
                refine lv_iinc (v := nI (q + 1)) (lv' := [(6, .int (nI (q + 1))), (5, .int (nI ((smP (lvF ft st tn) (fun g => nN (mn g)) q) + 0))), (4, .int (nI ((cntP (fun g => ¬ (tn g).toInt = 0) q) + 1))), (3, .int (nI ((cntP (fun g => (st g).toInt = 2) q) + 1))), (2, .int (nI ((cntP (fun g => (st g).toInt = 1) q) + 0))), (0, .ref k0), (1, .int 3)]) hx hb dX11_count_105 hl (k := 4) rfl (nI_add q 1) (by decide) rfl (fun ls hl => ?_)
                refine lv_goto (tgt := 13) hx hb dX11_count_108 (by decide) ?_
                have hl9 := lv_sub hl [0, 1, 2, 3, 4, 5, 6] rfl
                have e9_2 : nI (cntP (fun g => (st g).toInt = 1) (q + 1)) = (nI ((cntP (fun g => (st g).toInt = 1) q) + 0) : Int32) := by first | exact congrArg nI (cntP_y (P := fun g => (st g).toInt = 1) (show (st q).toInt = 1 by omega)) | exact congrArg nI (cntP_n0 (P := fun g => (st g).toInt = 1) (show ¬ (st q).toInt = 1 by omega))
                have e9_3 : nI (cntP (fun g => (st g).toInt = 2) (q + 1)) = (nI ((cntP (fun g => (st g).toInt = 2) q) + 1) : Int32) := by first | exact congrArg nI (cntP_y (P := fun g => (st g).toInt = 2) (show (st q).toInt = 2 by omega)) | exact congrArg nI (cntP_n0 (P := fun g => (st g).toInt = 2) (show ¬ (st q).toInt = 2 by omega))
                have e9_4 : nI (cntP (fun g => ¬ (tn g).toInt = 0) (q + 1)) = (nI ((cntP (fun g => ¬ (tn g).toInt = 0) q) + 1) : Int32) := by first | exact congrArg nI (cntP_y (P := fun g => ¬ (tn g).toInt = 0) (show ¬ (tn q).toInt = 0 by omega)) | exact congrArg nI (cntP_n0 (P := fun g => ¬ (tn g).toInt = 0) (show ¬ ¬ (tn q).toInt = 0 by omega))
                have e9_5 : nI (smP (lvF ft st tn) (fun g => nN (mn g)) (q + 1)) = (nI ((smP (lvF ft st tn) (fun g => nN (mn g)) q) + 0) : Int32) := by first | exact congrArg nI (smP_y (P := lvF ft st tn) (by assumption)) | exact congrArg nI (smP_n (P := lvF ft st tn) (by assumption))
                have hl9 : lv_has ls 7 [(6, .int (nI (q + 1))), (5, .int (nI (smP (lvF ft st tn) (fun g => nN (mn g)) (q + 1)))), (4, .int (nI (cntP (fun g => ¬ (tn g).toInt = 0) (q + 1)))), (3, .int (nI (cntP (fun g => (st g).toInt = 2) (q + 1)))), (2, .int (nI (cntP (fun g => (st g).toInt = 1) (q + 1)))), (0, .ref k0), (1, .int 3)] := by rw [e9_2]; rw [e9_3]; rw [e9_4]; rw [e9_5]; exact hl9
                exact ih_13 (q + 1) H locs ls (by omega) (by omega) hP hD hS hl9
              · have c_9 : q < ft ∧ (st q).toInt = 1 ∧ (tn q).toInt = 0 := zp_1 c_9
                refine lv_aload_n hx hb dX11_count_91 rfl (lv_at hl 5 rfl) ?_
                refine va_get (D := (dC, dI)) (ci := 9) (v := .ref (a 11)) (C := RX11) (T := TX11) (N := 55) hx hb hts inX11 hown hK hP 0 rfl rfl 11 (by decide) (hts _ mw_1170) (fun _ h9 => h9) rfl dX11_count_92 ?_
                refine lv_iload hx hb dX11_count_95 (lv_at hl 3 rfl) ?_
                refine z_iald hx hb hK hP 3 0 rfl rfl (e := q) rfl (by omega) (by omega) dX11_count_97 ?_
                refine zz_i (v := nI (nN (mn q))) ((hmw q (by assumption)).1) ?_
                refine lv_goto (tgt := 102) hx hb dX11_count_98 (by decide) ?_
                refine lv_iadd hx hb dX11_count_102 ?_
                refine zz_i (v := nI ((smP (lvF ft st tn) (fun g => nN (mn g)) q) + (nN (mn q)))) (nI_add (smP (lvF ft st tn) (fun g => nN (mn g)) q) (nN (mn q))) ?_
                refine lv_istore (lv' := [(5, .int (nI ((smP (lvF ft st tn) (fun g => nN (mn g)) q) + (nN (mn q))))), (4, .int (nI ((cntP (fun g => ¬ (tn g).toInt = 0) q) + 1))), (3, .int (nI ((cntP (fun g => (st g).toInt = 2) q) + 1))), (2, .int (nI ((cntP (fun g => (st g).toInt = 1) q) + 0))), (6, .int (nI q)), (0, .ref k0), (1, .int 3)]) hx hb dX11_count_103 hl (by decide) rfl (fun ls hl => ?_)
                refine lv_iinc (v := nI (q + 1)) (lv' := [(6, .int (nI (q + 1))), (5, .int (nI ((smP (lvF ft st tn) (fun g => nN (mn g)) q) + (nN (mn q))))), (4, .int (nI ((cntP (fun g => ¬ (tn g).toInt = 0) q) + 1))), (3, .int (nI ((cntP (fun g => (st g).toInt = 2) q) + 1))), (2, .int (nI ((cntP (fun g => (st g).toInt = 1) q) + 0))), (0, .ref k0), (1, .int 3)]) hx hb dX11_count_105 hl (k := 4) rfl (nI_add q 1) (by decide) rfl (fun ls hl => ?_)
                refine lv_goto (tgt := 13) hx hb dX11_count_108 (by decide) ?_
                have hl9 := lv_sub hl [0, 1, 2, 3, 4, 5, 6] rfl
                have e9_2 : nI (cntP (fun g => (st g).toInt = 1) (q + 1)) = (nI ((cntP (fun g => (st g).toInt = 1) q) + 0) : Int32) := by first | exact congrArg nI (cntP_y (P := fun g => (st g).toInt = 1) (show (st q).toInt = 1 by omega)) | exact congrArg nI (cntP_n0 (P := fun g => (st g).toInt = 1) (show ¬ (st q).toInt = 1 by omega))
                have e9_3 : nI (cntP (fun g => (st g).toInt = 2) (q + 1)) = (nI ((cntP (fun g => (st g).toInt = 2) q) + 1) : Int32) := by first | exact congrArg nI (cntP_y (P := fun g => (st g).toInt = 2) (show (st q).toInt = 2 by omega)) | exact congrArg nI (cntP_n0 (P := fun g => (st g).toInt = 2) (show ¬ (st q).toInt = 2 by omega))
                have e9_4 : nI (cntP (fun g => ¬ (tn g).toInt = 0) (q + 1)) = (nI ((cntP (fun g => ¬ (tn g).toInt = 0) q) + 1) : Int32) := by first | exact congrArg nI (cntP_y (P := fun g => ¬ (tn g).toInt = 0) (show ¬ (tn q).toInt = 0 by omega)) | exact congrArg nI (cntP_n0 (P := fun g => ¬ (tn g).toInt = 0) (show ¬ ¬ (tn q).toInt = 0 by omega))
                have e9_5 : nI (smP (lvF ft st tn) (fun g => nN (mn g)) (q + 1)) = (nI ((smP (lvF ft st tn) (fun g => nN (mn g)) q) + (nN (mn q))) : Int32) := by first | exact congrArg nI (smP_y (P := lvF ft st tn) (by assumption)) | exact congrArg nI (smP_n (P := lvF ft st tn) (by assumption))
                have hl9 : lv_has ls 7 [(6, .int (nI (q + 1))), (5, .int (nI (smP (lvF ft st tn) (fun g => nN (mn g)) (q + 1)))), (4, .int (nI (cntP (fun g => ¬ (tn g).toInt = 0) (q + 1)))), (3, .int (nI (cntP (fun g => (st g).toInt = 2) (q + 1)))), (2, .int (nI (cntP (fun g => (st g).toInt = 1) (q + 1)))), (0, .ref k0), (1, .int 3)] := by rw [e9_2]; rw [e9_3]; rw [e9_4]; rw [e9_5]; exact hl9
                exact ih_13 (q + 1) H locs ls (by omega) (by omega) hP hD hS hl9
        · have c_2 : (st q).toInt = 1 := zc_eq rfl (by decide) c_2
          refine lv_iconst (v := 1) hx hb dX11_count_34 (by decide) ?_
          refine lv_goto (tgt := 39) hx hb dX11_count_35 (by decide) ?_
          refine lv_iadd hx hb dX11_count_39 ?_
          refine zz_i (v := nI ((cntP (fun g => (st g).toInt = 1) q) + 1)) (nI_add (cntP (fun g => (st g).toInt = 1) q) 1) ?_
          refine lv_istore_n (lv' := [(2, .int (nI ((cntP (fun g => (st g).toInt = 1) q) + 1))), (6, .int (nI q)), (5, .int (nI (smP (lvF ft st tn) (fun g => nN (mn g)) q))), (4, .int (nI (cntP (fun g => ¬ (tn g).toInt = 0) q))), (3, .int (nI (cntP (fun g => (st g).toInt = 2) q))), (0, .ref k0), (1, .int 3)]) hx hb dX11_count_40 rfl hl (by decide) rfl (fun ls hl => ?_)
          refine lv_iload_n hx hb dX11_count_41 rfl (lv_at hl 4 rfl) ?_
          refine lv_aload_n hx hb dX11_count_42 rfl (lv_at hl 5 rfl) ?_
          refine va_get (D := (dC, dI)) (ci := 9) (v := .ref (a 5)) (C := RX11) (T := TX11) (N := 55) hx hb hts inX11 hown hK hP 0 rfl rfl 5 (by decide) (hts _ mw_1164) (fun _ h9 => h9) rfl dX11_count_43 ?_
          refine lv_iload hx hb dX11_count_46 (lv_at hl 1 rfl) ?_
          refine z_iald hx hb hK hP 1 0 rfl rfl (e := q) rfl (by omega) (by omega) dX11_count_48 ?_
          refine lv_iconst (v := 2) hx hb dX11_count_49 (by decide) ?_
          refine lv_icmp_ne (tgt := 57) hx hb dX11_count_50 (by decide) (fun c_10 => ?_) (fun c_10 => ?_)
          · have c_10 : ¬ (st q).toInt = 2 := zc_ne rfl (by decide) c_10
            refine lv_iconst (v := 0) hx hb dX11_count_57 (by decide) ?_
            refine lv_iadd hx hb dX11_count_58 ?_
            refine zz_i (v := nI ((cntP (fun g => (st g).toInt = 2) q) + 0)) (nI_add (cntP (fun g => (st g).toInt = 2) q) 0) ?_
            refine lv_istore_n (lv' := [(3, .int (nI ((cntP (fun g => (st g).toInt = 2) q) + 0))), (2, .int (nI ((cntP (fun g => (st g).toInt = 1) q) + 1))), (6, .int (nI q)), (5, .int (nI (smP (lvF ft st tn) (fun g => nN (mn g)) q))), (4, .int (nI (cntP (fun g => ¬ (tn g).toInt = 0) q))), (0, .ref k0), (1, .int 3)]) hx hb dX11_count_59 rfl hl (by decide) rfl (fun ls hl => ?_)
            refine lv_iload hx hb dX11_count_60 (lv_at hl 4 rfl) ?_
            refine lv_aload_n hx hb dX11_count_62 rfl (lv_at hl 5 rfl) ?_
            refine va_get (D := (dC, dI)) (ci := 9) (v := .ref (a 6)) (C := RX11) (T := TX11) (N := 55) hx hb hts inX11 hown hK hP 0 rfl rfl 6 (by decide) (hts _ mw_1165) (fun _ h9 => h9) rfl dX11_count_63 ?_
            refine lv_iload hx hb dX11_count_66 (lv_at hl 2 rfl) ?_
            refine z_zald hx hb hK hP 2 1 rfl rfl (e := q) rfl (by omega) (by omega) dX11_count_68 ?_
            refine lv_if_eq (tgt := 76) hx hb dX11_count_69 (by decide) (fun c_11 => ?_) (fun c_11 => ?_)
            · have c_11 : (tn q).toInt = 0 := zc_eq rfl (by decide) c_11
              refine lv_iconst (v := 0) hx hb dX11_count_76 (by decide) ?_
              refine lv_iadd hx hb dX11_count_77 ?_
              refine zz_i (v := nI ((cntP (fun g => ¬ (tn g).toInt = 0) q) + 0)) (nI_add (cntP (fun g => ¬ (tn g).toInt = 0) q) 0) ?_
              refine lv_istore (lv' := [(4, .int (nI ((cntP (fun g => ¬ (tn g).toInt = 0) q) + 0))), (3, .int (nI ((cntP (fun g => (st g).toInt = 2) q) + 0))), (2, .int (nI ((cntP (fun g => (st g).toInt = 1) q) + 1))), (6, .int (nI q)), (5, .int (nI (smP (lvF ft st tn) (fun g => nN (mn g)) q))), (0, .ref k0), (1, .int 3)]) hx hb dX11_count_78 hl (by decide) rfl (fun ls hl => ?_)
              refine lv_iload hx hb dX11_count_80 (lv_at hl 4 rfl) ?_
              refine lv_aload_n hx hb dX11_count_82 rfl (lv_at hl 5 rfl) ?_
              refine lv_iload hx hb dX11_count_83 (lv_at hl 3 rfl) ?_
              have hPc := hP.sub (ws' := [(om k0 a I0 J0), (oa (a 5) cI 201 st), (oa (a 6) cZ 201 tn)]) [0, 1, 2] rfl
              have hDc := hD.sub (ws' := [(om k0 a I0 J0), (oa (a 5) cI 201 st), (oa (a 6) cZ 201 tn)]) [0, 1, 2] (by decide) rfl
              have hFc := va_free (wc := [(om k0 a I0 J0), (oa (a 5) cI 201 st), (oa (a 6) cZ 201 tn)]) hD hS hA [0, 1, 2] rfl
              refine zcall (st1 := [.int (pI (q < ft ∧ (st q).toInt = 1 ∧ (tn q).toInt = 0)), .int (nI (smP (lvF ft st tn) (fun g => nN (mn g)) q))]) (va_runV (As := [.int (nI q)]) (rest := [.int (nI (smP (lvF ft st tn) (fun g => nN (mn g)) q))]) ⟨hx, hb, hml, hown, hts⟩ (k_M_is_n l dC dI cI cZ cF H.size k0 a I0 J0 q ft st tn (by assumption) (by omega) (by omega)) (cwV 1 hts (zz_gV mw_1447 mw_1449 mw_56 mw_110 mc_yX11_is) rfl rfl rfl (by decide +kernel) ⟨Nat.le_of_ble_eq_true rfl, Nat.le_of_ble_eq_true rfl⟩) (zPV2 (q0 := 0) (ci := 9) hPc hDc hK hXN rfl rfl) rfl rfl hl.1 rfl (lv_room (Nat.le_of_ble_eq_true rfl)) dX11_count_85 ⟨Nat.le_of_ble_eq_true rfl, Nat.le_of_ble_eq_true rfl⟩) hS hFc hFc rfl (fun t H1 locs ht hB hk1 hS => ?_)
              obtain ⟨hP1, hD1⟩ := hB
              rw [ht] at hP1
              obtain ⟨hP, hD⟩ := va_join (wr := [(oa (a 11) cI 201 mn)]) (w1 := [(om k0 a I0 J0), (oa (a 5) cI 201 st), (oa (a 6) cZ 201 tn)]) hP hD [0, 1, 2] [3] rfl rfl (by decide) (by decide) hk1 hFc hP1 hD1
              clear hk1 hPc hDc hFc hP1 hD1 ht
              generalize H1 = H at hP hS ⊢
              have hP := hP.sub (ws' := [(om k0 a I0 J0), (oa (a 5) cI 201 st), (oa (a 6) cZ 201 tn), (oa (a 11) cI 201 mn)]) [1, 2, 3, 0] rfl
              have hD := hD.sub (ws' := [(om k0 a I0 J0), (oa (a 5) cI 201 st), (oa (a 6) cZ 201 tn), (oa (a 11) cI 201 mn)]) [1, 2, 3, 0] (by decide) rfl
              have hP : va_P (dC, dI) classes [(om k0 a I0 J0), (oa (a 5) cI 201 st), (oa (a 6) cZ 201 tn), (oa (a 11) cI 201 mn)] H := hP
              have hD : va_D A [(om k0 a I0 J0), (oa (a 5) cI 201 st), (oa (a 6) cZ 201 tn), (oa (a 11) cI 201 mn)] := hD
              refine lv_if_eq (tgt := 101) hx hb dX11_count_88 (by decide) (fun c_12 => ?_) (fun c_12 => ?_)
              · have c_12 : ¬ (q < ft ∧ (st q).toInt = 1 ∧ (tn q).toInt = 0) := zp_0 c_12
                refine lv_iconst (v := 0) hx hb dX11_count_101 (by decide) ?_
                refine lv_iadd hx hb dX11_count_102 ?_
                refine zz_i (v := nI ((smP (lvF ft st tn) (fun g => nN (mn g)) q) + 0)) (nI_add (smP (lvF ft st tn) (fun g => nN (mn g)) q) 0) ?_
                refine lv_istore (lv' := [(5, .int (nI ((smP (lvF ft st tn) (fun g => nN (mn g)) q) + 0))), (4, .int (nI ((cntP (fun g => ¬ (tn g).toInt = 0) q) + 0))), (3, .int (nI ((cntP (fun g => (st g).toInt = 2) q) + 0))), (2, .int (nI ((cntP (fun g => (st g).toInt = 1) q) + 1))), (6, .int (nI q)), (0, .ref k0), (1, .int 3)]) hx hb dX11_count_103 hl (by decide) rfl (fun ls hl => ?_)
                refine lv_iinc (v := nI (q + 1)) (lv' := [(6, .int (nI (q + 1))), (5, .int (nI ((smP (lvF ft st tn) (fun g => nN (mn g)) q) + 0))), (4, .int (nI ((cntP (fun g => ¬ (tn g).toInt = 0) q) + 0))), (3, .int (nI ((cntP (fun g => (st g).toInt = 2) q) + 0))), (2, .int (nI ((cntP (fun g => (st g).toInt = 1) q) + 1))), (0, .ref k0), (1, .int 3)]) hx hb dX11_count_105 hl (k := 4) rfl (nI_add q 1) (by decide) rfl (fun ls hl => ?_)
                refine lv_goto (tgt := 13) hx hb dX11_count_108 (by decide) ?_
                have hl9 := lv_sub hl [0, 1, 2, 3, 4, 5, 6] rfl
                have e9_2 : nI (cntP (fun g => (st g).toInt = 1) (q + 1)) = (nI ((cntP (fun g => (st g).toInt = 1) q) + 1) : Int32) := by first | exact congrArg nI (cntP_y (P := fun g => (st g).toInt = 1) (show (st q).toInt = 1 by omega)) | exact congrArg nI (cntP_n0 (P := fun g => (st g).toInt = 1) (show ¬ (st q).toInt = 1 by omega))
                have e9_3 : nI (cntP (fun g => (st g).toInt = 2) (q + 1)) = (nI ((cntP (fun g => (st g).toInt = 2) q) + 0) : Int32) := by first | exact congrArg nI (cntP_y (P := fun g => (st g).toInt = 2) (show (st q).toInt = 2 by omega)) | exact congrArg nI (cntP_n0 (P := fun g => (st g).toInt = 2) (show ¬ (st q).toInt = 2 by omega))
                have e9_4 : nI (cntP (fun g => ¬ (tn g).toInt = 0) (q + 1)) = (nI ((cntP (fun g => ¬ (tn g).toInt = 0) q) + 0) : Int32) := by first | exact congrArg nI (cntP_y (P := fun g => ¬ (tn g).toInt = 0) (show ¬ (tn q).toInt = 0 by omega)) | exact congrArg nI (cntP_n0 (P := fun g => ¬ (tn g).toInt = 0) (show ¬ ¬ (tn q).toInt = 0 by omega))
                have e9_5 : nI (smP (lvF ft st tn) (fun g => nN (mn g)) (q + 1)) = (nI ((smP (lvF ft st tn) (fun g => nN (mn g)) q) + 0) : Int32) := by first | exact congrArg nI (smP_y (P := lvF ft st tn) (by assumption)) | exact congrArg nI (smP_n (P := lvF ft st tn) (by assumption))
                have hl9 : lv_has ls 7 [(6, .int (nI (q + 1))), (5, .int (nI (smP (lvF ft st tn) (fun g => nN (mn g)) (q + 1)))), (4, .int (nI (cntP (fun g => ¬ (tn g).toInt = 0) (q + 1)))), (3, .int (nI (cntP (fun g => (st g).toInt = 2) (q + 1)))), (2, .int (nI (cntP (fun g => (st g).toInt = 1) (q + 1)))), (0, .ref k0), (1, .int 3)] := by rw [e9_2]; rw [e9_3]; rw [e9_4]; rw [e9_5]; exact hl9
                exact ih_13 (q + 1) H locs ls (by omega) (by omega) hP hD hS hl9
              · have c_12 : q < ft ∧ (st q).toInt = 1 ∧ (tn q).toInt = 0 := zp_1 c_12
                refine lv_aload_n hx hb dX11_count_91 rfl (lv_at hl 5 rfl) ?_
                refine va_get (D := (dC, dI)) (ci := 9) (v := .ref (a 11)) (C := RX11) (T := TX11) (N := 55) hx hb hts inX11 hown hK hP 0 rfl rfl 11 (by decide) (hts _ mw_1170) (fun _ h9 => h9) rfl dX11_count_92 ?_
                refine lv_iload hx hb dX11_count_95 (lv_at hl 3 rfl) ?_
                refine z_iald hx hb hK hP 3 0 rfl rfl (e := q) rfl (by omega) (by omega) dX11_count_97 ?_
                refine zz_i (v := nI (nN (mn q))) ((hmw q (by assumption)).1) ?_
                refine lv_goto (tgt := 102) hx hb dX11_count_98 (by decide) ?_
                refine lv_iadd hx hb dX11_count_102 ?_
                refine zz_i (v := nI ((smP (lvF ft st tn) (fun g => nN (mn g)) q) + (nN (mn q)))) (nI_add (smP (lvF ft st tn) (fun g => nN (mn g)) q) (nN (mn q))) ?_
                refine lv_istore (lv' := [(5, .int (nI ((smP (lvF ft st tn) (fun g => nN (mn g)) q) + (nN (mn q))))), (4, .int (nI ((cntP (fun g => ¬ (tn g).toInt = 0) q) + 0))), (3, .int (nI ((cntP (fun g => (st g).toInt = 2) q) + 0))), (2, .int (nI ((cntP (fun g => (st g).toInt = 1) q) + 1))), (6, .int (nI q)), (0, .ref k0), (1, .int 3)]) hx hb dX11_count_103 hl (by decide) rfl (fun ls hl => ?_)
                refine lv_iinc (v := nI (q + 1)) (lv' := [(6, .int (nI (q + 1))), (5, .int (nI ((smP (lvF ft st tn) (fun g => nN (mn g)) q) + (nN (mn q))))), (4, .int (nI ((cntP (fun g => ¬ (tn g).toInt = 0) q) + 0))), (3, .int (nI ((cntP (fun g => (st g).toInt = 2) q) + 0))), (2, .int (nI ((cntP (fun g => (st g).toInt = 1) q) + 1))), (0, .ref k0), (1, .int 3)]) hx hb dX11_count_105 hl (k := 4) rfl (nI_add q 1) (by decide) rfl (fun ls hl => ?_)
                refine lv_goto (tgt := 13) hx hb dX11_count_108 (by decide) ?_
                have hl9 := lv_sub hl [0, 1, 2, 3, 4, 5, 6] rfl
                have e9_2 : nI (cntP (fun g => (st g).toInt = 1) (q + 1)) = (nI ((cntP (fun g => (st g).toInt = 1) q) + 1) : Int32) := by first | exact congrArg nI (cntP_y (P := fun g => (st g).toInt = 1) (show (st q).toInt = 1 by omega)) | exact congrArg nI (cntP_n0 (P := fun g => (st g).toInt = 1) (show ¬ (st q).toInt = 1 by omega))
                have e9_3 : nI (cntP (fun g => (st g).toInt = 2) (q + 1)) = (nI ((cntP (fun g => (st g).toInt = 2) q) + 0) : Int32) := by first | exact congrArg nI (cntP_y (P := fun g => (st g).toInt = 2) (show (st q).toInt = 2 by omega)) | exact congrArg nI (cntP_n0 (P := fun g => (st g).toInt = 2) (show ¬ (st q).toInt = 2 by omega))
                have e9_4 : nI (cntP (fun g => ¬ (tn g).toInt = 0) (q + 1)) = (nI ((cntP (fun g => ¬ (tn g).toInt = 0) q) + 0) : Int32) := by first | exact congrArg nI (cntP_y (P := fun g => ¬ (tn g).toInt = 0) (show ¬ (tn q).toInt = 0 by omega)) | exact congrArg nI (cntP_n0 (P := fun g => ¬ (tn g).toInt = 0) (show ¬ ¬ (tn q).toInt = 0 by omega))
                have e9_5 : nI (smP (lvF ft st tn) (fun g => nN (mn g)) (q + 1)) = (nI ((smP (lvF ft st tn) (fun g => nN (mn g)) q) + (nN (mn q))) : Int32) := by first | exact congrArg nI (smP_y (P := lvF ft st tn) (by assumption)) | exact congrArg nI (smP_n (P := lvF ft st tn) (by assumption))
                have hl9 : lv_has ls 7 [(6, .int (nI (q + 1))), (5, .int (nI (smP (lvF ft st tn) (fun g => nN (mn g)) (q + 1)))), (4, .int (nI (cntP (fun g => ¬ (tn g).toInt = 0) (q + 1)))), (3, .int (nI (cntP (fun g => (st g).toInt = 2) (q + 1)))), (2, .int (nI (cntP (fun g => (st g).toInt = 1) (q + 1)))), (0, .ref k0), (1, .int 3)] := by rw [e9_2]; rw [e9_3]; rw [e9_4]; rw [e9_5]; exact hl9
                exact ih_13 (q + 1) H locs ls (by omega) (by omega) hP hD hS hl9
            · have c_11 : ¬ (tn q).toInt = 0 := zc_ne rfl (by decide) c_11
              refine lv_iconst (v := 1) hx hb dX11_count_72 (by decide) ?_
              refine lv_goto (tgt := 77) hx hb dX11_count_73 (by decide) ?_
              refine lv_iadd hx hb dX11_count_77 ?_
              refine zz_i (v := nI ((cntP (fun g => ¬ (tn g).toInt = 0) q) + 1)) (nI_add (cntP (fun g => ¬ (tn g).toInt = 0) q) 1) ?_
              refine lv_istore (lv' := [(4, .int (nI ((cntP (fun g => ¬ (tn g).toInt = 0) q) + 1))), (3, .int (nI ((cntP (fun g => (st g).toInt = 2) q) + 0))), (2, .int (nI ((cntP (fun g => (st g).toInt = 1) q) + 1))), (6, .int (nI q)), (5, .int (nI (smP (lvF ft st tn) (fun g => nN (mn g)) q))), (0, .ref k0), (1, .int 3)]) hx hb dX11_count_78 hl (by decide) rfl (fun ls hl => ?_)
              refine lv_iload hx hb dX11_count_80 (lv_at hl 4 rfl) ?_
              refine lv_aload_n hx hb dX11_count_82 rfl (lv_at hl 5 rfl) ?_
              refine lv_iload hx hb dX11_count_83 (lv_at hl 3 rfl) ?_
              have hPc := hP.sub (ws' := [(om k0 a I0 J0), (oa (a 5) cI 201 st), (oa (a 6) cZ 201 tn)]) [0, 1, 2] rfl
              have hDc := hD.sub (ws' := [(om k0 a I0 J0), (oa (a 5) cI 201 st), (oa (a 6) cZ 201 tn)]) [0, 1, 2] (by decide) rfl
              have hFc := va_free (wc := [(om k0 a I0 J0), (oa (a 5) cI 201 st), (oa (a 6) cZ 201 tn)]) hD hS hA [0, 1, 2] rfl
              refine zcall (st1 := [.int (pI (q < ft ∧ (st q).toInt = 1 ∧ (tn q).toInt = 0)), .int (nI (smP (lvF ft st tn) (fun g => nN (mn g)) q))]) (va_runV (As := [.int (nI q)]) (rest := [.int (nI (smP (lvF ft st tn) (fun g => nN (mn g)) q))]) ⟨hx, hb, hml, hown, hts⟩ (k_M_is_n l dC dI cI cZ cF H.size k0 a I0 J0 q ft st tn (by assumption) (by omega) (by omega)) (cwV 1 hts (zz_gV mw_1447 mw_1449 mw_56 mw_110 mc_yX11_is) rfl rfl rfl (by decide +kernel) ⟨Nat.le_of_ble_eq_true rfl, Nat.le_of_ble_eq_true rfl⟩) (zPV2 (q0 := 0) (ci := 9) hPc hDc hK hXN rfl rfl) rfl rfl hl.1 rfl (lv_room (Nat.le_of_ble_eq_true rfl)) dX11_count_85 ⟨Nat.le_of_ble_eq_true rfl, Nat.le_of_ble_eq_true rfl⟩) hS hFc hFc rfl (fun t H1 locs ht hB hk1 hS => ?_)
              obtain ⟨hP1, hD1⟩ := hB
              rw [ht] at hP1
              obtain ⟨hP, hD⟩ := va_join (wr := [(oa (a 11) cI 201 mn)]) (w1 := [(om k0 a I0 J0), (oa (a 5) cI 201 st), (oa (a 6) cZ 201 tn)]) hP hD [0, 1, 2] [3] rfl rfl (by decide) (by decide) hk1 hFc hP1 hD1
              clear hk1 hPc hDc hFc hP1 hD1 ht
              generalize H1 = H at hP hS ⊢
              have hP := hP.sub (ws' := [(om k0 a I0 J0), (oa (a 5) cI 201 st), (oa (a 6) cZ 201 tn), (oa (a 11) cI 201 mn)]) [1, 2, 3, 0] rfl
              have hD := hD.sub (ws' := [(om k0 a I0 J0), (oa (a 5) cI 201 st), (oa (a 6) cZ 201 tn), (oa (a 11) cI 201 mn)]) [1, 2, 3, 0] (by decide) rfl
              have hP : va_P (dC, dI) classes [(om k0 a I0 J0), (oa (a 5) cI 201 st), (oa (a 6) cZ 201 tn), (oa (a 11) cI 201 mn)] H := hP
              have hD : va_D A [(om k0 a I0 J0), (oa (a 5) cI 201 st), (oa (a 6) cZ 201 tn), (oa (a 11) cI 201 mn)] := hD
              refine lv_if_eq (tgt := 101) hx hb dX11_count_88 (by decide) (fun c_13 => ?_) (fun c_13 => ?_)
              · have c_13 : ¬ (q < ft ∧ (st q).toInt = 1 ∧ (tn q).toInt = 0) := zp_0 c_13
                refine lv_iconst (v := 0) hx hb dX11_count_101 (by decide) ?_
                refine lv_iadd hx hb dX11_count_102 ?_
                refine zz_i (v := nI ((smP (lvF ft st tn) (fun g => nN (mn g)) q) + 0)) (nI_add (smP (lvF ft st tn) (fun g => nN (mn g)) q) 0) ?_
                refine lv_istore (lv' := [(5, .int (nI ((smP (lvF ft st tn) (fun g => nN (mn g)) q) + 0))), (4, .int (nI ((cntP (fun g => ¬ (tn g).toInt = 0) q) + 1))), (3, .int (nI ((cntP (fun g => (st g).toInt = 2) q) + 0))), (2, .int (nI ((cntP (fun g => (st g).toInt = 1) q) + 1))), (6, .int (nI q)), (0, .ref k0), (1, .int 3)]) hx hb dX11_count_103 hl (by decide) rfl (fun ls hl => ?_)
                refine lv_iinc (v := nI (q + 1)) (lv' := [(6, .int (nI (q + 1))), (5, .int (nI ((smP (lvF ft st tn) (fun g => nN (mn g)) q) + 0))), (4, .int (nI ((cntP (fun g => ¬ (tn g).toInt = 0) q) + 1))), (3, .int (nI ((cntP (fun g => (st g).toInt = 2) q) + 0))), (2, .int (nI ((cntP (fun g => (st g).toInt = 1) q) + 1))), (0, .ref k0), (1, .int 3)]) hx hb dX11_count_105 hl (k := 4) rfl (nI_add q 1) (by decide) rfl (fun ls hl => ?_)
                refine lv_goto (tgt := 13) hx hb dX11_count_108 (by decide) ?_
                have hl9 := lv_sub hl [0, 1, 2, 3, 4, 5, 6] rfl
                have e9_2 : nI (cntP (fun g => (st g).toInt = 1) (q + 1)) = (nI ((cntP (fun g => (st g).toInt = 1) q) + 1) : Int32) := by first | exact congrArg nI (cntP_y (P := fun g => (st g).toInt = 1) (show (st q).toInt = 1 by omega)) | exact congrArg nI (cntP_n0 (P := fun g => (st g).toInt = 1) (show ¬ (st q).toInt = 1 by omega))
                have e9_3 : nI (cntP (fun g => (st g).toInt = 2) (q + 1)) = (nI ((cntP (fun g => (st g).toInt = 2) q) + 0) : Int32) := by first | exact congrArg nI (cntP_y (P := fun g => (st g).toInt = 2) (show (st q).toInt = 2 by omega)) | exact congrArg nI (cntP_n0 (P := fun g => (st g).toInt = 2) (show ¬ (st q).toInt = 2 by omega))
                have e9_4 : nI (cntP (fun g => ¬ (tn g).toInt = 0) (q + 1)) = (nI ((cntP (fun g => ¬ (tn g).toInt = 0) q) + 1) : Int32) := by first | exact congrArg nI (cntP_y (P := fun g => ¬ (tn g).toInt = 0) (show ¬ (tn q).toInt = 0 by omega)) | exact congrArg nI (cntP_n0 (P := fun g => ¬ (tn g).toInt = 0) (show ¬ ¬ (tn q).toInt = 0 by omega))
                have e9_5 : nI (smP (lvF ft st tn) (fun g => nN (mn g)) (q + 1)) = (nI ((smP (lvF ft st tn) (fun g => nN (mn g)) q) + 0) : Int32) := by first | exact congrArg nI (smP_y (P := lvF ft st tn) (by assumption)) | exact congrArg nI (smP_n (P := lvF ft st tn) (by assumption))
                have hl9 : lv_has ls 7 [(6, .int (nI (q + 1))), (5, .int (nI (smP (lvF ft st tn) (fun g => nN (mn g)) (q + 1)))), (4, .int (nI (cntP (fun g => ¬ (tn g).toInt = 0) (q + 1)))), (3, .int (nI (cntP (fun g => (st g).toInt = 2) (q + 1)))), (2, .int (nI (cntP (fun g => (st g).toInt = 1) (q + 1)))), (0, .ref k0), (1, .int 3)] := by rw [e9_2]; rw [e9_3]; rw [e9_4]; rw [e9_5]; exact hl9
                exact ih_13 (q + 1) H locs ls (by omega) (by omega) hP hD hS hl9
              · have c_13 : q < ft ∧ (st q).toInt = 1 ∧ (tn q).toInt = 0 := zp_1 c_13
                refine lv_aload_n hx hb dX11_count_91 rfl (lv_at hl 5 rfl) ?_
                refine va_get (D := (dC, dI)) (ci := 9) (v := .ref (a 11)) (C := RX11) (T := TX11) (N := 55) hx hb hts inX11 hown hK hP 0 rfl rfl 11 (by decide) (hts _ mw_1170) (fun _ h9 => h9) rfl dX11_count_92 ?_
                refine lv_iload hx hb dX11_count_95 (lv_at hl 3 rfl) ?_
                refine z_iald hx hb hK hP 3 0 rfl rfl (e := q) rfl (by omega) (by omega) dX11_count_97 ?_
                refine zz_i (v := nI (nN (mn q))) ((hmw q (by assumption)).1) ?_
                refine lv_goto (tgt := 102) hx hb dX11_count_98 (by decide) ?_
                refine lv_iadd hx hb dX11_count_102 ?_
                refine zz_i (v := nI ((smP (lvF ft st tn) (fun g => nN (mn g)) q) + (nN (mn q)))) (nI_add (smP (lvF ft st tn) (fun g => nN (mn g)) q) (nN (mn q))) ?_
                refine lv_istore (lv' := [(5, .int (nI ((smP (lvF ft st tn) (fun g => nN (mn g)) q) + (nN (mn q))))), (4, .int (nI ((cntP (fun g => ¬ (tn g).toInt = 0) q) + 1))), (3, .int (nI ((cntP (fun g => (st g).toInt = 2) q) + 0))), (2, .int (nI ((cntP (fun g => (st g).toInt = 1) q) + 1))), (6, .int (nI q)), (0, .ref k0), (1, .int 3)]) hx hb dX11_count_103 hl (by decide) rfl (fun ls hl => ?_)
                refine lv_iinc (v := nI (q + 1)) (lv' := [(6, .int (nI (q + 1))), (5, .int (nI ((smP (lvF ft st tn) (fun g => nN (mn g)) q) + (nN (mn q))))), (4, .int (nI ((cntP (fun g => ¬ (tn g).toInt = 0) q) + 1))), (3, .int (nI ((cntP (fun g => (st g).toInt = 2) q) + 0))), (2, .int (nI ((cntP (fun g => (st g).toInt = 1) q) + 1))), (0, .ref k0), (1, .int 3)]) hx hb dX11_count_105 hl (k := 4) rfl (nI_add q 1) (by decide) rfl (fun ls hl => ?_)
                refine lv_goto (tgt := 13) hx hb dX11_count_108 (by decide) ?_
                have hl9 := lv_sub hl [0, 1, 2, 3, 4, 5, 6] rfl
                have e9_2 : nI (cntP (fun g => (st g).toInt = 1) (q + 1)) = (nI ((cntP (fun g => (st g).toInt = 1) q) + 1) : Int32) := by first | exact congrArg nI (cntP_y (P := fun g => (st g).toInt = 1) (show (st q).toInt = 1 by omega)) | exact congrArg nI (cntP_n0 (P := fun g => (st g).toInt = 1) (show ¬ (st q).toInt = 1 by omega))
                have e9_3 : nI (cntP (fun g => (st g).toInt = 2) (q + 1)) = (nI ((cntP (fun g => (st g).toInt = 2) q) + 0) : Int32) := by first | exact congrArg nI (cntP_y (P := fun g => (st g).toInt = 2) (show (st q).toInt = 2 by omega)) | exact congrArg nI (cntP_n0 (P := fun g => (st g).toInt = 2) (show ¬ (st q).toInt = 2 by omega))
                have e9_4 : nI (cntP (fun g => ¬ (tn g).toInt = 0) (q + 1)) = (nI ((cntP (fun g => ¬ (tn g).toInt = 0) q) + 1) : Int32) := by first | exact congrArg nI (cntP_y (P := fun g => ¬ (tn g).toInt = 0) (show ¬ (tn q).toInt = 0 by omega)) | exact congrArg nI (cntP_n0 (P := fun g => ¬ (tn g).toInt = 0) (show ¬ ¬ (tn q).toInt = 0 by omega))
                have e9_5 : nI (smP (lvF ft st tn) (fun g => nN (mn g)) (q + 1)) = (nI ((smP (lvF ft st tn) (fun g => nN (mn g)) q) + (nN (mn q))) : Int32) := by first | exact congrArg nI (smP_y (P := lvF ft st tn) (by assumption)) | exact congrArg nI (smP_n (P := lvF ft st tn) (by assumption))
                have hl9 : lv_has ls 7 [(6, .int (nI (q + 1))), (5, .int (nI (smP (lvF ft st tn) (fun g => nN (mn g)) (q + 1)))), (4, .int (nI (cntP (fun g => ¬ (tn g).toInt = 0) (q + 1)))), (3, .int (nI (cntP (fun g => (st g).toInt = 2) (q + 1)))), (2, .int (nI (cntP (fun g => (st g).toInt = 1) (q + 1)))), (0, .ref k0), (1, .int 3)] := by rw [e9_2]; rw [e9_3]; rw [e9_4]; rw [e9_5]; exact hl9
                exact ih_13 (q + 1) H locs ls (by omega) (by omega) hP hD hS hl9
          · have c_10 : (st q).toInt = 2 := zc_eq rfl (by decide) c_10
            refine lv_iconst (v := 1) hx hb dX11_count_53 (by decide) ?_
            refine lv_goto (tgt := 58) hx hb dX11_count_54 (by decide) ?_
            refine lv_iadd hx hb dX11_count_58 ?_
            refine zz_i (v := nI ((cntP (fun g => (st g).toInt = 2) q) + 1)) (nI_add (cntP (fun g => (st g).toInt = 2) q) 1) ?_
            refine lv_istore_n (lv' := [(3, .int (nI ((cntP (fun g => (st g).toInt = 2) q) + 1))), (2, .int (nI ((cntP (fun g => (st g).toInt = 1) q) + 1))), (6, .int (nI q)), (5, .int (nI (smP (lvF ft st tn) (fun g => nN (mn g)) q))), (4, .int (nI (cntP (fun g => ¬ (tn g).toInt = 0) q))), (0, .ref k0), (1, .int 3)]) hx hb dX11_count_59 rfl hl (by decide) rfl (fun ls hl => ?_)
            refine lv_iload hx hb dX11_count_60 (lv_at hl 4 rfl) ?_
            refine lv_aload_n hx hb dX11_count_62 rfl (lv_at hl 5 rfl) ?_
            refine va_get (D := (dC, dI)) (ci := 9) (v := .ref (a 6)) (C := RX11) (T := TX11) (N := 55) hx hb hts inX11 hown hK hP 0 rfl rfl 6 (by decide) (hts _ mw_1165) (fun _ h9 => h9) rfl dX11_count_63 ?_
            refine lv_iload hx hb dX11_count_66 (lv_at hl 2 rfl) ?_
            refine z_zald hx hb hK hP 2 1 rfl rfl (e := q) rfl (by omega) (by omega) dX11_count_68 ?_
            refine lv_if_eq (tgt := 76) hx hb dX11_count_69 (by decide) (fun c_14 => ?_) (fun c_14 => ?_)
            · have c_14 : (tn q).toInt = 0 := zc_eq rfl (by decide) c_14
              refine lv_iconst (v := 0) hx hb dX11_count_76 (by decide) ?_
              refine lv_iadd hx hb dX11_count_77 ?_
              refine zz_i (v := nI ((cntP (fun g => ¬ (tn g).toInt = 0) q) + 0)) (nI_add (cntP (fun g => ¬ (tn g).toInt = 0) q) 0) ?_
              refine lv_istore (lv' := [(4, .int (nI ((cntP (fun g => ¬ (tn g).toInt = 0) q) + 0))), (3, .int (nI ((cntP (fun g => (st g).toInt = 2) q) + 1))), (2, .int (nI ((cntP (fun g => (st g).toInt = 1) q) + 1))), (6, .int (nI q)), (5, .int (nI (smP (lvF ft st tn) (fun g => nN (mn g)) q))), (0, .ref k0), (1, .int 3)]) hx hb dX11_count_78 hl (by decide) rfl (fun ls hl => ?_)
              refine lv_iload hx hb dX11_count_80 (lv_at hl 4 rfl) ?_
              refine lv_aload_n hx hb dX11_count_82 rfl (lv_at hl 5 rfl) ?_
              refine lv_iload hx hb dX11_count_83 (lv_at hl 3 rfl) ?_
              have hPc := hP.sub (ws' := [(om k0 a I0 J0), (oa (a 5) cI 201 st), (oa (a 6) cZ 201 tn)]) [0, 1, 2] rfl
              have hDc := hD.sub (ws' := [(om k0 a I0 J0), (oa (a 5) cI 201 st), (oa (a 6) cZ 201 tn)]) [0, 1, 2] (by decide) rfl
              have hFc := va_free (wc := [(om k0 a I0 J0), (oa (a 5) cI 201 st), (oa (a 6) cZ 201 tn)]) hD hS hA [0, 1, 2] rfl
              refine zcall (st1 := [.int (pI (q < ft ∧ (st q).toInt = 1 ∧ (tn q).toInt = 0)), .int (nI (smP (lvF ft st tn) (fun g => nN (mn g)) q))]) (va_runV (As := [.int (nI q)]) (rest := [.int (nI (smP (lvF ft st tn) (fun g => nN (mn g)) q))]) ⟨hx, hb, hml, hown, hts⟩ (k_M_is_n l dC dI cI cZ cF H.size k0 a I0 J0 q ft st tn (by assumption) (by omega) (by omega)) (cwV 1 hts (zz_gV mw_1447 mw_1449 mw_56 mw_110 mc_yX11_is) rfl rfl rfl (by decide +kernel) ⟨Nat.le_of_ble_eq_true rfl, Nat.le_of_ble_eq_true rfl⟩) (zPV2 (q0 := 0) (ci := 9) hPc hDc hK hXN rfl rfl) rfl rfl hl.1 rfl (lv_room (Nat.le_of_ble_eq_true rfl)) dX11_count_85 ⟨Nat.le_of_ble_eq_true rfl, Nat.le_of_ble_eq_true rfl⟩) hS hFc hFc rfl (fun t H1 locs ht hB hk1 hS => ?_)
              obtain ⟨hP1, hD1⟩ := hB
              rw [ht] at hP1
              obtain ⟨hP, hD⟩ := va_join (wr := [(oa (a 11) cI 201 mn)]) (w1 := [(om k0 a I0 J0), (oa (a 5) cI 201 st), (oa (a 6) cZ 201 tn)]) hP hD [0, 1, 2] [3] rfl rfl (by decide) (by decide) hk1 hFc hP1 hD1
              clear hk1 hPc hDc hFc hP1 hD1 ht
              generalize H1 = H at hP hS ⊢
              have hP := hP.sub (ws' := [(om k0 a I0 J0), (oa (a 5) cI 201 st), (oa (a 6) cZ 201 tn), (oa (a 11) cI 201 mn)]) [1, 2, 3, 0] rfl
              have hD := hD.sub (ws' := [(om k0 a I0 J0), (oa (a 5) cI 201 st), (oa (a 6) cZ 201 tn), (oa (a 11) cI 201 mn)]) [1, 2, 3, 0] (by decide) rfl
              have hP : va_P (dC, dI) classes [(om k0 a I0 J0), (oa (a 5) cI 201 st), (oa (a 6) cZ 201 tn), (oa (a 11) cI 201 mn)] H := hP
              have hD : va_D A [(om k0 a I0 J0), (oa (a 5) cI 201 st), (oa (a 6) cZ 201 tn), (oa (a 11) cI 201 mn)] := hD
              refine lv_if_eq (tgt := 101) hx hb dX11_count_88 (by decide) (fun c_15 => ?_) (fun c_15 => ?_)
              · have c_15 : ¬ (q < ft ∧ (st q).toInt = 1 ∧ (tn q).toInt = 0) := zp_0 c_15
                refine lv_iconst (v := 0) hx hb dX11_count_101 (by decide) ?_
                refine lv_iadd hx hb dX11_count_102 ?_
                refine zz_i (v := nI ((smP (lvF ft st tn) (fun g => nN (mn g)) q) + 0)) (nI_add (smP (lvF ft st tn) (fun g => nN (mn g)) q) 0) ?_
                refine lv_istore (lv' := [(5, .int (nI ((smP (lvF ft st tn) (fun g => nN (mn g)) q) + 0))), (4, .int (nI ((cntP (fun g => ¬ (tn g).toInt = 0) q) + 0))), (3, .int (nI ((cntP (fun g => (st g).toInt = 2) q) + 1))), (2, .int (nI ((cntP (fun g => (st g).toInt = 1) q) + 1))), (6, .int (nI q)), (0, .ref k0), (1, .int 3)]) hx hb dX11_count_103 hl (by decide) rfl (fun ls hl => ?_)
                refine lv_iinc (v := nI (q + 1)) (lv' := [(6, .int (nI (q + 1))), (5, .int (nI ((smP (lvF ft st tn) (fun g => nN (mn g)) q) + 0))), (4, .int (nI ((cntP (fun g => ¬ (tn g).toInt = 0) q) + 0))), (3, .int (nI ((cntP (fun g => (st g).toInt = 2) q) + 1))), (2, .int (nI ((cntP (fun g => (st g).toInt = 1) q) + 1))), (0, .ref k0), (1, .int 3)]) hx hb dX11_count_105 hl (k := 4) rfl (nI_add q 1) (by decide) rfl (fun ls hl => ?_)
                refine lv_goto (tgt := 13) hx hb dX11_count_108 (by decide) ?_
                have hl9 := lv_sub hl [0, 1, 2, 3, 4, 5, 6] rfl
                have e9_2 : nI (cntP (fun g => (st g).toInt = 1) (q + 1)) = (nI ((cntP (fun g => (st g).toInt = 1) q) + 1) : Int32) := by first | exact congrArg nI (cntP_y (P := fun g => (st g).toInt = 1) (show (st q).toInt = 1 by omega)) | exact congrArg nI (cntP_n0 (P := fun g => (st g).toInt = 1) (show ¬ (st q).toInt = 1 by omega))
                have e9_3 : nI (cntP (fun g => (st g).toInt = 2) (q + 1)) = (nI ((cntP (fun g => (st g).toInt = 2) q) + 1) : Int32) := by first | exact congrArg nI (cntP_y (P := fun g => (st g).toInt = 2) (show (st q).toInt = 2 by omega)) | exact congrArg nI (cntP_n0 (P := fun g => (st g).toInt = 2) (show ¬ (st q).toInt = 2 by omega))
                have e9_4 : nI (cntP (fun g => ¬ (tn g).toInt = 0) (q + 1)) = (nI ((cntP (fun g => ¬ (tn g).toInt = 0) q) + 0) : Int32) := by first | exact congrArg nI (cntP_y (P := fun g => ¬ (tn g).toInt = 0) (show ¬ (tn q).toInt = 0 by omega)) | exact congrArg nI (cntP_n0 (P := fun g => ¬ (tn g).toInt = 0) (show ¬ ¬ (tn q).toInt = 0 by omega))
                have e9_5 : nI (smP (lvF ft st tn) (fun g => nN (mn g)) (q + 1)) = (nI ((smP (lvF ft st tn) (fun g => nN (mn g)) q) + 0) : Int32) := by first | exact congrArg nI (smP_y (P := lvF ft st tn) (by assumption)) | exact congrArg nI (smP_n (P := lvF ft st tn) (by assumption))
                have hl9 : lv_has ls 7 [(6, .int (nI (q + 1))), (5, .int (nI (smP (lvF ft st tn) (fun g => nN (mn g)) (q + 1)))), (4, .int (nI (cntP (fun g => ¬ (tn g).toInt = 0) (q + 1)))), (3, .int (nI (cntP (fun g => (st g).toInt = 2) (q + 1)))), (2, .int (nI (cntP (fun g => (st g).toInt = 1) (q + 1)))), (0, .ref k0), (1, .int 3)] := by rw [e9_2]; rw [e9_3]; rw [e9_4]; rw [e9_5]; exact hl9
                exact ih_13 (q + 1) H locs ls (by omega) (by omega) hP hD hS hl9
              · have c_15 : q < ft ∧ (st q).toInt = 1 ∧ (tn q).toInt = 0 := zp_1 c_15
                refine lv_aload_n hx hb dX11_count_91 rfl (lv_at hl 5 rfl) ?_
                refine va_get (D := (dC, dI)) (ci := 9) (v := .ref (a 11)) (C := RX11) (T := TX11) (N := 55) hx hb hts inX11 hown hK hP 0 rfl rfl 11 (by decide) (hts _ mw_1170) (fun _ h9 => h9) rfl dX11_count_92 ?_
                refine lv_iload hx hb dX11_count_95 (lv_at hl 3 rfl) ?_
                refine z_iald hx hb hK hP 3 0 rfl rfl (e := q) rfl (by omega) (by omega) dX11_count_97 ?_
                refine zz_i (v := nI (nN (mn q))) ((hmw q (by assumption)).1) ?_
                refine lv_goto (tgt := 102) hx hb dX11_count_98 (by decide) ?_
                refine lv_iadd hx hb dX11_count_102 ?_
                refine zz_i (v := nI ((smP (lvF ft st tn) (fun g => nN (mn g)) q) + (nN (mn q)))) (nI_add (smP (lvF ft st tn) (fun g => nN (mn g)) q) (nN (mn q))) ?_
                refine lv_istore (lv' := [(5, .int (nI ((smP (lvF ft st tn) (fun g => nN (mn g)) q) + (nN (mn q))))), (4, .int (nI ((cntP (fun g => ¬ (tn g).toInt = 0) q) + 0))), (3, .int (nI ((cntP (fun g => (st g).toInt = 2) q) + 1))), (2, .int (nI ((cntP (fun g => (st g).toInt = 1) q) + 1))), (6, .int (nI q)), (0, .ref k0), (1, .int 3)]) hx hb dX11_count_103 hl (by decide) rfl (fun ls hl => ?_)
                refine lv_iinc (v := nI (q + 1)) (lv' := [(6, .int (nI (q + 1))), (5, .int (nI ((smP (lvF ft st tn) (fun g => nN (mn g)) q) + (nN (mn q))))), (4, .int (nI ((cntP (fun g => ¬ (tn g).toInt = 0) q) + 0))), (3, .int (nI ((cntP (fun g => (st g).toInt = 2) q) + 1))), (2, .int (nI ((cntP (fun g => (st g).toInt = 1) q) + 1))), (0, .ref k0), (1, .int 3)]) hx hb dX11_count_105 hl (k := 4) rfl (nI_add q 1) (by decide) rfl (fun ls hl => ?_)
                refine lv_goto (tgt := 13) hx hb dX11_count_108 (by decide) ?_
                have hl9 := lv_sub hl [0, 1, 2, 3, 4, 5, 6] rfl
                have e9_2 : nI (cntP (fun g => (st g).toInt = 1) (q + 1)) = (nI ((cntP (fun g => (st g).toInt = 1) q) + 1) : Int32) := by first | exact congrArg nI (cntP_y (P := fun g => (st g).toInt = 1) (show (st q).toInt = 1 by omega)) | exact congrArg nI (cntP_n0 (P := fun g => (st g).toInt = 1) (show ¬ (st q).toInt = 1 by omega))
                have e9_3 : nI (cntP (fun g => (st g).toInt = 2) (q + 1)) = (nI ((cntP (fun g => (st g).toInt = 2) q) + 1) : Int32) := by first | exact congrArg nI (cntP_y (P := fun g => (st g).toInt = 2) (show (st q).toInt = 2 by omega)) | exact congrArg nI (cntP_n0 (P := fun g => (st g).toInt = 2) (show ¬ (st q).toInt = 2 by omega))
                have e9_4 : nI (cntP (fun g => ¬ (tn g).toInt = 0) (q + 1)) = (nI ((cntP (fun g => ¬ (tn g).toInt = 0) q) + 0) : Int32) := by first | exact congrArg nI (cntP_y (P := fun g => ¬ (tn g).toInt = 0) (show ¬ (tn q).toInt = 0 by omega)) | exact congrArg nI (cntP_n0 (P := fun g => ¬ (tn g).toInt = 0) (show ¬ ¬ (tn q).toInt = 0 by omega))
                have e9_5 : nI (smP (lvF ft st tn) (fun g => nN (mn g)) (q + 1)) = (nI ((smP (lvF ft st tn) (fun g => nN (mn g)) q) + (nN (mn q))) : Int32) := by first | exact congrArg nI (smP_y (P := lvF ft st tn) (by assumption)) | exact congrArg nI (smP_n (P := lvF ft st tn) (by assumption))
                have hl9 : lv_has ls 7 [(6, .int (nI (q + 1))), (5, .int (nI (smP (lvF ft st tn) (fun g => nN (mn g)) (q + 1)))), (4, .int (nI (cntP (fun g => ¬ (tn g).toInt = 0) (q + 1)))), (3, .int (nI (cntP (fun g => (st g).toInt = 2) (q + 1)))), (2, .int (nI (cntP (fun g => (st g).toInt = 1) (q + 1)))), (0, .ref k0), (1, .int 3)] := by rw [e9_2]; rw [e9_3]; rw [e9_4]; rw [e9_5]; exact hl9
                exact ih_13 (q + 1) H locs ls (by omega) (by omega) hP hD hS hl9
            · have c_14 : ¬ (tn q).toInt = 0 := zc_ne rfl (by decide) c_14
              refine lv_iconst (v := 1) hx hb dX11_count_72 (by decide) ?_
              refine lv_goto (tgt := 77) hx hb dX11_count_73 (by decide) ?_
              refine lv_iadd hx hb dX11_count_77 ?_
              refine zz_i (v := nI ((cntP (fun g => ¬ (tn g).toInt = 0) q) + 1)) (nI_add (cntP (fun g => ¬ (tn g).toInt = 0) q) 1) ?_
              refine lv_istore (lv' := [(4, .int (nI ((cntP (fun g => ¬ (tn g).toInt = 0) q) + 1))), (3, .int (nI ((cntP (fun g => (st g).toInt = 2) q) + 1))), (2, .int (nI ((cntP (fun g => (st g).toInt = 1) q) + 1))), (6, .int (nI q)), (5, .int (nI (smP (lvF ft st tn) (fun g => nN (mn g)) q))), (0, .ref k0), (1, .int 3)]) hx hb dX11_count_78 hl (by decide) rfl (fun ls hl => ?_)
              refine lv_iload hx hb dX11_count_80 (lv_at hl 4 rfl) ?_
              refine lv_aload_n hx hb dX11_count_82 rfl (lv_at hl 5 rfl) ?_
              refine lv_iload hx hb dX11_count_83 (lv_at hl 3 rfl) ?_
              have hPc := hP.sub (ws' := [(om k0 a I0 J0), (oa (a 5) cI 201 st), (oa (a 6) cZ 201 tn)]) [0, 1, 2] rfl
              have hDc := hD.sub (ws' := [(om k0 a I0 J0), (oa (a 5) cI 201 st), (oa (a 6) cZ 201 tn)]) [0, 1, 2] (by decide) rfl
              have hFc := va_free (wc := [(om k0 a I0 J0), (oa (a 5) cI 201 st), (oa (a 6) cZ 201 tn)]) hD hS hA [0, 1, 2] rfl
              refine zcall (st1 := [.int (pI (q < ft ∧ (st q).toInt = 1 ∧ (tn q).toInt = 0)), .int (nI (smP (lvF ft st tn) (fun g => nN (mn g)) q))]) (va_runV (As := [.int (nI q)]) (rest := [.int (nI (smP (lvF ft st tn) (fun g => nN (mn g)) q))]) ⟨hx, hb, hml, hown, hts⟩ (k_M_is_n l dC dI cI cZ cF H.size k0 a I0 J0 q ft st tn (by assumption) (by omega) (by omega)) (cwV 1 hts (zz_gV mw_1447 mw_1449 mw_56 mw_110 mc_yX11_is) rfl rfl rfl (by decide +kernel) ⟨Nat.le_of_ble_eq_true rfl, Nat.le_of_ble_eq_true rfl⟩) (zPV2 (q0 := 0) (ci := 9) hPc hDc hK hXN rfl rfl) rfl rfl hl.1 rfl (lv_room (Nat.le_of_ble_eq_true rfl)) dX11_count_85 ⟨Nat.le_of_ble_eq_true rfl, Nat.le_of_ble_eq_true rfl⟩) hS hFc hFc rfl (fun t H1 locs ht hB hk1 hS => ?_)
              obtain ⟨hP1, hD1⟩ := hB
              rw [ht] at hP1
              obtain ⟨hP, hD⟩ := va_join (wr := [(oa (a 11) cI 201 mn)]) (w1 := [(om k0 a I0 J0), (oa (a 5) cI 201 st), (oa (a 6) cZ 201 tn)]) hP hD [0, 1, 2] [3] rfl rfl (by decide) (by decide) hk1 hFc hP1 hD1
              clear hk1 hPc hDc hFc hP1 hD1 ht
              generalize H1 = H at hP hS ⊢
              have hP := hP.sub (ws' := [(om k0 a I0 J0), (oa (a 5) cI 201 st), (oa (a 6) cZ 201 tn), (oa (a 11) cI 201 mn)]) [1, 2, 3, 0] rfl
              have hD := hD.sub (ws' := [(om k0 a I0 J0), (oa (a 5) cI 201 st), (oa (a 6) cZ 201 tn), (oa (a 11) cI 201 mn)]) [1, 2, 3, 0] (by decide) rfl
              have hP : va_P (dC, dI) classes [(om k0 a I0 J0), (oa (a 5) cI 201 st), (oa (a 6) cZ 201 tn), (oa (a 11) cI 201 mn)] H := hP
              have hD : va_D A [(om k0 a I0 J0), (oa (a 5) cI 201 st), (oa (a 6) cZ 201 tn), (oa (a 11) cI 201 mn)] := hD
              refine lv_if_eq (tgt := 101) hx hb dX11_count_88 (by decide) (fun c_16 => ?_) (fun c_16 => ?_)
              · have c_16 : ¬ (q < ft ∧ (st q).toInt = 1 ∧ (tn q).toInt = 0) := zp_0 c_16
                refine lv_iconst (v := 0) hx hb dX11_count_101 (by decide) ?_
                refine lv_iadd hx hb dX11_count_102 ?_
                refine zz_i (v := nI ((smP (lvF ft st tn) (fun g => nN (mn g)) q) + 0)) (nI_add (smP (lvF ft st tn) (fun g => nN (mn g)) q) 0) ?_
                refine lv_istore (lv' := [(5, .int (nI ((smP (lvF ft st tn) (fun g => nN (mn g)) q) + 0))), (4, .int (nI ((cntP (fun g => ¬ (tn g).toInt = 0) q) + 1))), (3, .int (nI ((cntP (fun g => (st g).toInt = 2) q) + 1))), (2, .int (nI ((cntP (fun g => (st g).toInt = 1) q) + 1))), (6, .int (nI q)), (0, .ref k0), (1, .int 3)]) hx hb dX11_count_103 hl (by decide) rfl (fun ls hl => ?_)
                refine lv_iinc (v := nI (q + 1)) (lv' := [(6, .int (nI (q + 1))), (5, .int (nI ((smP (lvF ft st tn) (fun g => nN (mn g)) q) + 0))), (4, .int (nI ((cntP (fun g => ¬ (tn g).toInt = 0) q) + 1))), (3, .int (nI ((cntP (fun g => (st g).toInt = 2) q) + 1))), (2, .int (nI ((cntP (fun g => (st g).toInt = 1) q) + 1))), (0, .ref k0), (1, .int 3)]) hx hb dX11_count_105 hl (k := 4) rfl (nI_add q 1) (by decide) rfl (fun ls hl => ?_)
                refine lv_goto (tgt := 13) hx hb dX11_count_108 (by decide) ?_
                have hl9 := lv_sub hl [0, 1, 2, 3, 4, 5, 6] rfl
                have e9_2 : nI (cntP (fun g => (st g).toInt = 1) (q + 1)) = (nI ((cntP (fun g => (st g).toInt = 1) q) + 1) : Int32) := by first | exact congrArg nI (cntP_y (P := fun g => (st g).toInt = 1) (show (st q).toInt = 1 by omega)) | exact congrArg nI (cntP_n0 (P := fun g => (st g).toInt = 1) (show ¬ (st q).toInt = 1 by omega))
                have e9_3 : nI (cntP (fun g => (st g).toInt = 2) (q + 1)) = (nI ((cntP (fun g => (st g).toInt = 2) q) + 1) : Int32) := by first | exact congrArg nI (cntP_y (P := fun g => (st g).toInt = 2) (show (st q).toInt = 2 by omega)) | exact congrArg nI (cntP_n0 (P := fun g => (st g).toInt = 2) (show ¬ (st q).toInt = 2 by omega))
                have e9_4 : nI (cntP (fun g => ¬ (tn g).toInt = 0) (q + 1)) = (nI ((cntP (fun g => ¬ (tn g).toInt = 0) q) + 1) : Int32) := by first | exact congrArg nI (cntP_y (P := fun g => ¬ (tn g).toInt = 0) (show ¬ (tn q).toInt = 0 by omega)) | exact congrArg nI (cntP_n0 (P := fun g => ¬ (tn g).toInt = 0) (show ¬ ¬ (tn q).toInt = 0 by omega))
                have e9_5 : nI (smP (lvF ft st tn) (fun g => nN (mn g)) (q + 1)) = (nI ((smP (lvF ft st tn) (fun g => nN (mn g)) q) + 0) : Int32) := by first | exact congrArg nI (smP_y (P := lvF ft st tn) (by assumption)) | exact congrArg nI (smP_n (P := lvF ft st tn) (by assumption))
                have hl9 : lv_has ls 7 [(6, .int (nI (q + 1))), (5, .int (nI (smP (lvF ft st tn) (fun g => nN (mn g)) (q + 1)))), (4, .int (nI (cntP (fun g => ¬ (tn g).toInt = 0) (q + 1)))), (3, .int (nI (cntP (fun g => (st g).toInt = 2) (q + 1)))), (2, .int (nI (cntP (fun g => (st g).toInt = 1) (q + 1)))), (0, .ref k0), (1, .int 3)] := by rw [e9_2]; rw [e9_3]; rw [e9_4]; rw [e9_5]; exact hl9
                exact ih_13 (q + 1) H locs ls (by omega) (by omega) hP hD hS hl9
              · have c_16 : q < ft ∧ (st q).toInt = 1 ∧ (tn q).toInt = 0 := zp_1 c_16
                refine lv_aload_n hx hb dX11_count_91 rfl (lv_at hl 5 rfl) ?_
                refine va_get (D := (dC, dI)) (ci := 9) (v := .ref (a 11)) (C := RX11) (T := TX11) (N := 55) hx hb hts inX11 hown hK hP 0 rfl rfl 11 (by decide) (hts _ mw_1170) (fun _ h9 => h9) rfl dX11_count_92 ?_
                refine lv_iload hx hb dX11_count_95 (lv_at hl 3 rfl) ?_
                refine z_iald hx hb hK hP 3 0 rfl rfl (e := q) rfl (by omega) (by omega) dX11_count_97 ?_
                refine zz_i (v := nI (nN (mn q))) ((hmw q (by assumption)).1) ?_
                refine lv_goto (tgt := 102) hx hb dX11_count_98 (by decide) ?_
                refine lv_iadd hx hb dX11_count_102 ?_
                refine zz_i (v := nI ((smP (lvF ft st tn) (fun g => nN (mn g)) q) + (nN (mn q)))) (nI_add (smP (lvF ft st tn) (fun g => nN (mn g)) q) (nN (mn q))) ?_
                refine lv_istore (lv' := [(5, .int (nI ((smP (lvF ft st tn) (fun g => nN (mn g)) q) + (nN (mn q))))), (4, .int (nI ((cntP (fun g => ¬ (tn g).toInt = 0) q) + 1))), (3, .int (nI ((cntP (fun g => (st g).toInt = 2) q) + 1))), (2, .int (nI ((cntP (fun g => (st g).toInt = 1) q) + 1))), (6, .int (nI q)), (0, .ref k0), (1, .int 3)]) hx hb dX11_count_103 hl (by decide) rfl (fun ls hl => ?_)
                refine lv_iinc (v := nI (q + 1)) (lv' := [(6, .int (nI (q + 1))), (5, .int (nI ((smP (lvF ft st tn) (fun g => nN (mn g)) q) + (nN (mn q))))), (4, .int (nI ((cntP (fun g => ¬ (tn g).toInt = 0) q) + 1))), (3, .int (nI ((cntP (fun g => (st g).toInt = 2) q) + 1))), (2, .int (nI ((cntP (fun g => (st g).toInt = 1) q) + 1))), (0, .ref k0), (1, .int 3)]) hx hb dX11_count_105 hl (k := 4) rfl (nI_add q 1) (by decide) rfl (fun ls hl => ?_)
                refine lv_goto (tgt := 13) hx hb dX11_count_108 (by decide) ?_
                have hl9 := lv_sub hl [0, 1, 2, 3, 4, 5, 6] rfl
                have e9_2 : nI (cntP (fun g => (st g).toInt = 1) (q + 1)) = (nI ((cntP (fun g => (st g).toInt = 1) q) + 1) : Int32) := by first | exact congrArg nI (cntP_y (P := fun g => (st g).toInt = 1) (show (st q).toInt = 1 by omega)) | exact congrArg nI (cntP_n0 (P := fun g => (st g).toInt = 1) (show ¬ (st q).toInt = 1 by omega))
                have e9_3 : nI (cntP (fun g => (st g).toInt = 2) (q + 1)) = (nI ((cntP (fun g => (st g).toInt = 2) q) + 1) : Int32) := by first | exact congrArg nI (cntP_y (P := fun g => (st g).toInt = 2) (show (st q).toInt = 2 by omega)) | exact congrArg nI (cntP_n0 (P := fun g => (st g).toInt = 2) (show ¬ (st q).toInt = 2 by omega))
                have e9_4 : nI (cntP (fun g => ¬ (tn g).toInt = 0) (q + 1)) = (nI ((cntP (fun g => ¬ (tn g).toInt = 0) q) + 1) : Int32) := by first | exact congrArg nI (cntP_y (P := fun g => ¬ (tn g).toInt = 0) (show ¬ (tn q).toInt = 0 by omega)) | exact congrArg nI (cntP_n0 (P := fun g => ¬ (tn g).toInt = 0) (show ¬ ¬ (tn q).toInt = 0 by omega))
                have e9_5 : nI (smP (lvF ft st tn) (fun g => nN (mn g)) (q + 1)) = (nI ((smP (lvF ft st tn) (fun g => nN (mn g)) q) + (nN (mn q))) : Int32) := by first | exact congrArg nI (smP_y (P := lvF ft st tn) (by assumption)) | exact congrArg nI (smP_n (P := lvF ft st tn) (by assumption))
                have hl9 : lv_has ls 7 [(6, .int (nI (q + 1))), (5, .int (nI (smP (lvF ft st tn) (fun g => nN (mn g)) (q + 1)))), (4, .int (nI (cntP (fun g => ¬ (tn g).toInt = 0) (q + 1)))), (3, .int (nI (cntP (fun g => (st g).toInt = 2) (q + 1)))), (2, .int (nI (cntP (fun g => (st g).toInt = 1) (q + 1)))), (0, .ref k0), (1, .int 3)] := by rw [e9_2]; rw [e9_3]; rw [e9_4]; rw [e9_5]; exact hl9
                exact ih_13 (q + 1) H locs ls (by omega) (by omega) hP hD hS hl9
  have e9_2 : nI (cntP (fun g => (st g).toInt = 1) 0) = (0 : Int32) := by rfl
  have e9_3 : nI (cntP (fun g => (st g).toInt = 2) 0) = (0 : Int32) := by rfl
  have e9_4 : nI (cntP (fun g => ¬ (tn g).toInt = 0) 0) = (0 : Int32) := by rfl
  have e9_5 : nI (smP (lvF ft st tn) (fun g => nN (mn g)) 0) = (0 : Int32) := by rfl
  have hl9 : lv_has ls 7 [(6, .int (nI 0)), (5, .int (nI (smP (lvF ft st tn) (fun g => nN (mn g)) 0))), (4, .int (nI (cntP (fun g => ¬ (tn g).toInt = 0) 0))), (3, .int (nI (cntP (fun g => (st g).toInt = 2) 0))), (2, .int (nI (cntP (fun g => (st g).toInt = 1) 0))), (0, .ref k0), (1, .int 3)] := by rw [e9_2]; rw [e9_3]; rw [e9_4]; rw [e9_5]; exact lv_sub hl [0, 1, 2, 3, 4, 5, 6] rfl
  exact hl_13 _ 0 s.heap [] ls (Nat.lt_succ_self _) (by omega) hP hD hS hl9
set_option maxHeartbeats 4000000 in
set_option maxRecDepth 100000 in
theorem k_M_count_4 (l : Launch) (dC : Nat → ClassId) (dI : Nat → Nat → Nat) (cI cZ cF : ClassId) (sz : Nat) (k0 : Nat) (a : Nat → Nat) (I0 : Nat → Int32) (J0 : Nat → Int64) (ft : Nat) (st : Nat → Int32) (tn : Nat → Int32) (mn : Nat → Int32) (hft : I0 0 = nI ft) (h200 : ft ≤ 200) (hmw : ∀ q, lvF ft st tn q → mn q = nI (nN (mn q)) ∧ nN (mn q) ≤ 40) : Met l yX11_count (.code yX11_count cX11_count 7 (some .int) :: ws0) ({ frames := 2, cells := 0, slots := 0, locals := 42 } : Room) (va_Pc [.ref k0, .int 4] (zPre (dC, dI) classes (zTy cI cZ cF) [(om k0 a I0 J0), (oa (a 5) cI 201 st), (oa (a 6) cZ 201 tn), (oa (a 11) cI 201 mn)] sz zXN)) (zQ (some (.int (nI (smP (lvF ft st tn) (fun g => nN (mn g)) ft)))) (fun t => va_P (dC, dI) classes [(om k0 a I0 J0), (oa (a 5) cI 201 st), (oa (a 6) cZ 201 tn), (oa (a 11) cI 201 mn)] t.heap ∧ va_D (va_A [(om k0 a I0 J0), (oa (a 5) cI 201 st), (oa (a 6) cZ 201 tn), (oa (a 11) cI 201 mn)] sz) [(om k0 a I0 J0), (oa (a 5) cI 201 st), (oa (a 6) cZ 201 tn), (oa (a 11) cI 201 mn)]) (va_A [(om k0 a I0 J0), (oa (a 5) cI 201 st), (oa (a 6) cZ 201 tn), (oa (a 11) cI 201 mn)] sz)) 0 0 (va_A [(om k0 a I0 J0), (oa (a 5) cI 201 st), (oa (a 6) cZ 201 tn), (oa (a 11) cI 201 mn)] sz) := by
  refine Met.ofW (cc := cX11_count) (maxL := 7) (ret := (some .int)) (by decide) rfl ?_
  intro p e s m args below meth c s₁ B hml hv
  obtain ⟨rfl, hsz, hP, hK, hD0, hXN⟩ := hv
  have hx := B.exec
  have hb := B.bytes
  have hr := B.returns
  have hts0 := atoms_spec (ws := .code yX11_count cX11_count 7 (some .int) :: ws0) B.pre
  have hts : ∀ w9 ∈ ws0, w9.before ([.ref k0, .int 4] : List Value).toArray s = true := fun w9 h => hts0 w9 (List.mem_cons_of_mem _ h)
  have hown : s.vm.findClass "ScaleShopModel" = some m.cls := findClass_of_methodNamed B.named
  have hlocks := B.notSynchronized
  subst hsz
  have hD := hD0.self (sz := s.heap.size)
  clear hD0
  generalize hAe : va_A [(om k0 a I0 J0), (oa (a 5) cI 201 st), (oa (a 6) cZ 201 tn), (oa (a 11) cI 201 mn)] s.heap.size = A at hD ⊢
  have hA : ∀ q : Nat, s.heap.size ≤ q → A q := fun q h => by rw [← hAe]; exact Or.inr h
  clear hAe
  have hS : va_S A s.heap s.heap [] := va_S.rf
  have hP : va_P (dC, dI) classes [(om k0 a I0 J0), (oa (a 5) cI 201 st), (oa (a 6) cZ 201 tn), (oa (a 11) cI 201 mn)] s.heap := hP
  obtain ⟨Q9, hQ9⟩ : ∃ Q9 : State → Prop, Q9 = MQ below (zQ (some (.int (nI (smP (lvF ft st tn) (fun g => nN (mn g)) ft)))) (fun t => va_P (dC, dI) classes [(om k0 a I0 J0), (oa (a 5) cI 201 st), (oa (a 6) cZ 201 tn), (oa (a 11) cI 201 mn)] t.heap ∧ va_D A [(om k0 a I0 J0), (oa (a 5) cI 201 st), (oa (a 6) cZ 201 tn), (oa (a 11) cI 201 mn)]) A) ([.ref k0, .int 4] : List Value).toArray s 0 0 A := ⟨_, rfl⟩
  rw [← hQ9]
  have hl := lv_entry ([.ref k0, .int 4]) (n := 7) (Nat.le_of_ble_eq_true rfl)
  rw [lg_entry_eq]
  generalize (lg_sl ([.ref k0, .int 4]) ++ List.replicate (7 - (lg_sl ([.ref k0, .int 4])).length) Slot.unset).toArray = ls at hl ⊢
  have hl : lv_has ls 7 [(0, .ref k0), (1, .int 4)] := hl
  refine lv_iconst (v := 0) hx hb dX11_count_0 (by decide) ?_
  refine lv_istore_n (lv' := [(2, .int 0), (0, .ref k0), (1, .int 4)]) hx hb dX11_count_1 rfl hl (by decide) rfl (fun ls hl => ?_)
  refine lv_iconst (v := 0) hx hb dX11_count_2 (by decide) ?_
  refine lv_istore_n (lv' := [(3, .int 0), (2, .int 0), (0, .ref k0), (1, .int 4)]) hx hb dX11_count_3 rfl hl (by decide) rfl (fun ls hl => ?_)
  refine lv_iconst (v := 0) hx hb dX11_count_4 (by decide) ?_
  refine lv_istore (lv' := [(4, .int 0), (3, .int 0), (2, .int 0), (0, .ref k0), (1, .int 4)]) hx hb dX11_count_5 hl (by decide) rfl (fun ls hl => ?_)
  refine lv_iconst (v := 0) hx hb dX11_count_7 (by decide) ?_
  refine lv_istore (lv' := [(5, .int 0), (4, .int 0), (3, .int 0), (2, .int 0), (0, .ref k0), (1, .int 4)]) hx hb dX11_count_8 hl (by decide) rfl (fun ls hl => ?_)
  refine lv_iconst (v := 0) hx hb dX11_count_10 (by decide) ?_
  refine lv_istore (lv' := [(6, .int 0), (5, .int 0), (4, .int 0), (3, .int 0), (2, .int 0), (0, .ref k0), (1, .int 4)]) hx hb dX11_count_11 hl (by decide) rfl (fun ls hl => ?_)
  have hl_13 : ∀ (n9 : Nat) (q : Nat) (H : Heap) (locs : List Loc) (ls : Array Slot), ft - q < n9 → (q ≤ ft) → va_P (dC, dI) classes [(om k0 a I0 J0), (oa (a 5) cI 201 st), (oa (a 6) cZ 201 tn), (oa (a 11) cI 201 mn)] H → va_D A [(om k0 a I0 J0), (oa (a 5) cI 201 st), (oa (a 6) cZ 201 tn), (oa (a 11) cI 201 mn)] → va_S A s.heap H locs → lv_has ls 7 [(6, .int (nI q)), (5, .int (nI (smP (lvF ft st tn) (fun g => nN (mn g)) q))), (4, .int (nI (cntP (fun g => ¬ (tn g).toInt = 0) q))), (3, .int (nI (cntP (fun g => (st g).toInt = 2) q))), (2, .int (nI (cntP (fun g => (st g).toInt = 1) q))), (0, .ref k0), (1, .int 4)] → W p l e ((headSpec (.code yX11_count cX11_count 7 (some .int) :: ws0) ({ frames := 2, cells := 0, slots := 0, locals := 42 } : Room)).room) s m ([.ref k0, .int 4] : List Value).toArray below meth c H locs 0 0 Q9 (F0 m 13 ls []) := by
    intro n9
    induction n9 with
    | zero => intro q H locs ls hm; exact absurd hm (Nat.not_lt_zero _)
    | succ n9 ih_13 =>
      intro q H locs ls hm hq hP hD hS hl
      have hc2 := cntP_b (fun g => (st g).toInt = 1) q
      have hc3 := cntP_b (fun g => (st g).toInt = 2) q
      have hc4 := cntP_b (fun g => ¬ (tn g).toInt = 0) q
      have hc5 := smP_b (P := lvF ft st tn) (c := fun g => nN (mn g)) q (fun j _ h => (hmw j h).2)
      refine lv_iload hx hb dX11_count_13 (lv_at hl 0 rfl) ?_
      refine lv_aload_n hx hb dX11_count_15 rfl (lv_at hl 5 rfl) ?_
      refine va_get (D := (dC, dI)) (ci := 9) (v := .int (I0 0)) (C := RX11) (T := TX11) (N := 55) hx hb hts inX11 hown hK hP 0 rfl rfl 0 (by decide) (hts _ mw_1159) (fun _ h9 => h9) rfl dX11_count_16 ?_
      refine zz_i (v := nI ft) (hft) ?_
      refine lv_icmp_ge (tgt := 111) hx hb dX11_count_19 (by decide) (fun c_1 => ?_) (fun c_1 => ?_)
      · have c_1 : ((ft : Nat) : Int) ≤ ((q : Nat) : Int) := zc_le (nI_toInt (by omega)) (nI_toInt (by omega)) c_1
        refine lv_iload_n hx hb dX11_count_111 rfl (lv_at hl 6 rfl) ?_
        refine lv_tableIn (tgt := 172) (off := 60) hx hb dX11_count_112 (by decide) (by decide) (by decide) (by decide) ?_
        refine lv_iload hx hb dX11_count_172 (lv_at hl 1 rfl) ?_
        have hP9 := hP.sub (ws' := [(om k0 a I0 J0), (oa (a 5) cI 201 st), (oa (a 6) cZ 201 tn), (oa (a 11) cI 201 mn)]) [0, 1, 2, 3] rfl
        have hD9 := hD.sub (ws' := [(om k0 a I0 J0), (oa (a 5) cI 201 st), (oa (a 6) cZ 201 tn), (oa (a 11) cI 201 mn)]) [0, 1, 2, 3] (by decide) rfl
        rw [hQ9]
        exact W.iret (v := nI (smP (lvF ft st tn) (fun g => nN (mn g)) q)) hx hb hr (fun t ht hW => ⟨⟨congrArg (fun z => Outcome.returned (some (Value.int z))) (show (nI (smP (lvF ft st tn) (fun g => nN (mn g)) q) : Int32) = nI (smP (lvF ft st tn) (fun g => nN (mn g)) ft) from zn_eq (by rw [show q = ft by omega])), by rw [ht]; exact hP9, hD9⟩, hS.F ht⟩) hS.2.2 dX11_count_174
      · have c_1 : ((q : Nat) : Int) < ((ft : Nat) : Int) := zc_nle (nI_toInt (by omega)) (nI_toInt (by omega)) c_1
        refine lv_iload_n hx hb dX11_count_22 rfl (lv_at hl 4 rfl) ?_
        refine lv_aload_n hx hb dX11_count_23 rfl (lv_at hl 5 rfl) ?_
        refine va_get (D := (dC, dI)) (ci := 9) (v := .ref (a 5)) (C := RX11) (T := TX11) (N := 55) hx hb hts inX11 hown hK hP 0 rfl rfl 5 (by decide) (hts _ mw_1164) (fun _ h9 => h9) rfl dX11_count_24 ?_
        refine lv_iload hx hb dX11_count_27 (lv_at hl 0 rfl) ?_
        refine z_iald hx hb hK hP 1 0 rfl rfl (e := q) rfl (by omega) (by omega) dX11_count_29 ?_
        refine lv_iconst (v := 1) hx hb dX11_count_30 (by decide) ?_
        refine lv_icmp_ne (tgt := 38) hx hb dX11_count_31 (by decide) (fun c_2 => ?_) (fun c_2 => ?_)
        · have c_2 : ¬ (st q).toInt = 1 := zc_ne rfl (by decide) c_2
          refine lv_iconst (v := 0) hx hb dX11_count_38 (by decide) ?_
          refine lv_iadd hx hb dX11_count_39 ?_
          refine zz_i (v := nI ((cntP (fun g => (st g).toInt = 1) q) + 0)) (nI_add (cntP (fun g => (st g).toInt = 1) q) 0) ?_
          refine lv_istore_n (lv' := [(2, .int (nI ((cntP (fun g => (st g).toInt = 1) q) + 0))), (6, .int (nI q)), (5, .int (nI (smP (lvF ft st tn) (fun g => nN (mn g)) q))), (4, .int (nI (cntP (fun g => ¬ (tn g).toInt = 0) q))), (3, .int (nI (cntP (fun g => (st g).toInt = 2) q))), (0, .ref k0), (1, .int 4)]) hx hb dX11_count_40 rfl hl (by decide) rfl (fun ls hl => ?_)
          refine lv_iload_n hx hb dX11_count_41 rfl (lv_at hl 4 rfl) ?_
          refine lv_aload_n hx hb dX11_count_42 rfl (lv_at hl 5 rfl) ?_
          refine va_get (D := (dC, dI)) (ci := 9) (v := .ref (a 5)) (C := RX11) (T := TX11) (N := 55) hx hb hts inX11 hown hK hP 0 rfl rfl 5 (by decide) (hts _ mw_1164) (fun _ h9 => h9) rfl dX11_count_43 ?_
          refine lv_iload hx hb dX11_count_46 (lv_at hl 1 rfl) ?_
          refine z_iald hx hb hK hP 1 0 rfl rfl (e := q) rfl (by omega) (by omega) dX11_count_48 ?_
          refine lv_iconst (v := 2) hx hb dX11_count_49 (by decide) ?_
          refine lv_icmp_ne (tgt := 57) hx hb dX11_count_50 (by decide) (fun c_3 => ?_) (fun c_3 => ?_)
          · have c_3 : ¬ (st q).toInt = 2 := zc_ne rfl (by decide) c_3
            refine lv_iconst (v := 0) hx hb dX11_count_57 (by decide) ?_
            refine lv_iadd hx hb dX11_count_58 ?_
            refine zz_i (v := nI ((cntP (fun g => (st g).toInt = 2) q) + 0)) (nI_add (cntP (fun g => (st g).toInt = 2) q) 0) ?_
            refine lv_istore_n (lv' := [(3, .int (nI ((cntP (fun g => (st g).toInt = 2) q) + 0))), (2, .int (nI ((cntP (fun g => (st g).toInt = 1) q) + 0))), (6, .int (nI q)), (5, .int (nI (smP (lvF ft st tn) (fun g => nN (mn g)) q))), (4, .int (nI (cntP (fun g => ¬ (tn g).toInt = 0) q))), (0, .ref k0), (1, .int 4)]) hx hb dX11_count_59 rfl hl (by decide) rfl (fun ls hl => ?_)
            refine lv_iload hx hb dX11_count_60 (lv_at hl 4 rfl) ?_
            refine lv_aload_n hx hb dX11_count_62 rfl (lv_at hl 5 rfl) ?_
            refine va_get (D := (dC, dI)) (ci := 9) (v := .ref (a 6)) (C := RX11) (T := TX11) (N := 55) hx hb hts inX11 hown hK hP 0 rfl rfl 6 (by decide) (hts _ mw_1165) (fun _ h9 => h9) rfl dX11_count_63 ?_
            refine lv_iload hx hb dX11_count_66 (lv_at hl 2 rfl) ?_
            refine z_zald hx hb hK hP 2 1 rfl rfl (e := q) rfl (by omega) (by omega) dX11_count_68 ?_
            refine lv_if_eq (tgt := 76) hx hb dX11_count_69 (by decide) (fun c_4 => ?_) (fun c_4 => ?_)
            · have c_4 : (tn q).toInt = 0 := zc_eq rfl (by decide) c_4
              refine lv_iconst (v := 0) hx hb dX11_count_76 (by decide) ?_
              refine lv_iadd hx hb dX11_count_77 ?_
              refine zz_i (v := nI ((cntP (fun g => ¬ (tn g).toInt = 0) q) + 0)) (nI_add (cntP (fun g => ¬ (tn g).toInt = 0) q) 0) ?_
              refine lv_istore (lv' := [(4, .int (nI ((cntP (fun g => ¬ (tn g).toInt = 0) q) + 0))), (3, .int (nI ((cntP (fun g => (st g).toInt = 2) q) + 0))), (2, .int (nI ((cntP (fun g => (st g).toInt = 1) q) + 0))), (6, .int (nI q)), (5, .int (nI (smP (lvF ft st tn) (fun g => nN (mn g)) q))), (0, .ref k0), (1, .int 4)]) hx hb dX11_count_78 hl (by decide) rfl (fun ls hl => ?_)
              refine lv_iload hx hb dX11_count_80 (lv_at hl 4 rfl) ?_
              refine lv_aload_n hx hb dX11_count_82 rfl (lv_at hl 5 rfl) ?_
              refine lv_iload hx hb dX11_count_83 (lv_at hl 3 rfl) ?_
              have hPc := hP.sub (ws' := [(om k0 a I0 J0), (oa (a 5) cI 201 st), (oa (a 6) cZ 201 tn)]) [0, 1, 2] rfl
              have hDc := hD.sub (ws' := [(om k0 a I0 J0), (oa (a 5) cI 201 st), (oa (a 6) cZ 201 tn)]) [0, 1, 2] (by decide) rfl
              have hFc := va_free (wc := [(om k0 a I0 J0), (oa (a 5) cI 201 st), (oa (a 6) cZ 201 tn)]) hD hS hA [0, 1, 2] rfl
              refine zcall (st1 := [.int (pI (q < ft ∧ (st q).toInt = 1 ∧ (tn q).toInt = 0)), .int (nI (smP (lvF ft st tn) (fun g => nN (mn g)) q))]) (va_runV (As := [.int (nI q)]) (rest := [.int (nI (smP (lvF ft st tn) (fun g => nN (mn g)) q))]) ⟨hx, hb, hml, hown, hts⟩ (k_M_is_n l dC dI cI cZ cF H.size k0 a I0 J0 q ft st tn (by assumption) (by omega) (by omega)) (cwV 1 hts (zz_gV mw_1447 mw_1449 mw_56 mw_110 mc_yX11_is) rfl rfl rfl (by decide +kernel) ⟨Nat.le_of_ble_eq_true rfl, Nat.le_of_ble_eq_true rfl⟩) (zPV2 (q0 := 0) (ci := 9) hPc hDc hK hXN rfl rfl) rfl rfl hl.1 rfl (lv_room (Nat.le_of_ble_eq_true rfl)) dX11_count_85 ⟨Nat.le_of_ble_eq_true rfl, Nat.le_of_ble_eq_true rfl⟩) hS hFc hFc rfl (fun t H1 locs ht hB hk1 hS => ?_)
              obtain ⟨hP1, hD1⟩ := hB
              rw [ht] at hP1
              obtain ⟨hP, hD⟩ := va_join (wr := [(oa (a 11) cI 201 mn)]) (w1 := [(om k0 a I0 J0), (oa (a 5) cI 201 st), (oa (a 6) cZ 201 tn)]) hP hD [0, 1, 2] [3] rfl rfl (by decide) (by decide) hk1 hFc hP1 hD1
              clear hk1 hPc hDc hFc hP1 hD1 ht
              generalize H1 = H at hP hS ⊢
              have hP := hP.sub (ws' := [(om k0 a I0 J0), (oa (a 5) cI 201 st), (oa (a 6) cZ 201 tn), (oa (a 11) cI 201 mn)]) [1, 2, 3, 0] rfl
              have hD := hD.sub (ws' := [(om k0 a I0 J0), (oa (a 5) cI 201 st), (oa (a 6) cZ 201 tn), (oa (a 11) cI 201 mn)]) [1, 2, 3, 0] (by decide) rfl
              have hP : va_P (dC, dI) classes [(om k0 a I0 J0), (oa (a 5) cI 201 st), (oa (a 6) cZ 201 tn), (oa (a 11) cI 201 mn)] H := hP
              have hD : va_D A [(om k0 a I0 J0), (oa (a 5) cI 201 st), (oa (a 6) cZ 201 tn), (oa (a 11) cI 201 mn)] := hD
              refine lv_if_eq (tgt := 101) hx hb dX11_count_88 (by decide) (fun c_5 => ?_) (fun c_5 => ?_)
              · have c_5 : ¬ (q < ft ∧ (st q).toInt = 1 ∧ (tn q).toInt = 0) := zp_0 c_5
                refine lv_iconst (v := 0) hx hb dX11_count_101 (by decide) ?_
                refine lv_iadd hx hb dX11_count_102 ?_
                refine zz_i (v := nI ((smP (lvF ft st tn) (fun g => nN (mn g)) q) + 0)) (nI_add (smP (lvF ft st tn) (fun g => nN (mn g)) q) 0) ?_
                refine lv_istore (lv' := [(5, .int (nI ((smP (lvF ft st tn) (fun g => nN (mn g)) q) + 0))), (4, .int (nI ((cntP (fun g => ¬ (tn g).toInt = 0) q) + 0))), (3, .int (nI ((cntP (fun g => (st g).toInt = 2) q) + 0))), (2, .int (nI ((cntP (fun g => (st g).toInt = 1) q) + 0))), (6, .int (nI q)), (0, .ref k0), (1, .int 4)]) hx hb dX11_count_103 hl (by decide) rfl (fun ls hl => ?_)
                refine lv_iinc (v := nI (q + 1)) (lv' := [(6, .int (nI (q + 1))), (5, .int (nI ((smP (lvF ft st tn) (fun g => nN (mn g)) q) + 0))), (4, .int (nI ((cntP (fun g => ¬ (tn g).toInt = 0) q) + 0))), (3, .int (nI ((cntP (fun g => (st g).toInt = 2) q) + 0))), (2, .int (nI ((cntP (fun g => (st g).toInt = 1) q) + 0))), (0, .ref k0), (1, .int 4)]) hx hb dX11_count_105 hl (k := 4) rfl (nI_add q 1) (by decide) rfl (fun ls hl => ?_)
                refine lv_goto (tgt := 13) hx hb dX11_count_108 (by decide) ?_
                have hl9 := lv_sub hl [0, 1, 2, 3, 4, 5, 6] rfl
                have e9_2 : nI (cntP (fun g => (st g).toInt = 1) (q + 1)) = (nI ((cntP (fun g => (st g).toInt = 1) q) + 0) : Int32) := by first | exact congrArg nI (cntP_y (P := fun g => (st g).toInt = 1) (show (st q).toInt = 1 by omega)) | exact congrArg nI (cntP_n0 (P := fun g => (st g).toInt = 1) (show ¬ (st q).toInt = 1 by omega))
                have e9_3 : nI (cntP (fun g => (st g).toInt = 2) (q + 1)) = (nI ((cntP (fun g => (st g).toInt = 2) q) + 0) : Int32) := by first | exact congrArg nI (cntP_y (P := fun g => (st g).toInt = 2) (show (st q).toInt = 2 by omega)) | exact congrArg nI (cntP_n0 (P := fun g => (st g).toInt = 2) (show ¬ (st q).toInt = 2 by omega))
                have e9_4 : nI (cntP (fun g => ¬ (tn g).toInt = 0) (q + 1)) = (nI ((cntP (fun g => ¬ (tn g).toInt = 0) q) + 0) : Int32) := by first | exact congrArg nI (cntP_y (P := fun g => ¬ (tn g).toInt = 0) (show ¬ (tn q).toInt = 0 by omega)) | exact congrArg nI (cntP_n0 (P := fun g => ¬ (tn g).toInt = 0) (show ¬ ¬ (tn q).toInt = 0 by omega))
                have e9_5 : nI (smP (lvF ft st tn) (fun g => nN (mn g)) (q + 1)) = (nI ((smP (lvF ft st tn) (fun g => nN (mn g)) q) + 0) : Int32) := by first | exact congrArg nI (smP_y (P := lvF ft st tn) (by assumption)) | exact congrArg nI (smP_n (P := lvF ft st tn) (by assumption))
                have hl9 : lv_has ls 7 [(6, .int (nI (q + 1))), (5, .int (nI (smP (lvF ft st tn) (fun g => nN (mn g)) (q + 1)))), (4, .int (nI (cntP (fun g => ¬ (tn g).toInt = 0) (q + 1)))), (3, .int (nI (cntP (fun g => (st g).toInt = 2) (q + 1)))), (2, .int (nI (cntP (fun g => (st g).toInt = 1) (q + 1)))), (0, .ref k0), (1, .int 4)] := by rw [e9_2]; rw [e9_3]; rw [e9_4]; rw [e9_5]; exact hl9
                exact ih_13 (q + 1) H locs ls (by omega) (by omega) hP hD hS hl9
              · have c_5 : q < ft ∧ (st q).toInt = 1 ∧ (tn q).toInt = 0 := zp_1 c_5
                refine lv_aload_n hx hb dX11_count_91 rfl (lv_at hl 5 rfl) ?_
                refine va_get (D := (dC, dI)) (ci := 9) (v := .ref (a 11)) (C := RX11) (T := TX11) (N := 55) hx hb hts inX11 hown hK hP 0 rfl rfl 11 (by decide) (hts _ mw_1170) (fun _ h9 => h9) rfl dX11_count_92 ?_
                refine lv_iload hx hb dX11_count_95 (lv_at hl 3 rfl) ?_
                refine z_iald hx hb hK hP 3 0 rfl rfl (e := q) rfl (by omega) (by omega) dX11_count_97 ?_
                refine zz_i (v := nI (nN (mn q))) ((hmw q (by assumption)).1) ?_
                refine lv_goto (tgt := 102) hx hb dX11_count_98 (by decide) ?_
                refine lv_iadd hx hb dX11_count_102 ?_
                refine zz_i (v := nI ((smP (lvF ft st tn) (fun g => nN (mn g)) q) + (nN (mn q)))) (nI_add (smP (lvF ft st tn) (fun g => nN (mn g)) q) (nN (mn q))) ?_
                refine lv_istore (lv' := [(5, .int (nI ((smP (lvF ft st tn) (fun g => nN (mn g)) q) + (nN (mn q))))), (4, .int (nI ((cntP (fun g => ¬ (tn g).toInt = 0) q) + 0))), (3, .int (nI ((cntP (fun g => (st g).toInt = 2) q) + 0))), (2, .int (nI ((cntP (fun g => (st g).toInt = 1) q) + 0))), (6, .int (nI q)), (0, .ref k0), (1, .int 4)]) hx hb dX11_count_103 hl (by decide) rfl (fun ls hl => ?_)
                refine lv_iinc (v := nI (q + 1)) (lv' := [(6, .int (nI (q + 1))), (5, .int (nI ((smP (lvF ft st tn) (fun g => nN (mn g)) q) + (nN (mn q))))), (4, .int (nI ((cntP (fun g => ¬ (tn g).toInt = 0) q) + 0))), (3, .int (nI ((cntP (fun g => (st g).toInt = 2) q) + 0))), (2, .int (nI ((cntP (fun g => (st g).toInt = 1) q) + 0))), (0, .ref k0), (1, .int 4)]) hx hb dX11_count_105 hl (k := 4) rfl (nI_add q 1) (by decide) rfl (fun ls hl => ?_)
                refine lv_goto (tgt := 13) hx hb dX11_count_108 (by decide) ?_
                have hl9 := lv_sub hl [0, 1, 2, 3, 4, 5, 6] rfl
                have e9_2 : nI (cntP (fun g => (st g).toInt = 1) (q + 1)) = (nI ((cntP (fun g => (st g).toInt = 1) q) + 0) : Int32) := by first | exact congrArg nI (cntP_y (P := fun g => (st g).toInt = 1) (show (st q).toInt = 1 by omega)) | exact congrArg nI (cntP_n0 (P := fun g => (st g).toInt = 1) (show ¬ (st q).toInt = 1 by omega))
                have e9_3 : nI (cntP (fun g => (st g).toInt = 2) (q + 1)) = (nI ((cntP (fun g => (st g).toInt = 2) q) + 0) : Int32) := by first | exact congrArg nI (cntP_y (P := fun g => (st g).toInt = 2) (show (st q).toInt = 2 by omega)) | exact congrArg nI (cntP_n0 (P := fun g => (st g).toInt = 2) (show ¬ (st q).toInt = 2 by omega))
                have e9_4 : nI (cntP (fun g => ¬ (tn g).toInt = 0) (q + 1)) = (nI ((cntP (fun g => ¬ (tn g).toInt = 0) q) + 0) : Int32) := by first | exact congrArg nI (cntP_y (P := fun g => ¬ (tn g).toInt = 0) (show ¬ (tn q).toInt = 0 by omega)) | exact congrArg nI (cntP_n0 (P := fun g => ¬ (tn g).toInt = 0) (show ¬ ¬ (tn q).toInt = 0 by omega))
                have e9_5 : nI (smP (lvF ft st tn) (fun g => nN (mn g)) (q + 1)) = (nI ((smP (lvF ft st tn) (fun g => nN (mn g)) q) + (nN (mn q))) : Int32) := by first | exact congrArg nI (smP_y (P := lvF ft st tn) (by assumption)) | exact congrArg nI (smP_n (P := lvF ft st tn) (by assumption))
                have hl9 : lv_has ls 7 [(6, .int (nI (q + 1))), (5, .int (nI (smP (lvF ft st tn) (fun g => nN (mn g)) (q + 1)))), (4, .int (nI (cntP (fun g => ¬ (tn g).toInt = 0) (q + 1)))), (3, .int (nI (cntP (fun g => (st g).toInt = 2) (q + 1)))), (2, .int (nI (cntP (fun g => (st g).toInt = 1) (q + 1)))), (0, .ref k0), (1, .int 4)] := by rw [e9_2]; rw [e9_3]; rw [e9_4]; rw [e9_5]; exact hl9
                exact ih_13 (q + 1) H locs ls (by omega) (by omega) hP hD hS hl9
            · have c_4 : ¬ (tn q).toInt = 0 := zc_ne rfl (by decide) c_4
              refine lv_iconst (v := 1) hx hb dX11_count_72 (by decide) ?_
              refine lv_goto (tgt := 77) hx hb dX11_count_73 (by decide) ?_
              refine lv_iadd hx hb dX11_count_77 ?_
              refine zz_i (v := nI ((cntP (fun g => ¬ (tn g).toInt = 0) q) + 1)) (nI_add (cntP (fun g => ¬ (tn g).toInt = 0) q) 1) ?_
              refine lv_istore (lv' := [(4, .int (nI ((cntP (fun g => ¬ (tn g).toInt = 0) q) + 1))), (3, .int (nI ((cntP (fun g => (st g).toInt = 2) q) + 0))), (2, .int (nI ((cntP (fun g => (st g).toInt = 1) q) + 0))), (6, .int (nI q)), (5, .int (nI (smP (lvF ft st tn) (fun g => nN (mn g)) q))), (0, .ref k0), (1, .int 4)]) hx hb dX11_count_78 hl (by decide) rfl (fun ls hl => ?_)
              refine lv_iload hx hb dX11_count_80 (lv_at hl 4 rfl) ?_
              refine lv_aload_n hx hb dX11_count_82 rfl (lv_at hl 5 rfl) ?_
              refine lv_iload hx hb dX11_count_83 (lv_at hl 3 rfl) ?_
              have hPc := hP.sub (ws' := [(om k0 a I0 J0), (oa (a 5) cI 201 st), (oa (a 6) cZ 201 tn)]) [0, 1, 2] rfl
              have hDc := hD.sub (ws' := [(om k0 a I0 J0), (oa (a 5) cI 201 st), (oa (a 6) cZ 201 tn)]) [0, 1, 2] (by decide) rfl
              have hFc := va_free (wc := [(om k0 a I0 J0), (oa (a 5) cI 201 st), (oa (a 6) cZ 201 tn)]) hD hS hA [0, 1, 2] rfl
              refine zcall (st1 := [.int (pI (q < ft ∧ (st q).toInt = 1 ∧ (tn q).toInt = 0)), .int (nI (smP (lvF ft st tn) (fun g => nN (mn g)) q))]) (va_runV (As := [.int (nI q)]) (rest := [.int (nI (smP (lvF ft st tn) (fun g => nN (mn g)) q))]) ⟨hx, hb, hml, hown, hts⟩ (k_M_is_n l dC dI cI cZ cF H.size k0 a I0 J0 q ft st tn (by assumption) (by omega) (by omega)) (cwV 1 hts (zz_gV mw_1447 mw_1449 mw_56 mw_110 mc_yX11_is) rfl rfl rfl (by decide +kernel) ⟨Nat.le_of_ble_eq_true rfl, Nat.le_of_ble_eq_true rfl⟩) (zPV2 (q0 := 0) (ci := 9) hPc hDc hK hXN rfl rfl) rfl rfl hl.1 rfl (lv_room (Nat.le_of_ble_eq_true rfl)) dX11_count_85 ⟨Nat.le_of_ble_eq_true rfl, Nat.le_of_ble_eq_true rfl⟩) hS hFc hFc rfl (fun t H1 locs ht hB hk1 hS => ?_)
              obtain ⟨hP1, hD1⟩ := hB
              rw [ht] at hP1
              obtain ⟨hP, hD⟩ := va_join (wr := [(oa (a 11) cI 201 mn)]) (w1 := [(om k0 a I0 J0), (oa (a 5) cI 201 st), (oa (a 6) cZ 201 tn)]) hP hD [0, 1, 2] [3] rfl rfl (by decide) (by decide) hk1 hFc hP1 hD1
              clear hk1 hPc hDc hFc hP1 hD1 ht
              generalize H1 = H at hP hS ⊢
              have hP := hP.sub (ws' := [(om k0 a I0 J0), (oa (a 5) cI 201 st), (oa (a 6) cZ 201 tn), (oa (a 11) cI 201 mn)]) [1, 2, 3, 0] rfl
              have hD := hD.sub (ws' := [(om k0 a I0 J0), (oa (a 5) cI 201 st), (oa (a 6) cZ 201 tn), (oa (a 11) cI 201 mn)]) [1, 2, 3, 0] (by decide) rfl
              have hP : va_P (dC, dI) classes [(om k0 a I0 J0), (oa (a 5) cI 201 st), (oa (a 6) cZ 201 tn), (oa (a 11) cI 201 mn)] H := hP
              have hD : va_D A [(om k0 a I0 J0), (oa (a 5) cI 201 st), (oa (a 6) cZ 201 tn), (oa (a 11) cI 201 mn)] := hD
              refine lv_if_eq (tgt := 101) hx hb dX11_count_88 (by decide) (fun c_6 => ?_) (fun c_6 => ?_)
              · have c_6 : ¬ (q < ft ∧ (st q).toInt = 1 ∧ (tn q).toInt = 0) := zp_0 c_6
                refine lv_iconst (v := 0) hx hb dX11_count_101 (by decide) ?_
                refine lv_iadd hx hb dX11_count_102 ?_
                refine zz_i (v := nI ((smP (lvF ft st tn) (fun g => nN (mn g)) q) + 0)) (nI_add (smP (lvF ft st tn) (fun g => nN (mn g)) q) 0) ?_
                refine lv_istore (lv' := [(5, .int (nI ((smP (lvF ft st tn) (fun g => nN (mn g)) q) + 0))), (4, .int (nI ((cntP (fun g => ¬ (tn g).toInt = 0) q) + 1))), (3, .int (nI ((cntP (fun g => (st g).toInt = 2) q) + 0))), (2, .int (nI ((cntP (fun g => (st g).toInt = 1) q) + 0))), (6, .int (nI q)), (0, .ref k0), (1, .int 4)]) hx hb dX11_count_103 hl (by decide) rfl (fun ls hl => ?_)
                refine lv_iinc (v := nI (q + 1)) (lv' := [(6, .int (nI (q + 1))), (5, .int (nI ((smP (lvF ft st tn) (fun g => nN (mn g)) q) + 0))), (4, .int (nI ((cntP (fun g => ¬ (tn g).toInt = 0) q) + 1))), (3, .int (nI ((cntP (fun g => (st g).toInt = 2) q) + 0))), (2, .int (nI ((cntP (fun g => (st g).toInt = 1) q) + 0))), (0, .ref k0), (1, .int 4)]) hx hb dX11_count_105 hl (k := 4) rfl (nI_add q 1) (by decide) rfl (fun ls hl => ?_)
                refine lv_goto (tgt := 13) hx hb dX11_count_108 (by decide) ?_
                have hl9 := lv_sub hl [0, 1, 2, 3, 4, 5, 6] rfl
                have e9_2 : nI (cntP (fun g => (st g).toInt = 1) (q + 1)) = (nI ((cntP (fun g => (st g).toInt = 1) q) + 0) : Int32) := by first | exact congrArg nI (cntP_y (P := fun g => (st g).toInt = 1) (show (st q).toInt = 1 by omega)) | exact congrArg nI (cntP_n0 (P := fun g => (st g).toInt = 1) (show ¬ (st q).toInt = 1 by omega))
                have e9_3 : nI (cntP (fun g => (st g).toInt = 2) (q + 1)) = (nI ((cntP (fun g => (st g).toInt = 2) q) + 0) : Int32) := by first | exact congrArg nI (cntP_y (P := fun g => (st g).toInt = 2) (show (st q).toInt = 2 by omega)) | exact congrArg nI (cntP_n0 (P := fun g => (st g).toInt = 2) (show ¬ (st q).toInt = 2 by omega))
                have e9_4 : nI (cntP (fun g => ¬ (tn g).toInt = 0) (q + 1)) = (nI ((cntP (fun g => ¬ (tn g).toInt = 0) q) + 1) : Int32) := by first | exact congrArg nI (cntP_y (P := fun g => ¬ (tn g).toInt = 0) (show ¬ (tn q).toInt = 0 by omega)) | exact congrArg nI (cntP_n0 (P := fun g => ¬ (tn g).toInt = 0) (show ¬ ¬ (tn q).toInt = 0 by omega))
                have e9_5 : nI (smP (lvF ft st tn) (fun g => nN (mn g)) (q + 1)) = (nI ((smP (lvF ft st tn) (fun g => nN (mn g)) q) + 0) : Int32) := by first | exact congrArg nI (smP_y (P := lvF ft st tn) (by assumption)) | exact congrArg nI (smP_n (P := lvF ft st tn) (by assumption))
                have hl9 : lv_has ls 7 [(6, .int (nI (q + 1))), (5, .int (nI (smP (lvF ft st tn) (fun g => nN (mn g)) (q + 1)))), (4, .int (nI (cntP (fun g => ¬ (tn g).toInt = 0) (q + 1)))), (3, .int (nI (cntP (fun g => (st g).toInt = 2) (q + 1)))), (2, .int (nI (cntP (fun g => (st g).toInt = 1) (q + 1)))), (0, .ref k0), (1, .int 4)] := by rw [e9_2]; rw [e9_3]; rw [e9_4]; rw [e9_5]; exact hl9
                exact ih_13 (q + 1) H locs ls (by omega) (by omega) hP hD hS hl9
              · have c_6 : q < ft ∧ (st q).toInt = 1 ∧ (tn q).toInt = 0 := zp_1 c_6
                refine lv_aload_n hx hb dX11_count_91 rfl (lv_at hl 5 rfl) ?_
                refine va_get (D := (dC, dI)) (ci := 9) (v := .ref (a 11)) (C := RX11) (T := TX11) (N := 55) hx hb hts inX11 hown hK hP 0 rfl rfl 11 (by decide) (hts _ mw_1170) (fun _ h9 => h9) rfl dX11_count_92 ?_
                refine lv_iload hx hb dX11_count_95 (lv_at hl 3 rfl) ?_
                refine z_iald hx hb hK hP 3 0 rfl rfl (e := q) rfl (by omega) (by omega) dX11_count_97 ?_
                refine zz_i (v := nI (nN (mn q))) ((hmw q (by assumption)).1) ?_
                refine lv_goto (tgt := 102) hx hb dX11_count_98 (by decide) ?_
                refine lv_iadd hx hb dX11_count_102 ?_
                refine zz_i (v := nI ((smP (lvF ft st tn) (fun g => nN (mn g)) q) + (nN (mn q)))) (nI_add (smP (lvF ft st tn) (fun g => nN (mn g)) q) (nN (mn q))) ?_
                refine lv_istore (lv' := [(5, .int (nI ((smP (lvF ft st tn) (fun g => nN (mn g)) q) + (nN (mn q))))), (4, .int (nI ((cntP (fun g => ¬ (tn g).toInt = 0) q) + 1))), (3, .int (nI ((cntP (fun g => (st g).toInt = 2) q) + 0))), (2, .int (nI ((cntP (fun g => (st g).toInt = 1) q) + 0))), (6, .int (nI q)), (0, .ref k0), (1, .int 4)]) hx hb dX11_count_103 hl (by decide) rfl (fun ls hl => ?_)
                refine lv_iinc (v := nI (q + 1)) (lv' := [(6, .int (nI (q + 1))), (5, .int (nI ((smP (lvF ft st tn) (fun g => nN (mn g)) q) + (nN (mn q))))), (4, .int (nI ((cntP (fun g => ¬ (tn g).toInt = 0) q) + 1))), (3, .int (nI ((cntP (fun g => (st g).toInt = 2) q) + 0))), (2, .int (nI ((cntP (fun g => (st g).toInt = 1) q) + 0))), (0, .ref k0), (1, .int 4)]) hx hb dX11_count_105 hl (k := 4) rfl (nI_add q 1) (by decide) rfl (fun ls hl => ?_)
                refine lv_goto (tgt := 13) hx hb dX11_count_108 (by decide) ?_
                have hl9 := lv_sub hl [0, 1, 2, 3, 4, 5, 6] rfl
                have e9_2 : nI (cntP (fun g => (st g).toInt = 1) (q + 1)) = (nI ((cntP (fun g => (st g).toInt = 1) q) + 0) : Int32) := by first | exact congrArg nI (cntP_y (P := fun g => (st g).toInt = 1) (show (st q).toInt = 1 by omega)) | exact congrArg nI (cntP_n0 (P := fun g => (st g).toInt = 1) (show ¬ (st q).toInt = 1 by omega))
                have e9_3 : nI (cntP (fun g => (st g).toInt = 2) (q + 1)) = (nI ((cntP (fun g => (st g).toInt = 2) q) + 0) : Int32) := by first | exact congrArg nI (cntP_y (P := fun g => (st g).toInt = 2) (show (st q).toInt = 2 by omega)) | exact congrArg nI (cntP_n0 (P := fun g => (st g).toInt = 2) (show ¬ (st q).toInt = 2 by omega))
                have e9_4 : nI (cntP (fun g => ¬ (tn g).toInt = 0) (q + 1)) = (nI ((cntP (fun g => ¬ (tn g).toInt = 0) q) + 1) : Int32) := by first | exact congrArg nI (cntP_y (P := fun g => ¬ (tn g).toInt = 0) (show ¬ (tn q).toInt = 0 by omega)) | exact congrArg nI (cntP_n0 (P := fun g => ¬ (tn g).toInt = 0) (show ¬ ¬ (tn q).toInt = 0 by omega))
                have e9_5 : nI (smP (lvF ft st tn) (fun g => nN (mn g)) (q + 1)) = (nI ((smP (lvF ft st tn) (fun g => nN (mn g)) q) + (nN (mn q))) : Int32) := by first | exact congrArg nI (smP_y (P := lvF ft st tn) (by assumption)) | exact congrArg nI (smP_n (P := lvF ft st tn) (by assumption))
                have hl9 : lv_has ls 7 [(6, .int (nI (q + 1))), (5, .int (nI (smP (lvF ft st tn) (fun g => nN (mn g)) (q + 1)))), (4, .int (nI (cntP (fun g => ¬ (tn g).toInt = 0) (q + 1)))), (3, .int (nI (cntP (fun g => (st g).toInt = 2) (q + 1)))), (2, .int (nI (cntP (fun g => (st g).toInt = 1) (q + 1)))), (0, .ref k0), (1, .int 4)] := by rw [e9_2]; rw [e9_3]; rw [e9_4]; rw [e9_5]; exact hl9
                exact ih_13 (q + 1) H locs ls (by omega) (by omega) hP hD hS hl9
          · have c_3 : (st q).toInt = 2 := zc_eq rfl (by decide) c_3
            refine lv_iconst (v := 1) hx hb dX11_count_53 (by decide) ?_
            refine lv_goto (tgt := 58) hx hb dX11_count_54 (by decide) ?_
            refine lv_iadd hx hb dX11_count_58 ?_
            refine zz_i (v := nI ((cntP (fun g => (st g).toInt = 2) q) + 1)) (nI_add (cntP (fun g => (st g).toInt = 2) q) 1) ?_
            refine lv_istore_n (lv' := [(3, .int (nI ((cntP (fun g => (st g).toInt = 2) q) + 1))), (2, .int (nI ((cntP (fun g => (st g).toInt = 1) q) + 0))), (6, .int (nI q)), (5, .int (nI (smP (lvF ft st tn) (fun g => nN (mn g)) q))), (4, .int (nI (cntP (fun g => ¬ (tn g).toInt = 0) q))), (0, .ref k0), (1, .int 4)]) hx hb dX11_count_59 rfl hl (by decide) rfl (fun ls hl => ?_)
            refine lv_iload hx hb dX11_count_60 (lv_at hl 4 rfl) ?_
            refine lv_aload_n hx hb dX11_count_62 rfl (lv_at hl 5 rfl) ?_
            refine va_get (D := (dC, dI)) (ci := 9) (v := .ref (a 6)) (C := RX11) (T := TX11) (N := 55) hx hb hts inX11 hown hK hP 0 rfl rfl 6 (by decide) (hts _ mw_1165) (fun _ h9 => h9) rfl dX11_count_63 ?_
            refine lv_iload hx hb dX11_count_66 (lv_at hl 2 rfl) ?_
            refine z_zald hx hb hK hP 2 1 rfl rfl (e := q) rfl (by omega) (by omega) dX11_count_68 ?_
            refine lv_if_eq (tgt := 76) hx hb dX11_count_69 (by decide) (fun c_7 => ?_) (fun c_7 => ?_)
            · have c_7 : (tn q).toInt = 0 := zc_eq rfl (by decide) c_7
              refine lv_iconst (v := 0) hx hb dX11_count_76 (by decide) ?_
              refine lv_iadd hx hb dX11_count_77 ?_
              refine zz_i (v := nI ((cntP (fun g => ¬ (tn g).toInt = 0) q) + 0)) (nI_add (cntP (fun g => ¬ (tn g).toInt = 0) q) 0) ?_
              refine lv_istore (lv' := [(4, .int (nI ((cntP (fun g => ¬ (tn g).toInt = 0) q) + 0))), (3, .int (nI ((cntP (fun g => (st g).toInt = 2) q) + 1))), (2, .int (nI ((cntP (fun g => (st g).toInt = 1) q) + 0))), (6, .int (nI q)), (5, .int (nI (smP (lvF ft st tn) (fun g => nN (mn g)) q))), (0, .ref k0), (1, .int 4)]) hx hb dX11_count_78 hl (by decide) rfl (fun ls hl => ?_)
              refine lv_iload hx hb dX11_count_80 (lv_at hl 4 rfl) ?_
              refine lv_aload_n hx hb dX11_count_82 rfl (lv_at hl 5 rfl) ?_
              refine lv_iload hx hb dX11_count_83 (lv_at hl 3 rfl) ?_
              have hPc := hP.sub (ws' := [(om k0 a I0 J0), (oa (a 5) cI 201 st), (oa (a 6) cZ 201 tn)]) [0, 1, 2] rfl
              have hDc := hD.sub (ws' := [(om k0 a I0 J0), (oa (a 5) cI 201 st), (oa (a 6) cZ 201 tn)]) [0, 1, 2] (by decide) rfl
              have hFc := va_free (wc := [(om k0 a I0 J0), (oa (a 5) cI 201 st), (oa (a 6) cZ 201 tn)]) hD hS hA [0, 1, 2] rfl
              refine zcall (st1 := [.int (pI (q < ft ∧ (st q).toInt = 1 ∧ (tn q).toInt = 0)), .int (nI (smP (lvF ft st tn) (fun g => nN (mn g)) q))]) (va_runV (As := [.int (nI q)]) (rest := [.int (nI (smP (lvF ft st tn) (fun g => nN (mn g)) q))]) ⟨hx, hb, hml, hown, hts⟩ (k_M_is_n l dC dI cI cZ cF H.size k0 a I0 J0 q ft st tn (by assumption) (by omega) (by omega)) (cwV 1 hts (zz_gV mw_1447 mw_1449 mw_56 mw_110 mc_yX11_is) rfl rfl rfl (by decide +kernel) ⟨Nat.le_of_ble_eq_true rfl, Nat.le_of_ble_eq_true rfl⟩) (zPV2 (q0 := 0) (ci := 9) hPc hDc hK hXN rfl rfl) rfl rfl hl.1 rfl (lv_room (Nat.le_of_ble_eq_true rfl)) dX11_count_85 ⟨Nat.le_of_ble_eq_true rfl, Nat.le_of_ble_eq_true rfl⟩) hS hFc hFc rfl (fun t H1 locs ht hB hk1 hS => ?_)
              obtain ⟨hP1, hD1⟩ := hB
              rw [ht] at hP1
              obtain ⟨hP, hD⟩ := va_join (wr := [(oa (a 11) cI 201 mn)]) (w1 := [(om k0 a I0 J0), (oa (a 5) cI 201 st), (oa (a 6) cZ 201 tn)]) hP hD [0, 1, 2] [3] rfl rfl (by decide) (by decide) hk1 hFc hP1 hD1
              clear hk1 hPc hDc hFc hP1 hD1 ht
              generalize H1 = H at hP hS ⊢
              have hP := hP.sub (ws' := [(om k0 a I0 J0), (oa (a 5) cI 201 st), (oa (a 6) cZ 201 tn), (oa (a 11) cI 201 mn)]) [1, 2, 3, 0] rfl
              have hD := hD.sub (ws' := [(om k0 a I0 J0), (oa (a 5) cI 201 st), (oa (a 6) cZ 201 tn), (oa (a 11) cI 201 mn)]) [1, 2, 3, 0] (by decide) rfl
              have hP : va_P (dC, dI) classes [(om k0 a I0 J0), (oa (a 5) cI 201 st), (oa (a 6) cZ 201 tn), (oa (a 11) cI 201 mn)] H := hP
              have hD : va_D A [(om k0 a I0 J0), (oa (a 5) cI 201 st), (oa (a 6) cZ 201 tn), (oa (a 11) cI 201 mn)] := hD
              refine lv_if_eq (tgt := 101) hx hb dX11_count_88 (by decide) (fun c_8 => ?_) (fun c_8 => ?_)
              · have c_8 : ¬ (q < ft ∧ (st q).toInt = 1 ∧ (tn q).toInt = 0) := zp_0 c_8
                refine lv_iconst (v := 0) hx hb dX11_count_101 (by decide) ?_
                refine lv_iadd hx hb dX11_count_102 ?_
                refine zz_i (v := nI ((smP (lvF ft st tn) (fun g => nN (mn g)) q) + 0)) (nI_add (smP (lvF ft st tn) (fun g => nN (mn g)) q) 0) ?_
                refine lv_istore (lv' := [(5, .int (nI ((smP (lvF ft st tn) (fun g => nN (mn g)) q) + 0))), (4, .int (nI ((cntP (fun g => ¬ (tn g).toInt = 0) q) + 0))), (3, .int (nI ((cntP (fun g => (st g).toInt = 2) q) + 1))), (2, .int (nI ((cntP (fun g => (st g).toInt = 1) q) + 0))), (6, .int (nI q)), (0, .ref k0), (1, .int 4)]) hx hb dX11_count_103 hl (by decide) rfl (fun ls hl => ?_)
                refine lv_iinc (v := nI (q + 1)) (lv' := [(6, .int (nI (q + 1))), (5, .int (nI ((smP (lvF ft st tn) (fun g => nN (mn g)) q) + 0))), (4, .int (nI ((cntP (fun g => ¬ (tn g).toInt = 0) q) + 0))), (3, .int (nI ((cntP (fun g => (st g).toInt = 2) q) + 1))), (2, .int (nI ((cntP (fun g => (st g).toInt = 1) q) + 0))), (0, .ref k0), (1, .int 4)]) hx hb dX11_count_105 hl (k := 4) rfl (nI_add q 1) (by decide) rfl (fun ls hl => ?_)
                refine lv_goto (tgt := 13) hx hb dX11_count_108 (by decide) ?_
                have hl9 := lv_sub hl [0, 1, 2, 3, 4, 5, 6] rfl
                have e9_2 : nI (cntP (fun g => (st g).toInt = 1) (q + 1)) = (nI ((cntP (fun g => (st g).toInt = 1) q) + 0) : Int32) := by first | exact congrArg nI (cntP_y (P := fun g => (st g).toInt = 1) (show (st q).toInt = 1 by omega)) | exact congrArg nI (cntP_n0 (P := fun g => (st g).toInt = 1) (show ¬ (st q).toInt = 1 by omega))
                have e9_3 : nI (cntP (fun g => (st g).toInt = 2) (q + 1)) = (nI ((cntP (fun g => (st g).toInt = 2) q) + 1) : Int32) := by first | exact congrArg nI (cntP_y (P := fun g => (st g).toInt = 2) (show (st q).toInt = 2 by omega)) | exact congrArg nI (cntP_n0 (P := fun g => (st g).toInt = 2) (show ¬ (st q).toInt = 2 by omega))
                have e9_4 : nI (cntP (fun g => ¬ (tn g).toInt = 0) (q + 1)) = (nI ((cntP (fun g => ¬ (tn g).toInt = 0) q) + 0) : Int32) := by first | exact congrArg nI (cntP_y (P := fun g => ¬ (tn g).toInt = 0) (show ¬ (tn q).toInt = 0 by omega)) | exact congrArg nI (cntP_n0 (P := fun g => ¬ (tn g).toInt = 0) (show ¬ ¬ (tn q).toInt = 0 by omega))
                have e9_5 : nI (smP (lvF ft st tn) (fun g => nN (mn g)) (q + 1)) = (nI ((smP (lvF ft st tn) (fun g => nN (mn g)) q) + 0) : Int32) := by first | exact congrArg nI (smP_y (P := lvF ft st tn) (by assumption)) | exact congrArg nI (smP_n (P := lvF ft st tn) (by assumption))
                have hl9 : lv_has ls 7 [(6, .int (nI (q + 1))), (5, .int (nI (smP (lvF ft st tn) (fun g => nN (mn g)) (q + 1)))), (4, .int (nI (cntP (fun g => ¬ (tn g).toInt = 0) (q + 1)))), (3, .int (nI (cntP (fun g => (st g).toInt = 2) (q + 1)))), (2, .int (nI (cntP (fun g => (st g).toInt = 1) (q + 1)))), (0, .ref k0), (1, .int 4)] := by rw [e9_2]; rw [e9_3]; rw [e9_4]; rw [e9_5]; exact hl9
                exact ih_13 (q + 1) H locs ls (by omega) (by omega) hP hD hS hl9
              · have c_8 : q < ft ∧ (st q).toInt = 1 ∧ (tn q).toInt = 0 := zp_1 c_8
                refine lv_aload_n hx hb dX11_count_91 rfl (lv_at hl 5 rfl) ?_
                refine va_get (D := (dC, dI)) (ci := 9) (v := .ref (a 11)) (C := RX11) (T := TX11) (N := 55) hx hb hts inX11 hown hK hP 0 rfl rfl 11 (by decide) (hts _ mw_1170) (fun _ h9 => h9) rfl dX11_count_92 ?_
                refine lv_iload hx hb dX11_count_95 (lv_at hl 3 rfl) ?_
                refine z_iald hx hb hK hP 3 0 rfl rfl (e := q) rfl (by omega) (by omega) dX11_count_97 ?_
                refine zz_i (v := nI (nN (mn q))) ((hmw q (by assumption)).1) ?_
                refine lv_goto (tgt := 102) hx hb dX11_count_98 (by decide) ?_
                refine lv_iadd hx hb dX11_count_102 ?_
                refine zz_i (v := nI ((smP (lvF ft st tn) (fun g => nN (mn g)) q) + (nN (mn q)))) (nI_add (smP (lvF ft st tn) (fun g => nN (mn g)) q) (nN (mn q))) ?_
                refine lv_istore (lv' := [(5, .int (nI ((smP (lvF ft st tn) (fun g => nN (mn g)) q) + (nN (mn q))))), (4, .int (nI ((cntP (fun g => ¬ (tn g).toInt = 0) q) + 0))), (3, .int (nI ((cntP (fun g => (st g).toInt = 2) q) + 1))), (2, .int (nI ((cntP (fun g => (st g).toInt = 1) q) + 0))), (6, .int (nI q)), (0, .ref k0), (1, .int 4)]) hx hb dX11_count_103 hl (by decide) rfl (fun ls hl => ?_)
                refine lv_iinc (v := nI (q + 1)) (lv' := [(6, .int (nI (q + 1))), (5, .int (nI ((smP (lvF ft st tn) (fun g => nN (mn g)) q) + (nN (mn q))))), (4, .int (nI ((cntP (fun g => ¬ (tn g).toInt = 0) q) + 0))), (3, .int (nI ((cntP (fun g => (st g).toInt = 2) q) + 1))), (2, .int (nI ((cntP (fun g => (st g).toInt = 1) q) + 0))), (0, .ref k0), (1, .int 4)]) hx hb dX11_count_105 hl (k := 4) rfl (nI_add q 1) (by decide) rfl (fun ls hl => ?_)
                refine lv_goto (tgt := 13) hx hb dX11_count_108 (by decide) ?_
                have hl9 := lv_sub hl [0, 1, 2, 3, 4, 5, 6] rfl
                have e9_2 : nI (cntP (fun g => (st g).toInt = 1) (q + 1)) = (nI ((cntP (fun g => (st g).toInt = 1) q) + 0) : Int32) := by first | exact congrArg nI (cntP_y (P := fun g => (st g).toInt = 1) (show (st q).toInt = 1 by omega)) | exact congrArg nI (cntP_n0 (P := fun g => (st g).toInt = 1) (show ¬ (st q).toInt = 1 by omega))
                have e9_3 : nI (cntP (fun g => (st g).toInt = 2) (q + 1)) = (nI ((cntP (fun g => (st g).toInt = 2) q) + 1) : Int32) := by first | exact congrArg nI (cntP_y (P := fun g => (st g).toInt = 2) (show (st q).toInt = 2 by omega)) | exact congrArg nI (cntP_n0 (P := fun g => (st g).toInt = 2) (show ¬ (st q).toInt = 2 by omega))
                have e9_4 : nI (cntP (fun g => ¬ (tn g).toInt = 0) (q + 1)) = (nI ((cntP (fun g => ¬ (tn g).toInt = 0) q) + 0) : Int32) := by first | exact congrArg nI (cntP_y (P := fun g => ¬ (tn g).toInt = 0) (show ¬ (tn q).toInt = 0 by omega)) | exact congrArg nI (cntP_n0 (P := fun g => ¬ (tn g).toInt = 0) (show ¬ ¬ (tn q).toInt = 0 by omega))
                have e9_5 : nI (smP (lvF ft st tn) (fun g => nN (mn g)) (q + 1)) = (nI ((smP (lvF ft st tn) (fun g => nN (mn g)) q) + (nN (mn q))) : Int32) := by first | exact congrArg nI (smP_y (P := lvF ft st tn) (by assumption)) | exact congrArg nI (smP_n (P := lvF ft st tn) (by assumption))
                have hl9 : lv_has ls 7 [(6, .int (nI (q + 1))), (5, .int (nI (smP (lvF ft st tn) (fun g => nN (mn g)) (q + 1)))), (4, .int (nI (cntP (fun g => ¬ (tn g).toInt = 0) (q + 1)))), (3, .int (nI (cntP (fun g => (st g).toInt = 2) (q + 1)))), (2, .int (nI (cntP (fun g => (st g).toInt = 1) (q + 1)))), (0, .ref k0), (1, .int 4)] := by rw [e9_2]; rw [e9_3]; rw [e9_4]; rw [e9_5]; exact hl9
                exact ih_13 (q + 1) H locs ls (by omega) (by omega) hP hD hS hl9
            · have c_7 : ¬ (tn q).toInt = 0 := zc_ne rfl (by decide) c_7
              refine lv_iconst (v := 1) hx hb dX11_count_72 (by decide) ?_
              refine lv_goto (tgt := 77) hx hb dX11_count_73 (by decide) ?_
              refine lv_iadd hx hb dX11_count_77 ?_
              refine zz_i (v := nI ((cntP (fun g => ¬ (tn g).toInt = 0) q) + 1)) (nI_add (cntP (fun g => ¬ (tn g).toInt = 0) q) 1) ?_
              refine lv_istore (lv' := [(4, .int (nI ((cntP (fun g => ¬ (tn g).toInt = 0) q) + 1))), (3, .int (nI ((cntP (fun g => (st g).toInt = 2) q) + 1))), (2, .int (nI ((cntP (fun g => (st g).toInt = 1) q) + 0))), (6, .int (nI q)), (5, .int (nI (smP (lvF ft st tn) (fun g => nN (mn g)) q))), (0, .ref k0), (1, .int 4)]) hx hb dX11_count_78 hl (by decide) rfl (fun ls hl => ?_)
              refine lv_iload hx hb dX11_count_80 (lv_at hl 4 rfl) ?_
              refine lv_aload_n hx hb dX11_count_82 rfl (lv_at hl 5 rfl) ?_
              refine lv_iload hx hb dX11_count_83 (lv_at hl 3 rfl) ?_
              have hPc := hP.sub (ws' := [(om k0 a I0 J0), (oa (a 5) cI 201 st), (oa (a 6) cZ 201 tn)]) [0, 1, 2] rfl
              have hDc := hD.sub (ws' := [(om k0 a I0 J0), (oa (a 5) cI 201 st), (oa (a 6) cZ 201 tn)]) [0, 1, 2] (by decide) rfl
              have hFc := va_free (wc := [(om k0 a I0 J0), (oa (a 5) cI 201 st), (oa (a 6) cZ 201 tn)]) hD hS hA [0, 1, 2] rfl
              refine zcall (st1 := [.int (pI (q < ft ∧ (st q).toInt = 1 ∧ (tn q).toInt = 0)), .int (nI (smP (lvF ft st tn) (fun g => nN (mn g)) q))]) (va_runV (As := [.int (nI q)]) (rest := [.int (nI (smP (lvF ft st tn) (fun g => nN (mn g)) q))]) ⟨hx, hb, hml, hown, hts⟩ (k_M_is_n l dC dI cI cZ cF H.size k0 a I0 J0 q ft st tn (by assumption) (by omega) (by omega)) (cwV 1 hts (zz_gV mw_1447 mw_1449 mw_56 mw_110 mc_yX11_is) rfl rfl rfl (by decide +kernel) ⟨Nat.le_of_ble_eq_true rfl, Nat.le_of_ble_eq_true rfl⟩) (zPV2 (q0 := 0) (ci := 9) hPc hDc hK hXN rfl rfl) rfl rfl hl.1 rfl (lv_room (Nat.le_of_ble_eq_true rfl)) dX11_count_85 ⟨Nat.le_of_ble_eq_true rfl, Nat.le_of_ble_eq_true rfl⟩) hS hFc hFc rfl (fun t H1 locs ht hB hk1 hS => ?_)
              obtain ⟨hP1, hD1⟩ := hB
              rw [ht] at hP1
              obtain ⟨hP, hD⟩ := va_join (wr := [(oa (a 11) cI 201 mn)]) (w1 := [(om k0 a I0 J0), (oa (a 5) cI 201 st), (oa (a 6) cZ 201 tn)]) hP hD [0, 1, 2] [3] rfl rfl (by decide) (by decide) hk1 hFc hP1 hD1
              clear hk1 hPc hDc hFc hP1 hD1 ht
              generalize H1 = H at hP hS ⊢
              have hP := hP.sub (ws' := [(om k0 a I0 J0), (oa (a 5) cI 201 st), (oa (a 6) cZ 201 tn), (oa (a 11) cI 201 mn)]) [1, 2, 3, 0] rfl
              have hD := hD.sub (ws' := [(om k0 a I0 J0), (oa (a 5) cI 201 st), (oa (a 6) cZ 201 tn), (oa (a 11) cI 201 mn)]) [1, 2, 3, 0] (by decide) rfl
              have hP : va_P (dC, dI) classes [(om k0 a I0 J0), (oa (a 5) cI 201 st), (oa (a 6) cZ 201 tn), (oa (a 11) cI 201 mn)] H := hP
              have hD : va_D A [(om k0 a I0 J0), (oa (a 5) cI 201 st), (oa (a 6) cZ 201 tn), (oa (a 11) cI 201 mn)] := hD
              refine lv_if_eq (tgt := 101) hx hb dX11_count_88 (by decide) (fun c_9 => ?_) (fun c_9 => ?_)
              · have c_9 : ¬ (q < ft ∧ (st q).toInt = 1 ∧ (tn q).toInt = 0) := zp_0 c_9
                refine lv_iconst (v := 0) hx hb dX11_count_101 (by decide) ?_
                refine lv_iadd hx hb dX11_count_102 ?_
                refine zz_i (v := nI ((smP (lvF ft st tn) (fun g => nN (mn g)) q) + 0)) (nI_add (smP (lvF ft st tn) (fun g => nN (mn g)) q) 0) ?_
                refine lv_istore (lv' := [(5, .int (nI ((smP (lvF ft st tn) (fun g => nN (mn g)) q) + 0))), (4, .int (nI ((cntP (fun g => ¬ (tn g).toInt = 0) q) + 1))), (3, .int (nI ((cntP (fun g => (st g).toInt = 2) q) + 1))), (2, .int (nI ((cntP (fun g => (st g).toInt = 1) q) + 0))), (6, .int (nI q)), (0, .ref k0), (1, .int 4)]) hx hb dX11_count_103 hl (by decide) rfl (fun ls hl => ?_)
                refine lv_iinc (v := nI (q + 1)) (lv' := [(6, .int (nI (q + 1))), (5, .int (nI ((smP (lvF ft st tn) (fun g => nN (mn g)) q) + 0))), (4, .int (nI ((cntP (fun g => ¬ (tn g).toInt = 0) q) + 1))), (3, .int (nI ((cntP (fun g => (st g).toInt = 2) q) + 1))), (2, .int (nI ((cntP (fun g => (st g).toInt = 1) q) + 0))), (0, .ref k0), (1, .int 4)]) hx hb dX11_count_105 hl (k := 4) rfl (nI_add q 1) (by decide) rfl (fun ls hl => ?_)
                refine lv_goto (tgt := 13) hx hb dX11_count_108 (by decide) ?_
                have hl9 := lv_sub hl [0, 1, 2, 3, 4, 5, 6] rfl
                have e9_2 : nI (cntP (fun g => (st g).toInt = 1) (q + 1)) = (nI ((cntP (fun g => (st g).toInt = 1) q) + 0) : Int32) := by first | exact congrArg nI (cntP_y (P := fun g => (st g).toInt = 1) (show (st q).toInt = 1 by omega)) | exact congrArg nI (cntP_n0 (P := fun g => (st g).toInt = 1) (show ¬ (st q).toInt = 1 by omega))
                have e9_3 : nI (cntP (fun g => (st g).toInt = 2) (q + 1)) = (nI ((cntP (fun g => (st g).toInt = 2) q) + 1) : Int32) := by first | exact congrArg nI (cntP_y (P := fun g => (st g).toInt = 2) (show (st q).toInt = 2 by omega)) | exact congrArg nI (cntP_n0 (P := fun g => (st g).toInt = 2) (show ¬ (st q).toInt = 2 by omega))
                have e9_4 : nI (cntP (fun g => ¬ (tn g).toInt = 0) (q + 1)) = (nI ((cntP (fun g => ¬ (tn g).toInt = 0) q) + 1) : Int32) := by first | exact congrArg nI (cntP_y (P := fun g => ¬ (tn g).toInt = 0) (show ¬ (tn q).toInt = 0 by omega)) | exact congrArg nI (cntP_n0 (P := fun g => ¬ (tn g).toInt = 0) (show ¬ ¬ (tn q).toInt = 0 by omega))
                have e9_5 : nI (smP (lvF ft st tn) (fun g => nN (mn g)) (q + 1)) = (nI ((smP (lvF ft st tn) (fun g => nN (mn g)) q) + 0) : Int32) := by first | exact congrArg nI (smP_y (P := lvF ft st tn) (by assumption)) | exact congrArg nI (smP_n (P := lvF ft st tn) (by assumption))
                have hl9 : lv_has ls 7 [(6, .int (nI (q + 1))), (5, .int (nI (smP (lvF ft st tn) (fun g => nN (mn g)) (q + 1)))), (4, .int (nI (cntP (fun g => ¬ (tn g).toInt = 0) (q + 1)))), (3, .int (nI (cntP (fun g => (st g).toInt = 2) (q + 1)))), (2, .int (nI (cntP (fun g => (st g).toInt = 1) (q + 1)))), (0, .ref k0), (1, .int 4)] := by rw [e9_2]; rw [e9_3]; rw [e9_4]; rw [e9_5]; exact hl9
                exact ih_13 (q + 1) H locs ls (by omega) (by omega) hP hD hS hl9
              · have c_9 : q < ft ∧ (st q).toInt = 1 ∧ (tn q).toInt = 0 := zp_1 c_9
                refine lv_aload_n hx hb dX11_count_91 rfl (lv_at hl 5 rfl) ?_
                refine va_get (D := (dC, dI)) (ci := 9) (v := .ref (a 11)) (C := RX11) (T := TX11) (N := 55) hx hb hts inX11 hown hK hP 0 rfl rfl 11 (by decide) (hts _ mw_1170) (fun _ h9 => h9) rfl dX11_count_92 ?_
                refine lv_iload hx hb dX11_count_95 (lv_at hl 3 rfl) ?_
                refine z_iald hx hb hK hP 3 0 rfl rfl (e := q) rfl (by omega) (by omega) dX11_count_97 ?_
                refine zz_i (v := nI (nN (mn q))) ((hmw q (by assumption)).1) ?_
                refine lv_goto (tgt := 102) hx hb dX11_count_98 (by decide) ?_
                refine lv_iadd hx hb dX11_count_102 ?_
                refine zz_i (v := nI ((smP (lvF ft st tn) (fun g => nN (mn g)) q) + (nN (mn q)))) (nI_add (smP (lvF ft st tn) (fun g => nN (mn g)) q) (nN (mn q))) ?_
                refine lv_istore (lv' := [(5, .int (nI ((smP (lvF ft st tn) (fun g => nN (mn g)) q) + (nN (mn q))))), (4, .int (nI ((cntP (fun g => ¬ (tn g).toInt = 0) q) + 1))), (3, .int (nI ((cntP (fun g => (st g).toInt = 2) q) + 1))), (2, .int (nI ((cntP (fun g => (st g).toInt = 1) q) + 0))), (6, .int (nI q)), (0, .ref k0), (1, .int 4)]) hx hb dX11_count_103 hl (by decide) rfl (fun ls hl => ?_)
                refine lv_iinc (v := nI (q + 1)) (lv' := [(6, .int (nI (q + 1))), (5, .int (nI ((smP (lvF ft st tn) (fun g => nN (mn g)) q) + (nN (mn q))))), (4, .int (nI ((cntP (fun g => ¬ (tn g).toInt = 0) q) + 1))), (3, .int (nI ((cntP (fun g => (st g).toInt = 2) q) + 1))), (2, .int (nI ((cntP (fun g => (st g).toInt = 1) q) + 0))), (0, .ref k0), (1, .int 4)]) hx hb dX11_count_105 hl (k := 4) rfl (nI_add q 1) (by decide) rfl (fun ls hl => ?_)
                refine lv_goto (tgt := 13) hx hb dX11_count_108 (by decide) ?_
                have hl9 := lv_sub hl [0, 1, 2, 3, 4, 5, 6] rfl
                have e9_2 : nI (cntP (fun g => (st g).toInt = 1) (q + 1)) = (nI ((cntP (fun g => (st g).toInt = 1) q) + 0) : Int32) := by first | exact congrArg nI (cntP_y (P := fun g => (st g).toInt = 1) (show (st q).toInt = 1 by omega)) | exact congrArg nI (cntP_n0 (P := fun g => (st g).toInt = 1) (show ¬ (st q).toInt = 1 by omega))
                have e9_3 : nI (cntP (fun g => (st g).toInt = 2) (q + 1)) = (nI ((cntP (fun g => (st g).toInt = 2) q) + 1) : Int32) := by first | exact congrArg nI (cntP_y (P := fun g => (st g).toInt = 2) (show (st q).toInt = 2 by omega)) | exact congrArg nI (cntP_n0 (P := fun g => (st g).toInt = 2) (show ¬ (st q).toInt = 2 by omega))
                have e9_4 : nI (cntP (fun g => ¬ (tn g).toInt = 0) (q + 1)) = (nI ((cntP (fun g => ¬ (tn g).toInt = 0) q) + 1) : Int32) := by first | exact congrArg nI (cntP_y (P := fun g => ¬ (tn g).toInt = 0) (show ¬ (tn q).toInt = 0 by omega)) | exact congrArg nI (cntP_n0 (P := fun g => ¬ (tn g).toInt = 0) (show ¬ ¬ (tn q).toInt = 0 by omega))
                have e9_5 : nI (smP (lvF ft st tn) (fun g => nN (mn g)) (q + 1)) = (nI ((smP (lvF ft st tn) (fun g => nN (mn g)) q) + (nN (mn q))) : Int32) := by first | exact congrArg nI (smP_y (P := lvF ft st tn) (by assumption)) | exact congrArg nI (smP_n (P := lvF ft st tn) (by assumption))
                have hl9 : lv_has ls 7 [(6, .int (nI (q + 1))), (5, .int (nI (smP (lvF ft st tn) (fun g => nN (mn g)) (q + 1)))), (4, .int (nI (cntP (fun g => ¬ (tn g).toInt = 0) (q + 1)))), (3, .int (nI (cntP (fun g => (st g).toInt = 2) (q + 1)))), (2, .int (nI (cntP (fun g => (st g).toInt = 1) (q + 1)))), (0, .ref k0), (1, .int 4)] := by rw [e9_2]; rw [e9_3]; rw [e9_4]; rw [e9_5]; exact hl9
                exact ih_13 (q + 1) H locs ls (by omega) (by omega) hP hD hS hl9
        · have c_2 : (st q).toInt = 1 := zc_eq rfl (by decide) c_2
          refine lv_iconst (v := 1) hx hb dX11_count_34 (by decide) ?_
          refine lv_goto (tgt := 39) hx hb dX11_count_35 (by decide) ?_
          refine lv_iadd hx hb dX11_count_39 ?_
          refine zz_i (v := nI ((cntP (fun g => (st g).toInt = 1) q) + 1)) (nI_add (cntP (fun g => (st g).toInt = 1) q) 1) ?_
          refine lv_istore_n (lv' := [(2, .int (nI ((cntP (fun g => (st g).toInt = 1) q) + 1))), (6, .int (nI q)), (5, .int (nI (smP (lvF ft st tn) (fun g => nN (mn g)) q))), (4, .int (nI (cntP (fun g => ¬ (tn g).toInt = 0) q))), (3, .int (nI (cntP (fun g => (st g).toInt = 2) q))), (0, .ref k0), (1, .int 4)]) hx hb dX11_count_40 rfl hl (by decide) rfl (fun ls hl => ?_)
          refine lv_iload_n hx hb dX11_count_41 rfl (lv_at hl 4 rfl) ?_
          refine lv_aload_n hx hb dX11_count_42 rfl (lv_at hl 5 rfl) ?_
          refine va_get (D := (dC, dI)) (ci := 9) (v := .ref (a 5)) (C := RX11) (T := TX11) (N := 55) hx hb hts inX11 hown hK hP 0 rfl rfl 5 (by decide) (hts _ mw_1164) (fun _ h9 => h9) rfl dX11_count_43 ?_
          refine lv_iload hx hb dX11_count_46 (lv_at hl 1 rfl) ?_
          refine z_iald hx hb hK hP 1 0 rfl rfl (e := q) rfl (by omega) (by omega) dX11_count_48 ?_
          refine lv_iconst (v := 2) hx hb dX11_count_49 (by decide) ?_
          refine lv_icmp_ne (tgt := 57) hx hb dX11_count_50 (by decide) (fun c_10 => ?_) (fun c_10 => ?_)
          · have c_10 : ¬ (st q).toInt = 2 := zc_ne rfl (by decide) c_10
            refine lv_iconst (v := 0) hx hb dX11_count_57 (by decide) ?_
            refine lv_iadd hx hb dX11_count_58 ?_
            refine zz_i (v := nI ((cntP (fun g => (st g).toInt = 2) q) + 0)) (nI_add (cntP (fun g => (st g).toInt = 2) q) 0) ?_
            refine lv_istore_n (lv' := [(3, .int (nI ((cntP (fun g => (st g).toInt = 2) q) + 0))), (2, .int (nI ((cntP (fun g => (st g).toInt = 1) q) + 1))), (6, .int (nI q)), (5, .int (nI (smP (lvF ft st tn) (fun g => nN (mn g)) q))), (4, .int (nI (cntP (fun g => ¬ (tn g).toInt = 0) q))), (0, .ref k0), (1, .int 4)]) hx hb dX11_count_59 rfl hl (by decide) rfl (fun ls hl => ?_)
            refine lv_iload hx hb dX11_count_60 (lv_at hl 4 rfl) ?_
            refine lv_aload_n hx hb dX11_count_62 rfl (lv_at hl 5 rfl) ?_
            refine va_get (D := (dC, dI)) (ci := 9) (v := .ref (a 6)) (C := RX11) (T := TX11) (N := 55) hx hb hts inX11 hown hK hP 0 rfl rfl 6 (by decide) (hts _ mw_1165) (fun _ h9 => h9) rfl dX11_count_63 ?_
            refine lv_iload hx hb dX11_count_66 (lv_at hl 2 rfl) ?_
            refine z_zald hx hb hK hP 2 1 rfl rfl (e := q) rfl (by omega) (by omega) dX11_count_68 ?_
            refine lv_if_eq (tgt := 76) hx hb dX11_count_69 (by decide) (fun c_11 => ?_) (fun c_11 => ?_)
            · have c_11 : (tn q).toInt = 0 := zc_eq rfl (by decide) c_11
              refine lv_iconst (v := 0) hx hb dX11_count_76 (by decide) ?_
              refine lv_iadd hx hb dX11_count_77 ?_
              refine zz_i (v := nI ((cntP (fun g => ¬ (tn g).toInt = 0) q) + 0)) (nI_add (cntP (fun g => ¬ (tn g).toInt = 0) q) 0) ?_
              refine lv_istore (lv' := [(4, .int (nI ((cntP (fun g => ¬ (tn g).toInt = 0) q) + 0))), (3, .int (nI ((cntP (fun g => (st g).toInt = 2) q) + 0))), (2, .int (nI ((cntP (fun g => (st g).toInt = 1) q) + 1))), (6, .int (nI q)), (5, .int (nI (smP (lvF ft st tn) (fun g => nN (mn g)) q))), (0, .ref k0), (1, .int 4)]) hx hb dX11_count_78 hl (by decide) rfl (fun ls hl => ?_)
              refine lv_iload hx hb dX11_count_80 (lv_at hl 4 rfl) ?_
              refine lv_aload_n hx hb dX11_count_82 rfl (lv_at hl 5 rfl) ?_
              refine lv_iload hx hb dX11_count_83 (lv_at hl 3 rfl) ?_
              have hPc := hP.sub (ws' := [(om k0 a I0 J0), (oa (a 5) cI 201 st), (oa (a 6) cZ 201 tn)]) [0, 1, 2] rfl
              have hDc := hD.sub (ws' := [(om k0 a I0 J0), (oa (a 5) cI 201 st), (oa (a 6) cZ 201 tn)]) [0, 1, 2] (by decide) rfl
              have hFc := va_free (wc := [(om k0 a I0 J0), (oa (a 5) cI 201 st), (oa (a 6) cZ 201 tn)]) hD hS hA [0, 1, 2] rfl
              refine zcall (st1 := [.int (pI (q < ft ∧ (st q).toInt = 1 ∧ (tn q).toInt = 0)), .int (nI (smP (lvF ft st tn) (fun g => nN (mn g)) q))]) (va_runV (As := [.int (nI q)]) (rest := [.int (nI (smP (lvF ft st tn) (fun g => nN (mn g)) q))]) ⟨hx, hb, hml, hown, hts⟩ (k_M_is_n l dC dI cI cZ cF H.size k0 a I0 J0 q ft st tn (by assumption) (by omega) (by omega)) (cwV 1 hts (zz_gV mw_1447 mw_1449 mw_56 mw_110 mc_yX11_is) rfl rfl rfl (by decide +kernel) ⟨Nat.le_of_ble_eq_true rfl, Nat.le_of_ble_eq_true rfl⟩) (zPV2 (q0 := 0) (ci := 9) hPc hDc hK hXN rfl rfl) rfl rfl hl.1 rfl (lv_room (Nat.le_of_ble_eq_true rfl)) dX11_count_85 ⟨Nat.le_of_ble_eq_true rfl, Nat.le_of_ble_eq_true rfl⟩) hS hFc hFc rfl (fun t H1 locs ht hB hk1 hS => ?_)
              obtain ⟨hP1, hD1⟩ := hB
              rw [ht] at hP1
              obtain ⟨hP, hD⟩ := va_join (wr := [(oa (a 11) cI 201 mn)]) (w1 := [(om k0 a I0 J0), (oa (a 5) cI 201 st), (oa (a 6) cZ 201 tn)]) hP hD [0, 1, 2] [3] rfl rfl (by decide) (by decide) hk1 hFc hP1 hD1
              clear hk1 hPc hDc hFc hP1 hD1 ht
              generalize H1 = H at hP hS ⊢
              have hP := hP.sub (ws' := [(om k0 a I0 J0), (oa (a 5) cI 201 st), (oa (a 6) cZ 201 tn), (oa (a 11) cI 201 mn)]) [1, 2, 3, 0] rfl
              have hD := hD.sub (ws' := [(om k0 a I0 J0), (oa (a 5) cI 201 st), (oa (a 6) cZ 201 tn), (oa (a 11) cI 201 mn)]) [1, 2, 3, 0] (by decide) rfl
              have hP : va_P (dC, dI) classes [(om k0 a I0 J0), (oa (a 5) cI 201 st), (oa (a 6) cZ 201 tn), (oa (a 11) cI 201 mn)] H := hP
              have hD : va_D A [(om k0 a I0 J0), (oa (a 5) cI 201 st), (oa (a 6) cZ 201 tn), (oa (a 11) cI 201 mn)] := hD
              refine lv_if_eq (tgt := 101) hx hb dX11_count_88 (by decide) (fun c_12 => ?_) (fun c_12 => ?_)
              · have c_12 : ¬ (q < ft ∧ (st q).toInt = 1 ∧ (tn q).toInt = 0) := zp_0 c_12
                refine lv_iconst (v := 0) hx hb dX11_count_101 (by decide) ?_
                refine lv_iadd hx hb dX11_count_102 ?_
                refine zz_i (v := nI ((smP (lvF ft st tn) (fun g => nN (mn g)) q) + 0)) (nI_add (smP (lvF ft st tn) (fun g => nN (mn g)) q) 0) ?_
                refine lv_istore (lv' := [(5, .int (nI ((smP (lvF ft st tn) (fun g => nN (mn g)) q) + 0))), (4, .int (nI ((cntP (fun g => ¬ (tn g).toInt = 0) q) + 0))), (3, .int (nI ((cntP (fun g => (st g).toInt = 2) q) + 0))), (2, .int (nI ((cntP (fun g => (st g).toInt = 1) q) + 1))), (6, .int (nI q)), (0, .ref k0), (1, .int 4)]) hx hb dX11_count_103 hl (by decide) rfl (fun ls hl => ?_)
                refine lv_iinc (v := nI (q + 1)) (lv' := [(6, .int (nI (q + 1))), (5, .int (nI ((smP (lvF ft st tn) (fun g => nN (mn g)) q) + 0))), (4, .int (nI ((cntP (fun g => ¬ (tn g).toInt = 0) q) + 0))), (3, .int (nI ((cntP (fun g => (st g).toInt = 2) q) + 0))), (2, .int (nI ((cntP (fun g => (st g).toInt = 1) q) + 1))), (0, .ref k0), (1, .int 4)]) hx hb dX11_count_105 hl (k := 4) rfl (nI_add q 1) (by decide) rfl (fun ls hl => ?_)
                refine lv_goto (tgt := 13) hx hb dX11_count_108 (by decide) ?_
                have hl9 := lv_sub hl [0, 1, 2, 3, 4, 5, 6] rfl
                have e9_2 : nI (cntP (fun g => (st g).toInt = 1) (q + 1)) = (nI ((cntP (fun g => (st g).toInt = 1) q) + 1) : Int32) := by first | exact congrArg nI (cntP_y (P := fun g => (st g).toInt = 1) (show (st q).toInt = 1 by omega)) | exact congrArg nI (cntP_n0 (P := fun g => (st g).toInt = 1) (show ¬ (st q).toInt = 1 by omega))
                have e9_3 : nI (cntP (fun g => (st g).toInt = 2) (q + 1)) = (nI ((cntP (fun g => (st g).toInt = 2) q) + 0) : Int32) := by first | exact congrArg nI (cntP_y (P := fun g => (st g).toInt = 2) (show (st q).toInt = 2 by omega)) | exact congrArg nI (cntP_n0 (P := fun g => (st g).toInt = 2) (show ¬ (st q).toInt = 2 by omega))
                have e9_4 : nI (cntP (fun g => ¬ (tn g).toInt = 0) (q + 1)) = (nI ((cntP (fun g => ¬ (tn g).toInt = 0) q) + 0) : Int32) := by first | exact congrArg nI (cntP_y (P := fun g => ¬ (tn g).toInt = 0) (show ¬ (tn q).toInt = 0 by omega)) | exact congrArg nI (cntP_n0 (P := fun g => ¬ (tn g).toInt = 0) (show ¬ ¬ (tn q).toInt = 0 by omega))
                have e9_5 : nI (smP (lvF ft st tn) (fun g => nN (mn g)) (q + 1)) = (nI ((smP (lvF ft st tn) (fun g => nN (mn g)) q) + 0) : Int32) := by first | exact congrArg nI (smP_y (P := lvF ft st tn) (by assumption)) | exact congrArg nI (smP_n (P := lvF ft st tn) (by assumption))
                have hl9 : lv_has ls 7 [(6, .int (nI (q + 1))), (5, .int (nI (smP (lvF ft st tn) (fun g => nN (mn g)) (q + 1)))), (4, .int (nI (cntP (fun g => ¬ (tn g).toInt = 0) (q + 1)))), (3, .int (nI (cntP (fun g => (st g).toInt = 2) (q + 1)))), (2, .int (nI (cntP (fun g => (st g).toInt = 1) (q + 1)))), (0, .ref k0), (1, .int 4)] := by rw [e9_2]; rw [e9_3]; rw [e9_4]; rw [e9_5]; exact hl9
                exact ih_13 (q + 1) H locs ls (by omega) (by omega) hP hD hS hl9
              · have c_12 : q < ft ∧ (st q).toInt = 1 ∧ (tn q).toInt = 0 := zp_1 c_12
                refine lv_aload_n hx hb dX11_count_91 rfl (lv_at hl 5 rfl) ?_
                refine va_get (D := (dC, dI)) (ci := 9) (v := .ref (a 11)) (C := RX11) (T := TX11) (N := 55) hx hb hts inX11 hown hK hP 0 rfl rfl 11 (by decide) (hts _ mw_1170) (fun _ h9 => h9) rfl dX11_count_92 ?_
                refine lv_iload hx hb dX11_count_95 (lv_at hl 3 rfl) ?_
                refine z_iald hx hb hK hP 3 0 rfl rfl (e := q) rfl (by omega) (by omega) dX11_count_97 ?_
                refine zz_i (v := nI (nN (mn q))) ((hmw q (by assumption)).1) ?_
                refine lv_goto (tgt := 102) hx hb dX11_count_98 (by decide) ?_
                refine lv_iadd hx hb dX11_count_102 ?_
                refine zz_i (v := nI ((smP (lvF ft st tn) (fun g => nN (mn g)) q) + (nN (mn q)))) (nI_add (smP (lvF ft st tn) (fun g => nN (mn g)) q) (nN (mn q))) ?_
                refine lv_istore (lv' := [(5, .int (nI ((smP (lvF ft st tn) (fun g => nN (mn g)) q) + (nN (mn q))))), (4, .int (nI ((cntP (fun g => ¬ (tn g).toInt = 0) q) + 0))), (3, .int (nI ((cntP (fun g => (st g).toInt = 2) q) + 0))), (2, .int (nI ((cntP (fun g => (st g).toInt = 1) q) + 1))), (6, .int (nI q)), (0, .ref k0), (1, .int 4)]) hx hb dX11_count_103 hl (by decide) rfl (fun ls hl => ?_)
                refine lv_iinc (v := nI (q + 1)) (lv' := [(6, .int (nI (q + 1))), (5, .int (nI ((smP (lvF ft st tn) (fun g => nN (mn g)) q) + (nN (mn q))))), (4, .int (nI ((cntP (fun g => ¬ (tn g).toInt = 0) q) + 0))), (3, .int (nI ((cntP (fun g => (st g).toInt = 2) q) + 0))), (2, .int (nI ((cntP (fun g => (st g).toInt = 1) q) + 1))), (0, .ref k0), (1, .int 4)]) hx hb dX11_count_105 hl (k := 4) rfl (nI_add q 1) (by decide) rfl (fun ls hl => ?_)
                refine lv_goto (tgt := 13) hx hb dX11_count_108 (by decide) ?_
                have hl9 := lv_sub hl [0, 1, 2, 3, 4, 5, 6] rfl
                have e9_2 : nI (cntP (fun g => (st g).toInt = 1) (q + 1)) = (nI ((cntP (fun g => (st g).toInt = 1) q) + 1) : Int32) := by first | exact congrArg nI (cntP_y (P := fun g => (st g).toInt = 1) (show (st q).toInt = 1 by omega)) | exact congrArg nI (cntP_n0 (P := fun g => (st g).toInt = 1) (show ¬ (st q).toInt = 1 by omega))
                have e9_3 : nI (cntP (fun g => (st g).toInt = 2) (q + 1)) = (nI ((cntP (fun g => (st g).toInt = 2) q) + 0) : Int32) := by first | exact congrArg nI (cntP_y (P := fun g => (st g).toInt = 2) (show (st q).toInt = 2 by omega)) | exact congrArg nI (cntP_n0 (P := fun g => (st g).toInt = 2) (show ¬ (st q).toInt = 2 by omega))
                have e9_4 : nI (cntP (fun g => ¬ (tn g).toInt = 0) (q + 1)) = (nI ((cntP (fun g => ¬ (tn g).toInt = 0) q) + 0) : Int32) := by first | exact congrArg nI (cntP_y (P := fun g => ¬ (tn g).toInt = 0) (show ¬ (tn q).toInt = 0 by omega)) | exact congrArg nI (cntP_n0 (P := fun g => ¬ (tn g).toInt = 0) (show ¬ ¬ (tn q).toInt = 0 by omega))
                have e9_5 : nI (smP (lvF ft st tn) (fun g => nN (mn g)) (q + 1)) = (nI ((smP (lvF ft st tn) (fun g => nN (mn g)) q) + (nN (mn q))) : Int32) := by first | exact congrArg nI (smP_y (P := lvF ft st tn) (by assumption)) | exact congrArg nI (smP_n (P := lvF ft st tn) (by assumption))
                have hl9 : lv_has ls 7 [(6, .int (nI (q + 1))), (5, .int (nI (smP (lvF ft st tn) (fun g => nN (mn g)) (q + 1)))), (4, .int (nI (cntP (fun g => ¬ (tn g).toInt = 0) (q + 1)))), (3, .int (nI (cntP (fun g => (st g).toInt = 2) (q + 1)))), (2, .int (nI (cntP (fun g => (st g).toInt = 1) (q + 1)))), (0, .ref k0), (1, .int 4)] := by rw [e9_2]; rw [e9_3]; rw [e9_4]; rw [e9_5]; exact hl9
                exact ih_13 (q + 1) H locs ls (by omega) (by omega) hP hD hS hl9
            · have c_11 : ¬ (tn q).toInt = 0 := zc_ne rfl (by decide) c_11
              refine lv_iconst (v := 1) hx hb dX11_count_72 (by decide) ?_
              refine lv_goto (tgt := 77) hx hb dX11_count_73 (by decide) ?_
              refine lv_iadd hx hb dX11_count_77 ?_
              refine zz_i (v := nI ((cntP (fun g => ¬ (tn g).toInt = 0) q) + 1)) (nI_add (cntP (fun g => ¬ (tn g).toInt = 0) q) 1) ?_
              refine lv_istore (lv' := [(4, .int (nI ((cntP (fun g => ¬ (tn g).toInt = 0) q) + 1))), (3, .int (nI ((cntP (fun g => (st g).toInt = 2) q) + 0))), (2, .int (nI ((cntP (fun g => (st g).toInt = 1) q) + 1))), (6, .int (nI q)), (5, .int (nI (smP (lvF ft st tn) (fun g => nN (mn g)) q))), (0, .ref k0), (1, .int 4)]) hx hb dX11_count_78 hl (by decide) rfl (fun ls hl => ?_)
              refine lv_iload hx hb dX11_count_80 (lv_at hl 4 rfl) ?_
              refine lv_aload_n hx hb dX11_count_82 rfl (lv_at hl 5 rfl) ?_
              refine lv_iload hx hb dX11_count_83 (lv_at hl 3 rfl) ?_
              have hPc := hP.sub (ws' := [(om k0 a I0 J0), (oa (a 5) cI 201 st), (oa (a 6) cZ 201 tn)]) [0, 1, 2] rfl
              have hDc := hD.sub (ws' := [(om k0 a I0 J0), (oa (a 5) cI 201 st), (oa (a 6) cZ 201 tn)]) [0, 1, 2] (by decide) rfl
              have hFc := va_free (wc := [(om k0 a I0 J0), (oa (a 5) cI 201 st), (oa (a 6) cZ 201 tn)]) hD hS hA [0, 1, 2] rfl
              refine zcall (st1 := [.int (pI (q < ft ∧ (st q).toInt = 1 ∧ (tn q).toInt = 0)), .int (nI (smP (lvF ft st tn) (fun g => nN (mn g)) q))]) (va_runV (As := [.int (nI q)]) (rest := [.int (nI (smP (lvF ft st tn) (fun g => nN (mn g)) q))]) ⟨hx, hb, hml, hown, hts⟩ (k_M_is_n l dC dI cI cZ cF H.size k0 a I0 J0 q ft st tn (by assumption) (by omega) (by omega)) (cwV 1 hts (zz_gV mw_1447 mw_1449 mw_56 mw_110 mc_yX11_is) rfl rfl rfl (by decide +kernel) ⟨Nat.le_of_ble_eq_true rfl, Nat.le_of_ble_eq_true rfl⟩) (zPV2 (q0 := 0) (ci := 9) hPc hDc hK hXN rfl rfl) rfl rfl hl.1 rfl (lv_room (Nat.le_of_ble_eq_true rfl)) dX11_count_85 ⟨Nat.le_of_ble_eq_true rfl, Nat.le_of_ble_eq_true rfl⟩) hS hFc hFc rfl (fun t H1 locs ht hB hk1 hS => ?_)
              obtain ⟨hP1, hD1⟩ := hB
              rw [ht] at hP1
              obtain ⟨hP, hD⟩ := va_join (wr := [(oa (a 11) cI 201 mn)]) (w1 := [(om k0 a I0 J0), (oa (a 5) cI 201 st), (oa (a 6) cZ 201 tn)]) hP hD [0, 1, 2] [3] rfl rfl (by decide) (by decide) hk1 hFc hP1 hD1
              clear hk1 hPc hDc hFc hP1 hD1 ht
              generalize H1 = H at hP hS ⊢
              have hP := hP.sub (ws' := [(om k0 a I0 J0), (oa (a 5) cI 201 st), (oa (a 6) cZ 201 tn), (oa (a 11) cI 201 mn)]) [1, 2, 3, 0] rfl
              have hD := hD.sub (ws' := [(om k0 a I0 J0), (oa (a 5) cI 201 st), (oa (a 6) cZ 201 tn), (oa (a 11) cI 201 mn)]) [1, 2, 3, 0] (by decide) rfl
              have hP : va_P (dC, dI) classes [(om k0 a I0 J0), (oa (a 5) cI 201 st), (oa (a 6) cZ 201 tn), (oa (a 11) cI 201 mn)] H := hP
              have hD : va_D A [(om k0 a I0 J0), (oa (a 5) cI 201 st), (oa (a 6) cZ 201 tn), (oa (a 11) cI 201 mn)] := hD
              refine lv_if_eq (tgt := 101) hx hb dX11_count_88 (by decide) (fun c_13 => ?_) (fun c_13 => ?_)
              · have c_13 : ¬ (q < ft ∧ (st q).toInt = 1 ∧ (tn q).toInt = 0) := zp_0 c_13
                refine lv_iconst (v := 0) hx hb dX11_count_101 (by decide) ?_
                refine lv_iadd hx hb dX11_count_102 ?_
                refine zz_i (v := nI ((smP (lvF ft st tn) (fun g => nN (mn g)) q) + 0)) (nI_add (smP (lvF ft st tn) (fun g => nN (mn g)) q) 0) ?_
                refine lv_istore (lv' := [(5, .int (nI ((smP (lvF ft st tn) (fun g => nN (mn g)) q) + 0))), (4, .int (nI ((cntP (fun g => ¬ (tn g).toInt = 0) q) + 1))), (3, .int (nI ((cntP (fun g => (st g).toInt = 2) q) + 0))), (2, .int (nI ((cntP (fun g => (st g).toInt = 1) q) + 1))), (6, .int (nI q)), (0, .ref k0), (1, .int 4)]) hx hb dX11_count_103 hl (by decide) rfl (fun ls hl => ?_)
                refine lv_iinc (v := nI (q + 1)) (lv' := [(6, .int (nI (q + 1))), (5, .int (nI ((smP (lvF ft st tn) (fun g => nN (mn g)) q) + 0))), (4, .int (nI ((cntP (fun g => ¬ (tn g).toInt = 0) q) + 1))), (3, .int (nI ((cntP (fun g => (st g).toInt = 2) q) + 0))), (2, .int (nI ((cntP (fun g => (st g).toInt = 1) q) + 1))), (0, .ref k0), (1, .int 4)]) hx hb dX11_count_105 hl (k := 4) rfl (nI_add q 1) (by decide) rfl (fun ls hl => ?_)
                refine lv_goto (tgt := 13) hx hb dX11_count_108 (by decide) ?_
                have hl9 := lv_sub hl [0, 1, 2, 3, 4, 5, 6] rfl
                have e9_2 : nI (cntP (fun g => (st g).toInt = 1) (q + 1)) = (nI ((cntP (fun g => (st g).toInt = 1) q) + 1) : Int32) := by first | exact congrArg nI (cntP_y (P := fun g => (st g).toInt = 1) (show (st q).toInt = 1 by omega)) | exact congrArg nI (cntP_n0 (P := fun g => (st g).toInt = 1) (show ¬ (st q).toInt = 1 by omega))
                have e9_3 : nI (cntP (fun g => (st g).toInt = 2) (q + 1)) = (nI ((cntP (fun g => (st g).toInt = 2) q) + 0) : Int32) := by first | exact congrArg nI (cntP_y (P := fun g => (st g).toInt = 2) (show (st q).toInt = 2 by omega)) | exact congrArg nI (cntP_n0 (P := fun g => (st g).toInt = 2) (show ¬ (st q).toInt = 2 by omega))
                have e9_4 : nI (cntP (fun g => ¬ (tn g).toInt = 0) (q + 1)) = (nI ((cntP (fun g => ¬ (tn g).toInt = 0) q) + 1) : Int32) := by first | exact congrArg nI (cntP_y (P := fun g => ¬ (tn g).toInt = 0) (show ¬ (tn q).toInt = 0 by omega)) | exact congrArg nI (cntP_n0 (P := fun g => ¬ (tn g).toInt = 0) (show ¬ ¬ (tn q).toInt = 0 by omega))
                have e9_5 : nI (smP (lvF ft st tn) (fun g => nN (mn g)) (q + 1)) = (nI ((smP (lvF ft st tn) (fun g => nN (mn g)) q) + 0) : Int32) := by first | exact congrArg nI (smP_y (P := lvF ft st tn) (by assumption)) | exact congrArg nI (smP_n (P := lvF ft st tn) (by assumption))
                have hl9 : lv_has ls 7 [(6, .int (nI (q + 1))), (5, .int (nI (smP (lvF ft st tn) (fun g => nN (mn g)) (q + 1)))), (4, .int (nI (cntP (fun g => ¬ (tn g).toInt = 0) (q + 1)))), (3, .int (nI (cntP (fun g => (st g).toInt = 2) (q + 1)))), (2, .int (nI (cntP (fun g => (st g).toInt = 1) (q + 1)))), (0, .ref k0), (1, .int 4)] := by rw [e9_2]; rw [e9_3]; rw [e9_4]; rw [e9_5]; exact hl9
                exact ih_13 (q + 1) H locs ls (by omega) (by omega) hP hD hS hl9
              · have c_13 : q < ft ∧ (st q).toInt = 1 ∧ (tn q).toInt = 0 := zp_1 c_13
                refine lv_aload_n hx hb dX11_count_91 rfl (lv_at hl 5 rfl) ?_
                refine va_get (D := (dC, dI)) (ci := 9) (v := .ref (a 11)) (C := RX11) (T := TX11) (N := 55) hx hb hts inX11 hown hK hP 0 rfl rfl 11 (by decide) (hts _ mw_1170) (fun _ h9 => h9) rfl dX11_count_92 ?_
                refine lv_iload hx hb dX11_count_95 (lv_at hl 3 rfl) ?_
                refine z_iald hx hb hK hP 3 0 rfl rfl (e := q) rfl (by omega) (by omega) dX11_count_97 ?_
                refine zz_i (v := nI (nN (mn q))) ((hmw q (by assumption)).1) ?_
                refine lv_goto (tgt := 102) hx hb dX11_count_98 (by decide) ?_
                refine lv_iadd hx hb dX11_count_102 ?_
                refine zz_i (v := nI ((smP (lvF ft st tn) (fun g => nN (mn g)) q) + (nN (mn q)))) (nI_add (smP (lvF ft st tn) (fun g => nN (mn g)) q) (nN (mn q))) ?_
                refine lv_istore (lv' := [(5, .int (nI ((smP (lvF ft st tn) (fun g => nN (mn g)) q) + (nN (mn q))))), (4, .int (nI ((cntP (fun g => ¬ (tn g).toInt = 0) q) + 1))), (3, .int (nI ((cntP (fun g => (st g).toInt = 2) q) + 0))), (2, .int (nI ((cntP (fun g => (st g).toInt = 1) q) + 1))), (6, .int (nI q)), (0, .ref k0), (1, .int 4)]) hx hb dX11_count_103 hl (by decide) rfl (fun ls hl => ?_)
                refine lv_iinc (v := nI (q + 1)) (lv' := [(6, .int (nI (q + 1))), (5, .int (nI ((smP (lvF ft st tn) (fun g => nN (mn g)) q) + (nN (mn q))))), (4, .int (nI ((cntP (fun g => ¬ (tn g).toInt = 0) q) + 1))), (3, .int (nI ((cntP (fun g => (st g).toInt = 2) q) + 0))), (2, .int (nI ((cntP (fun g => (st g).toInt = 1) q) + 1))), (0, .ref k0), (1, .int 4)]) hx hb dX11_count_105 hl (k := 4) rfl (nI_add q 1) (by decide) rfl (fun ls hl => ?_)
                refine lv_goto (tgt := 13) hx hb dX11_count_108 (by decide) ?_
                have hl9 := lv_sub hl [0, 1, 2, 3, 4, 5, 6] rfl
                have e9_2 : nI (cntP (fun g => (st g).toInt = 1) (q + 1)) = (nI ((cntP (fun g => (st g).toInt = 1) q) + 1) : Int32) := by first | exact congrArg nI (cntP_y (P := fun g => (st g).toInt = 1) (show (st q).toInt = 1 by omega)) | exact congrArg nI (cntP_n0 (P := fun g => (st g).toInt = 1) (show ¬ (st q).toInt = 1 by omega))
                have e9_3 : nI (cntP (fun g => (st g).toInt = 2) (q + 1)) = (nI ((cntP (fun g => (st g).toInt = 2) q) + 0) : Int32) := by first | exact congrArg nI (cntP_y (P := fun g => (st g).toInt = 2) (show (st q).toInt = 2 by omega)) | exact congrArg nI (cntP_n0 (P := fun g => (st g).toInt = 2) (show ¬ (st q).toInt = 2 by omega))
                have e9_4 : nI (cntP (fun g => ¬ (tn g).toInt = 0) (q + 1)) = (nI ((cntP (fun g => ¬ (tn g).toInt = 0) q) + 1) : Int32) := by first | exact congrArg nI (cntP_y (P := fun g => ¬ (tn g).toInt = 0) (show ¬ (tn q).toInt = 0 by omega)) | exact congrArg nI (cntP_n0 (P := fun g => ¬ (tn g).toInt = 0) (show ¬ ¬ (tn q).toInt = 0 by omega))
                have e9_5 : nI (smP (lvF ft st tn) (fun g => nN (mn g)) (q + 1)) = (nI ((smP (lvF ft st tn) (fun g => nN (mn g)) q) + (nN (mn q))) : Int32) := by first | exact congrArg nI (smP_y (P := lvF ft st tn) (by assumption)) | exact congrArg nI (smP_n (P := lvF ft st tn) (by assumption))
                have hl9 : lv_has ls 7 [(6, .int (nI (q + 1))), (5, .int (nI (smP (lvF ft st tn) (fun g => nN (mn g)) (q + 1)))), (4, .int (nI (cntP (fun g => ¬ (tn g).toInt = 0) (q + 1)))), (3, .int (nI (cntP (fun g => (st g).toInt = 2) (q + 1)))), (2, .int (nI (cntP (fun g => (st g).toInt = 1) (q + 1)))), (0, .ref k0), (1, .int 4)] := by rw [e9_2]; rw [e9_3]; rw [e9_4]; rw [e9_5]; exact hl9
                exact ih_13 (q + 1) H locs ls (by omega) (by omega) hP hD hS hl9
          · have c_10 : (st q).toInt = 2 := zc_eq rfl (by decide) c_10
            refine lv_iconst (v := 1) hx hb dX11_count_53 (by decide) ?_
            refine lv_goto (tgt := 58) hx hb dX11_count_54 (by decide) ?_
            refine lv_iadd hx hb dX11_count_58 ?_
            refine zz_i (v := nI ((cntP (fun g => (st g).toInt = 2) q) + 1)) (nI_add (cntP (fun g => (st g).toInt = 2) q) 1) ?_
            refine lv_istore_n (lv' := [(3, .int (nI ((cntP (fun g => (st g).toInt = 2) q) + 1))), (2, .int (nI ((cntP (fun g => (st g).toInt = 1) q) + 1))), (6, .int (nI q)), (5, .int (nI (smP (lvF ft st tn) (fun g => nN (mn g)) q))), (4, .int (nI (cntP (fun g => ¬ (tn g).toInt = 0) q))), (0, .ref k0), (1, .int 4)]) hx hb dX11_count_59 rfl hl (by decide) rfl (fun ls hl => ?_)
            refine lv_iload hx hb dX11_count_60 (lv_at hl 4 rfl) ?_
            refine lv_aload_n hx hb dX11_count_62 rfl (lv_at hl 5 rfl) ?_
            refine va_get (D := (dC, dI)) (ci := 9) (v := .ref (a 6)) (C := RX11) (T := TX11) (N := 55) hx hb hts inX11 hown hK hP 0 rfl rfl 6 (by decide) (hts _ mw_1165) (fun _ h9 => h9) rfl dX11_count_63 ?_
            refine lv_iload hx hb dX11_count_66 (lv_at hl 2 rfl) ?_
            refine z_zald hx hb hK hP 2 1 rfl rfl (e := q) rfl (by omega) (by omega) dX11_count_68 ?_
            refine lv_if_eq (tgt := 76) hx hb dX11_count_69 (by decide) (fun c_14 => ?_) (fun c_14 => ?_)
            · have c_14 : (tn q).toInt = 0 := zc_eq rfl (by decide) c_14
              refine lv_iconst (v := 0) hx hb dX11_count_76 (by decide) ?_
              refine lv_iadd hx hb dX11_count_77 ?_
              refine zz_i (v := nI ((cntP (fun g => ¬ (tn g).toInt = 0) q) + 0)) (nI_add (cntP (fun g => ¬ (tn g).toInt = 0) q) 0) ?_
              refine lv_istore (lv' := [(4, .int (nI ((cntP (fun g => ¬ (tn g).toInt = 0) q) + 0))), (3, .int (nI ((cntP (fun g => (st g).toInt = 2) q) + 1))), (2, .int (nI ((cntP (fun g => (st g).toInt = 1) q) + 1))), (6, .int (nI q)), (5, .int (nI (smP (lvF ft st tn) (fun g => nN (mn g)) q))), (0, .ref k0), (1, .int 4)]) hx hb dX11_count_78 hl (by decide) rfl (fun ls hl => ?_)
              refine lv_iload hx hb dX11_count_80 (lv_at hl 4 rfl) ?_
              refine lv_aload_n hx hb dX11_count_82 rfl (lv_at hl 5 rfl) ?_
              refine lv_iload hx hb dX11_count_83 (lv_at hl 3 rfl) ?_
              have hPc := hP.sub (ws' := [(om k0 a I0 J0), (oa (a 5) cI 201 st), (oa (a 6) cZ 201 tn)]) [0, 1, 2] rfl
              have hDc := hD.sub (ws' := [(om k0 a I0 J0), (oa (a 5) cI 201 st), (oa (a 6) cZ 201 tn)]) [0, 1, 2] (by decide) rfl
              have hFc := va_free (wc := [(om k0 a I0 J0), (oa (a 5) cI 201 st), (oa (a 6) cZ 201 tn)]) hD hS hA [0, 1, 2] rfl
              refine zcall (st1 := [.int (pI (q < ft ∧ (st q).toInt = 1 ∧ (tn q).toInt = 0)), .int (nI (smP (lvF ft st tn) (fun g => nN (mn g)) q))]) (va_runV (As := [.int (nI q)]) (rest := [.int (nI (smP (lvF ft st tn) (fun g => nN (mn g)) q))]) ⟨hx, hb, hml, hown, hts⟩ (k_M_is_n l dC dI cI cZ cF H.size k0 a I0 J0 q ft st tn (by assumption) (by omega) (by omega)) (cwV 1 hts (zz_gV mw_1447 mw_1449 mw_56 mw_110 mc_yX11_is) rfl rfl rfl (by decide +kernel) ⟨Nat.le_of_ble_eq_true rfl, Nat.le_of_ble_eq_true rfl⟩) (zPV2 (q0 := 0) (ci := 9) hPc hDc hK hXN rfl rfl) rfl rfl hl.1 rfl (lv_room (Nat.le_of_ble_eq_true rfl)) dX11_count_85 ⟨Nat.le_of_ble_eq_true rfl, Nat.le_of_ble_eq_true rfl⟩) hS hFc hFc rfl (fun t H1 locs ht hB hk1 hS => ?_)
              obtain ⟨hP1, hD1⟩ := hB
              rw [ht] at hP1
              obtain ⟨hP, hD⟩ := va_join (wr := [(oa (a 11) cI 201 mn)]) (w1 := [(om k0 a I0 J0), (oa (a 5) cI 201 st), (oa (a 6) cZ 201 tn)]) hP hD [0, 1, 2] [3] rfl rfl (by decide) (by decide) hk1 hFc hP1 hD1
              clear hk1 hPc hDc hFc hP1 hD1 ht
              generalize H1 = H at hP hS ⊢
              have hP := hP.sub (ws' := [(om k0 a I0 J0), (oa (a 5) cI 201 st), (oa (a 6) cZ 201 tn), (oa (a 11) cI 201 mn)]) [1, 2, 3, 0] rfl
              have hD := hD.sub (ws' := [(om k0 a I0 J0), (oa (a 5) cI 201 st), (oa (a 6) cZ 201 tn), (oa (a 11) cI 201 mn)]) [1, 2, 3, 0] (by decide) rfl
              have hP : va_P (dC, dI) classes [(om k0 a I0 J0), (oa (a 5) cI 201 st), (oa (a 6) cZ 201 tn), (oa (a 11) cI 201 mn)] H := hP
              have hD : va_D A [(om k0 a I0 J0), (oa (a 5) cI 201 st), (oa (a 6) cZ 201 tn), (oa (a 11) cI 201 mn)] := hD
              refine lv_if_eq (tgt := 101) hx hb dX11_count_88 (by decide) (fun c_15 => ?_) (fun c_15 => ?_)
              · have c_15 : ¬ (q < ft ∧ (st q).toInt = 1 ∧ (tn q).toInt = 0) := zp_0 c_15
                refine lv_iconst (v := 0) hx hb dX11_count_101 (by decide) ?_
                refine lv_iadd hx hb dX11_count_102 ?_
                refine zz_i (v := nI ((smP (lvF ft st tn) (fun g => nN (mn g)) q) + 0)) (nI_add (smP (lvF ft st tn) (fun g => nN (mn g)) q) 0) ?_
                refine lv_istore (lv' := [(5, .int (nI ((smP (lvF ft st tn) (fun g => nN (mn g)) q) + 0))), (4, .int (nI ((cntP (fun g => ¬ (tn g).toInt = 0) q) + 0))), (3, .int (nI ((cntP (fun g => (st g).toInt = 2) q) + 1))), (2, .int (nI ((cntP (fun g => (st g).toInt = 1) q) + 1))), (6, .int (nI q)), (0, .ref k0), (1, .int 4)]) hx hb dX11_count_103 hl (by decide) rfl (fun ls hl => ?_)
                refine lv_iinc (v := nI (q + 1)) (lv' := [(6, .int (nI (q + 1))), (5, .int (nI ((smP (lvF ft st tn) (fun g => nN (mn g)) q) + 0))), (4, .int (nI ((cntP (fun g => ¬ (tn g).toInt = 0) q) + 0))), (3, .int (nI ((cntP (fun g => (st g).toInt = 2) q) + 1))), (2, .int (nI ((cntP (fun g => (st g).toInt = 1) q) + 1))), (0, .ref k0), (1, .int 4)]) hx hb dX11_count_105 hl (k := 4) rfl (nI_add q 1) (by decide) rfl (fun ls hl => ?_)
                refine lv_goto (tgt := 13) hx hb dX11_count_108 (by decide) ?_
                have hl9 := lv_sub hl [0, 1, 2, 3, 4, 5, 6] rfl
                have e9_2 : nI (cntP (fun g => (st g).toInt = 1) (q + 1)) = (nI ((cntP (fun g => (st g).toInt = 1) q) + 1) : Int32) := by first | exact congrArg nI (cntP_y (P := fun g => (st g).toInt = 1) (show (st q).toInt = 1 by omega)) | exact congrArg nI (cntP_n0 (P := fun g => (st g).toInt = 1) (show ¬ (st q).toInt = 1 by omega))
                have e9_3 : nI (cntP (fun g => (st g).toInt = 2) (q + 1)) = (nI ((cntP (fun g => (st g).toInt = 2) q) + 1) : Int32) := by first | exact congrArg nI (cntP_y (P := fun g => (st g).toInt = 2) (show (st q).toInt = 2 by omega)) | exact congrArg nI (cntP_n0 (P := fun g => (st g).toInt = 2) (show ¬ (st q).toInt = 2 by omega))
                have e9_4 : nI (cntP (fun g => ¬ (tn g).toInt = 0) (q + 1)) = (nI ((cntP (fun g => ¬ (tn g).toInt = 0) q) + 0) : Int32) := by first | exact congrArg nI (cntP_y (P := fun g => ¬ (tn g).toInt = 0) (show ¬ (tn q).toInt = 0 by omega)) | exact congrArg nI (cntP_n0 (P := fun g => ¬ (tn g).toInt = 0) (show ¬ ¬ (tn q).toInt = 0 by omega))
                have e9_5 : nI (smP (lvF ft st tn) (fun g => nN (mn g)) (q + 1)) = (nI ((smP (lvF ft st tn) (fun g => nN (mn g)) q) + 0) : Int32) := by first | exact congrArg nI (smP_y (P := lvF ft st tn) (by assumption)) | exact congrArg nI (smP_n (P := lvF ft st tn) (by assumption))
                have hl9 : lv_has ls 7 [(6, .int (nI (q + 1))), (5, .int (nI (smP (lvF ft st tn) (fun g => nN (mn g)) (q + 1)))), (4, .int (nI (cntP (fun g => ¬ (tn g).toInt = 0) (q + 1)))), (3, .int (nI (cntP (fun g => (st g).toInt = 2) (q + 1)))), (2, .int (nI (cntP (fun g => (st g).toInt = 1) (q + 1)))), (0, .ref k0), (1, .int 4)] := by rw [e9_2]; rw [e9_3]; rw [e9_4]; rw [e9_5]; exact hl9
                exact ih_13 (q + 1) H locs ls (by omega) (by omega) hP hD hS hl9
              · have c_15 : q < ft ∧ (st q).toInt = 1 ∧ (tn q).toInt = 0 := zp_1 c_15
                refine lv_aload_n hx hb dX11_count_91 rfl (lv_at hl 5 rfl) ?_
                refine va_get (D := (dC, dI)) (ci := 9) (v := .ref (a 11)) (C := RX11) (T := TX11) (N := 55) hx hb hts inX11 hown hK hP 0 rfl rfl 11 (by decide) (hts _ mw_1170) (fun _ h9 => h9) rfl dX11_count_92 ?_
                refine lv_iload hx hb dX11_count_95 (lv_at hl 3 rfl) ?_
                refine z_iald hx hb hK hP 3 0 rfl rfl (e := q) rfl (by omega) (by omega) dX11_count_97 ?_
                refine zz_i (v := nI (nN (mn q))) ((hmw q (by assumption)).1) ?_
                refine lv_goto (tgt := 102) hx hb dX11_count_98 (by decide) ?_
                refine lv_iadd hx hb dX11_count_102 ?_
                refine zz_i (v := nI ((smP (lvF ft st tn) (fun g => nN (mn g)) q) + (nN (mn q)))) (nI_add (smP (lvF ft st tn) (fun g => nN (mn g)) q) (nN (mn q))) ?_
                refine lv_istore (lv' := [(5, .int (nI ((smP (lvF ft st tn) (fun g => nN (mn g)) q) + (nN (mn q))))), (4, .int (nI ((cntP (fun g => ¬ (tn g).toInt = 0) q) + 0))), (3, .int (nI ((cntP (fun g => (st g).toInt = 2) q) + 1))), (2, .int (nI ((cntP (fun g => (st g).toInt = 1) q) + 1))), (6, .int (nI q)), (0, .ref k0), (1, .int 4)]) hx hb dX11_count_103 hl (by decide) rfl (fun ls hl => ?_)
                refine lv_iinc (v := nI (q + 1)) (lv' := [(6, .int (nI (q + 1))), (5, .int (nI ((smP (lvF ft st tn) (fun g => nN (mn g)) q) + (nN (mn q))))), (4, .int (nI ((cntP (fun g => ¬ (tn g).toInt = 0) q) + 0))), (3, .int (nI ((cntP (fun g => (st g).toInt = 2) q) + 1))), (2, .int (nI ((cntP (fun g => (st g).toInt = 1) q) + 1))), (0, .ref k0), (1, .int 4)]) hx hb dX11_count_105 hl (k := 4) rfl (nI_add q 1) (by decide) rfl (fun ls hl => ?_)
                refine lv_goto (tgt := 13) hx hb dX11_count_108 (by decide) ?_
                have hl9 := lv_sub hl [0, 1, 2, 3, 4, 5, 6] rfl
                have e9_2 : nI (cntP (fun g => (st g).toInt = 1) (q + 1)) = (nI ((cntP (fun g => (st g).toInt = 1) q) + 1) : Int32) := by first | exact congrArg nI (cntP_y (P := fun g => (st g).toInt = 1) (show (st q).toInt = 1 by omega)) | exact congrArg nI (cntP_n0 (P := fun g => (st g).toInt = 1) (show ¬ (st q).toInt = 1 by omega))
                have e9_3 : nI (cntP (fun g => (st g).toInt = 2) (q + 1)) = (nI ((cntP (fun g => (st g).toInt = 2) q) + 1) : Int32) := by first | exact congrArg nI (cntP_y (P := fun g => (st g).toInt = 2) (show (st q).toInt = 2 by omega)) | exact congrArg nI (cntP_n0 (P := fun g => (st g).toInt = 2) (show ¬ (st q).toInt = 2 by omega))
                have e9_4 : nI (cntP (fun g => ¬ (tn g).toInt = 0) (q + 1)) = (nI ((cntP (fun g => ¬ (tn g).toInt = 0) q) + 0) : Int32) := by first | exact congrArg nI (cntP_y (P := fun g => ¬ (tn g).toInt = 0) (show ¬ (tn q).toInt = 0 by omega)) | exact congrArg nI (cntP_n0 (P := fun g => ¬ (tn g).toInt = 0) (show ¬ ¬ (tn q).toInt = 0 by omega))
                have e9_5 : nI (smP (lvF ft st tn) (fun g => nN (mn g)) (q + 1)) = (nI ((smP (lvF ft st tn) (fun g => nN (mn g)) q) + (nN (mn q))) : Int32) := by first | exact congrArg nI (smP_y (P := lvF ft st tn) (by assumption)) | exact congrArg nI (smP_n (P := lvF ft st tn) (by assumption))
                have hl9 : lv_has ls 7 [(6, .int (nI (q + 1))), (5, .int (nI (smP (lvF ft st tn) (fun g => nN (mn g)) (q + 1)))), (4, .int (nI (cntP (fun g => ¬ (tn g).toInt = 0) (q + 1)))), (3, .int (nI (cntP (fun g => (st g).toInt = 2) (q + 1)))), (2, .int (nI (cntP (fun g => (st g).toInt = 1) (q + 1)))), (0, .ref k0), (1, .int 4)] := by rw [e9_2]; rw [e9_3]; rw [e9_4]; rw [e9_5]; exact hl9
                exact ih_13 (q + 1) H locs ls (by omega) (by omega) hP hD hS hl9
            · have c_14 : ¬ (tn q).toInt = 0 := zc_ne rfl (by decide) c_14
              refine lv_iconst (v := 1) hx hb dX11_count_72 (by decide) ?_
              refine lv_goto (tgt := 77) hx hb dX11_count_73 (by decide) ?_
              refine lv_iadd hx hb dX11_count_77 ?_
              refine zz_i (v := nI ((cntP (fun g => ¬ (tn g).toInt = 0) q) + 1)) (nI_add (cntP (fun g => ¬ (tn g).toInt = 0) q) 1) ?_
              refine lv_istore (lv' := [(4, .int (nI ((cntP (fun g => ¬ (tn g).toInt = 0) q) + 1))), (3, .int (nI ((cntP (fun g => (st g).toInt = 2) q) + 1))), (2, .int (nI ((cntP (fun g => (st g).toInt = 1) q) + 1))), (6, .int (nI q)), (5, .int (nI (smP (lvF ft st tn) (fun g => nN (mn g)) q))), (0, .ref k0), (1, .int 4)]) hx hb dX11_count_78 hl (by decide) rfl (fun ls hl => ?_)
              refine lv_iload hx hb dX11_count_80 (lv_at hl 4 rfl) ?_
              refine lv_aload_n hx hb dX11_count_82 rfl (lv_at hl 5 rfl) ?_
              refine lv_iload hx hb dX11_count_83 (lv_at hl 3 rfl) ?_
              have hPc := hP.sub (ws' := [(om k0 a I0 J0), (oa (a 5) cI 201 st), (oa (a 6) cZ 201 tn)]) [0, 1, 2] rfl
              have hDc := hD.sub (ws' := [(om k0 a I0 J0), (oa (a 5) cI 201 st), (oa (a 6) cZ 201 tn)]) [0, 1, 2] (by decide) rfl
              have hFc := va_free (wc := [(om k0 a I0 J0), (oa (a 5) cI 201 st), (oa (a 6) cZ 201 tn)]) hD hS hA [0, 1, 2] rfl
              refine zcall (st1 := [.int (pI (q < ft ∧ (st q).toInt = 1 ∧ (tn q).toInt = 0)), .int (nI (smP (lvF ft st tn) (fun g => nN (mn g)) q))]) (va_runV (As := [.int (nI q)]) (rest := [.int (nI (smP (lvF ft st tn) (fun g => nN (mn g)) q))]) ⟨hx, hb, hml, hown, hts⟩ (k_M_is_n l dC dI cI cZ cF H.size k0 a I0 J0 q ft st tn (by assumption) (by omega) (by omega)) (cwV 1 hts (zz_gV mw_1447 mw_1449 mw_56 mw_110 mc_yX11_is) rfl rfl rfl (by decide +kernel) ⟨Nat.le_of_ble_eq_true rfl, Nat.le_of_ble_eq_true rfl⟩) (zPV2 (q0 := 0) (ci := 9) hPc hDc hK hXN rfl rfl) rfl rfl hl.1 rfl (lv_room (Nat.le_of_ble_eq_true rfl)) dX11_count_85 ⟨Nat.le_of_ble_eq_true rfl, Nat.le_of_ble_eq_true rfl⟩) hS hFc hFc rfl (fun t H1 locs ht hB hk1 hS => ?_)
              obtain ⟨hP1, hD1⟩ := hB
              rw [ht] at hP1
              obtain ⟨hP, hD⟩ := va_join (wr := [(oa (a 11) cI 201 mn)]) (w1 := [(om k0 a I0 J0), (oa (a 5) cI 201 st), (oa (a 6) cZ 201 tn)]) hP hD [0, 1, 2] [3] rfl rfl (by decide) (by decide) hk1 hFc hP1 hD1
              clear hk1 hPc hDc hFc hP1 hD1 ht
              generalize H1 = H at hP hS ⊢
              have hP := hP.sub (ws' := [(om k0 a I0 J0), (oa (a 5) cI 201 st), (oa (a 6) cZ 201 tn), (oa (a 11) cI 201 mn)]) [1, 2, 3, 0] rfl
              have hD := hD.sub (ws' := [(om k0 a I0 J0), (oa (a 5) cI 201 st), (oa (a 6) cZ 201 tn), (oa (a 11) cI 201 mn)]) [1, 2, 3, 0] (by decide) rfl
              have hP : va_P (dC, dI) classes [(om k0 a I0 J0), (oa (a 5) cI 201 st), (oa (a 6) cZ 201 tn), (oa (a 11) cI 201 mn)] H := hP
              have hD : va_D A [(om k0 a I0 J0), (oa (a 5) cI 201 st), (oa (a 6) cZ 201 tn), (oa (a 11) cI 201 mn)] := hD
              refine lv_if_eq (tgt := 101) hx hb dX11_count_88 (by decide) (fun c_16 => ?_) (fun c_16 => ?_)
              · have c_16 : ¬ (q < ft ∧ (st q).toInt = 1 ∧ (tn q).toInt = 0) := zp_0 c_16
                refine lv_iconst (v := 0) hx hb dX11_count_101 (by decide) ?_
                refine lv_iadd hx hb dX11_count_102 ?_
                refine zz_i (v := nI ((smP (lvF ft st tn) (fun g => nN (mn g)) q) + 0)) (nI_add (smP (lvF ft st tn) (fun g => nN (mn g)) q) 0) ?_
                refine lv_istore (lv' := [(5, .int (nI ((smP (lvF ft st tn) (fun g => nN (mn g)) q) + 0))), (4, .int (nI ((cntP (fun g => ¬ (tn g).toInt = 0) q) + 1))), (3, .int (nI ((cntP (fun g => (st g).toInt = 2) q) + 1))), (2, .int (nI ((cntP (fun g => (st g).toInt = 1) q) + 1))), (6, .int (nI q)), (0, .ref k0), (1, .int 4)]) hx hb dX11_count_103 hl (by decide) rfl (fun ls hl => ?_)
                refine lv_iinc (v := nI (q + 1)) (lv' := [(6, .int (nI (q + 1))), (5, .int (nI ((smP (lvF ft st tn) (fun g => nN (mn g)) q) + 0))), (4, .int (nI ((cntP (fun g => ¬ (tn g).toInt = 0) q) + 1))), (3, .int (nI ((cntP (fun g => (st g).toInt = 2) q) + 1))), (2, .int (nI ((cntP (fun g => (st g).toInt = 1) q) + 1))), (0, .ref k0), (1, .int 4)]) hx hb dX11_count_105 hl (k := 4) rfl (nI_add q 1) (by decide) rfl (fun ls hl => ?_)
                refine lv_goto (tgt := 13) hx hb dX11_count_108 (by decide) ?_
                have hl9 := lv_sub hl [0, 1, 2, 3, 4, 5, 6] rfl
                have e9_2 : nI (cntP (fun g => (st g).toInt = 1) (q + 1)) = (nI ((cntP (fun g => (st g).toInt = 1) q) + 1) : Int32) := by first | exact congrArg nI (cntP_y (P := fun g => (st g).toInt = 1) (show (st q).toInt = 1 by omega)) | exact congrArg nI (cntP_n0 (P := fun g => (st g).toInt = 1) (show ¬ (st q).toInt = 1 by omega))
                have e9_3 : nI (cntP (fun g => (st g).toInt = 2) (q + 1)) = (nI ((cntP (fun g => (st g).toInt = 2) q) + 1) : Int32) := by first | exact congrArg nI (cntP_y (P := fun g => (st g).toInt = 2) (show (st q).toInt = 2 by omega)) | exact congrArg nI (cntP_n0 (P := fun g => (st g).toInt = 2) (show ¬ (st q).toInt = 2 by omega))
                have e9_4 : nI (cntP (fun g => ¬ (tn g).toInt = 0) (q + 1)) = (nI ((cntP (fun g => ¬ (tn g).toInt = 0) q) + 1) : Int32) := by first | exact congrArg nI (cntP_y (P := fun g => ¬ (tn g).toInt = 0) (show ¬ (tn q).toInt = 0 by omega)) | exact congrArg nI (cntP_n0 (P := fun g => ¬ (tn g).toInt = 0) (show ¬ ¬ (tn q).toInt = 0 by omega))
                have e9_5 : nI (smP (lvF ft st tn) (fun g => nN (mn g)) (q + 1)) = (nI ((smP (lvF ft st tn) (fun g => nN (mn g)) q) + 0) : Int32) := by first | exact congrArg nI (smP_y (P := lvF ft st tn) (by assumption)) | exact congrArg nI (smP_n (P := lvF ft st tn) (by assumption))
                have hl9 : lv_has ls 7 [(6, .int (nI (q + 1))), (5, .int (nI (smP (lvF ft st tn) (fun g => nN (mn g)) (q + 1)))), (4, .int (nI (cntP (fun g => ¬ (tn g).toInt = 0) (q + 1)))), (3, .int (nI (cntP (fun g => (st g).toInt = 2) (q + 1)))), (2, .int (nI (cntP (fun g => (st g).toInt = 1) (q + 1)))), (0, .ref k0), (1, .int 4)] := by rw [e9_2]; rw [e9_3]; rw [e9_4]; rw [e9_5]; exact hl9
                exact ih_13 (q + 1) H locs ls (by omega) (by omega) hP hD hS hl9
              · have c_16 : q < ft ∧ (st q).toInt = 1 ∧ (tn q).toInt = 0 := zp_1 c_16
                refine lv_aload_n hx hb dX11_count_91 rfl (lv_at hl 5 rfl) ?_
                refine va_get (D := (dC, dI)) (ci := 9) (v := .ref (a 11)) (C := RX11) (T := TX11) (N := 55) hx hb hts inX11 hown hK hP 0 rfl rfl 11 (by decide) (hts _ mw_1170) (fun _ h9 => h9) rfl dX11_count_92 ?_
                refine lv_iload hx hb dX11_count_95 (lv_at hl 3 rfl) ?_
                refine z_iald hx hb hK hP 3 0 rfl rfl (e := q) rfl (by omega) (by omega) dX11_count_97 ?_
                refine zz_i (v := nI (nN (mn q))) ((hmw q (by assumption)).1) ?_
                refine lv_goto (tgt := 102) hx hb dX11_count_98 (by decide) ?_
                refine lv_iadd hx hb dX11_count_102 ?_
                refine zz_i (v := nI ((smP (lvF ft st tn) (fun g => nN (mn g)) q) + (nN (mn q)))) (nI_add (smP (lvF ft st tn) (fun g => nN (mn g)) q) (nN (mn q))) ?_
                refine lv_istore (lv' := [(5, .int (nI ((smP (lvF ft st tn) (fun g => nN (mn g)) q) + (nN (mn q))))), (4, .int (nI ((cntP (fun g => ¬ (tn g).toInt = 0) q) + 1))), (3, .int (nI ((cntP (fun g => (st g).toInt = 2) q) + 1))), (2, .int (nI ((cntP (fun g => (st g).toInt = 1) q) + 1))), (6, .int (nI q)), (0, .ref k0), (1, .int 4)]) hx hb dX11_count_103 hl (by decide) rfl (fun ls hl => ?_)
                refine lv_iinc (v := nI (q + 1)) (lv' := [(6, .int (nI (q + 1))), (5, .int (nI ((smP (lvF ft st tn) (fun g => nN (mn g)) q) + (nN (mn q))))), (4, .int (nI ((cntP (fun g => ¬ (tn g).toInt = 0) q) + 1))), (3, .int (nI ((cntP (fun g => (st g).toInt = 2) q) + 1))), (2, .int (nI ((cntP (fun g => (st g).toInt = 1) q) + 1))), (0, .ref k0), (1, .int 4)]) hx hb dX11_count_105 hl (k := 4) rfl (nI_add q 1) (by decide) rfl (fun ls hl => ?_)
                refine lv_goto (tgt := 13) hx hb dX11_count_108 (by decide) ?_
                have hl9 := lv_sub hl [0, 1, 2, 3, 4, 5, 6] rfl
                have e9_2 : nI (cntP (fun g => (st g).toInt = 1) (q + 1)) = (nI ((cntP (fun g => (st g).toInt = 1) q) + 1) : Int32) := by first | exact congrArg nI (cntP_y (P := fun g => (st g).toInt = 1) (show (st q).toInt = 1 by omega)) | exact congrArg nI (cntP_n0 (P := fun g => (st g).toInt = 1) (show ¬ (st q).toInt = 1 by omega))
                have e9_3 : nI (cntP (fun g => (st g).toInt = 2) (q + 1)) = (nI ((cntP (fun g => (st g).toInt = 2) q) + 1) : Int32) := by first | exact congrArg nI (cntP_y (P := fun g => (st g).toInt = 2) (show (st q).toInt = 2 by omega)) | exact congrArg nI (cntP_n0 (P := fun g => (st g).toInt = 2) (show ¬ (st q).toInt = 2 by omega))
                have e9_4 : nI (cntP (fun g => ¬ (tn g).toInt = 0) (q + 1)) = (nI ((cntP (fun g => ¬ (tn g).toInt = 0) q) + 1) : Int32) := by first | exact congrArg nI (cntP_y (P := fun g => ¬ (tn g).toInt = 0) (show ¬ (tn q).toInt = 0 by omega)) | exact congrArg nI (cntP_n0 (P := fun g => ¬ (tn g).toInt = 0) (show ¬ ¬ (tn q).toInt = 0 by omega))
                have e9_5 : nI (smP (lvF ft st tn) (fun g => nN (mn g)) (q + 1)) = (nI ((smP (lvF ft st tn) (fun g => nN (mn g)) q) + (nN (mn q))) : Int32) := by first | exact congrArg nI (smP_y (P := lvF ft st tn) (by assumption)) | exact congrArg nI (smP_n (P := lvF ft st tn) (by assumption))
                have hl9 : lv_has ls 7 [(6, .int (nI (q + 1))), (5, .int (nI (smP (lvF ft st tn) (fun g => nN (mn g)) (q + 1)))), (4, .int (nI (cntP (fun g => ¬ (tn g).toInt = 0) (q + 1)))), (3, .int (nI (cntP (fun g => (st g).toInt = 2) (q + 1)))), (2, .int (nI (cntP (fun g => (st g).toInt = 1) (q + 1)))), (0, .ref k0), (1, .int 4)] := by rw [e9_2]; rw [e9_3]; rw [e9_4]; rw [e9_5]; exact hl9
                exact ih_13 (q + 1) H locs ls (by omega) (by omega) hP hD hS hl9
  have e9_2 : nI (cntP (fun g => (st g).toInt = 1) 0) = (0 : Int32) := by rfl
  have e9_3 : nI (cntP (fun g => (st g).toInt = 2) 0) = (0 : Int32) := by rfl
  have e9_4 : nI (cntP (fun g => ¬ (tn g).toInt = 0) 0) = (0 : Int32) := by rfl
  have e9_5 : nI (smP (lvF ft st tn) (fun g => nN (mn g)) 0) = (0 : Int32) := by rfl
  have hl9 : lv_has ls 7 [(6, .int (nI 0)), (5, .int (nI (smP (lvF ft st tn) (fun g => nN (mn g)) 0))), (4, .int (nI (cntP (fun g => ¬ (tn g).toInt = 0) 0))), (3, .int (nI (cntP (fun g => (st g).toInt = 2) 0))), (2, .int (nI (cntP (fun g => (st g).toInt = 1) 0))), (0, .ref k0), (1, .int 4)] := by rw [e9_2]; rw [e9_3]; rw [e9_4]; rw [e9_5]; exact lv_sub hl [0, 1, 2, 3, 4, 5, 6] rfl
  exact hl_13 _ 0 s.heap [] ls (Nat.lt_succ_self _) (by omega) hP hD hS hl9
set_option maxHeartbeats 4000000 in
set_option maxRecDepth 100000 in
theorem k_M_count_5 (l : Launch) (dC : Nat → ClassId) (dI : Nat → Nat → Nat) (cI cZ cF : ClassId) (sz : Nat) (k0 : Nat) (a : Nat → Nat) (I0 : Nat → Int32) (J0 : Nat → Int64) (ft : Nat) (st : Nat → Int32) (tn : Nat → Int32) (mn : Nat → Int32) (hft : I0 0 = nI ft) (h200 : ft ≤ 200) (hmw : ∀ q, lvF ft st tn q → mn q = nI (nN (mn q)) ∧ nN (mn q) ≤ 40) : Met l yX11_count (.code yX11_count cX11_count 7 (some .int) :: ws0) ({ frames := 2, cells := 0, slots := 0, locals := 42 } : Room) (va_Pc [.ref k0, .int 5] (zPre (dC, dI) classes (zTy cI cZ cF) [(om k0 a I0 J0), (oa (a 5) cI 201 st), (oa (a 6) cZ 201 tn), (oa (a 11) cI 201 mn)] sz zXN)) (zQ (some (.int (I0 19))) (fun t => va_P (dC, dI) classes [(om k0 a I0 J0), (oa (a 5) cI 201 st), (oa (a 6) cZ 201 tn), (oa (a 11) cI 201 mn)] t.heap ∧ va_D (va_A [(om k0 a I0 J0), (oa (a 5) cI 201 st), (oa (a 6) cZ 201 tn), (oa (a 11) cI 201 mn)] sz) [(om k0 a I0 J0), (oa (a 5) cI 201 st), (oa (a 6) cZ 201 tn), (oa (a 11) cI 201 mn)]) (va_A [(om k0 a I0 J0), (oa (a 5) cI 201 st), (oa (a 6) cZ 201 tn), (oa (a 11) cI 201 mn)] sz)) 0 0 (va_A [(om k0 a I0 J0), (oa (a 5) cI 201 st), (oa (a 6) cZ 201 tn), (oa (a 11) cI 201 mn)] sz) := by
  refine Met.ofW (cc := cX11_count) (maxL := 7) (ret := (some .int)) (by decide) rfl ?_
  intro p e s m args below meth c s₁ B hml hv
  obtain ⟨rfl, hsz, hP, hK, hD0, hXN⟩ := hv
  have hx := B.exec
  have hb := B.bytes
  have hr := B.returns
  have hts0 := atoms_spec (ws := .code yX11_count cX11_count 7 (some .int) :: ws0) B.pre
  have hts : ∀ w9 ∈ ws0, w9.before ([.ref k0, .int 5] : List Value).toArray s = true := fun w9 h => hts0 w9 (List.mem_cons_of_mem _ h)
  have hown : s.vm.findClass "ScaleShopModel" = some m.cls := findClass_of_methodNamed B.named
  have hlocks := B.notSynchronized
  subst hsz
  have hD := hD0.self (sz := s.heap.size)
  clear hD0
  generalize hAe : va_A [(om k0 a I0 J0), (oa (a 5) cI 201 st), (oa (a 6) cZ 201 tn), (oa (a 11) cI 201 mn)] s.heap.size = A at hD ⊢
  have hA : ∀ q : Nat, s.heap.size ≤ q → A q := fun q h => by rw [← hAe]; exact Or.inr h
  clear hAe
  have hS : va_S A s.heap s.heap [] := va_S.rf
  have hP : va_P (dC, dI) classes [(om k0 a I0 J0), (oa (a 5) cI 201 st), (oa (a 6) cZ 201 tn), (oa (a 11) cI 201 mn)] s.heap := hP
  obtain ⟨Q9, hQ9⟩ : ∃ Q9 : State → Prop, Q9 = MQ below (zQ (some (.int (I0 19))) (fun t => va_P (dC, dI) classes [(om k0 a I0 J0), (oa (a 5) cI 201 st), (oa (a 6) cZ 201 tn), (oa (a 11) cI 201 mn)] t.heap ∧ va_D A [(om k0 a I0 J0), (oa (a 5) cI 201 st), (oa (a 6) cZ 201 tn), (oa (a 11) cI 201 mn)]) A) ([.ref k0, .int 5] : List Value).toArray s 0 0 A := ⟨_, rfl⟩
  rw [← hQ9]
  have hl := lv_entry ([.ref k0, .int 5]) (n := 7) (Nat.le_of_ble_eq_true rfl)
  rw [lg_entry_eq]
  generalize (lg_sl ([.ref k0, .int 5]) ++ List.replicate (7 - (lg_sl ([.ref k0, .int 5])).length) Slot.unset).toArray = ls at hl ⊢
  have hl : lv_has ls 7 [(0, .ref k0), (1, .int 5)] := hl
  refine lv_iconst (v := 0) hx hb dX11_count_0 (by decide) ?_
  refine lv_istore_n (lv' := [(2, .int 0), (0, .ref k0), (1, .int 5)]) hx hb dX11_count_1 rfl hl (by decide) rfl (fun ls hl => ?_)
  refine lv_iconst (v := 0) hx hb dX11_count_2 (by decide) ?_
  refine lv_istore_n (lv' := [(3, .int 0), (2, .int 0), (0, .ref k0), (1, .int 5)]) hx hb dX11_count_3 rfl hl (by decide) rfl (fun ls hl => ?_)
  refine lv_iconst (v := 0) hx hb dX11_count_4 (by decide) ?_
  refine lv_istore (lv' := [(4, .int 0), (3, .int 0), (2, .int 0), (0, .ref k0), (1, .int 5)]) hx hb dX11_count_5 hl (by decide) rfl (fun ls hl => ?_)
  refine lv_iconst (v := 0) hx hb dX11_count_7 (by decide) ?_
  refine lv_istore (lv' := [(5, .int 0), (4, .int 0), (3, .int 0), (2, .int 0), (0, .ref k0), (1, .int 5)]) hx hb dX11_count_8 hl (by decide) rfl (fun ls hl => ?_)
  refine lv_iconst (v := 0) hx hb dX11_count_10 (by decide) ?_
  refine lv_istore (lv' := [(6, .int 0), (5, .int 0), (4, .int 0), (3, .int 0), (2, .int 0), (0, .ref k0), (1, .int 5)]) hx hb dX11_count_11 hl (by decide) rfl (fun ls hl => ?_)
  have hl_13 : ∀ (n9 : Nat) (q : Nat) (H : Heap) (locs : List Loc) (ls : Array Slot), ft - q < n9 → (q ≤ ft) → va_P (dC, dI) classes [(om k0 a I0 J0), (oa (a 5) cI 201 st), (oa (a 6) cZ 201 tn), (oa (a 11) cI 201 mn)] H → va_D A [(om k0 a I0 J0), (oa (a 5) cI 201 st), (oa (a 6) cZ 201 tn), (oa (a 11) cI 201 mn)] → va_S A s.heap H locs → lv_has ls 7 [(6, .int (nI q)), (5, .int (nI (smP (lvF ft st tn) (fun g => nN (mn g)) q))), (4, .int (nI (cntP (fun g => ¬ (tn g).toInt = 0) q))), (3, .int (nI (cntP (fun g => (st g).toInt = 2) q))), (2, .int (nI (cntP (fun g => (st g).toInt = 1) q))), (0, .ref k0), (1, .int 5)] → W p l e ((headSpec (.code yX11_count cX11_count 7 (some .int) :: ws0) ({ frames := 2, cells := 0, slots := 0, locals := 42 } : Room)).room) s m ([.ref k0, .int 5] : List Value).toArray below meth c H locs 0 0 Q9 (F0 m 13 ls []) := by
    intro n9
    induction n9 with
    | zero => intro q H locs ls hm; exact absurd hm (Nat.not_lt_zero _)
    | succ n9 ih_13 =>
      intro q H locs ls hm hq hP hD hS hl
      have hc2 := cntP_b (fun g => (st g).toInt = 1) q
      have hc3 := cntP_b (fun g => (st g).toInt = 2) q
      have hc4 := cntP_b (fun g => ¬ (tn g).toInt = 0) q
      have hc5 := smP_b (P := lvF ft st tn) (c := fun g => nN (mn g)) q (fun j _ h => (hmw j h).2)
      refine lv_iload hx hb dX11_count_13 (lv_at hl 0 rfl) ?_
      refine lv_aload_n hx hb dX11_count_15 rfl (lv_at hl 5 rfl) ?_
      refine va_get (D := (dC, dI)) (ci := 9) (v := .int (I0 0)) (C := RX11) (T := TX11) (N := 55) hx hb hts inX11 hown hK hP 0 rfl rfl 0 (by decide) (hts _ mw_1159) (fun _ h9 => h9) rfl dX11_count_16 ?_
      refine zz_i (v := nI ft) (hft) ?_
      refine lv_icmp_ge (tgt := 111) hx hb dX11_count_19 (by decide) (fun c_1 => ?_) (fun c_1 => ?_)
      · have c_1 : ((ft : Nat) : Int) ≤ ((q : Nat) : Int) := zc_le (nI_toInt (by omega)) (nI_toInt (by omega)) c_1
        refine lv_iload_n hx hb dX11_count_111 rfl (lv_at hl 6 rfl) ?_
        refine lv_tableIn (tgt := 175) (off := 63) hx hb dX11_count_112 (by decide) (by decide) (by decide) (by decide) ?_
        refine lv_aload_n hx hb dX11_count_175 rfl (lv_at hl 5 rfl) ?_
        refine va_get (D := (dC, dI)) (ci := 9) (v := .int (I0 19)) (C := RX11) (T := TX11) (N := 55) hx hb hts inX11 hown hK hP 0 rfl rfl 19 (by decide) (hts _ mw_1178) (fun _ h9 => h9) rfl dX11_count_176 ?_
        have hP9 := hP.sub (ws' := [(om k0 a I0 J0), (oa (a 5) cI 201 st), (oa (a 6) cZ 201 tn), (oa (a 11) cI 201 mn)]) [0, 1, 2, 3] rfl
        have hD9 := hD.sub (ws' := [(om k0 a I0 J0), (oa (a 5) cI 201 st), (oa (a 6) cZ 201 tn), (oa (a 11) cI 201 mn)]) [0, 1, 2, 3] (by decide) rfl
        rw [hQ9]
        exact W.iret (v := I0 19) hx hb hr (fun t ht hW => ⟨⟨rfl, by rw [ht]; exact hP9, hD9⟩, hS.F ht⟩) hS.2.2 dX11_count_179
      · have c_1 : ((q : Nat) : Int) < ((ft : Nat) : Int) := zc_nle (nI_toInt (by omega)) (nI_toInt (by omega)) c_1
        refine lv_iload_n hx hb dX11_count_22 rfl (lv_at hl 4 rfl) ?_
        refine lv_aload_n hx hb dX11_count_23 rfl (lv_at hl 5 rfl) ?_
        refine va_get (D := (dC, dI)) (ci := 9) (v := .ref (a 5)) (C := RX11) (T := TX11) (N := 55) hx hb hts inX11 hown hK hP 0 rfl rfl 5 (by decide) (hts _ mw_1164) (fun _ h9 => h9) rfl dX11_count_24 ?_
        refine lv_iload hx hb dX11_count_27 (lv_at hl 0 rfl) ?_
        refine z_iald hx hb hK hP 1 0 rfl rfl (e := q) rfl (by omega) (by omega) dX11_count_29 ?_
        refine lv_iconst (v := 1) hx hb dX11_count_30 (by decide) ?_
        refine lv_icmp_ne (tgt := 38) hx hb dX11_count_31 (by decide) (fun c_2 => ?_) (fun c_2 => ?_)
        · have c_2 : ¬ (st q).toInt = 1 := zc_ne rfl (by decide) c_2
          refine lv_iconst (v := 0) hx hb dX11_count_38 (by decide) ?_
          refine lv_iadd hx hb dX11_count_39 ?_
          refine zz_i (v := nI ((cntP (fun g => (st g).toInt = 1) q) + 0)) (nI_add (cntP (fun g => (st g).toInt = 1) q) 0) ?_
          refine lv_istore_n (lv' := [(2, .int (nI ((cntP (fun g => (st g).toInt = 1) q) + 0))), (6, .int (nI q)), (5, .int (nI (smP (lvF ft st tn) (fun g => nN (mn g)) q))), (4, .int (nI (cntP (fun g => ¬ (tn g).toInt = 0) q))), (3, .int (nI (cntP (fun g => (st g).toInt = 2) q))), (0, .ref k0), (1, .int 5)]) hx hb dX11_count_40 rfl hl (by decide) rfl (fun ls hl => ?_)
          refine lv_iload_n hx hb dX11_count_41 rfl (lv_at hl 4 rfl) ?_
          refine lv_aload_n hx hb dX11_count_42 rfl (lv_at hl 5 rfl) ?_
          refine va_get (D := (dC, dI)) (ci := 9) (v := .ref (a 5)) (C := RX11) (T := TX11) (N := 55) hx hb hts inX11 hown hK hP 0 rfl rfl 5 (by decide) (hts _ mw_1164) (fun _ h9 => h9) rfl dX11_count_43 ?_
          refine lv_iload hx hb dX11_count_46 (lv_at hl 1 rfl) ?_
          refine z_iald hx hb hK hP 1 0 rfl rfl (e := q) rfl (by omega) (by omega) dX11_count_48 ?_
          refine lv_iconst (v := 2) hx hb dX11_count_49 (by decide) ?_
          refine lv_icmp_ne (tgt := 57) hx hb dX11_count_50 (by decide) (fun c_3 => ?_) (fun c_3 => ?_)
          · have c_3 : ¬ (st q).toInt = 2 := zc_ne rfl (by decide) c_3
            refine lv_iconst (v := 0) hx hb dX11_count_57 (by decide) ?_
            refine lv_iadd hx hb dX11_count_58 ?_
            refine zz_i (v := nI ((cntP (fun g => (st g).toInt = 2) q) + 0)) (nI_add (cntP (fun g => (st g).toInt = 2) q) 0) ?_
            refine lv_istore_n (lv' := [(3, .int (nI ((cntP (fun g => (st g).toInt = 2) q) + 0))), (2, .int (nI ((cntP (fun g => (st g).toInt = 1) q) + 0))), (6, .int (nI q)), (5, .int (nI (smP (lvF ft st tn) (fun g => nN (mn g)) q))), (4, .int (nI (cntP (fun g => ¬ (tn g).toInt = 0) q))), (0, .ref k0), (1, .int 5)]) hx hb dX11_count_59 rfl hl (by decide) rfl (fun ls hl => ?_)
            refine lv_iload hx hb dX11_count_60 (lv_at hl 4 rfl) ?_
            refine lv_aload_n hx hb dX11_count_62 rfl (lv_at hl 5 rfl) ?_
            refine va_get (D := (dC, dI)) (ci := 9) (v := .ref (a 6)) (C := RX11) (T := TX11) (N := 55) hx hb hts inX11 hown hK hP 0 rfl rfl 6 (by decide) (hts _ mw_1165) (fun _ h9 => h9) rfl dX11_count_63 ?_
            refine lv_iload hx hb dX11_count_66 (lv_at hl 2 rfl) ?_
            refine z_zald hx hb hK hP 2 1 rfl rfl (e := q) rfl (by omega) (by omega) dX11_count_68 ?_
            refine lv_if_eq (tgt := 76) hx hb dX11_count_69 (by decide) (fun c_4 => ?_) (fun c_4 => ?_)
            · have c_4 : (tn q).toInt = 0 := zc_eq rfl (by decide) c_4
              refine lv_iconst (v := 0) hx hb dX11_count_76 (by decide) ?_
              refine lv_iadd hx hb dX11_count_77 ?_
              refine zz_i (v := nI ((cntP (fun g => ¬ (tn g).toInt = 0) q) + 0)) (nI_add (cntP (fun g => ¬ (tn g).toInt = 0) q) 0) ?_
              refine lv_istore (lv' := [(4, .int (nI ((cntP (fun g => ¬ (tn g).toInt = 0) q) + 0))), (3, .int (nI ((cntP (fun g => (st g).toInt = 2) q) + 0))), (2, .int (nI ((cntP (fun g => (st g).toInt = 1) q) + 0))), (6, .int (nI q)), (5, .int (nI (smP (lvF ft st tn) (fun g => nN (mn g)) q))), (0, .ref k0), (1, .int 5)]) hx hb dX11_count_78 hl (by decide) rfl (fun ls hl => ?_)
              refine lv_iload hx hb dX11_count_80 (lv_at hl 4 rfl) ?_
              refine lv_aload_n hx hb dX11_count_82 rfl (lv_at hl 5 rfl) ?_
              refine lv_iload hx hb dX11_count_83 (lv_at hl 3 rfl) ?_
              have hPc := hP.sub (ws' := [(om k0 a I0 J0), (oa (a 5) cI 201 st), (oa (a 6) cZ 201 tn)]) [0, 1, 2] rfl
              have hDc := hD.sub (ws' := [(om k0 a I0 J0), (oa (a 5) cI 201 st), (oa (a 6) cZ 201 tn)]) [0, 1, 2] (by decide) rfl
              have hFc := va_free (wc := [(om k0 a I0 J0), (oa (a 5) cI 201 st), (oa (a 6) cZ 201 tn)]) hD hS hA [0, 1, 2] rfl
              refine zcall (st1 := [.int (pI (q < ft ∧ (st q).toInt = 1 ∧ (tn q).toInt = 0)), .int (nI (smP (lvF ft st tn) (fun g => nN (mn g)) q))]) (va_runV (As := [.int (nI q)]) (rest := [.int (nI (smP (lvF ft st tn) (fun g => nN (mn g)) q))]) ⟨hx, hb, hml, hown, hts⟩ (k_M_is_n l dC dI cI cZ cF H.size k0 a I0 J0 q ft st tn (by assumption) (by omega) (by omega)) (cwV 1 hts (zz_gV mw_1447 mw_1449 mw_56 mw_110 mc_yX11_is) rfl rfl rfl (by decide +kernel) ⟨Nat.le_of_ble_eq_true rfl, Nat.le_of_ble_eq_true rfl⟩) (zPV2 (q0 := 0) (ci := 9) hPc hDc hK hXN rfl rfl) rfl rfl hl.1 rfl (lv_room (Nat.le_of_ble_eq_true rfl)) dX11_count_85 ⟨Nat.le_of_ble_eq_true rfl, Nat.le_of_ble_eq_true rfl⟩) hS hFc hFc rfl (fun t H1 locs ht hB hk1 hS => ?_)
              obtain ⟨hP1, hD1⟩ := hB
              rw [ht] at hP1
              obtain ⟨hP, hD⟩ := va_join (wr := [(oa (a 11) cI 201 mn)]) (w1 := [(om k0 a I0 J0), (oa (a 5) cI 201 st), (oa (a 6) cZ 201 tn)]) hP hD [0, 1, 2] [3] rfl rfl (by decide) (by decide) hk1 hFc hP1 hD1
              clear hk1 hPc hDc hFc hP1 hD1 ht
              generalize H1 = H at hP hS ⊢
              have hP := hP.sub (ws' := [(om k0 a I0 J0), (oa (a 5) cI 201 st), (oa (a 6) cZ 201 tn), (oa (a 11) cI 201 mn)]) [1, 2, 3, 0] rfl
              have hD := hD.sub (ws' := [(om k0 a I0 J0), (oa (a 5) cI 201 st), (oa (a 6) cZ 201 tn), (oa (a 11) cI 201 mn)]) [1, 2, 3, 0] (by decide) rfl
              have hP : va_P (dC, dI) classes [(om k0 a I0 J0), (oa (a 5) cI 201 st), (oa (a 6) cZ 201 tn), (oa (a 11) cI 201 mn)] H := hP
              have hD : va_D A [(om k0 a I0 J0), (oa (a 5) cI 201 st), (oa (a 6) cZ 201 tn), (oa (a 11) cI 201 mn)] := hD
              refine lv_if_eq (tgt := 101) hx hb dX11_count_88 (by decide) (fun c_5 => ?_) (fun c_5 => ?_)
              · have c_5 : ¬ (q < ft ∧ (st q).toInt = 1 ∧ (tn q).toInt = 0) := zp_0 c_5
                refine lv_iconst (v := 0) hx hb dX11_count_101 (by decide) ?_
                refine lv_iadd hx hb dX11_count_102 ?_
                refine zz_i (v := nI ((smP (lvF ft st tn) (fun g => nN (mn g)) q) + 0)) (nI_add (smP (lvF ft st tn) (fun g => nN (mn g)) q) 0) ?_
                refine lv_istore (lv' := [(5, .int (nI ((smP (lvF ft st tn) (fun g => nN (mn g)) q) + 0))), (4, .int (nI ((cntP (fun g => ¬ (tn g).toInt = 0) q) + 0))), (3, .int (nI ((cntP (fun g => (st g).toInt = 2) q) + 0))), (2, .int (nI ((cntP (fun g => (st g).toInt = 1) q) + 0))), (6, .int (nI q)), (0, .ref k0), (1, .int 5)]) hx hb dX11_count_103 hl (by decide) rfl (fun ls hl => ?_)
                refine lv_iinc (v := nI (q + 1)) (lv' := [(6, .int (nI (q + 1))), (5, .int (nI ((smP (lvF ft st tn) (fun g => nN (mn g)) q) + 0))), (4, .int (nI ((cntP (fun g => ¬ (tn g).toInt = 0) q) + 0))), (3, .int (nI ((cntP (fun g => (st g).toInt = 2) q) + 0))), (2, .int (nI ((cntP (fun g => (st g).toInt = 1) q) + 0))), (0, .ref k0), (1, .int 5)]) hx hb dX11_count_105 hl (k := 4) rfl (nI_add q 1) (by decide) rfl (fun ls hl => ?_)
                refine lv_goto (tgt := 13) hx hb dX11_count_108 (by decide) ?_
                have hl9 := lv_sub hl [0, 1, 2, 3, 4, 5, 6] rfl
                have e9_2 : nI (cntP (fun g => (st g).toInt = 1) (q + 1)) = (nI ((cntP (fun g => (st g).toInt = 1) q) + 0) : Int32) := by first | exact congrArg nI (cntP_y (P := fun g => (st g).toInt = 1) (show (st q).toInt = 1 by omega)) | exact congrArg nI (cntP_n0 (P := fun g => (st g).toInt = 1) (show ¬ (st q).toInt = 1 by omega))
                have e9_3 : nI (cntP (fun g => (st g).toInt = 2) (q + 1)) = (nI ((cntP (fun g => (st g).toInt = 2) q) + 0) : Int32) := by first | exact congrArg nI (cntP_y (P := fun g => (st g).toInt = 2) (show (st q).toInt = 2 by omega)) | exact congrArg nI (cntP_n0 (P := fun g => (st g).toInt = 2) (show ¬ (st q).toInt = 2 by omega))
                have e9_4 : nI (cntP (fun g => ¬ (tn g).toInt = 0) (q + 1)) = (nI ((cntP (fun g => ¬ (tn g).toInt = 0) q) + 0) : Int32) := by first | exact congrArg nI (cntP_y (P := fun g => ¬ (tn g).toInt = 0) (show ¬ (tn q).toInt = 0 by omega)) | exact congrArg nI (cntP_n0 (P := fun g => ¬ (tn g).toInt = 0) (show ¬ ¬ (tn q).toInt = 0 by omega))
                have e9_5 : nI (smP (lvF ft st tn) (fun g => nN (mn g)) (q + 1)) = (nI ((smP (lvF ft st tn) (fun g => nN (mn g)) q) + 0) : Int32) := by first | exact congrArg nI (smP_y (P := lvF ft st tn) (by assumption)) | exact congrArg nI (smP_n (P := lvF ft st tn) (by assumption))
                have hl9 : lv_has ls 7 [(6, .int (nI (q + 1))), (5, .int (nI (smP (lvF ft st tn) (fun g => nN (mn g)) (q + 1)))), (4, .int (nI (cntP (fun g => ¬ (tn g).toInt = 0) (q + 1)))), (3, .int (nI (cntP (fun g => (st g).toInt = 2) (q + 1)))), (2, .int (nI (cntP (fun g => (st g).toInt = 1) (q + 1)))), (0, .ref k0), (1, .int 5)] := by rw [e9_2]; rw [e9_3]; rw [e9_4]; rw [e9_5]; exact hl9
                exact ih_13 (q + 1) H locs ls (by omega) (by omega) hP hD hS hl9
              · have c_5 : q < ft ∧ (st q).toInt = 1 ∧ (tn q).toInt = 0 := zp_1 c_5
                refine lv_aload_n hx hb dX11_count_91 rfl (lv_at hl 5 rfl) ?_
                refine va_get (D := (dC, dI)) (ci := 9) (v := .ref (a 11)) (C := RX11) (T := TX11) (N := 55) hx hb hts inX11 hown hK hP 0 rfl rfl 11 (by decide) (hts _ mw_1170) (fun _ h9 => h9) rfl dX11_count_92 ?_
                refine lv_iload hx hb dX11_count_95 (lv_at hl 3 rfl) ?_
                refine z_iald hx hb hK hP 3 0 rfl rfl (e := q) rfl (by omega) (by omega) dX11_count_97 ?_
                refine zz_i (v := nI (nN (mn q))) ((hmw q (by assumption)).1) ?_
                refine lv_goto (tgt := 102) hx hb dX11_count_98 (by decide) ?_
                refine lv_iadd hx hb dX11_count_102 ?_
                refine zz_i (v := nI ((smP (lvF ft st tn) (fun g => nN (mn g)) q) + (nN (mn q)))) (nI_add (smP (lvF ft st tn) (fun g => nN (mn g)) q) (nN (mn q))) ?_
                refine lv_istore (lv' := [(5, .int (nI ((smP (lvF ft st tn) (fun g => nN (mn g)) q) + (nN (mn q))))), (4, .int (nI ((cntP (fun g => ¬ (tn g).toInt = 0) q) + 0))), (3, .int (nI ((cntP (fun g => (st g).toInt = 2) q) + 0))), (2, .int (nI ((cntP (fun g => (st g).toInt = 1) q) + 0))), (6, .int (nI q)), (0, .ref k0), (1, .int 5)]) hx hb dX11_count_103 hl (by decide) rfl (fun ls hl => ?_)
                refine lv_iinc (v := nI (q + 1)) (lv' := [(6, .int (nI (q + 1))), (5, .int (nI ((smP (lvF ft st tn) (fun g => nN (mn g)) q) + (nN (mn q))))), (4, .int (nI ((cntP (fun g => ¬ (tn g).toInt = 0) q) + 0))), (3, .int (nI ((cntP (fun g => (st g).toInt = 2) q) + 0))), (2, .int (nI ((cntP (fun g => (st g).toInt = 1) q) + 0))), (0, .ref k0), (1, .int 5)]) hx hb dX11_count_105 hl (k := 4) rfl (nI_add q 1) (by decide) rfl (fun ls hl => ?_)
                refine lv_goto (tgt := 13) hx hb dX11_count_108 (by decide) ?_
                have hl9 := lv_sub hl [0, 1, 2, 3, 4, 5, 6] rfl
                have e9_2 : nI (cntP (fun g => (st g).toInt = 1) (q + 1)) = (nI ((cntP (fun g => (st g).toInt = 1) q) + 0) : Int32) := by first | exact congrArg nI (cntP_y (P := fun g => (st g).toInt = 1) (show (st q).toInt = 1 by omega)) | exact congrArg nI (cntP_n0 (P := fun g => (st g).toInt = 1) (show ¬ (st q).toInt = 1 by omega))
                have e9_3 : nI (cntP (fun g => (st g).toInt = 2) (q + 1)) = (nI ((cntP (fun g => (st g).toInt = 2) q) + 0) : Int32) := by first | exact congrArg nI (cntP_y (P := fun g => (st g).toInt = 2) (show (st q).toInt = 2 by omega)) | exact congrArg nI (cntP_n0 (P := fun g => (st g).toInt = 2) (show ¬ (st q).toInt = 2 by omega))
                have e9_4 : nI (cntP (fun g => ¬ (tn g).toInt = 0) (q + 1)) = (nI ((cntP (fun g => ¬ (tn g).toInt = 0) q) + 0) : Int32) := by first | exact congrArg nI (cntP_y (P := fun g => ¬ (tn g).toInt = 0) (show ¬ (tn q).toInt = 0 by omega)) | exact congrArg nI (cntP_n0 (P := fun g => ¬ (tn g).toInt = 0) (show ¬ ¬ (tn q).toInt = 0 by omega))
                have e9_5 : nI (smP (lvF ft st tn) (fun g => nN (mn g)) (q + 1)) = (nI ((smP (lvF ft st tn) (fun g => nN (mn g)) q) + (nN (mn q))) : Int32) := by first | exact congrArg nI (smP_y (P := lvF ft st tn) (by assumption)) | exact congrArg nI (smP_n (P := lvF ft st tn) (by assumption))
                have hl9 : lv_has ls 7 [(6, .int (nI (q + 1))), (5, .int (nI (smP (lvF ft st tn) (fun g => nN (mn g)) (q + 1)))), (4, .int (nI (cntP (fun g => ¬ (tn g).toInt = 0) (q + 1)))), (3, .int (nI (cntP (fun g => (st g).toInt = 2) (q + 1)))), (2, .int (nI (cntP (fun g => (st g).toInt = 1) (q + 1)))), (0, .ref k0), (1, .int 5)] := by rw [e9_2]; rw [e9_3]; rw [e9_4]; rw [e9_5]; exact hl9
                exact ih_13 (q + 1) H locs ls (by omega) (by omega) hP hD hS hl9
            · have c_4 : ¬ (tn q).toInt = 0 := zc_ne rfl (by decide) c_4
              refine lv_iconst (v := 1) hx hb dX11_count_72 (by decide) ?_
              refine lv_goto (tgt := 77) hx hb dX11_count_73 (by decide) ?_
              refine lv_iadd hx hb dX11_count_77 ?_
              refine zz_i (v := nI ((cntP (fun g => ¬ (tn g).toInt = 0) q) + 1)) (nI_add (cntP (fun g => ¬ (tn g).toInt = 0) q) 1) ?_
              refine lv_istore (lv' := [(4, .int (nI ((cntP (fun g => ¬ (tn g).toInt = 0) q) + 1))), (3, .int (nI ((cntP (fun g => (st g).toInt = 2) q) + 0))), (2, .int (nI ((cntP (fun g => (st g).toInt = 1) q) + 0))), (6, .int (nI q)), (5, .int (nI (smP (lvF ft st tn) (fun g => nN (mn g)) q))), (0, .ref k0), (1, .int 5)]) hx hb dX11_count_78 hl (by decide) rfl (fun ls hl => ?_)
              refine lv_iload hx hb dX11_count_80 (lv_at hl 4 rfl) ?_
              refine lv_aload_n hx hb dX11_count_82 rfl (lv_at hl 5 rfl) ?_
              refine lv_iload hx hb dX11_count_83 (lv_at hl 3 rfl) ?_
              have hPc := hP.sub (ws' := [(om k0 a I0 J0), (oa (a 5) cI 201 st), (oa (a 6) cZ 201 tn)]) [0, 1, 2] rfl
              have hDc := hD.sub (ws' := [(om k0 a I0 J0), (oa (a 5) cI 201 st), (oa (a 6) cZ 201 tn)]) [0, 1, 2] (by decide) rfl
              have hFc := va_free (wc := [(om k0 a I0 J0), (oa (a 5) cI 201 st), (oa (a 6) cZ 201 tn)]) hD hS hA [0, 1, 2] rfl
              refine zcall (st1 := [.int (pI (q < ft ∧ (st q).toInt = 1 ∧ (tn q).toInt = 0)), .int (nI (smP (lvF ft st tn) (fun g => nN (mn g)) q))]) (va_runV (As := [.int (nI q)]) (rest := [.int (nI (smP (lvF ft st tn) (fun g => nN (mn g)) q))]) ⟨hx, hb, hml, hown, hts⟩ (k_M_is_n l dC dI cI cZ cF H.size k0 a I0 J0 q ft st tn (by assumption) (by omega) (by omega)) (cwV 1 hts (zz_gV mw_1447 mw_1449 mw_56 mw_110 mc_yX11_is) rfl rfl rfl (by decide +kernel) ⟨Nat.le_of_ble_eq_true rfl, Nat.le_of_ble_eq_true rfl⟩) (zPV2 (q0 := 0) (ci := 9) hPc hDc hK hXN rfl rfl) rfl rfl hl.1 rfl (lv_room (Nat.le_of_ble_eq_true rfl)) dX11_count_85 ⟨Nat.le_of_ble_eq_true rfl, Nat.le_of_ble_eq_true rfl⟩) hS hFc hFc rfl (fun t H1 locs ht hB hk1 hS => ?_)
              obtain ⟨hP1, hD1⟩ := hB
              rw [ht] at hP1
              obtain ⟨hP, hD⟩ := va_join (wr := [(oa (a 11) cI 201 mn)]) (w1 := [(om k0 a I0 J0), (oa (a 5) cI 201 st), (oa (a 6) cZ 201 tn)]) hP hD [0, 1, 2] [3] rfl rfl (by decide) (by decide) hk1 hFc hP1 hD1
              clear hk1 hPc hDc hFc hP1 hD1 ht
              generalize H1 = H at hP hS ⊢
              have hP := hP.sub (ws' := [(om k0 a I0 J0), (oa (a 5) cI 201 st), (oa (a 6) cZ 201 tn), (oa (a 11) cI 201 mn)]) [1, 2, 3, 0] rfl
              have hD := hD.sub (ws' := [(om k0 a I0 J0), (oa (a 5) cI 201 st), (oa (a 6) cZ 201 tn), (oa (a 11) cI 201 mn)]) [1, 2, 3, 0] (by decide) rfl
              have hP : va_P (dC, dI) classes [(om k0 a I0 J0), (oa (a 5) cI 201 st), (oa (a 6) cZ 201 tn), (oa (a 11) cI 201 mn)] H := hP
              have hD : va_D A [(om k0 a I0 J0), (oa (a 5) cI 201 st), (oa (a 6) cZ 201 tn), (oa (a 11) cI 201 mn)] := hD
              refine lv_if_eq (tgt := 101) hx hb dX11_count_88 (by decide) (fun c_6 => ?_) (fun c_6 => ?_)
              · have c_6 : ¬ (q < ft ∧ (st q).toInt = 1 ∧ (tn q).toInt = 0) := zp_0 c_6
                refine lv_iconst (v := 0) hx hb dX11_count_101 (by decide) ?_
                refine lv_iadd hx hb dX11_count_102 ?_
                refine zz_i (v := nI ((smP (lvF ft st tn) (fun g => nN (mn g)) q) + 0)) (nI_add (smP (lvF ft st tn) (fun g => nN (mn g)) q) 0) ?_
                refine lv_istore (lv' := [(5, .int (nI ((smP (lvF ft st tn) (fun g => nN (mn g)) q) + 0))), (4, .int (nI ((cntP (fun g => ¬ (tn g).toInt = 0) q) + 1))), (3, .int (nI ((cntP (fun g => (st g).toInt = 2) q) + 0))), (2, .int (nI ((cntP (fun g => (st g).toInt = 1) q) + 0))), (6, .int (nI q)), (0, .ref k0), (1, .int 5)]) hx hb dX11_count_103 hl (by decide) rfl (fun ls hl => ?_)
                refine lv_iinc (v := nI (q + 1)) (lv' := [(6, .int (nI (q + 1))), (5, .int (nI ((smP (lvF ft st tn) (fun g => nN (mn g)) q) + 0))), (4, .int (nI ((cntP (fun g => ¬ (tn g).toInt = 0) q) + 1))), (3, .int (nI ((cntP (fun g => (st g).toInt = 2) q) + 0))), (2, .int (nI ((cntP (fun g => (st g).toInt = 1) q) + 0))), (0, .ref k0), (1, .int 5)]) hx hb dX11_count_105 hl (k := 4) rfl (nI_add q 1) (by decide) rfl (fun ls hl => ?_)
                refine lv_goto (tgt := 13) hx hb dX11_count_108 (by decide) ?_
                have hl9 := lv_sub hl [0, 1, 2, 3, 4, 5, 6] rfl
                have e9_2 : nI (cntP (fun g => (st g).toInt = 1) (q + 1)) = (nI ((cntP (fun g => (st g).toInt = 1) q) + 0) : Int32) := by first | exact congrArg nI (cntP_y (P := fun g => (st g).toInt = 1) (show (st q).toInt = 1 by omega)) | exact congrArg nI (cntP_n0 (P := fun g => (st g).toInt = 1) (show ¬ (st q).toInt = 1 by omega))
                have e9_3 : nI (cntP (fun g => (st g).toInt = 2) (q + 1)) = (nI ((cntP (fun g => (st g).toInt = 2) q) + 0) : Int32) := by first | exact congrArg nI (cntP_y (P := fun g => (st g).toInt = 2) (show (st q).toInt = 2 by omega)) | exact congrArg nI (cntP_n0 (P := fun g => (st g).toInt = 2) (show ¬ (st q).toInt = 2 by omega))
                have e9_4 : nI (cntP (fun g => ¬ (tn g).toInt = 0) (q + 1)) = (nI ((cntP (fun g => ¬ (tn g).toInt = 0) q) + 1) : Int32) := by first | exact congrArg nI (cntP_y (P := fun g => ¬ (tn g).toInt = 0) (show ¬ (tn q).toInt = 0 by omega)) | exact congrArg nI (cntP_n0 (P := fun g => ¬ (tn g).toInt = 0) (show ¬ ¬ (tn q).toInt = 0 by omega))
                have e9_5 : nI (smP (lvF ft st tn) (fun g => nN (mn g)) (q + 1)) = (nI ((smP (lvF ft st tn) (fun g => nN (mn g)) q) + 0) : Int32) := by first | exact congrArg nI (smP_y (P := lvF ft st tn) (by assumption)) | exact congrArg nI (smP_n (P := lvF ft st tn) (by assumption))
                have hl9 : lv_has ls 7 [(6, .int (nI (q + 1))), (5, .int (nI (smP (lvF ft st tn) (fun g => nN (mn g)) (q + 1)))), (4, .int (nI (cntP (fun g => ¬ (tn g).toInt = 0) (q + 1)))), (3, .int (nI (cntP (fun g => (st g).toInt = 2) (q + 1)))), (2, .int (nI (cntP (fun g => (st g).toInt = 1) (q + 1)))), (0, .ref k0), (1, .int 5)] := by rw [e9_2]; rw [e9_3]; rw [e9_4]; rw [e9_5]; exact hl9
                exact ih_13 (q + 1) H locs ls (by omega) (by omega) hP hD hS hl9
              · have c_6 : q < ft ∧ (st q).toInt = 1 ∧ (tn q).toInt = 0 := zp_1 c_6
                refine lv_aload_n hx hb dX11_count_91 rfl (lv_at hl 5 rfl) ?_
                refine va_get (D := (dC, dI)) (ci := 9) (v := .ref (a 11)) (C := RX11) (T := TX11) (N := 55) hx hb hts inX11 hown hK hP 0 rfl rfl 11 (by decide) (hts _ mw_1170) (fun _ h9 => h9) rfl dX11_count_92 ?_
                refine lv_iload hx hb dX11_count_95 (lv_at hl 3 rfl) ?_
                refine z_iald hx hb hK hP 3 0 rfl rfl (e := q) rfl (by omega) (by omega) dX11_count_97 ?_
                refine zz_i (v := nI (nN (mn q))) ((hmw q (by assumption)).1) ?_
                refine lv_goto (tgt := 102) hx hb dX11_count_98 (by decide) ?_
                refine lv_iadd hx hb dX11_count_102 ?_
                refine zz_i (v := nI ((smP (lvF ft st tn) (fun g => nN (mn g)) q) + (nN (mn q)))) (nI_add (smP (lvF ft st tn) (fun g => nN (mn g)) q) (nN (mn q))) ?_
                refine lv_istore (lv' := [(5, .int (nI ((smP (lvF ft st tn) (fun g => nN (mn g)) q) + (nN (mn q))))), (4, .int (nI ((cntP (fun g => ¬ (tn g).toInt = 0) q) + 1))), (3, .int (nI ((cntP (fun g => (st g).toInt = 2) q) + 0))), (2, .int (nI ((cntP (fun g => (st g).toInt = 1) q) + 0))), (6, .int (nI q)), (0, .ref k0), (1, .int 5)]) hx hb dX11_count_103 hl (by decide) rfl (fun ls hl => ?_)
                refine lv_iinc (v := nI (q + 1)) (lv' := [(6, .int (nI (q + 1))), (5, .int (nI ((smP (lvF ft st tn) (fun g => nN (mn g)) q) + (nN (mn q))))), (4, .int (nI ((cntP (fun g => ¬ (tn g).toInt = 0) q) + 1))), (3, .int (nI ((cntP (fun g => (st g).toInt = 2) q) + 0))), (2, .int (nI ((cntP (fun g => (st g).toInt = 1) q) + 0))), (0, .ref k0), (1, .int 5)]) hx hb dX11_count_105 hl (k := 4) rfl (nI_add q 1) (by decide) rfl (fun ls hl => ?_)
                refine lv_goto (tgt := 13) hx hb dX11_count_108 (by decide) ?_
                have hl9 := lv_sub hl [0, 1, 2, 3, 4, 5, 6] rfl
                have e9_2 : nI (cntP (fun g => (st g).toInt = 1) (q + 1)) = (nI ((cntP (fun g => (st g).toInt = 1) q) + 0) : Int32) := by first | exact congrArg nI (cntP_y (P := fun g => (st g).toInt = 1) (show (st q).toInt = 1 by omega)) | exact congrArg nI (cntP_n0 (P := fun g => (st g).toInt = 1) (show ¬ (st q).toInt = 1 by omega))
                have e9_3 : nI (cntP (fun g => (st g).toInt = 2) (q + 1)) = (nI ((cntP (fun g => (st g).toInt = 2) q) + 0) : Int32) := by first | exact congrArg nI (cntP_y (P := fun g => (st g).toInt = 2) (show (st q).toInt = 2 by omega)) | exact congrArg nI (cntP_n0 (P := fun g => (st g).toInt = 2) (show ¬ (st q).toInt = 2 by omega))
                have e9_4 : nI (cntP (fun g => ¬ (tn g).toInt = 0) (q + 1)) = (nI ((cntP (fun g => ¬ (tn g).toInt = 0) q) + 1) : Int32) := by first | exact congrArg nI (cntP_y (P := fun g => ¬ (tn g).toInt = 0) (show ¬ (tn q).toInt = 0 by omega)) | exact congrArg nI (cntP_n0 (P := fun g => ¬ (tn g).toInt = 0) (show ¬ ¬ (tn q).toInt = 0 by omega))
                have e9_5 : nI (smP (lvF ft st tn) (fun g => nN (mn g)) (q + 1)) = (nI ((smP (lvF ft st tn) (fun g => nN (mn g)) q) + (nN (mn q))) : Int32) := by first | exact congrArg nI (smP_y (P := lvF ft st tn) (by assumption)) | exact congrArg nI (smP_n (P := lvF ft st tn) (by assumption))
                have hl9 : lv_has ls 7 [(6, .int (nI (q + 1))), (5, .int (nI (smP (lvF ft st tn) (fun g => nN (mn g)) (q + 1)))), (4, .int (nI (cntP (fun g => ¬ (tn g).toInt = 0) (q + 1)))), (3, .int (nI (cntP (fun g => (st g).toInt = 2) (q + 1)))), (2, .int (nI (cntP (fun g => (st g).toInt = 1) (q + 1)))), (0, .ref k0), (1, .int 5)] := by rw [e9_2]; rw [e9_3]; rw [e9_4]; rw [e9_5]; exact hl9
                exact ih_13 (q + 1) H locs ls (by omega) (by omega) hP hD hS hl9
          · have c_3 : (st q).toInt = 2 := zc_eq rfl (by decide) c_3
            refine lv_iconst (v := 1) hx hb dX11_count_53 (by decide) ?_
            refine lv_goto (tgt := 58) hx hb dX11_count_54 (by decide) ?_
            refine lv_iadd hx hb dX11_count_58 ?_
            refine zz_i (v := nI ((cntP (fun g => (st g).toInt = 2) q) + 1)) (nI_add (cntP (fun g => (st g).toInt = 2) q) 1) ?_
            refine lv_istore_n (lv' := [(3, .int (nI ((cntP (fun g => (st g).toInt = 2) q) + 1))), (2, .int (nI ((cntP (fun g => (st g).toInt = 1) q) + 0))), (6, .int (nI q)), (5, .int (nI (smP (lvF ft st tn) (fun g => nN (mn g)) q))), (4, .int (nI (cntP (fun g => ¬ (tn g).toInt = 0) q))), (0, .ref k0), (1, .int 5)]) hx hb dX11_count_59 rfl hl (by decide) rfl (fun ls hl => ?_)
            refine lv_iload hx hb dX11_count_60 (lv_at hl 4 rfl) ?_
            refine lv_aload_n hx hb dX11_count_62 rfl (lv_at hl 5 rfl) ?_
            refine va_get (D := (dC, dI)) (ci := 9) (v := .ref (a 6)) (C := RX11) (T := TX11) (N := 55) hx hb hts inX11 hown hK hP 0 rfl rfl 6 (by decide) (hts _ mw_1165) (fun _ h9 => h9) rfl dX11_count_63 ?_
            refine lv_iload hx hb dX11_count_66 (lv_at hl 2 rfl) ?_
            refine z_zald hx hb hK hP 2 1 rfl rfl (e := q) rfl (by omega) (by omega) dX11_count_68 ?_
            refine lv_if_eq (tgt := 76) hx hb dX11_count_69 (by decide) (fun c_7 => ?_) (fun c_7 => ?_)
            · have c_7 : (tn q).toInt = 0 := zc_eq rfl (by decide) c_7
              refine lv_iconst (v := 0) hx hb dX11_count_76 (by decide) ?_
              refine lv_iadd hx hb dX11_count_77 ?_
              refine zz_i (v := nI ((cntP (fun g => ¬ (tn g).toInt = 0) q) + 0)) (nI_add (cntP (fun g => ¬ (tn g).toInt = 0) q) 0) ?_
              refine lv_istore (lv' := [(4, .int (nI ((cntP (fun g => ¬ (tn g).toInt = 0) q) + 0))), (3, .int (nI ((cntP (fun g => (st g).toInt = 2) q) + 1))), (2, .int (nI ((cntP (fun g => (st g).toInt = 1) q) + 0))), (6, .int (nI q)), (5, .int (nI (smP (lvF ft st tn) (fun g => nN (mn g)) q))), (0, .ref k0), (1, .int 5)]) hx hb dX11_count_78 hl (by decide) rfl (fun ls hl => ?_)
              refine lv_iload hx hb dX11_count_80 (lv_at hl 4 rfl) ?_
              refine lv_aload_n hx hb dX11_count_82 rfl (lv_at hl 5 rfl) ?_
              refine lv_iload hx hb dX11_count_83 (lv_at hl 3 rfl) ?_
              have hPc := hP.sub (ws' := [(om k0 a I0 J0), (oa (a 5) cI 201 st), (oa (a 6) cZ 201 tn)]) [0, 1, 2] rfl
              have hDc := hD.sub (ws' := [(om k0 a I0 J0), (oa (a 5) cI 201 st), (oa (a 6) cZ 201 tn)]) [0, 1, 2] (by decide) rfl
              have hFc := va_free (wc := [(om k0 a I0 J0), (oa (a 5) cI 201 st), (oa (a 6) cZ 201 tn)]) hD hS hA [0, 1, 2] rfl
              refine zcall (st1 := [.int (pI (q < ft ∧ (st q).toInt = 1 ∧ (tn q).toInt = 0)), .int (nI (smP (lvF ft st tn) (fun g => nN (mn g)) q))]) (va_runV (As := [.int (nI q)]) (rest := [.int (nI (smP (lvF ft st tn) (fun g => nN (mn g)) q))]) ⟨hx, hb, hml, hown, hts⟩ (k_M_is_n l dC dI cI cZ cF H.size k0 a I0 J0 q ft st tn (by assumption) (by omega) (by omega)) (cwV 1 hts (zz_gV mw_1447 mw_1449 mw_56 mw_110 mc_yX11_is) rfl rfl rfl (by decide +kernel) ⟨Nat.le_of_ble_eq_true rfl, Nat.le_of_ble_eq_true rfl⟩) (zPV2 (q0 := 0) (ci := 9) hPc hDc hK hXN rfl rfl) rfl rfl hl.1 rfl (lv_room (Nat.le_of_ble_eq_true rfl)) dX11_count_85 ⟨Nat.le_of_ble_eq_true rfl, Nat.le_of_ble_eq_true rfl⟩) hS hFc hFc rfl (fun t H1 locs ht hB hk1 hS => ?_)
              obtain ⟨hP1, hD1⟩ := hB
              rw [ht] at hP1
              obtain ⟨hP, hD⟩ := va_join (wr := [(oa (a 11) cI 201 mn)]) (w1 := [(om k0 a I0 J0), (oa (a 5) cI 201 st), (oa (a 6) cZ 201 tn)]) hP hD [0, 1, 2] [3] rfl rfl (by decide) (by decide) hk1 hFc hP1 hD1
              clear hk1 hPc hDc hFc hP1 hD1 ht
              generalize H1 = H at hP hS ⊢
              have hP := hP.sub (ws' := [(om k0 a I0 J0), (oa (a 5) cI 201 st), (oa (a 6) cZ 201 tn), (oa (a 11) cI 201 mn)]) [1, 2, 3, 0] rfl
              have hD := hD.sub (ws' := [(om k0 a I0 J0), (oa (a 5) cI 201 st), (oa (a 6) cZ 201 tn), (oa (a 11) cI 201 mn)]) [1, 2, 3, 0] (by decide) rfl
              have hP : va_P (dC, dI) classes [(om k0 a I0 J0), (oa (a 5) cI 201 st), (oa (a 6) cZ 201 tn), (oa (a 11) cI 201 mn)] H := hP
              have hD : va_D A [(om k0 a I0 J0), (oa (a 5) cI 201 st), (oa (a 6) cZ 201 tn), (oa (a 11) cI 201 mn)] := hD
              refine lv_if_eq (tgt := 101) hx hb dX11_count_88 (by decide) (fun c_8 => ?_) (fun c_8 => ?_)
              · have c_8 : ¬ (q < ft ∧ (st q).toInt = 1 ∧ (tn q).toInt = 0) := zp_0 c_8
                refine lv_iconst (v := 0) hx hb dX11_count_101 (by decide) ?_
                refine lv_iadd hx hb dX11_count_102 ?_
                refine zz_i (v := nI ((smP (lvF ft st tn) (fun g => nN (mn g)) q) + 0)) (nI_add (smP (lvF ft st tn) (fun g => nN (mn g)) q) 0) ?_
                refine lv_istore (lv' := [(5, .int (nI ((smP (lvF ft st tn) (fun g => nN (mn g)) q) + 0))), (4, .int (nI ((cntP (fun g => ¬ (tn g).toInt = 0) q) + 0))), (3, .int (nI ((cntP (fun g => (st g).toInt = 2) q) + 1))), (2, .int (nI ((cntP (fun g => (st g).toInt = 1) q) + 0))), (6, .int (nI q)), (0, .ref k0), (1, .int 5)]) hx hb dX11_count_103 hl (by decide) rfl (fun ls hl => ?_)
                refine lv_iinc (v := nI (q + 1)) (lv' := [(6, .int (nI (q + 1))), (5, .int (nI ((smP (lvF ft st tn) (fun g => nN (mn g)) q) + 0))), (4, .int (nI ((cntP (fun g => ¬ (tn g).toInt = 0) q) + 0))), (3, .int (nI ((cntP (fun g => (st g).toInt = 2) q) + 1))), (2, .int (nI ((cntP (fun g => (st g).toInt = 1) q) + 0))), (0, .ref k0), (1, .int 5)]) hx hb dX11_count_105 hl (k := 4) rfl (nI_add q 1) (by decide) rfl (fun ls hl => ?_)
                refine lv_goto (tgt := 13) hx hb dX11_count_108 (by decide) ?_
                have hl9 := lv_sub hl [0, 1, 2, 3, 4, 5, 6] rfl
                have e9_2 : nI (cntP (fun g => (st g).toInt = 1) (q + 1)) = (nI ((cntP (fun g => (st g).toInt = 1) q) + 0) : Int32) := by first | exact congrArg nI (cntP_y (P := fun g => (st g).toInt = 1) (show (st q).toInt = 1 by omega)) | exact congrArg nI (cntP_n0 (P := fun g => (st g).toInt = 1) (show ¬ (st q).toInt = 1 by omega))
                have e9_3 : nI (cntP (fun g => (st g).toInt = 2) (q + 1)) = (nI ((cntP (fun g => (st g).toInt = 2) q) + 1) : Int32) := by first | exact congrArg nI (cntP_y (P := fun g => (st g).toInt = 2) (show (st q).toInt = 2 by omega)) | exact congrArg nI (cntP_n0 (P := fun g => (st g).toInt = 2) (show ¬ (st q).toInt = 2 by omega))
                have e9_4 : nI (cntP (fun g => ¬ (tn g).toInt = 0) (q + 1)) = (nI ((cntP (fun g => ¬ (tn g).toInt = 0) q) + 0) : Int32) := by first | exact congrArg nI (cntP_y (P := fun g => ¬ (tn g).toInt = 0) (show ¬ (tn q).toInt = 0 by omega)) | exact congrArg nI (cntP_n0 (P := fun g => ¬ (tn g).toInt = 0) (show ¬ ¬ (tn q).toInt = 0 by omega))
                have e9_5 : nI (smP (lvF ft st tn) (fun g => nN (mn g)) (q + 1)) = (nI ((smP (lvF ft st tn) (fun g => nN (mn g)) q) + 0) : Int32) := by first | exact congrArg nI (smP_y (P := lvF ft st tn) (by assumption)) | exact congrArg nI (smP_n (P := lvF ft st tn) (by assumption))
                have hl9 : lv_has ls 7 [(6, .int (nI (q + 1))), (5, .int (nI (smP (lvF ft st tn) (fun g => nN (mn g)) (q + 1)))), (4, .int (nI (cntP (fun g => ¬ (tn g).toInt = 0) (q + 1)))), (3, .int (nI (cntP (fun g => (st g).toInt = 2) (q + 1)))), (2, .int (nI (cntP (fun g => (st g).toInt = 1) (q + 1)))), (0, .ref k0), (1, .int 5)] := by rw [e9_2]; rw [e9_3]; rw [e9_4]; rw [e9_5]; exact hl9
                exact ih_13 (q + 1) H locs ls (by omega) (by omega) hP hD hS hl9
              · have c_8 : q < ft ∧ (st q).toInt = 1 ∧ (tn q).toInt = 0 := zp_1 c_8
                refine lv_aload_n hx hb dX11_count_91 rfl (lv_at hl 5 rfl) ?_
                refine va_get (D := (dC, dI)) (ci := 9) (v := .ref (a 11)) (C := RX11) (T := TX11) (N := 55) hx hb hts inX11 hown hK hP 0 rfl rfl 11 (by decide) (hts _ mw_1170) (fun _ h9 => h9) rfl dX11_count_92 ?_
                refine lv_iload hx hb dX11_count_95 (lv_at hl 3 rfl) ?_
                refine z_iald hx hb hK hP 3 0 rfl rfl (e := q) rfl (by omega) (by omega) dX11_count_97 ?_
                refine zz_i (v := nI (nN (mn q))) ((hmw q (by assumption)).1) ?_
                refine lv_goto (tgt := 102) hx hb dX11_count_98 (by decide) ?_
                refine lv_iadd hx hb dX11_count_102 ?_
                refine zz_i (v := nI ((smP (lvF ft st tn) (fun g => nN (mn g)) q) + (nN (mn q)))) (nI_add (smP (lvF ft st tn) (fun g => nN (mn g)) q) (nN (mn q))) ?_
                refine lv_istore (lv' := [(5, .int (nI ((smP (lvF ft st tn) (fun g => nN (mn g)) q) + (nN (mn q))))), (4, .int (nI ((cntP (fun g => ¬ (tn g).toInt = 0) q) + 0))), (3, .int (nI ((cntP (fun g => (st g).toInt = 2) q) + 1))), (2, .int (nI ((cntP (fun g => (st g).toInt = 1) q) + 0))), (6, .int (nI q)), (0, .ref k0), (1, .int 5)]) hx hb dX11_count_103 hl (by decide) rfl (fun ls hl => ?_)
                refine lv_iinc (v := nI (q + 1)) (lv' := [(6, .int (nI (q + 1))), (5, .int (nI ((smP (lvF ft st tn) (fun g => nN (mn g)) q) + (nN (mn q))))), (4, .int (nI ((cntP (fun g => ¬ (tn g).toInt = 0) q) + 0))), (3, .int (nI ((cntP (fun g => (st g).toInt = 2) q) + 1))), (2, .int (nI ((cntP (fun g => (st g).toInt = 1) q) + 0))), (0, .ref k0), (1, .int 5)]) hx hb dX11_count_105 hl (k := 4) rfl (nI_add q 1) (by decide) rfl (fun ls hl => ?_)
                refine lv_goto (tgt := 13) hx hb dX11_count_108 (by decide) ?_
                have hl9 := lv_sub hl [0, 1, 2, 3, 4, 5, 6] rfl
                have e9_2 : nI (cntP (fun g => (st g).toInt = 1) (q + 1)) = (nI ((cntP (fun g => (st g).toInt = 1) q) + 0) : Int32) := by first | exact congrArg nI (cntP_y (P := fun g => (st g).toInt = 1) (show (st q).toInt = 1 by omega)) | exact congrArg nI (cntP_n0 (P := fun g => (st g).toInt = 1) (show ¬ (st q).toInt = 1 by omega))
                have e9_3 : nI (cntP (fun g => (st g).toInt = 2) (q + 1)) = (nI ((cntP (fun g => (st g).toInt = 2) q) + 1) : Int32) := by first | exact congrArg nI (cntP_y (P := fun g => (st g).toInt = 2) (show (st q).toInt = 2 by omega)) | exact congrArg nI (cntP_n0 (P := fun g => (st g).toInt = 2) (show ¬ (st q).toInt = 2 by omega))
                have e9_4 : nI (cntP (fun g => ¬ (tn g).toInt = 0) (q + 1)) = (nI ((cntP (fun g => ¬ (tn g).toInt = 0) q) + 0) : Int32) := by first | exact congrArg nI (cntP_y (P := fun g => ¬ (tn g).toInt = 0) (show ¬ (tn q).toInt = 0 by omega)) | exact congrArg nI (cntP_n0 (P := fun g => ¬ (tn g).toInt = 0) (show ¬ ¬ (tn q).toInt = 0 by omega))
                have e9_5 : nI (smP (lvF ft st tn) (fun g => nN (mn g)) (q + 1)) = (nI ((smP (lvF ft st tn) (fun g => nN (mn g)) q) + (nN (mn q))) : Int32) := by first | exact congrArg nI (smP_y (P := lvF ft st tn) (by assumption)) | exact congrArg nI (smP_n (P := lvF ft st tn) (by assumption))
                have hl9 : lv_has ls 7 [(6, .int (nI (q + 1))), (5, .int (nI (smP (lvF ft st tn) (fun g => nN (mn g)) (q + 1)))), (4, .int (nI (cntP (fun g => ¬ (tn g).toInt = 0) (q + 1)))), (3, .int (nI (cntP (fun g => (st g).toInt = 2) (q + 1)))), (2, .int (nI (cntP (fun g => (st g).toInt = 1) (q + 1)))), (0, .ref k0), (1, .int 5)] := by rw [e9_2]; rw [e9_3]; rw [e9_4]; rw [e9_5]; exact hl9
                exact ih_13 (q + 1) H locs ls (by omega) (by omega) hP hD hS hl9
            · have c_7 : ¬ (tn q).toInt = 0 := zc_ne rfl (by decide) c_7
              refine lv_iconst (v := 1) hx hb dX11_count_72 (by decide) ?_
              refine lv_goto (tgt := 77) hx hb dX11_count_73 (by decide) ?_
              refine lv_iadd hx hb dX11_count_77 ?_
              refine zz_i (v := nI ((cntP (fun g => ¬ (tn g).toInt = 0) q) + 1)) (nI_add (cntP (fun g => ¬ (tn g).toInt = 0) q) 1) ?_
              refine lv_istore (lv' := [(4, .int (nI ((cntP (fun g => ¬ (tn g).toInt = 0) q) + 1))), (3, .int (nI ((cntP (fun g => (st g).toInt = 2) q) + 1))), (2, .int (nI ((cntP (fun g => (st g).toInt = 1) q) + 0))), (6, .int (nI q)), (5, .int (nI (smP (lvF ft st tn) (fun g => nN (mn g)) q))), (0, .ref k0), (1, .int 5)]) hx hb dX11_count_78 hl (by decide) rfl (fun ls hl => ?_)
              refine lv_iload hx hb dX11_count_80 (lv_at hl 4 rfl) ?_
              refine lv_aload_n hx hb dX11_count_82 rfl (lv_at hl 5 rfl) ?_
              refine lv_iload hx hb dX11_count_83 (lv_at hl 3 rfl) ?_
              have hPc := hP.sub (ws' := [(om k0 a I0 J0), (oa (a 5) cI 201 st), (oa (a 6) cZ 201 tn)]) [0, 1, 2] rfl
              have hDc := hD.sub (ws' := [(om k0 a I0 J0), (oa (a 5) cI 201 st), (oa (a 6) cZ 201 tn)]) [0, 1, 2] (by decide) rfl
              have hFc := va_free (wc := [(om k0 a I0 J0), (oa (a 5) cI 201 st), (oa (a 6) cZ 201 tn)]) hD hS hA [0, 1, 2] rfl
              refine zcall (st1 := [.int (pI (q < ft ∧ (st q).toInt = 1 ∧ (tn q).toInt = 0)), .int (nI (smP (lvF ft st tn) (fun g => nN (mn g)) q))]) (va_runV (As := [.int (nI q)]) (rest := [.int (nI (smP (lvF ft st tn) (fun g => nN (mn g)) q))]) ⟨hx, hb, hml, hown, hts⟩ (k_M_is_n l dC dI cI cZ cF H.size k0 a I0 J0 q ft st tn (by assumption) (by omega) (by omega)) (cwV 1 hts (zz_gV mw_1447 mw_1449 mw_56 mw_110 mc_yX11_is) rfl rfl rfl (by decide +kernel) ⟨Nat.le_of_ble_eq_true rfl, Nat.le_of_ble_eq_true rfl⟩) (zPV2 (q0 := 0) (ci := 9) hPc hDc hK hXN rfl rfl) rfl rfl hl.1 rfl (lv_room (Nat.le_of_ble_eq_true rfl)) dX11_count_85 ⟨Nat.le_of_ble_eq_true rfl, Nat.le_of_ble_eq_true rfl⟩) hS hFc hFc rfl (fun t H1 locs ht hB hk1 hS => ?_)
              obtain ⟨hP1, hD1⟩ := hB
              rw [ht] at hP1
              obtain ⟨hP, hD⟩ := va_join (wr := [(oa (a 11) cI 201 mn)]) (w1 := [(om k0 a I0 J0), (oa (a 5) cI 201 st), (oa (a 6) cZ 201 tn)]) hP hD [0, 1, 2] [3] rfl rfl (by decide) (by decide) hk1 hFc hP1 hD1
              clear hk1 hPc hDc hFc hP1 hD1 ht
              generalize H1 = H at hP hS ⊢
              have hP := hP.sub (ws' := [(om k0 a I0 J0), (oa (a 5) cI 201 st), (oa (a 6) cZ 201 tn), (oa (a 11) cI 201 mn)]) [1, 2, 3, 0] rfl
              have hD := hD.sub (ws' := [(om k0 a I0 J0), (oa (a 5) cI 201 st), (oa (a 6) cZ 201 tn), (oa (a 11) cI 201 mn)]) [1, 2, 3, 0] (by decide) rfl
              have hP : va_P (dC, dI) classes [(om k0 a I0 J0), (oa (a 5) cI 201 st), (oa (a 6) cZ 201 tn), (oa (a 11) cI 201 mn)] H := hP
              have hD : va_D A [(om k0 a I0 J0), (oa (a 5) cI 201 st), (oa (a 6) cZ 201 tn), (oa (a 11) cI 201 mn)] := hD
              refine lv_if_eq (tgt := 101) hx hb dX11_count_88 (by decide) (fun c_9 => ?_) (fun c_9 => ?_)
              · have c_9 : ¬ (q < ft ∧ (st q).toInt = 1 ∧ (tn q).toInt = 0) := zp_0 c_9
                refine lv_iconst (v := 0) hx hb dX11_count_101 (by decide) ?_
                refine lv_iadd hx hb dX11_count_102 ?_
                refine zz_i (v := nI ((smP (lvF ft st tn) (fun g => nN (mn g)) q) + 0)) (nI_add (smP (lvF ft st tn) (fun g => nN (mn g)) q) 0) ?_
                refine lv_istore (lv' := [(5, .int (nI ((smP (lvF ft st tn) (fun g => nN (mn g)) q) + 0))), (4, .int (nI ((cntP (fun g => ¬ (tn g).toInt = 0) q) + 1))), (3, .int (nI ((cntP (fun g => (st g).toInt = 2) q) + 1))), (2, .int (nI ((cntP (fun g => (st g).toInt = 1) q) + 0))), (6, .int (nI q)), (0, .ref k0), (1, .int 5)]) hx hb dX11_count_103 hl (by decide) rfl (fun ls hl => ?_)
                refine lv_iinc (v := nI (q + 1)) (lv' := [(6, .int (nI (q + 1))), (5, .int (nI ((smP (lvF ft st tn) (fun g => nN (mn g)) q) + 0))), (4, .int (nI ((cntP (fun g => ¬ (tn g).toInt = 0) q) + 1))), (3, .int (nI ((cntP (fun g => (st g).toInt = 2) q) + 1))), (2, .int (nI ((cntP (fun g => (st g).toInt = 1) q) + 0))), (0, .ref k0), (1, .int 5)]) hx hb dX11_count_105 hl (k := 4) rfl (nI_add q 1) (by decide) rfl (fun ls hl => ?_)
                refine lv_goto (tgt := 13) hx hb dX11_count_108 (by decide) ?_
                have hl9 := lv_sub hl [0, 1, 2, 3, 4, 5, 6] rfl
                have e9_2 : nI (cntP (fun g => (st g).toInt = 1) (q + 1)) = (nI ((cntP (fun g => (st g).toInt = 1) q) + 0) : Int32) := by first | exact congrArg nI (cntP_y (P := fun g => (st g).toInt = 1) (show (st q).toInt = 1 by omega)) | exact congrArg nI (cntP_n0 (P := fun g => (st g).toInt = 1) (show ¬ (st q).toInt = 1 by omega))
                have e9_3 : nI (cntP (fun g => (st g).toInt = 2) (q + 1)) = (nI ((cntP (fun g => (st g).toInt = 2) q) + 1) : Int32) := by first | exact congrArg nI (cntP_y (P := fun g => (st g).toInt = 2) (show (st q).toInt = 2 by omega)) | exact congrArg nI (cntP_n0 (P := fun g => (st g).toInt = 2) (show ¬ (st q).toInt = 2 by omega))
                have e9_4 : nI (cntP (fun g => ¬ (tn g).toInt = 0) (q + 1)) = (nI ((cntP (fun g => ¬ (tn g).toInt = 0) q) + 1) : Int32) := by first | exact congrArg nI (cntP_y (P := fun g => ¬ (tn g).toInt = 0) (show ¬ (tn q).toInt = 0 by omega)) | exact congrArg nI (cntP_n0 (P := fun g => ¬ (tn g).toInt = 0) (show ¬ ¬ (tn q).toInt = 0 by omega))
                have e9_5 : nI (smP (lvF ft st tn) (fun g => nN (mn g)) (q + 1)) = (nI ((smP (lvF ft st tn) (fun g => nN (mn g)) q) + 0) : Int32) := by first | exact congrArg nI (smP_y (P := lvF ft st tn) (by assumption)) | exact congrArg nI (smP_n (P := lvF ft st tn) (by assumption))
                have hl9 : lv_has ls 7 [(6, .int (nI (q + 1))), (5, .int (nI (smP (lvF ft st tn) (fun g => nN (mn g)) (q + 1)))), (4, .int (nI (cntP (fun g => ¬ (tn g).toInt = 0) (q + 1)))), (3, .int (nI (cntP (fun g => (st g).toInt = 2) (q + 1)))), (2, .int (nI (cntP (fun g => (st g).toInt = 1) (q + 1)))), (0, .ref k0), (1, .int 5)] := by rw [e9_2]; rw [e9_3]; rw [e9_4]; rw [e9_5]; exact hl9
                exact ih_13 (q + 1) H locs ls (by omega) (by omega) hP hD hS hl9
              · have c_9 : q < ft ∧ (st q).toInt = 1 ∧ (tn q).toInt = 0 := zp_1 c_9
                refine lv_aload_n hx hb dX11_count_91 rfl (lv_at hl 5 rfl) ?_
                refine va_get (D := (dC, dI)) (ci := 9) (v := .ref (a 11)) (C := RX11) (T := TX11) (N := 55) hx hb hts inX11 hown hK hP 0 rfl rfl 11 (by decide) (hts _ mw_1170) (fun _ h9 => h9) rfl dX11_count_92 ?_
                refine lv_iload hx hb dX11_count_95 (lv_at hl 3 rfl) ?_
                refine z_iald hx hb hK hP 3 0 rfl rfl (e := q) rfl (by omega) (by omega) dX11_count_97 ?_
                refine zz_i (v := nI (nN (mn q))) ((hmw q (by assumption)).1) ?_
                refine lv_goto (tgt := 102) hx hb dX11_count_98 (by decide) ?_
                refine lv_iadd hx hb dX11_count_102 ?_
                refine zz_i (v := nI ((smP (lvF ft st tn) (fun g => nN (mn g)) q) + (nN (mn q)))) (nI_add (smP (lvF ft st tn) (fun g => nN (mn g)) q) (nN (mn q))) ?_
                refine lv_istore (lv' := [(5, .int (nI ((smP (lvF ft st tn) (fun g => nN (mn g)) q) + (nN (mn q))))), (4, .int (nI ((cntP (fun g => ¬ (tn g).toInt = 0) q) + 1))), (3, .int (nI ((cntP (fun g => (st g).toInt = 2) q) + 1))), (2, .int (nI ((cntP (fun g => (st g).toInt = 1) q) + 0))), (6, .int (nI q)), (0, .ref k0), (1, .int 5)]) hx hb dX11_count_103 hl (by decide) rfl (fun ls hl => ?_)
                refine lv_iinc (v := nI (q + 1)) (lv' := [(6, .int (nI (q + 1))), (5, .int (nI ((smP (lvF ft st tn) (fun g => nN (mn g)) q) + (nN (mn q))))), (4, .int (nI ((cntP (fun g => ¬ (tn g).toInt = 0) q) + 1))), (3, .int (nI ((cntP (fun g => (st g).toInt = 2) q) + 1))), (2, .int (nI ((cntP (fun g => (st g).toInt = 1) q) + 0))), (0, .ref k0), (1, .int 5)]) hx hb dX11_count_105 hl (k := 4) rfl (nI_add q 1) (by decide) rfl (fun ls hl => ?_)
                refine lv_goto (tgt := 13) hx hb dX11_count_108 (by decide) ?_
                have hl9 := lv_sub hl [0, 1, 2, 3, 4, 5, 6] rfl
                have e9_2 : nI (cntP (fun g => (st g).toInt = 1) (q + 1)) = (nI ((cntP (fun g => (st g).toInt = 1) q) + 0) : Int32) := by first | exact congrArg nI (cntP_y (P := fun g => (st g).toInt = 1) (show (st q).toInt = 1 by omega)) | exact congrArg nI (cntP_n0 (P := fun g => (st g).toInt = 1) (show ¬ (st q).toInt = 1 by omega))
                have e9_3 : nI (cntP (fun g => (st g).toInt = 2) (q + 1)) = (nI ((cntP (fun g => (st g).toInt = 2) q) + 1) : Int32) := by first | exact congrArg nI (cntP_y (P := fun g => (st g).toInt = 2) (show (st q).toInt = 2 by omega)) | exact congrArg nI (cntP_n0 (P := fun g => (st g).toInt = 2) (show ¬ (st q).toInt = 2 by omega))
                have e9_4 : nI (cntP (fun g => ¬ (tn g).toInt = 0) (q + 1)) = (nI ((cntP (fun g => ¬ (tn g).toInt = 0) q) + 1) : Int32) := by first | exact congrArg nI (cntP_y (P := fun g => ¬ (tn g).toInt = 0) (show ¬ (tn q).toInt = 0 by omega)) | exact congrArg nI (cntP_n0 (P := fun g => ¬ (tn g).toInt = 0) (show ¬ ¬ (tn q).toInt = 0 by omega))
                have e9_5 : nI (smP (lvF ft st tn) (fun g => nN (mn g)) (q + 1)) = (nI ((smP (lvF ft st tn) (fun g => nN (mn g)) q) + (nN (mn q))) : Int32) := by first | exact congrArg nI (smP_y (P := lvF ft st tn) (by assumption)) | exact congrArg nI (smP_n (P := lvF ft st tn) (by assumption))
                have hl9 : lv_has ls 7 [(6, .int (nI (q + 1))), (5, .int (nI (smP (lvF ft st tn) (fun g => nN (mn g)) (q + 1)))), (4, .int (nI (cntP (fun g => ¬ (tn g).toInt = 0) (q + 1)))), (3, .int (nI (cntP (fun g => (st g).toInt = 2) (q + 1)))), (2, .int (nI (cntP (fun g => (st g).toInt = 1) (q + 1)))), (0, .ref k0), (1, .int 5)] := by rw [e9_2]; rw [e9_3]; rw [e9_4]; rw [e9_5]; exact hl9
                exact ih_13 (q + 1) H locs ls (by omega) (by omega) hP hD hS hl9
        · have c_2 : (st q).toInt = 1 := zc_eq rfl (by decide) c_2
          refine lv_iconst (v := 1) hx hb dX11_count_34 (by decide) ?_
          refine lv_goto (tgt := 39) hx hb dX11_count_35 (by decide) ?_
          refine lv_iadd hx hb dX11_count_39 ?_
          refine zz_i (v := nI ((cntP (fun g => (st g).toInt = 1) q) + 1)) (nI_add (cntP (fun g => (st g).toInt = 1) q) 1) ?_
          refine lv_istore_n (lv' := [(2, .int (nI ((cntP (fun g => (st g).toInt = 1) q) + 1))), (6, .int (nI q)), (5, .int (nI (smP (lvF ft st tn) (fun g => nN (mn g)) q))), (4, .int (nI (cntP (fun g => ¬ (tn g).toInt = 0) q))), (3, .int (nI (cntP (fun g => (st g).toInt = 2) q))), (0, .ref k0), (1, .int 5)]) hx hb dX11_count_40 rfl hl (by decide) rfl (fun ls hl => ?_)
          refine lv_iload_n hx hb dX11_count_41 rfl (lv_at hl 4 rfl) ?_
          refine lv_aload_n hx hb dX11_count_42 rfl (lv_at hl 5 rfl) ?_
          refine va_get (D := (dC, dI)) (ci := 9) (v := .ref (a 5)) (C := RX11) (T := TX11) (N := 55) hx hb hts inX11 hown hK hP 0 rfl rfl 5 (by decide) (hts _ mw_1164) (fun _ h9 => h9) rfl dX11_count_43 ?_
          refine lv_iload hx hb dX11_count_46 (lv_at hl 1 rfl) ?_
          refine z_iald hx hb hK hP 1 0 rfl rfl (e := q) rfl (by omega) (by omega) dX11_count_48 ?_
          refine lv_iconst (v := 2) hx hb dX11_count_49 (by decide) ?_
          refine lv_icmp_ne (tgt := 57) hx hb dX11_count_50 (by decide) (fun c_10 => ?_) (fun c_10 => ?_)
          · have c_10 : ¬ (st q).toInt = 2 := zc_ne rfl (by decide) c_10
            refine lv_iconst (v := 0) hx hb dX11_count_57 (by decide) ?_
            refine lv_iadd hx hb dX11_count_58 ?_
            refine zz_i (v := nI ((cntP (fun g => (st g).toInt = 2) q) + 0)) (nI_add (cntP (fun g => (st g).toInt = 2) q) 0) ?_
            refine lv_istore_n (lv' := [(3, .int (nI ((cntP (fun g => (st g).toInt = 2) q) + 0))), (2, .int (nI ((cntP (fun g => (st g).toInt = 1) q) + 1))), (6, .int (nI q)), (5, .int (nI (smP (lvF ft st tn) (fun g => nN (mn g)) q))), (4, .int (nI (cntP (fun g => ¬ (tn g).toInt = 0) q))), (0, .ref k0), (1, .int 5)]) hx hb dX11_count_59 rfl hl (by decide) rfl (fun ls hl => ?_)
            refine lv_iload hx hb dX11_count_60 (lv_at hl 4 rfl) ?_
            refine lv_aload_n hx hb dX11_count_62 rfl (lv_at hl 5 rfl) ?_
            refine va_get (D := (dC, dI)) (ci := 9) (v := .ref (a 6)) (C := RX11) (T := TX11) (N := 55) hx hb hts inX11 hown hK hP 0 rfl rfl 6 (by decide) (hts _ mw_1165) (fun _ h9 => h9) rfl dX11_count_63 ?_
            refine lv_iload hx hb dX11_count_66 (lv_at hl 2 rfl) ?_
            refine z_zald hx hb hK hP 2 1 rfl rfl (e := q) rfl (by omega) (by omega) dX11_count_68 ?_
            refine lv_if_eq (tgt := 76) hx hb dX11_count_69 (by decide) (fun c_11 => ?_) (fun c_11 => ?_)
            · have c_11 : (tn q).toInt = 0 := zc_eq rfl (by decide) c_11
              refine lv_iconst (v := 0) hx hb dX11_count_76 (by decide) ?_
              refine lv_iadd hx hb dX11_count_77 ?_
              refine zz_i (v := nI ((cntP (fun g => ¬ (tn g).toInt = 0) q) + 0)) (nI_add (cntP (fun g => ¬ (tn g).toInt = 0) q) 0) ?_
              refine lv_istore (lv' := [(4, .int (nI ((cntP (fun g => ¬ (tn g).toInt = 0) q) + 0))), (3, .int (nI ((cntP (fun g => (st g).toInt = 2) q) + 0))), (2, .int (nI ((cntP (fun g => (st g).toInt = 1) q) + 1))), (6, .int (nI q)), (5, .int (nI (smP (lvF ft st tn) (fun g => nN (mn g)) q))), (0, .ref k0), (1, .int 5)]) hx hb dX11_count_78 hl (by decide) rfl (fun ls hl => ?_)
              refine lv_iload hx hb dX11_count_80 (lv_at hl 4 rfl) ?_
              refine lv_aload_n hx hb dX11_count_82 rfl (lv_at hl 5 rfl) ?_
              refine lv_iload hx hb dX11_count_83 (lv_at hl 3 rfl) ?_
              have hPc := hP.sub (ws' := [(om k0 a I0 J0), (oa (a 5) cI 201 st), (oa (a 6) cZ 201 tn)]) [0, 1, 2] rfl
              have hDc := hD.sub (ws' := [(om k0 a I0 J0), (oa (a 5) cI 201 st), (oa (a 6) cZ 201 tn)]) [0, 1, 2] (by decide) rfl
              have hFc := va_free (wc := [(om k0 a I0 J0), (oa (a 5) cI 201 st), (oa (a 6) cZ 201 tn)]) hD hS hA [0, 1, 2] rfl
              refine zcall (st1 := [.int (pI (q < ft ∧ (st q).toInt = 1 ∧ (tn q).toInt = 0)), .int (nI (smP (lvF ft st tn) (fun g => nN (mn g)) q))]) (va_runV (As := [.int (nI q)]) (rest := [.int (nI (smP (lvF ft st tn) (fun g => nN (mn g)) q))]) ⟨hx, hb, hml, hown, hts⟩ (k_M_is_n l dC dI cI cZ cF H.size k0 a I0 J0 q ft st tn (by assumption) (by omega) (by omega)) (cwV 1 hts (zz_gV mw_1447 mw_1449 mw_56 mw_110 mc_yX11_is) rfl rfl rfl (by decide +kernel) ⟨Nat.le_of_ble_eq_true rfl, Nat.le_of_ble_eq_true rfl⟩) (zPV2 (q0 := 0) (ci := 9) hPc hDc hK hXN rfl rfl) rfl rfl hl.1 rfl (lv_room (Nat.le_of_ble_eq_true rfl)) dX11_count_85 ⟨Nat.le_of_ble_eq_true rfl, Nat.le_of_ble_eq_true rfl⟩) hS hFc hFc rfl (fun t H1 locs ht hB hk1 hS => ?_)
              obtain ⟨hP1, hD1⟩ := hB
              rw [ht] at hP1
              obtain ⟨hP, hD⟩ := va_join (wr := [(oa (a 11) cI 201 mn)]) (w1 := [(om k0 a I0 J0), (oa (a 5) cI 201 st), (oa (a 6) cZ 201 tn)]) hP hD [0, 1, 2] [3] rfl rfl (by decide) (by decide) hk1 hFc hP1 hD1
              clear hk1 hPc hDc hFc hP1 hD1 ht
              generalize H1 = H at hP hS ⊢
              have hP := hP.sub (ws' := [(om k0 a I0 J0), (oa (a 5) cI 201 st), (oa (a 6) cZ 201 tn), (oa (a 11) cI 201 mn)]) [1, 2, 3, 0] rfl
              have hD := hD.sub (ws' := [(om k0 a I0 J0), (oa (a 5) cI 201 st), (oa (a 6) cZ 201 tn), (oa (a 11) cI 201 mn)]) [1, 2, 3, 0] (by decide) rfl
              have hP : va_P (dC, dI) classes [(om k0 a I0 J0), (oa (a 5) cI 201 st), (oa (a 6) cZ 201 tn), (oa (a 11) cI 201 mn)] H := hP
              have hD : va_D A [(om k0 a I0 J0), (oa (a 5) cI 201 st), (oa (a 6) cZ 201 tn), (oa (a 11) cI 201 mn)] := hD
              refine lv_if_eq (tgt := 101) hx hb dX11_count_88 (by decide) (fun c_12 => ?_) (fun c_12 => ?_)
              · have c_12 : ¬ (q < ft ∧ (st q).toInt = 1 ∧ (tn q).toInt = 0) := zp_0 c_12
                refine lv_iconst (v := 0) hx hb dX11_count_101 (by decide) ?_
                refine lv_iadd hx hb dX11_count_102 ?_
                refine zz_i (v := nI ((smP (lvF ft st tn) (fun g => nN (mn g)) q) + 0)) (nI_add (smP (lvF ft st tn) (fun g => nN (mn g)) q) 0) ?_
                refine lv_istore (lv' := [(5, .int (nI ((smP (lvF ft st tn) (fun g => nN (mn g)) q) + 0))), (4, .int (nI ((cntP (fun g => ¬ (tn g).toInt = 0) q) + 0))), (3, .int (nI ((cntP (fun g => (st g).toInt = 2) q) + 0))), (2, .int (nI ((cntP (fun g => (st g).toInt = 1) q) + 1))), (6, .int (nI q)), (0, .ref k0), (1, .int 5)]) hx hb dX11_count_103 hl (by decide) rfl (fun ls hl => ?_)
                refine lv_iinc (v := nI (q + 1)) (lv' := [(6, .int (nI (q + 1))), (5, .int (nI ((smP (lvF ft st tn) (fun g => nN (mn g)) q) + 0))), (4, .int (nI ((cntP (fun g => ¬ (tn g).toInt = 0) q) + 0))), (3, .int (nI ((cntP (fun g => (st g).toInt = 2) q) + 0))), (2, .int (nI ((cntP (fun g => (st g).toInt = 1) q) + 1))), (0, .ref k0), (1, .int 5)]) hx hb dX11_count_105 hl (k := 4) rfl (nI_add q 1) (by decide) rfl (fun ls hl => ?_)
                refine lv_goto (tgt := 13) hx hb dX11_count_108 (by decide) ?_
                have hl9 := lv_sub hl [0, 1, 2, 3, 4, 5, 6] rfl
                have e9_2 : nI (cntP (fun g => (st g).toInt = 1) (q + 1)) = (nI ((cntP (fun g => (st g).toInt = 1) q) + 1) : Int32) := by first | exact congrArg nI (cntP_y (P := fun g => (st g).toInt = 1) (show (st q).toInt = 1 by omega)) | exact congrArg nI (cntP_n0 (P := fun g => (st g).toInt = 1) (show ¬ (st q).toInt = 1 by omega))
                have e9_3 : nI (cntP (fun g => (st g).toInt = 2) (q + 1)) = (nI ((cntP (fun g => (st g).toInt = 2) q) + 0) : Int32) := by first | exact congrArg nI (cntP_y (P := fun g => (st g).toInt = 2) (show (st q).toInt = 2 by omega)) | exact congrArg nI (cntP_n0 (P := fun g => (st g).toInt = 2) (show ¬ (st q).toInt = 2 by omega))
                have e9_4 : nI (cntP (fun g => ¬ (tn g).toInt = 0) (q + 1)) = (nI ((cntP (fun g => ¬ (tn g).toInt = 0) q) + 0) : Int32) := by first | exact congrArg nI (cntP_y (P := fun g => ¬ (tn g).toInt = 0) (show ¬ (tn q).toInt = 0 by omega)) | exact congrArg nI (cntP_n0 (P := fun g => ¬ (tn g).toInt = 0) (show ¬ ¬ (tn q).toInt = 0 by omega))
                have e9_5 : nI (smP (lvF ft st tn) (fun g => nN (mn g)) (q + 1)) = (nI ((smP (lvF ft st tn) (fun g => nN (mn g)) q) + 0) : Int32) := by first | exact congrArg nI (smP_y (P := lvF ft st tn) (by assumption)) | exact congrArg nI (smP_n (P := lvF ft st tn) (by assumption))
                have hl9 : lv_has ls 7 [(6, .int (nI (q + 1))), (5, .int (nI (smP (lvF ft st tn) (fun g => nN (mn g)) (q + 1)))), (4, .int (nI (cntP (fun g => ¬ (tn g).toInt = 0) (q + 1)))), (3, .int (nI (cntP (fun g => (st g).toInt = 2) (q + 1)))), (2, .int (nI (cntP (fun g => (st g).toInt = 1) (q + 1)))), (0, .ref k0), (1, .int 5)] := by rw [e9_2]; rw [e9_3]; rw [e9_4]; rw [e9_5]; exact hl9
                exact ih_13 (q + 1) H locs ls (by omega) (by omega) hP hD hS hl9
              · have c_12 : q < ft ∧ (st q).toInt = 1 ∧ (tn q).toInt = 0 := zp_1 c_12
                refine lv_aload_n hx hb dX11_count_91 rfl (lv_at hl 5 rfl) ?_
                refine va_get (D := (dC, dI)) (ci := 9) (v := .ref (a 11)) (C := RX11) (T := TX11) (N := 55) hx hb hts inX11 hown hK hP 0 rfl rfl 11 (by decide) (hts _ mw_1170) (fun _ h9 => h9) rfl dX11_count_92 ?_
                refine lv_iload hx hb dX11_count_95 (lv_at hl 3 rfl) ?_
                refine z_iald hx hb hK hP 3 0 rfl rfl (e := q) rfl (by omega) (by omega) dX11_count_97 ?_
                refine zz_i (v := nI (nN (mn q))) ((hmw q (by assumption)).1) ?_
                refine lv_goto (tgt := 102) hx hb dX11_count_98 (by decide) ?_
                refine lv_iadd hx hb dX11_count_102 ?_
                refine zz_i (v := nI ((smP (lvF ft st tn) (fun g => nN (mn g)) q) + (nN (mn q)))) (nI_add (smP (lvF ft st tn) (fun g => nN (mn g)) q) (nN (mn q))) ?_
                refine lv_istore (lv' := [(5, .int (nI ((smP (lvF ft st tn) (fun g => nN (mn g)) q) + (nN (mn q))))), (4, .int (nI ((cntP (fun g => ¬ (tn g).toInt = 0) q) + 0))), (3, .int (nI ((cntP (fun g => (st g).toInt = 2) q) + 0))), (2, .int (nI ((cntP (fun g => (st g).toInt = 1) q) + 1))), (6, .int (nI q)), (0, .ref k0), (1, .int 5)]) hx hb dX11_count_103 hl (by decide) rfl (fun ls hl => ?_)
                refine lv_iinc (v := nI (q + 1)) (lv' := [(6, .int (nI (q + 1))), (5, .int (nI ((smP (lvF ft st tn) (fun g => nN (mn g)) q) + (nN (mn q))))), (4, .int (nI ((cntP (fun g => ¬ (tn g).toInt = 0) q) + 0))), (3, .int (nI ((cntP (fun g => (st g).toInt = 2) q) + 0))), (2, .int (nI ((cntP (fun g => (st g).toInt = 1) q) + 1))), (0, .ref k0), (1, .int 5)]) hx hb dX11_count_105 hl (k := 4) rfl (nI_add q 1) (by decide) rfl (fun ls hl => ?_)
                refine lv_goto (tgt := 13) hx hb dX11_count_108 (by decide) ?_
                have hl9 := lv_sub hl [0, 1, 2, 3, 4, 5, 6] rfl
                have e9_2 : nI (cntP (fun g => (st g).toInt = 1) (q + 1)) = (nI ((cntP (fun g => (st g).toInt = 1) q) + 1) : Int32) := by first | exact congrArg nI (cntP_y (P := fun g => (st g).toInt = 1) (show (st q).toInt = 1 by omega)) | exact congrArg nI (cntP_n0 (P := fun g => (st g).toInt = 1) (show ¬ (st q).toInt = 1 by omega))
                have e9_3 : nI (cntP (fun g => (st g).toInt = 2) (q + 1)) = (nI ((cntP (fun g => (st g).toInt = 2) q) + 0) : Int32) := by first | exact congrArg nI (cntP_y (P := fun g => (st g).toInt = 2) (show (st q).toInt = 2 by omega)) | exact congrArg nI (cntP_n0 (P := fun g => (st g).toInt = 2) (show ¬ (st q).toInt = 2 by omega))
                have e9_4 : nI (cntP (fun g => ¬ (tn g).toInt = 0) (q + 1)) = (nI ((cntP (fun g => ¬ (tn g).toInt = 0) q) + 0) : Int32) := by first | exact congrArg nI (cntP_y (P := fun g => ¬ (tn g).toInt = 0) (show ¬ (tn q).toInt = 0 by omega)) | exact congrArg nI (cntP_n0 (P := fun g => ¬ (tn g).toInt = 0) (show ¬ ¬ (tn q).toInt = 0 by omega))
                have e9_5 : nI (smP (lvF ft st tn) (fun g => nN (mn g)) (q + 1)) = (nI ((smP (lvF ft st tn) (fun g => nN (mn g)) q) + (nN (mn q))) : Int32) := by first | exact congrArg nI (smP_y (P := lvF ft st tn) (by assumption)) | exact congrArg nI (smP_n (P := lvF ft st tn) (by assumption))
                have hl9 : lv_has ls 7 [(6, .int (nI (q + 1))), (5, .int (nI (smP (lvF ft st tn) (fun g => nN (mn g)) (q + 1)))), (4, .int (nI (cntP (fun g => ¬ (tn g).toInt = 0) (q + 1)))), (3, .int (nI (cntP (fun g => (st g).toInt = 2) (q + 1)))), (2, .int (nI (cntP (fun g => (st g).toInt = 1) (q + 1)))), (0, .ref k0), (1, .int 5)] := by rw [e9_2]; rw [e9_3]; rw [e9_4]; rw [e9_5]; exact hl9
                exact ih_13 (q + 1) H locs ls (by omega) (by omega) hP hD hS hl9
            · have c_11 : ¬ (tn q).toInt = 0 := zc_ne rfl (by decide) c_11
              refine lv_iconst (v := 1) hx hb dX11_count_72 (by decide) ?_
              refine lv_goto (tgt := 77) hx hb dX11_count_73 (by decide) ?_
              refine lv_iadd hx hb dX11_count_77 ?_
              refine zz_i (v := nI ((cntP (fun g => ¬ (tn g).toInt = 0) q) + 1)) (nI_add (cntP (fun g => ¬ (tn g).toInt = 0) q) 1) ?_
              refine lv_istore (lv' := [(4, .int (nI ((cntP (fun g => ¬ (tn g).toInt = 0) q) + 1))), (3, .int (nI ((cntP (fun g => (st g).toInt = 2) q) + 0))), (2, .int (nI ((cntP (fun g => (st g).toInt = 1) q) + 1))), (6, .int (nI q)), (5, .int (nI (smP (lvF ft st tn) (fun g => nN (mn g)) q))), (0, .ref k0), (1, .int 5)]) hx hb dX11_count_78 hl (by decide) rfl (fun ls hl => ?_)
              refine lv_iload hx hb dX11_count_80 (lv_at hl 4 rfl) ?_
              refine lv_aload_n hx hb dX11_count_82 rfl (lv_at hl 5 rfl) ?_
              refine lv_iload hx hb dX11_count_83 (lv_at hl 3 rfl) ?_
              have hPc := hP.sub (ws' := [(om k0 a I0 J0), (oa (a 5) cI 201 st), (oa (a 6) cZ 201 tn)]) [0, 1, 2] rfl
              have hDc := hD.sub (ws' := [(om k0 a I0 J0), (oa (a 5) cI 201 st), (oa (a 6) cZ 201 tn)]) [0, 1, 2] (by decide) rfl
              have hFc := va_free (wc := [(om k0 a I0 J0), (oa (a 5) cI 201 st), (oa (a 6) cZ 201 tn)]) hD hS hA [0, 1, 2] rfl
              refine zcall (st1 := [.int (pI (q < ft ∧ (st q).toInt = 1 ∧ (tn q).toInt = 0)), .int (nI (smP (lvF ft st tn) (fun g => nN (mn g)) q))]) (va_runV (As := [.int (nI q)]) (rest := [.int (nI (smP (lvF ft st tn) (fun g => nN (mn g)) q))]) ⟨hx, hb, hml, hown, hts⟩ (k_M_is_n l dC dI cI cZ cF H.size k0 a I0 J0 q ft st tn (by assumption) (by omega) (by omega)) (cwV 1 hts (zz_gV mw_1447 mw_1449 mw_56 mw_110 mc_yX11_is) rfl rfl rfl (by decide +kernel) ⟨Nat.le_of_ble_eq_true rfl, Nat.le_of_ble_eq_true rfl⟩) (zPV2 (q0 := 0) (ci := 9) hPc hDc hK hXN rfl rfl) rfl rfl hl.1 rfl (lv_room (Nat.le_of_ble_eq_true rfl)) dX11_count_85 ⟨Nat.le_of_ble_eq_true rfl, Nat.le_of_ble_eq_true rfl⟩) hS hFc hFc rfl (fun t H1 locs ht hB hk1 hS => ?_)
              obtain ⟨hP1, hD1⟩ := hB
              rw [ht] at hP1
              obtain ⟨hP, hD⟩ := va_join (wr := [(oa (a 11) cI 201 mn)]) (w1 := [(om k0 a I0 J0), (oa (a 5) cI 201 st), (oa (a 6) cZ 201 tn)]) hP hD [0, 1, 2] [3] rfl rfl (by decide) (by decide) hk1 hFc hP1 hD1
              clear hk1 hPc hDc hFc hP1 hD1 ht
              generalize H1 = H at hP hS ⊢
              have hP := hP.sub (ws' := [(om k0 a I0 J0), (oa (a 5) cI 201 st), (oa (a 6) cZ 201 tn), (oa (a 11) cI 201 mn)]) [1, 2, 3, 0] rfl
              have hD := hD.sub (ws' := [(om k0 a I0 J0), (oa (a 5) cI 201 st), (oa (a 6) cZ 201 tn), (oa (a 11) cI 201 mn)]) [1, 2, 3, 0] (by decide) rfl
              have hP : va_P (dC, dI) classes [(om k0 a I0 J0), (oa (a 5) cI 201 st), (oa (a 6) cZ 201 tn), (oa (a 11) cI 201 mn)] H := hP
              have hD : va_D A [(om k0 a I0 J0), (oa (a 5) cI 201 st), (oa (a 6) cZ 201 tn), (oa (a 11) cI 201 mn)] := hD
              refine lv_if_eq (tgt := 101) hx hb dX11_count_88 (by decide) (fun c_13 => ?_) (fun c_13 => ?_)
              · have c_13 : ¬ (q < ft ∧ (st q).toInt = 1 ∧ (tn q).toInt = 0) := zp_0 c_13
                refine lv_iconst (v := 0) hx hb dX11_count_101 (by decide) ?_
                refine lv_iadd hx hb dX11_count_102 ?_
                refine zz_i (v := nI ((smP (lvF ft st tn) (fun g => nN (mn g)) q) + 0)) (nI_add (smP (lvF ft st tn) (fun g => nN (mn g)) q) 0) ?_
                refine lv_istore (lv' := [(5, .int (nI ((smP (lvF ft st tn) (fun g => nN (mn g)) q) + 0))), (4, .int (nI ((cntP (fun g => ¬ (tn g).toInt = 0) q) + 1))), (3, .int (nI ((cntP (fun g => (st g).toInt = 2) q) + 0))), (2, .int (nI ((cntP (fun g => (st g).toInt = 1) q) + 1))), (6, .int (nI q)), (0, .ref k0), (1, .int 5)]) hx hb dX11_count_103 hl (by decide) rfl (fun ls hl => ?_)
                refine lv_iinc (v := nI (q + 1)) (lv' := [(6, .int (nI (q + 1))), (5, .int (nI ((smP (lvF ft st tn) (fun g => nN (mn g)) q) + 0))), (4, .int (nI ((cntP (fun g => ¬ (tn g).toInt = 0) q) + 1))), (3, .int (nI ((cntP (fun g => (st g).toInt = 2) q) + 0))), (2, .int (nI ((cntP (fun g => (st g).toInt = 1) q) + 1))), (0, .ref k0), (1, .int 5)]) hx hb dX11_count_105 hl (k := 4) rfl (nI_add q 1) (by decide) rfl (fun ls hl => ?_)
                refine lv_goto (tgt := 13) hx hb dX11_count_108 (by decide) ?_
                have hl9 := lv_sub hl [0, 1, 2, 3, 4, 5, 6] rfl
                have e9_2 : nI (cntP (fun g => (st g).toInt = 1) (q + 1)) = (nI ((cntP (fun g => (st g).toInt = 1) q) + 1) : Int32) := by first | exact congrArg nI (cntP_y (P := fun g => (st g).toInt = 1) (show (st q).toInt = 1 by omega)) | exact congrArg nI (cntP_n0 (P := fun g => (st g).toInt = 1) (show ¬ (st q).toInt = 1 by omega))
                have e9_3 : nI (cntP (fun g => (st g).toInt = 2) (q + 1)) = (nI ((cntP (fun g => (st g).toInt = 2) q) + 0) : Int32) := by first | exact congrArg nI (cntP_y (P := fun g => (st g).toInt = 2) (show (st q).toInt = 2 by omega)) | exact congrArg nI (cntP_n0 (P := fun g => (st g).toInt = 2) (show ¬ (st q).toInt = 2 by omega))
                have e9_4 : nI (cntP (fun g => ¬ (tn g).toInt = 0) (q + 1)) = (nI ((cntP (fun g => ¬ (tn g).toInt = 0) q) + 1) : Int32) := by first | exact congrArg nI (cntP_y (P := fun g => ¬ (tn g).toInt = 0) (show ¬ (tn q).toInt = 0 by omega)) | exact congrArg nI (cntP_n0 (P := fun g => ¬ (tn g).toInt = 0) (show ¬ ¬ (tn q).toInt = 0 by omega))
                have e9_5 : nI (smP (lvF ft st tn) (fun g => nN (mn g)) (q + 1)) = (nI ((smP (lvF ft st tn) (fun g => nN (mn g)) q) + 0) : Int32) := by first | exact congrArg nI (smP_y (P := lvF ft st tn) (by assumption)) | exact congrArg nI (smP_n (P := lvF ft st tn) (by assumption))
                have hl9 : lv_has ls 7 [(6, .int (nI (q + 1))), (5, .int (nI (smP (lvF ft st tn) (fun g => nN (mn g)) (q + 1)))), (4, .int (nI (cntP (fun g => ¬ (tn g).toInt = 0) (q + 1)))), (3, .int (nI (cntP (fun g => (st g).toInt = 2) (q + 1)))), (2, .int (nI (cntP (fun g => (st g).toInt = 1) (q + 1)))), (0, .ref k0), (1, .int 5)] := by rw [e9_2]; rw [e9_3]; rw [e9_4]; rw [e9_5]; exact hl9
                exact ih_13 (q + 1) H locs ls (by omega) (by omega) hP hD hS hl9
              · have c_13 : q < ft ∧ (st q).toInt = 1 ∧ (tn q).toInt = 0 := zp_1 c_13
                refine lv_aload_n hx hb dX11_count_91 rfl (lv_at hl 5 rfl) ?_
                refine va_get (D := (dC, dI)) (ci := 9) (v := .ref (a 11)) (C := RX11) (T := TX11) (N := 55) hx hb hts inX11 hown hK hP 0 rfl rfl 11 (by decide) (hts _ mw_1170) (fun _ h9 => h9) rfl dX11_count_92 ?_
                refine lv_iload hx hb dX11_count_95 (lv_at hl 3 rfl) ?_
                refine z_iald hx hb hK hP 3 0 rfl rfl (e := q) rfl (by omega) (by omega) dX11_count_97 ?_
                refine zz_i (v := nI (nN (mn q))) ((hmw q (by assumption)).1) ?_
                refine lv_goto (tgt := 102) hx hb dX11_count_98 (by decide) ?_
                refine lv_iadd hx hb dX11_count_102 ?_
                refine zz_i (v := nI ((smP (lvF ft st tn) (fun g => nN (mn g)) q) + (nN (mn q)))) (nI_add (smP (lvF ft st tn) (fun g => nN (mn g)) q) (nN (mn q))) ?_
                refine lv_istore (lv' := [(5, .int (nI ((smP (lvF ft st tn) (fun g => nN (mn g)) q) + (nN (mn q))))), (4, .int (nI ((cntP (fun g => ¬ (tn g).toInt = 0) q) + 1))), (3, .int (nI ((cntP (fun g => (st g).toInt = 2) q) + 0))), (2, .int (nI ((cntP (fun g => (st g).toInt = 1) q) + 1))), (6, .int (nI q)), (0, .ref k0), (1, .int 5)]) hx hb dX11_count_103 hl (by decide) rfl (fun ls hl => ?_)
                refine lv_iinc (v := nI (q + 1)) (lv' := [(6, .int (nI (q + 1))), (5, .int (nI ((smP (lvF ft st tn) (fun g => nN (mn g)) q) + (nN (mn q))))), (4, .int (nI ((cntP (fun g => ¬ (tn g).toInt = 0) q) + 1))), (3, .int (nI ((cntP (fun g => (st g).toInt = 2) q) + 0))), (2, .int (nI ((cntP (fun g => (st g).toInt = 1) q) + 1))), (0, .ref k0), (1, .int 5)]) hx hb dX11_count_105 hl (k := 4) rfl (nI_add q 1) (by decide) rfl (fun ls hl => ?_)
                refine lv_goto (tgt := 13) hx hb dX11_count_108 (by decide) ?_
                have hl9 := lv_sub hl [0, 1, 2, 3, 4, 5, 6] rfl
                have e9_2 : nI (cntP (fun g => (st g).toInt = 1) (q + 1)) = (nI ((cntP (fun g => (st g).toInt = 1) q) + 1) : Int32) := by first | exact congrArg nI (cntP_y (P := fun g => (st g).toInt = 1) (show (st q).toInt = 1 by omega)) | exact congrArg nI (cntP_n0 (P := fun g => (st g).toInt = 1) (show ¬ (st q).toInt = 1 by omega))
                have e9_3 : nI (cntP (fun g => (st g).toInt = 2) (q + 1)) = (nI ((cntP (fun g => (st g).toInt = 2) q) + 0) : Int32) := by first | exact congrArg nI (cntP_y (P := fun g => (st g).toInt = 2) (show (st q).toInt = 2 by omega)) | exact congrArg nI (cntP_n0 (P := fun g => (st g).toInt = 2) (show ¬ (st q).toInt = 2 by omega))
                have e9_4 : nI (cntP (fun g => ¬ (tn g).toInt = 0) (q + 1)) = (nI ((cntP (fun g => ¬ (tn g).toInt = 0) q) + 1) : Int32) := by first | exact congrArg nI (cntP_y (P := fun g => ¬ (tn g).toInt = 0) (show ¬ (tn q).toInt = 0 by omega)) | exact congrArg nI (cntP_n0 (P := fun g => ¬ (tn g).toInt = 0) (show ¬ ¬ (tn q).toInt = 0 by omega))
                have e9_5 : nI (smP (lvF ft st tn) (fun g => nN (mn g)) (q + 1)) = (nI ((smP (lvF ft st tn) (fun g => nN (mn g)) q) + (nN (mn q))) : Int32) := by first | exact congrArg nI (smP_y (P := lvF ft st tn) (by assumption)) | exact congrArg nI (smP_n (P := lvF ft st tn) (by assumption))
                have hl9 : lv_has ls 7 [(6, .int (nI (q + 1))), (5, .int (nI (smP (lvF ft st tn) (fun g => nN (mn g)) (q + 1)))), (4, .int (nI (cntP (fun g => ¬ (tn g).toInt = 0) (q + 1)))), (3, .int (nI (cntP (fun g => (st g).toInt = 2) (q + 1)))), (2, .int (nI (cntP (fun g => (st g).toInt = 1) (q + 1)))), (0, .ref k0), (1, .int 5)] := by rw [e9_2]; rw [e9_3]; rw [e9_4]; rw [e9_5]; exact hl9
                exact ih_13 (q + 1) H locs ls (by omega) (by omega) hP hD hS hl9
          · have c_10 : (st q).toInt = 2 := zc_eq rfl (by decide) c_10
            refine lv_iconst (v := 1) hx hb dX11_count_53 (by decide) ?_
            refine lv_goto (tgt := 58) hx hb dX11_count_54 (by decide) ?_
            refine lv_iadd hx hb dX11_count_58 ?_
            refine zz_i (v := nI ((cntP (fun g => (st g).toInt = 2) q) + 1)) (nI_add (cntP (fun g => (st g).toInt = 2) q) 1) ?_
            refine lv_istore_n (lv' := [(3, .int (nI ((cntP (fun g => (st g).toInt = 2) q) + 1))), (2, .int (nI ((cntP (fun g => (st g).toInt = 1) q) + 1))), (6, .int (nI q)), (5, .int (nI (smP (lvF ft st tn) (fun g => nN (mn g)) q))), (4, .int (nI (cntP (fun g => ¬ (tn g).toInt = 0) q))), (0, .ref k0), (1, .int 5)]) hx hb dX11_count_59 rfl hl (by decide) rfl (fun ls hl => ?_)
            refine lv_iload hx hb dX11_count_60 (lv_at hl 4 rfl) ?_
            refine lv_aload_n hx hb dX11_count_62 rfl (lv_at hl 5 rfl) ?_
            refine va_get (D := (dC, dI)) (ci := 9) (v := .ref (a 6)) (C := RX11) (T := TX11) (N := 55) hx hb hts inX11 hown hK hP 0 rfl rfl 6 (by decide) (hts _ mw_1165) (fun _ h9 => h9) rfl dX11_count_63 ?_
            refine lv_iload hx hb dX11_count_66 (lv_at hl 2 rfl) ?_
            refine z_zald hx hb hK hP 2 1 rfl rfl (e := q) rfl (by omega) (by omega) dX11_count_68 ?_
            refine lv_if_eq (tgt := 76) hx hb dX11_count_69 (by decide) (fun c_14 => ?_) (fun c_14 => ?_)
            · have c_14 : (tn q).toInt = 0 := zc_eq rfl (by decide) c_14
              refine lv_iconst (v := 0) hx hb dX11_count_76 (by decide) ?_
              refine lv_iadd hx hb dX11_count_77 ?_
              refine zz_i (v := nI ((cntP (fun g => ¬ (tn g).toInt = 0) q) + 0)) (nI_add (cntP (fun g => ¬ (tn g).toInt = 0) q) 0) ?_
              refine lv_istore (lv' := [(4, .int (nI ((cntP (fun g => ¬ (tn g).toInt = 0) q) + 0))), (3, .int (nI ((cntP (fun g => (st g).toInt = 2) q) + 1))), (2, .int (nI ((cntP (fun g => (st g).toInt = 1) q) + 1))), (6, .int (nI q)), (5, .int (nI (smP (lvF ft st tn) (fun g => nN (mn g)) q))), (0, .ref k0), (1, .int 5)]) hx hb dX11_count_78 hl (by decide) rfl (fun ls hl => ?_)
              refine lv_iload hx hb dX11_count_80 (lv_at hl 4 rfl) ?_
              refine lv_aload_n hx hb dX11_count_82 rfl (lv_at hl 5 rfl) ?_
              refine lv_iload hx hb dX11_count_83 (lv_at hl 3 rfl) ?_
              have hPc := hP.sub (ws' := [(om k0 a I0 J0), (oa (a 5) cI 201 st), (oa (a 6) cZ 201 tn)]) [0, 1, 2] rfl
              have hDc := hD.sub (ws' := [(om k0 a I0 J0), (oa (a 5) cI 201 st), (oa (a 6) cZ 201 tn)]) [0, 1, 2] (by decide) rfl
              have hFc := va_free (wc := [(om k0 a I0 J0), (oa (a 5) cI 201 st), (oa (a 6) cZ 201 tn)]) hD hS hA [0, 1, 2] rfl
              refine zcall (st1 := [.int (pI (q < ft ∧ (st q).toInt = 1 ∧ (tn q).toInt = 0)), .int (nI (smP (lvF ft st tn) (fun g => nN (mn g)) q))]) (va_runV (As := [.int (nI q)]) (rest := [.int (nI (smP (lvF ft st tn) (fun g => nN (mn g)) q))]) ⟨hx, hb, hml, hown, hts⟩ (k_M_is_n l dC dI cI cZ cF H.size k0 a I0 J0 q ft st tn (by assumption) (by omega) (by omega)) (cwV 1 hts (zz_gV mw_1447 mw_1449 mw_56 mw_110 mc_yX11_is) rfl rfl rfl (by decide +kernel) ⟨Nat.le_of_ble_eq_true rfl, Nat.le_of_ble_eq_true rfl⟩) (zPV2 (q0 := 0) (ci := 9) hPc hDc hK hXN rfl rfl) rfl rfl hl.1 rfl (lv_room (Nat.le_of_ble_eq_true rfl)) dX11_count_85 ⟨Nat.le_of_ble_eq_true rfl, Nat.le_of_ble_eq_true rfl⟩) hS hFc hFc rfl (fun t H1 locs ht hB hk1 hS => ?_)
              obtain ⟨hP1, hD1⟩ := hB
              rw [ht] at hP1
              obtain ⟨hP, hD⟩ := va_join (wr := [(oa (a 11) cI 201 mn)]) (w1 := [(om k0 a I0 J0), (oa (a 5) cI 201 st), (oa (a 6) cZ 201 tn)]) hP hD [0, 1, 2] [3] rfl rfl (by decide) (by decide) hk1 hFc hP1 hD1
              clear hk1 hPc hDc hFc hP1 hD1 ht
              generalize H1 = H at hP hS ⊢
              have hP := hP.sub (ws' := [(om k0 a I0 J0), (oa (a 5) cI 201 st), (oa (a 6) cZ 201 tn), (oa (a 11) cI 201 mn)]) [1, 2, 3, 0] rfl
              have hD := hD.sub (ws' := [(om k0 a I0 J0), (oa (a 5) cI 201 st), (oa (a 6) cZ 201 tn), (oa (a 11) cI 201 mn)]) [1, 2, 3, 0] (by decide) rfl
              have hP : va_P (dC, dI) classes [(om k0 a I0 J0), (oa (a 5) cI 201 st), (oa (a 6) cZ 201 tn), (oa (a 11) cI 201 mn)] H := hP
              have hD : va_D A [(om k0 a I0 J0), (oa (a 5) cI 201 st), (oa (a 6) cZ 201 tn), (oa (a 11) cI 201 mn)] := hD
              refine lv_if_eq (tgt := 101) hx hb dX11_count_88 (by decide) (fun c_15 => ?_) (fun c_15 => ?_)
              · have c_15 : ¬ (q < ft ∧ (st q).toInt = 1 ∧ (tn q).toInt = 0) := zp_0 c_15
                refine lv_iconst (v := 0) hx hb dX11_count_101 (by decide) ?_
                refine lv_iadd hx hb dX11_count_102 ?_
                refine zz_i (v := nI ((smP (lvF ft st tn) (fun g => nN (mn g)) q) + 0)) (nI_add (smP (lvF ft st tn) (fun g => nN (mn g)) q) 0) ?_
                refine lv_istore (lv' := [(5, .int (nI ((smP (lvF ft st tn) (fun g => nN (mn g)) q) + 0))), (4, .int (nI ((cntP (fun g => ¬ (tn g).toInt = 0) q) + 0))), (3, .int (nI ((cntP (fun g => (st g).toInt = 2) q) + 1))), (2, .int (nI ((cntP (fun g => (st g).toInt = 1) q) + 1))), (6, .int (nI q)), (0, .ref k0), (1, .int 5)]) hx hb dX11_count_103 hl (by decide) rfl (fun ls hl => ?_)
                refine lv_iinc (v := nI (q + 1)) (lv' := [(6, .int (nI (q + 1))), (5, .int (nI ((smP (lvF ft st tn) (fun g => nN (mn g)) q) + 0))), (4, .int (nI ((cntP (fun g => ¬ (tn g).toInt = 0) q) + 0))), (3, .int (nI ((cntP (fun g => (st g).toInt = 2) q) + 1))), (2, .int (nI ((cntP (fun g => (st g).toInt = 1) q) + 1))), (0, .ref k0), (1, .int 5)]) hx hb dX11_count_105 hl (k := 4) rfl (nI_add q 1) (by decide) rfl (fun ls hl => ?_)
                refine lv_goto (tgt := 13) hx hb dX11_count_108 (by decide) ?_
                have hl9 := lv_sub hl [0, 1, 2, 3, 4, 5, 6] rfl
                have e9_2 : nI (cntP (fun g => (st g).toInt = 1) (q + 1)) = (nI ((cntP (fun g => (st g).toInt = 1) q) + 1) : Int32) := by first | exact congrArg nI (cntP_y (P := fun g => (st g).toInt = 1) (show (st q).toInt = 1 by omega)) | exact congrArg nI (cntP_n0 (P := fun g => (st g).toInt = 1) (show ¬ (st q).toInt = 1 by omega))
                have e9_3 : nI (cntP (fun g => (st g).toInt = 2) (q + 1)) = (nI ((cntP (fun g => (st g).toInt = 2) q) + 1) : Int32) := by first | exact congrArg nI (cntP_y (P := fun g => (st g).toInt = 2) (show (st q).toInt = 2 by omega)) | exact congrArg nI (cntP_n0 (P := fun g => (st g).toInt = 2) (show ¬ (st q).toInt = 2 by omega))
                have e9_4 : nI (cntP (fun g => ¬ (tn g).toInt = 0) (q + 1)) = (nI ((cntP (fun g => ¬ (tn g).toInt = 0) q) + 0) : Int32) := by first | exact congrArg nI (cntP_y (P := fun g => ¬ (tn g).toInt = 0) (show ¬ (tn q).toInt = 0 by omega)) | exact congrArg nI (cntP_n0 (P := fun g => ¬ (tn g).toInt = 0) (show ¬ ¬ (tn q).toInt = 0 by omega))
                have e9_5 : nI (smP (lvF ft st tn) (fun g => nN (mn g)) (q + 1)) = (nI ((smP (lvF ft st tn) (fun g => nN (mn g)) q) + 0) : Int32) := by first | exact congrArg nI (smP_y (P := lvF ft st tn) (by assumption)) | exact congrArg nI (smP_n (P := lvF ft st tn) (by assumption))
                have hl9 : lv_has ls 7 [(6, .int (nI (q + 1))), (5, .int (nI (smP (lvF ft st tn) (fun g => nN (mn g)) (q + 1)))), (4, .int (nI (cntP (fun g => ¬ (tn g).toInt = 0) (q + 1)))), (3, .int (nI (cntP (fun g => (st g).toInt = 2) (q + 1)))), (2, .int (nI (cntP (fun g => (st g).toInt = 1) (q + 1)))), (0, .ref k0), (1, .int 5)] := by rw [e9_2]; rw [e9_3]; rw [e9_4]; rw [e9_5]; exact hl9
                exact ih_13 (q + 1) H locs ls (by omega) (by omega) hP hD hS hl9
              · have c_15 : q < ft ∧ (st q).toInt = 1 ∧ (tn q).toInt = 0 := zp_1 c_15
                refine lv_aload_n hx hb dX11_count_91 rfl (lv_at hl 5 rfl) ?_
                refine va_get (D := (dC, dI)) (ci := 9) (v := .ref (a 11)) (C := RX11) (T := TX11) (N := 55) hx hb hts inX11 hown hK hP 0 rfl rfl 11 (by decide) (hts _ mw_1170) (fun _ h9 => h9) rfl dX11_count_92 ?_
                refine lv_iload hx hb dX11_count_95 (lv_at hl 3 rfl) ?_
                refine z_iald hx hb hK hP 3 0 rfl rfl (e := q) rfl (by omega) (by omega) dX11_count_97 ?_
                refine zz_i (v := nI (nN (mn q))) ((hmw q (by assumption)).1) ?_
                refine lv_goto (tgt := 102) hx hb dX11_count_98 (by decide) ?_
                refine lv_iadd hx hb dX11_count_102 ?_
                refine zz_i (v := nI ((smP (lvF ft st tn) (fun g => nN (mn g)) q) + (nN (mn q)))) (nI_add (smP (lvF ft st tn) (fun g => nN (mn g)) q) (nN (mn q))) ?_
                refine lv_istore (lv' := [(5, .int (nI ((smP (lvF ft st tn) (fun g => nN (mn g)) q) + (nN (mn q))))), (4, .int (nI ((cntP (fun g => ¬ (tn g).toInt = 0) q) + 0))), (3, .int (nI ((cntP (fun g => (st g).toInt = 2) q) + 1))), (2, .int (nI ((cntP (fun g => (st g).toInt = 1) q) + 1))), (6, .int (nI q)), (0, .ref k0), (1, .int 5)]) hx hb dX11_count_103 hl (by decide) rfl (fun ls hl => ?_)
                refine lv_iinc (v := nI (q + 1)) (lv' := [(6, .int (nI (q + 1))), (5, .int (nI ((smP (lvF ft st tn) (fun g => nN (mn g)) q) + (nN (mn q))))), (4, .int (nI ((cntP (fun g => ¬ (tn g).toInt = 0) q) + 0))), (3, .int (nI ((cntP (fun g => (st g).toInt = 2) q) + 1))), (2, .int (nI ((cntP (fun g => (st g).toInt = 1) q) + 1))), (0, .ref k0), (1, .int 5)]) hx hb dX11_count_105 hl (k := 4) rfl (nI_add q 1) (by decide) rfl (fun ls hl => ?_)
                refine lv_goto (tgt := 13) hx hb dX11_count_108 (by decide) ?_
                have hl9 := lv_sub hl [0, 1, 2, 3, 4, 5, 6] rfl
                have e9_2 : nI (cntP (fun g => (st g).toInt = 1) (q + 1)) = (nI ((cntP (fun g => (st g).toInt = 1) q) + 1) : Int32) := by first | exact congrArg nI (cntP_y (P := fun g => (st g).toInt = 1) (show (st q).toInt = 1 by omega)) | exact congrArg nI (cntP_n0 (P := fun g => (st g).toInt = 1) (show ¬ (st q).toInt = 1 by omega))
                have e9_3 : nI (cntP (fun g => (st g).toInt = 2) (q + 1)) = (nI ((cntP (fun g => (st g).toInt = 2) q) + 1) : Int32) := by first | exact congrArg nI (cntP_y (P := fun g => (st g).toInt = 2) (show (st q).toInt = 2 by omega)) | exact congrArg nI (cntP_n0 (P := fun g => (st g).toInt = 2) (show ¬ (st q).toInt = 2 by omega))
                have e9_4 : nI (cntP (fun g => ¬ (tn g).toInt = 0) (q + 1)) = (nI ((cntP (fun g => ¬ (tn g).toInt = 0) q) + 0) : Int32) := by first | exact congrArg nI (cntP_y (P := fun g => ¬ (tn g).toInt = 0) (show ¬ (tn q).toInt = 0 by omega)) | exact congrArg nI (cntP_n0 (P := fun g => ¬ (tn g).toInt = 0) (show ¬ ¬ (tn q).toInt = 0 by omega))
                have e9_5 : nI (smP (lvF ft st tn) (fun g => nN (mn g)) (q + 1)) = (nI ((smP (lvF ft st tn) (fun g => nN (mn g)) q) + (nN (mn q))) : Int32) := by first | exact congrArg nI (smP_y (P := lvF ft st tn) (by assumption)) | exact congrArg nI (smP_n (P := lvF ft st tn) (by assumption))
                have hl9 : lv_has ls 7 [(6, .int (nI (q + 1))), (5, .int (nI (smP (lvF ft st tn) (fun g => nN (mn g)) (q + 1)))), (4, .int (nI (cntP (fun g => ¬ (tn g).toInt = 0) (q + 1)))), (3, .int (nI (cntP (fun g => (st g).toInt = 2) (q + 1)))), (2, .int (nI (cntP (fun g => (st g).toInt = 1) (q + 1)))), (0, .ref k0), (1, .int 5)] := by rw [e9_2]; rw [e9_3]; rw [e9_4]; rw [e9_5]; exact hl9
                exact ih_13 (q + 1) H locs ls (by omega) (by omega) hP hD hS hl9
            · have c_14 : ¬ (tn q).toInt = 0 := zc_ne rfl (by decide) c_14
              refine lv_iconst (v := 1) hx hb dX11_count_72 (by decide) ?_
              refine lv_goto (tgt := 77) hx hb dX11_count_73 (by decide) ?_
              refine lv_iadd hx hb dX11_count_77 ?_
              refine zz_i (v := nI ((cntP (fun g => ¬ (tn g).toInt = 0) q) + 1)) (nI_add (cntP (fun g => ¬ (tn g).toInt = 0) q) 1) ?_
              refine lv_istore (lv' := [(4, .int (nI ((cntP (fun g => ¬ (tn g).toInt = 0) q) + 1))), (3, .int (nI ((cntP (fun g => (st g).toInt = 2) q) + 1))), (2, .int (nI ((cntP (fun g => (st g).toInt = 1) q) + 1))), (6, .int (nI q)), (5, .int (nI (smP (lvF ft st tn) (fun g => nN (mn g)) q))), (0, .ref k0), (1, .int 5)]) hx hb dX11_count_78 hl (by decide) rfl (fun ls hl => ?_)
              refine lv_iload hx hb dX11_count_80 (lv_at hl 4 rfl) ?_
              refine lv_aload_n hx hb dX11_count_82 rfl (lv_at hl 5 rfl) ?_
              refine lv_iload hx hb dX11_count_83 (lv_at hl 3 rfl) ?_
              have hPc := hP.sub (ws' := [(om k0 a I0 J0), (oa (a 5) cI 201 st), (oa (a 6) cZ 201 tn)]) [0, 1, 2] rfl
              have hDc := hD.sub (ws' := [(om k0 a I0 J0), (oa (a 5) cI 201 st), (oa (a 6) cZ 201 tn)]) [0, 1, 2] (by decide) rfl
              have hFc := va_free (wc := [(om k0 a I0 J0), (oa (a 5) cI 201 st), (oa (a 6) cZ 201 tn)]) hD hS hA [0, 1, 2] rfl
              refine zcall (st1 := [.int (pI (q < ft ∧ (st q).toInt = 1 ∧ (tn q).toInt = 0)), .int (nI (smP (lvF ft st tn) (fun g => nN (mn g)) q))]) (va_runV (As := [.int (nI q)]) (rest := [.int (nI (smP (lvF ft st tn) (fun g => nN (mn g)) q))]) ⟨hx, hb, hml, hown, hts⟩ (k_M_is_n l dC dI cI cZ cF H.size k0 a I0 J0 q ft st tn (by assumption) (by omega) (by omega)) (cwV 1 hts (zz_gV mw_1447 mw_1449 mw_56 mw_110 mc_yX11_is) rfl rfl rfl (by decide +kernel) ⟨Nat.le_of_ble_eq_true rfl, Nat.le_of_ble_eq_true rfl⟩) (zPV2 (q0 := 0) (ci := 9) hPc hDc hK hXN rfl rfl) rfl rfl hl.1 rfl (lv_room (Nat.le_of_ble_eq_true rfl)) dX11_count_85 ⟨Nat.le_of_ble_eq_true rfl, Nat.le_of_ble_eq_true rfl⟩) hS hFc hFc rfl (fun t H1 locs ht hB hk1 hS => ?_)
              obtain ⟨hP1, hD1⟩ := hB
              rw [ht] at hP1
              obtain ⟨hP, hD⟩ := va_join (wr := [(oa (a 11) cI 201 mn)]) (w1 := [(om k0 a I0 J0), (oa (a 5) cI 201 st), (oa (a 6) cZ 201 tn)]) hP hD [0, 1, 2] [3] rfl rfl (by decide) (by decide) hk1 hFc hP1 hD1
              clear hk1 hPc hDc hFc hP1 hD1 ht
              generalize H1 = H at hP hS ⊢
              have hP := hP.sub (ws' := [(om k0 a I0 J0), (oa (a 5) cI 201 st), (oa (a 6) cZ 201 tn), (oa (a 11) cI 201 mn)]) [1, 2, 3, 0] rfl
              have hD := hD.sub (ws' := [(om k0 a I0 J0), (oa (a 5) cI 201 st), (oa (a 6) cZ 201 tn), (oa (a 11) cI 201 mn)]) [1, 2, 3, 0] (by decide) rfl
              have hP : va_P (dC, dI) classes [(om k0 a I0 J0), (oa (a 5) cI 201 st), (oa (a 6) cZ 201 tn), (oa (a 11) cI 201 mn)] H := hP
              have hD : va_D A [(om k0 a I0 J0), (oa (a 5) cI 201 st), (oa (a 6) cZ 201 tn), (oa (a 11) cI 201 mn)] := hD
              refine lv_if_eq (tgt := 101) hx hb dX11_count_88 (by decide) (fun c_16 => ?_) (fun c_16 => ?_)
              · have c_16 : ¬ (q < ft ∧ (st q).toInt = 1 ∧ (tn q).toInt = 0) := zp_0 c_16
                refine lv_iconst (v := 0) hx hb dX11_count_101 (by decide) ?_
                refine lv_iadd hx hb dX11_count_102 ?_
                refine zz_i (v := nI ((smP (lvF ft st tn) (fun g => nN (mn g)) q) + 0)) (nI_add (smP (lvF ft st tn) (fun g => nN (mn g)) q) 0) ?_
                refine lv_istore (lv' := [(5, .int (nI ((smP (lvF ft st tn) (fun g => nN (mn g)) q) + 0))), (4, .int (nI ((cntP (fun g => ¬ (tn g).toInt = 0) q) + 1))), (3, .int (nI ((cntP (fun g => (st g).toInt = 2) q) + 1))), (2, .int (nI ((cntP (fun g => (st g).toInt = 1) q) + 1))), (6, .int (nI q)), (0, .ref k0), (1, .int 5)]) hx hb dX11_count_103 hl (by decide) rfl (fun ls hl => ?_)
                refine lv_iinc (v := nI (q + 1)) (lv' := [(6, .int (nI (q + 1))), (5, .int (nI ((smP (lvF ft st tn) (fun g => nN (mn g)) q) + 0))), (4, .int (nI ((cntP (fun g => ¬ (tn g).toInt = 0) q) + 1))), (3, .int (nI ((cntP (fun g => (st g).toInt = 2) q) + 1))), (2, .int (nI ((cntP (fun g => (st g).toInt = 1) q) + 1))), (0, .ref k0), (1, .int 5)]) hx hb dX11_count_105 hl (k := 4) rfl (nI_add q 1) (by decide) rfl (fun ls hl => ?_)
                refine lv_goto (tgt := 13) hx hb dX11_count_108 (by decide) ?_
                have hl9 := lv_sub hl [0, 1, 2, 3, 4, 5, 6] rfl
                have e9_2 : nI (cntP (fun g => (st g).toInt = 1) (q + 1)) = (nI ((cntP (fun g => (st g).toInt = 1) q) + 1) : Int32) := by first | exact congrArg nI (cntP_y (P := fun g => (st g).toInt = 1) (show (st q).toInt = 1 by omega)) | exact congrArg nI (cntP_n0 (P := fun g => (st g).toInt = 1) (show ¬ (st q).toInt = 1 by omega))
                have e9_3 : nI (cntP (fun g => (st g).toInt = 2) (q + 1)) = (nI ((cntP (fun g => (st g).toInt = 2) q) + 1) : Int32) := by first | exact congrArg nI (cntP_y (P := fun g => (st g).toInt = 2) (show (st q).toInt = 2 by omega)) | exact congrArg nI (cntP_n0 (P := fun g => (st g).toInt = 2) (show ¬ (st q).toInt = 2 by omega))
                have e9_4 : nI (cntP (fun g => ¬ (tn g).toInt = 0) (q + 1)) = (nI ((cntP (fun g => ¬ (tn g).toInt = 0) q) + 1) : Int32) := by first | exact congrArg nI (cntP_y (P := fun g => ¬ (tn g).toInt = 0) (show ¬ (tn q).toInt = 0 by omega)) | exact congrArg nI (cntP_n0 (P := fun g => ¬ (tn g).toInt = 0) (show ¬ ¬ (tn q).toInt = 0 by omega))
                have e9_5 : nI (smP (lvF ft st tn) (fun g => nN (mn g)) (q + 1)) = (nI ((smP (lvF ft st tn) (fun g => nN (mn g)) q) + 0) : Int32) := by first | exact congrArg nI (smP_y (P := lvF ft st tn) (by assumption)) | exact congrArg nI (smP_n (P := lvF ft st tn) (by assumption))
                have hl9 : lv_has ls 7 [(6, .int (nI (q + 1))), (5, .int (nI (smP (lvF ft st tn) (fun g => nN (mn g)) (q + 1)))), (4, .int (nI (cntP (fun g => ¬ (tn g).toInt = 0) (q + 1)))), (3, .int (nI (cntP (fun g => (st g).toInt = 2) (q + 1)))), (2, .int (nI (cntP (fun g => (st g).toInt = 1) (q + 1)))), (0, .ref k0), (1, .int 5)] := by rw [e9_2]; rw [e9_3]; rw [e9_4]; rw [e9_5]; exact hl9
                exact ih_13 (q + 1) H locs ls (by omega) (by omega) hP hD hS hl9
              · have c_16 : q < ft ∧ (st q).toInt = 1 ∧ (tn q).toInt = 0 := zp_1 c_16
                refine lv_aload_n hx hb dX11_count_91 rfl (lv_at hl 5 rfl) ?_
                refine va_get (D := (dC, dI)) (ci := 9) (v := .ref (a 11)) (C := RX11) (T := TX11) (N := 55) hx hb hts inX11 hown hK hP 0 rfl rfl 11 (by decide) (hts _ mw_1170) (fun _ h9 => h9) rfl dX11_count_92 ?_
                refine lv_iload hx hb dX11_count_95 (lv_at hl 3 rfl) ?_
                refine z_iald hx hb hK hP 3 0 rfl rfl (e := q) rfl (by omega) (by omega) dX11_count_97 ?_
                refine zz_i (v := nI (nN (mn q))) ((hmw q (by assumption)).1) ?_
                refine lv_goto (tgt := 102) hx hb dX11_count_98 (by decide) ?_
                refine lv_iadd hx hb dX11_count_102 ?_
                refine zz_i (v := nI ((smP (lvF ft st tn) (fun g => nN (mn g)) q) + (nN (mn q)))) (nI_add (smP (lvF ft st tn) (fun g => nN (mn g)) q) (nN (mn q))) ?_
                refine lv_istore (lv' := [(5, .int (nI ((smP (lvF ft st tn) (fun g => nN (mn g)) q) + (nN (mn q))))), (4, .int (nI ((cntP (fun g => ¬ (tn g).toInt = 0) q) + 1))), (3, .int (nI ((cntP (fun g => (st g).toInt = 2) q) + 1))), (2, .int (nI ((cntP (fun g => (st g).toInt = 1) q) + 1))), (6, .int (nI q)), (0, .ref k0), (1, .int 5)]) hx hb dX11_count_103 hl (by decide) rfl (fun ls hl => ?_)
                refine lv_iinc (v := nI (q + 1)) (lv' := [(6, .int (nI (q + 1))), (5, .int (nI ((smP (lvF ft st tn) (fun g => nN (mn g)) q) + (nN (mn q))))), (4, .int (nI ((cntP (fun g => ¬ (tn g).toInt = 0) q) + 1))), (3, .int (nI ((cntP (fun g => (st g).toInt = 2) q) + 1))), (2, .int (nI ((cntP (fun g => (st g).toInt = 1) q) + 1))), (0, .ref k0), (1, .int 5)]) hx hb dX11_count_105 hl (k := 4) rfl (nI_add q 1) (by decide) rfl (fun ls hl => ?_)
                refine lv_goto (tgt := 13) hx hb dX11_count_108 (by decide) ?_
                have hl9 := lv_sub hl [0, 1, 2, 3, 4, 5, 6] rfl
                have e9_2 : nI (cntP (fun g => (st g).toInt = 1) (q + 1)) = (nI ((cntP (fun g => (st g).toInt = 1) q) + 1) : Int32) := by first | exact congrArg nI (cntP_y (P := fun g => (st g).toInt = 1) (show (st q).toInt = 1 by omega)) | exact congrArg nI (cntP_n0 (P := fun g => (st g).toInt = 1) (show ¬ (st q).toInt = 1 by omega))
                have e9_3 : nI (cntP (fun g => (st g).toInt = 2) (q + 1)) = (nI ((cntP (fun g => (st g).toInt = 2) q) + 1) : Int32) := by first | exact congrArg nI (cntP_y (P := fun g => (st g).toInt = 2) (show (st q).toInt = 2 by omega)) | exact congrArg nI (cntP_n0 (P := fun g => (st g).toInt = 2) (show ¬ (st q).toInt = 2 by omega))
                have e9_4 : nI (cntP (fun g => ¬ (tn g).toInt = 0) (q + 1)) = (nI ((cntP (fun g => ¬ (tn g).toInt = 0) q) + 1) : Int32) := by first | exact congrArg nI (cntP_y (P := fun g => ¬ (tn g).toInt = 0) (show ¬ (tn q).toInt = 0 by omega)) | exact congrArg nI (cntP_n0 (P := fun g => ¬ (tn g).toInt = 0) (show ¬ ¬ (tn q).toInt = 0 by omega))
                have e9_5 : nI (smP (lvF ft st tn) (fun g => nN (mn g)) (q + 1)) = (nI ((smP (lvF ft st tn) (fun g => nN (mn g)) q) + (nN (mn q))) : Int32) := by first | exact congrArg nI (smP_y (P := lvF ft st tn) (by assumption)) | exact congrArg nI (smP_n (P := lvF ft st tn) (by assumption))
                have hl9 : lv_has ls 7 [(6, .int (nI (q + 1))), (5, .int (nI (smP (lvF ft st tn) (fun g => nN (mn g)) (q + 1)))), (4, .int (nI (cntP (fun g => ¬ (tn g).toInt = 0) (q + 1)))), (3, .int (nI (cntP (fun g => (st g).toInt = 2) (q + 1)))), (2, .int (nI (cntP (fun g => (st g).toInt = 1) (q + 1)))), (0, .ref k0), (1, .int 5)] := by rw [e9_2]; rw [e9_3]; rw [e9_4]; rw [e9_5]; exact hl9
                exact ih_13 (q + 1) H locs ls (by omega) (by omega) hP hD hS hl9
  have e9_2 : nI (cntP (fun g => (st g).toInt = 1) 0) = (0 : Int32) := by rfl
  have e9_3 : nI (cntP (fun g => (st g).toInt = 2) 0) = (0 : Int32) := by rfl
  have e9_4 : nI (cntP (fun g => ¬ (tn g).toInt = 0) 0) = (0 : Int32) := by rfl
  have e9_5 : nI (smP (lvF ft st tn) (fun g => nN (mn g)) 0) = (0 : Int32) := by rfl
  have hl9 : lv_has ls 7 [(6, .int (nI 0)), (5, .int (nI (smP (lvF ft st tn) (fun g => nN (mn g)) 0))), (4, .int (nI (cntP (fun g => ¬ (tn g).toInt = 0) 0))), (3, .int (nI (cntP (fun g => (st g).toInt = 2) 0))), (2, .int (nI (cntP (fun g => (st g).toInt = 1) 0))), (0, .ref k0), (1, .int 5)] := by rw [e9_2]; rw [e9_3]; rw [e9_4]; rw [e9_5]; exact lv_sub hl [0, 1, 2, 3, 4, 5, 6] rfl
  exact hl_13 _ 0 s.heap [] ls (Nat.lt_succ_self _) (by omega) hP hD hS hl9
set_option maxHeartbeats 4000000 in
set_option maxRecDepth 100000 in
theorem k_M_count_6 (l : Launch) (dC : Nat → ClassId) (dI : Nat → Nat → Nat) (cI cZ cF : ClassId) (sz : Nat) (k0 : Nat) (a : Nat → Nat) (I0 : Nat → Int32) (J0 : Nat → Int64) (ft : Nat) (st : Nat → Int32) (tn : Nat → Int32) (mn : Nat → Int32) (hft : I0 0 = nI ft) (h200 : ft ≤ 200) (hmw : ∀ q, lvF ft st tn q → mn q = nI (nN (mn q)) ∧ nN (mn q) ≤ 40) : Met l yX11_count (.code yX11_count cX11_count 7 (some .int) :: ws0) ({ frames := 2, cells := 0, slots := 0, locals := 42 } : Room) (va_Pc [.ref k0, .int 6] (zPre (dC, dI) classes (zTy cI cZ cF) [(om k0 a I0 J0), (oa (a 5) cI 201 st), (oa (a 6) cZ 201 tn), (oa (a 11) cI 201 mn)] sz zXN)) (zQ (some (.int (I0 20))) (fun t => va_P (dC, dI) classes [(om k0 a I0 J0), (oa (a 5) cI 201 st), (oa (a 6) cZ 201 tn), (oa (a 11) cI 201 mn)] t.heap ∧ va_D (va_A [(om k0 a I0 J0), (oa (a 5) cI 201 st), (oa (a 6) cZ 201 tn), (oa (a 11) cI 201 mn)] sz) [(om k0 a I0 J0), (oa (a 5) cI 201 st), (oa (a 6) cZ 201 tn), (oa (a 11) cI 201 mn)]) (va_A [(om k0 a I0 J0), (oa (a 5) cI 201 st), (oa (a 6) cZ 201 tn), (oa (a 11) cI 201 mn)] sz)) 0 0 (va_A [(om k0 a I0 J0), (oa (a 5) cI 201 st), (oa (a 6) cZ 201 tn), (oa (a 11) cI 201 mn)] sz) := by
  refine Met.ofW (cc := cX11_count) (maxL := 7) (ret := (some .int)) (by decide) rfl ?_
  intro p e s m args below meth c s₁ B hml hv
  obtain ⟨rfl, hsz, hP, hK, hD0, hXN⟩ := hv
  have hx := B.exec
  have hb := B.bytes
  have hr := B.returns
  have hts0 := atoms_spec (ws := .code yX11_count cX11_count 7 (some .int) :: ws0) B.pre
  have hts : ∀ w9 ∈ ws0, w9.before ([.ref k0, .int 6] : List Value).toArray s = true := fun w9 h => hts0 w9 (List.mem_cons_of_mem _ h)
  have hown : s.vm.findClass "ScaleShopModel" = some m.cls := findClass_of_methodNamed B.named
  have hlocks := B.notSynchronized
  subst hsz
  have hD := hD0.self (sz := s.heap.size)
  clear hD0
  generalize hAe : va_A [(om k0 a I0 J0), (oa (a 5) cI 201 st), (oa (a 6) cZ 201 tn), (oa (a 11) cI 201 mn)] s.heap.size = A at hD ⊢
  have hA : ∀ q : Nat, s.heap.size ≤ q → A q := fun q h => by rw [← hAe]; exact Or.inr h
  clear hAe
  have hS : va_S A s.heap s.heap [] := va_S.rf
  have hP : va_P (dC, dI) classes [(om k0 a I0 J0), (oa (a 5) cI 201 st), (oa (a 6) cZ 201 tn), (oa (a 11) cI 201 mn)] s.heap := hP
  obtain ⟨Q9, hQ9⟩ : ∃ Q9 : State → Prop, Q9 = MQ below (zQ (some (.int (I0 20))) (fun t => va_P (dC, dI) classes [(om k0 a I0 J0), (oa (a 5) cI 201 st), (oa (a 6) cZ 201 tn), (oa (a 11) cI 201 mn)] t.heap ∧ va_D A [(om k0 a I0 J0), (oa (a 5) cI 201 st), (oa (a 6) cZ 201 tn), (oa (a 11) cI 201 mn)]) A) ([.ref k0, .int 6] : List Value).toArray s 0 0 A := ⟨_, rfl⟩
  rw [← hQ9]
  have hl := lv_entry ([.ref k0, .int 6]) (n := 7) (Nat.le_of_ble_eq_true rfl)
  rw [lg_entry_eq]
  generalize (lg_sl ([.ref k0, .int 6]) ++ List.replicate (7 - (lg_sl ([.ref k0, .int 6])).length) Slot.unset).toArray = ls at hl ⊢
  have hl : lv_has ls 7 [(0, .ref k0), (1, .int 6)] := hl
  refine lv_iconst (v := 0) hx hb dX11_count_0 (by decide) ?_
  refine lv_istore_n (lv' := [(2, .int 0), (0, .ref k0), (1, .int 6)]) hx hb dX11_count_1 rfl hl (by decide) rfl (fun ls hl => ?_)
  refine lv_iconst (v := 0) hx hb dX11_count_2 (by decide) ?_
  refine lv_istore_n (lv' := [(3, .int 0), (2, .int 0), (0, .ref k0), (1, .int 6)]) hx hb dX11_count_3 rfl hl (by decide) rfl (fun ls hl => ?_)
  refine lv_iconst (v := 0) hx hb dX11_count_4 (by decide) ?_
  refine lv_istore (lv' := [(4, .int 0), (3, .int 0), (2, .int 0), (0, .ref k0), (1, .int 6)]) hx hb dX11_count_5 hl (by decide) rfl (fun ls hl => ?_)
  refine lv_iconst (v := 0) hx hb dX11_count_7 (by decide) ?_
  refine lv_istore (lv' := [(5, .int 0), (4, .int 0), (3, .int 0), (2, .int 0), (0, .ref k0), (1, .int 6)]) hx hb dX11_count_8 hl (by decide) rfl (fun ls hl => ?_)
  refine lv_iconst (v := 0) hx hb dX11_count_10 (by decide) ?_
  refine lv_istore (lv' := [(6, .int 0), (5, .int 0), (4, .int 0), (3, .int 0), (2, .int 0), (0, .ref k0), (1, .int 6)]) hx hb dX11_count_11 hl (by decide) rfl (fun ls hl => ?_)
  have hl_13 : ∀ (n9 : Nat) (q : Nat) (H : Heap) (locs : List Loc) (ls : Array Slot), ft - q < n9 → (q ≤ ft) → va_P (dC, dI) classes [(om k0 a I0 J0), (oa (a 5) cI 201 st), (oa (a 6) cZ 201 tn), (oa (a 11) cI 201 mn)] H → va_D A [(om k0 a I0 J0), (oa (a 5) cI 201 st), (oa (a 6) cZ 201 tn), (oa (a 11) cI 201 mn)] → va_S A s.heap H locs → lv_has ls 7 [(6, .int (nI q)), (5, .int (nI (smP (lvF ft st tn) (fun g => nN (mn g)) q))), (4, .int (nI (cntP (fun g => ¬ (tn g).toInt = 0) q))), (3, .int (nI (cntP (fun g => (st g).toInt = 2) q))), (2, .int (nI (cntP (fun g => (st g).toInt = 1) q))), (0, .ref k0), (1, .int 6)] → W p l e ((headSpec (.code yX11_count cX11_count 7 (some .int) :: ws0) ({ frames := 2, cells := 0, slots := 0, locals := 42 } : Room)).room) s m ([.ref k0, .int 6] : List Value).toArray below meth c H locs 0 0 Q9 (F0 m 13 ls []) := by
    intro n9
    induction n9 with
    | zero => intro q H locs ls hm; exact absurd hm (Nat.not_lt_zero _)
    | succ n9 ih_13 =>
      intro q H locs ls hm hq hP hD hS hl
      have hc2 := cntP_b (fun g => (st g).toInt = 1) q
      have hc3 := cntP_b (fun g => (st g).toInt = 2) q
      have hc4 := cntP_b (fun g => ¬ (tn g).toInt = 0) q
      have hc5 := smP_b (P := lvF ft st tn) (c := fun g => nN (mn g)) q (fun j _ h => (hmw j h).2)
      refine lv_iload hx hb dX11_count_13 (lv_at hl 0 rfl) ?_
      refine lv_aload_n hx hb dX11_count_15 rfl (lv_at hl 5 rfl) ?_
      refine va_get (D := (dC, dI)) (ci := 9) (v := .int (I0 0)) (C := RX11) (T := TX11) (N := 55) hx hb hts inX11 hown hK hP 0 rfl rfl 0 (by decide) (hts _ mw_1159) (fun _ h9 => h9) rfl dX11_count_16 ?_
      refine zz_i (v := nI ft) (hft) ?_
      refine lv_icmp_ge (tgt := 111) hx hb dX11_count_19 (by decide) (fun c_1 => ?_) (fun c_1 => ?_)
      · have c_1 : ((ft : Nat) : Int) ≤ ((q : Nat) : Int) := zc_le (nI_toInt (by omega)) (nI_toInt (by omega)) c_1
        refine lv_iload_n hx hb dX11_count_111 rfl (lv_at hl 6 rfl) ?_
        refine lv_tableIn (tgt := 180) (off := 68) hx hb dX11_count_112 (by decide) (by decide) (by decide) (by decide) ?_
        refine lv_aload_n hx hb dX11_count_180 rfl (lv_at hl 5 rfl) ?_
        refine va_get (D := (dC, dI)) (ci := 9) (v := .int (I0 20)) (C := RX11) (T := TX11) (N := 55) hx hb hts inX11 hown hK hP 0 rfl rfl 20 (by decide) (hts _ mw_1179) (fun _ h9 => h9) rfl dX11_count_181 ?_
        have hP9 := hP.sub (ws' := [(om k0 a I0 J0), (oa (a 5) cI 201 st), (oa (a 6) cZ 201 tn), (oa (a 11) cI 201 mn)]) [0, 1, 2, 3] rfl
        have hD9 := hD.sub (ws' := [(om k0 a I0 J0), (oa (a 5) cI 201 st), (oa (a 6) cZ 201 tn), (oa (a 11) cI 201 mn)]) [0, 1, 2, 3] (by decide) rfl
        rw [hQ9]
        exact W.iret (v := I0 20) hx hb hr (fun t ht hW => ⟨⟨rfl, by rw [ht]; exact hP9, hD9⟩, hS.F ht⟩) hS.2.2 dX11_count_184
      · have c_1 : ((q : Nat) : Int) < ((ft : Nat) : Int) := zc_nle (nI_toInt (by omega)) (nI_toInt (by omega)) c_1
        refine lv_iload_n hx hb dX11_count_22 rfl (lv_at hl 4 rfl) ?_
        refine lv_aload_n hx hb dX11_count_23 rfl (lv_at hl 5 rfl) ?_
        refine va_get (D := (dC, dI)) (ci := 9) (v := .ref (a 5)) (C := RX11) (T := TX11) (N := 55) hx hb hts inX11 hown hK hP 0 rfl rfl 5 (by decide) (hts _ mw_1164) (fun _ h9 => h9) rfl dX11_count_24 ?_
        refine lv_iload hx hb dX11_count_27 (lv_at hl 0 rfl) ?_
        refine z_iald hx hb hK hP 1 0 rfl rfl (e := q) rfl (by omega) (by omega) dX11_count_29 ?_
        refine lv_iconst (v := 1) hx hb dX11_count_30 (by decide) ?_
        refine lv_icmp_ne (tgt := 38) hx hb dX11_count_31 (by decide) (fun c_2 => ?_) (fun c_2 => ?_)
        · have c_2 : ¬ (st q).toInt = 1 := zc_ne rfl (by decide) c_2
          refine lv_iconst (v := 0) hx hb dX11_count_38 (by decide) ?_
          refine lv_iadd hx hb dX11_count_39 ?_
          refine zz_i (v := nI ((cntP (fun g => (st g).toInt = 1) q) + 0)) (nI_add (cntP (fun g => (st g).toInt = 1) q) 0) ?_
          refine lv_istore_n (lv' := [(2, .int (nI ((cntP (fun g => (st g).toInt = 1) q) + 0))), (6, .int (nI q)), (5, .int (nI (smP (lvF ft st tn) (fun g => nN (mn g)) q))), (4, .int (nI (cntP (fun g => ¬ (tn g).toInt = 0) q))), (3, .int (nI (cntP (fun g => (st g).toInt = 2) q))), (0, .ref k0), (1, .int 6)]) hx hb dX11_count_40 rfl hl (by decide) rfl (fun ls hl => ?_)
          refine lv_iload_n hx hb dX11_count_41 rfl (lv_at hl 4 rfl) ?_
          refine lv_aload_n hx hb dX11_count_42 rfl (lv_at hl 5 rfl) ?_
          refine va_get (D := (dC, dI)) (ci := 9) (v := .ref (a 5)) (C := RX11) (T := TX11) (N := 55) hx hb hts inX11 hown hK hP 0 rfl rfl 5 (by decide) (hts _ mw_1164) (fun _ h9 => h9) rfl dX11_count_43 ?_
          refine lv_iload hx hb dX11_count_46 (lv_at hl 1 rfl) ?_
          refine z_iald hx hb hK hP 1 0 rfl rfl (e := q) rfl (by omega) (by omega) dX11_count_48 ?_
          refine lv_iconst (v := 2) hx hb dX11_count_49 (by decide) ?_
          refine lv_icmp_ne (tgt := 57) hx hb dX11_count_50 (by decide) (fun c_3 => ?_) (fun c_3 => ?_)
          · have c_3 : ¬ (st q).toInt = 2 := zc_ne rfl (by decide) c_3
            refine lv_iconst (v := 0) hx hb dX11_count_57 (by decide) ?_
            refine lv_iadd hx hb dX11_count_58 ?_
            refine zz_i (v := nI ((cntP (fun g => (st g).toInt = 2) q) + 0)) (nI_add (cntP (fun g => (st g).toInt = 2) q) 0) ?_
            refine lv_istore_n (lv' := [(3, .int (nI ((cntP (fun g => (st g).toInt = 2) q) + 0))), (2, .int (nI ((cntP (fun g => (st g).toInt = 1) q) + 0))), (6, .int (nI q)), (5, .int (nI (smP (lvF ft st tn) (fun g => nN (mn g)) q))), (4, .int (nI (cntP (fun g => ¬ (tn g).toInt = 0) q))), (0, .ref k0), (1, .int 6)]) hx hb dX11_count_59 rfl hl (by decide) rfl (fun ls hl => ?_)
            refine lv_iload hx hb dX11_count_60 (lv_at hl 4 rfl) ?_
            refine lv_aload_n hx hb dX11_count_62 rfl (lv_at hl 5 rfl) ?_
            refine va_get (D := (dC, dI)) (ci := 9) (v := .ref (a 6)) (C := RX11) (T := TX11) (N := 55) hx hb hts inX11 hown hK hP 0 rfl rfl 6 (by decide) (hts _ mw_1165) (fun _ h9 => h9) rfl dX11_count_63 ?_
            refine lv_iload hx hb dX11_count_66 (lv_at hl 2 rfl) ?_
            refine z_zald hx hb hK hP 2 1 rfl rfl (e := q) rfl (by omega) (by omega) dX11_count_68 ?_
            refine lv_if_eq (tgt := 76) hx hb dX11_count_69 (by decide) (fun c_4 => ?_) (fun c_4 => ?_)
            · have c_4 : (tn q).toInt = 0 := zc_eq rfl (by decide) c_4
              refine lv_iconst (v := 0) hx hb dX11_count_76 (by decide) ?_
              refine lv_iadd hx hb dX11_count_77 ?_
              refine zz_i (v := nI ((cntP (fun g => ¬ (tn g).toInt = 0) q) + 0)) (nI_add (cntP (fun g => ¬ (tn g).toInt = 0) q) 0) ?_
              refine lv_istore (lv' := [(4, .int (nI ((cntP (fun g => ¬ (tn g).toInt = 0) q) + 0))), (3, .int (nI ((cntP (fun g => (st g).toInt = 2) q) + 0))), (2, .int (nI ((cntP (fun g => (st g).toInt = 1) q) + 0))), (6, .int (nI q)), (5, .int (nI (smP (lvF ft st tn) (fun g => nN (mn g)) q))), (0, .ref k0), (1, .int 6)]) hx hb dX11_count_78 hl (by decide) rfl (fun ls hl => ?_)
              refine lv_iload hx hb dX11_count_80 (lv_at hl 4 rfl) ?_
              refine lv_aload_n hx hb dX11_count_82 rfl (lv_at hl 5 rfl) ?_
              refine lv_iload hx hb dX11_count_83 (lv_at hl 3 rfl) ?_
              have hPc := hP.sub (ws' := [(om k0 a I0 J0), (oa (a 5) cI 201 st), (oa (a 6) cZ 201 tn)]) [0, 1, 2] rfl
              have hDc := hD.sub (ws' := [(om k0 a I0 J0), (oa (a 5) cI 201 st), (oa (a 6) cZ 201 tn)]) [0, 1, 2] (by decide) rfl
              have hFc := va_free (wc := [(om k0 a I0 J0), (oa (a 5) cI 201 st), (oa (a 6) cZ 201 tn)]) hD hS hA [0, 1, 2] rfl
              refine zcall (st1 := [.int (pI (q < ft ∧ (st q).toInt = 1 ∧ (tn q).toInt = 0)), .int (nI (smP (lvF ft st tn) (fun g => nN (mn g)) q))]) (va_runV (As := [.int (nI q)]) (rest := [.int (nI (smP (lvF ft st tn) (fun g => nN (mn g)) q))]) ⟨hx, hb, hml, hown, hts⟩ (k_M_is_n l dC dI cI cZ cF H.size k0 a I0 J0 q ft st tn (by assumption) (by omega) (by omega)) (cwV 1 hts (zz_gV mw_1447 mw_1449 mw_56 mw_110 mc_yX11_is) rfl rfl rfl (by decide +kernel) ⟨Nat.le_of_ble_eq_true rfl, Nat.le_of_ble_eq_true rfl⟩) (zPV2 (q0 := 0) (ci := 9) hPc hDc hK hXN rfl rfl) rfl rfl hl.1 rfl (lv_room (Nat.le_of_ble_eq_true rfl)) dX11_count_85 ⟨Nat.le_of_ble_eq_true rfl, Nat.le_of_ble_eq_true rfl⟩) hS hFc hFc rfl (fun t H1 locs ht hB hk1 hS => ?_)
              obtain ⟨hP1, hD1⟩ := hB
              rw [ht] at hP1
              obtain ⟨hP, hD⟩ := va_join (wr := [(oa (a 11) cI 201 mn)]) (w1 := [(om k0 a I0 J0), (oa (a 5) cI 201 st), (oa (a 6) cZ 201 tn)]) hP hD [0, 1, 2] [3] rfl rfl (by decide) (by decide) hk1 hFc hP1 hD1
              clear hk1 hPc hDc hFc hP1 hD1 ht
              generalize H1 = H at hP hS ⊢
              have hP := hP.sub (ws' := [(om k0 a I0 J0), (oa (a 5) cI 201 st), (oa (a 6) cZ 201 tn), (oa (a 11) cI 201 mn)]) [1, 2, 3, 0] rfl
              have hD := hD.sub (ws' := [(om k0 a I0 J0), (oa (a 5) cI 201 st), (oa (a 6) cZ 201 tn), (oa (a 11) cI 201 mn)]) [1, 2, 3, 0] (by decide) rfl
              have hP : va_P (dC, dI) classes [(om k0 a I0 J0), (oa (a 5) cI 201 st), (oa (a 6) cZ 201 tn), (oa (a 11) cI 201 mn)] H := hP
              have hD : va_D A [(om k0 a I0 J0), (oa (a 5) cI 201 st), (oa (a 6) cZ 201 tn), (oa (a 11) cI 201 mn)] := hD
              refine lv_if_eq (tgt := 101) hx hb dX11_count_88 (by decide) (fun c_5 => ?_) (fun c_5 => ?_)
              · have c_5 : ¬ (q < ft ∧ (st q).toInt = 1 ∧ (tn q).toInt = 0) := zp_0 c_5
                refine lv_iconst (v := 0) hx hb dX11_count_101 (by decide) ?_
                refine lv_iadd hx hb dX11_count_102 ?_
                refine zz_i (v := nI ((smP (lvF ft st tn) (fun g => nN (mn g)) q) + 0)) (nI_add (smP (lvF ft st tn) (fun g => nN (mn g)) q) 0) ?_
                refine lv_istore (lv' := [(5, .int (nI ((smP (lvF ft st tn) (fun g => nN (mn g)) q) + 0))), (4, .int (nI ((cntP (fun g => ¬ (tn g).toInt = 0) q) + 0))), (3, .int (nI ((cntP (fun g => (st g).toInt = 2) q) + 0))), (2, .int (nI ((cntP (fun g => (st g).toInt = 1) q) + 0))), (6, .int (nI q)), (0, .ref k0), (1, .int 6)]) hx hb dX11_count_103 hl (by decide) rfl (fun ls hl => ?_)
                refine lv_iinc (v := nI (q + 1)) (lv' := [(6, .int (nI (q + 1))), (5, .int (nI ((smP (lvF ft st tn) (fun g => nN (mn g)) q) + 0))), (4, .int (nI ((cntP (fun g => ¬ (tn g).toInt = 0) q) + 0))), (3, .int (nI ((cntP (fun g => (st g).toInt = 2) q) + 0))), (2, .int (nI ((cntP (fun g => (st g).toInt = 1) q) + 0))), (0, .ref k0), (1, .int 6)]) hx hb dX11_count_105 hl (k := 4) rfl (nI_add q 1) (by decide) rfl (fun ls hl => ?_)
                refine lv_goto (tgt := 13) hx hb dX11_count_108 (by decide) ?_
                have hl9 := lv_sub hl [0, 1, 2, 3, 4, 5, 6] rfl
                have e9_2 : nI (cntP (fun g => (st g).toInt = 1) (q + 1)) = (nI ((cntP (fun g => (st g).toInt = 1) q) + 0) : Int32) := by first | exact congrArg nI (cntP_y (P := fun g => (st g).toInt = 1) (show (st q).toInt = 1 by omega)) | exact congrArg nI (cntP_n0 (P := fun g => (st g).toInt = 1) (show ¬ (st q).toInt = 1 by omega))
                have e9_3 : nI (cntP (fun g => (st g).toInt = 2) (q + 1)) = (nI ((cntP (fun g => (st g).toInt = 2) q) + 0) : Int32) := by first | exact congrArg nI (cntP_y (P := fun g => (st g).toInt = 2) (show (st q).toInt = 2 by omega)) | exact congrArg nI (cntP_n0 (P := fun g => (st g).toInt = 2) (show ¬ (st q).toInt = 2 by omega))
                have e9_4 : nI (cntP (fun g => ¬ (tn g).toInt = 0) (q + 1)) = (nI ((cntP (fun g => ¬ (tn g).toInt = 0) q) + 0) : Int32) := by first | exact congrArg nI (cntP_y (P := fun g => ¬ (tn g).toInt = 0) (show ¬ (tn q).toInt = 0 by omega)) | exact congrArg nI (cntP_n0 (P := fun g => ¬ (tn g).toInt = 0) (show ¬ ¬ (tn q).toInt = 0 by omega))
                have e9_5 : nI (smP (lvF ft st tn) (fun g => nN (mn g)) (q + 1)) = (nI ((smP (lvF ft st tn) (fun g => nN (mn g)) q) + 0) : Int32) := by first | exact congrArg nI (smP_y (P := lvF ft st tn) (by assumption)) | exact congrArg nI (smP_n (P := lvF ft st tn) (by assumption))
                have hl9 : lv_has ls 7 [(6, .int (nI (q + 1))), (5, .int (nI (smP (lvF ft st tn) (fun g => nN (mn g)) (q + 1)))), (4, .int (nI (cntP (fun g => ¬ (tn g).toInt = 0) (q + 1)))), (3, .int (nI (cntP (fun g => (st g).toInt = 2) (q + 1)))), (2, .int (nI (cntP (fun g => (st g).toInt = 1) (q + 1)))), (0, .ref k0), (1, .int 6)] := by rw [e9_2]; rw [e9_3]; rw [e9_4]; rw [e9_5]; exact hl9
                exact ih_13 (q + 1) H locs ls (by omega) (by omega) hP hD hS hl9
              · have c_5 : q < ft ∧ (st q).toInt = 1 ∧ (tn q).toInt = 0 := zp_1 c_5
                refine lv_aload_n hx hb dX11_count_91 rfl (lv_at hl 5 rfl) ?_
                refine va_get (D := (dC, dI)) (ci := 9) (v := .ref (a 11)) (C := RX11) (T := TX11) (N := 55) hx hb hts inX11 hown hK hP 0 rfl rfl 11 (by decide) (hts _ mw_1170) (fun _ h9 => h9) rfl dX11_count_92 ?_
                refine lv_iload hx hb dX11_count_95 (lv_at hl 3 rfl) ?_
                refine z_iald hx hb hK hP 3 0 rfl rfl (e := q) rfl (by omega) (by omega) dX11_count_97 ?_
                refine zz_i (v := nI (nN (mn q))) ((hmw q (by assumption)).1) ?_
                refine lv_goto (tgt := 102) hx hb dX11_count_98 (by decide) ?_
                refine lv_iadd hx hb dX11_count_102 ?_
                refine zz_i (v := nI ((smP (lvF ft st tn) (fun g => nN (mn g)) q) + (nN (mn q)))) (nI_add (smP (lvF ft st tn) (fun g => nN (mn g)) q) (nN (mn q))) ?_
                refine lv_istore (lv' := [(5, .int (nI ((smP (lvF ft st tn) (fun g => nN (mn g)) q) + (nN (mn q))))), (4, .int (nI ((cntP (fun g => ¬ (tn g).toInt = 0) q) + 0))), (3, .int (nI ((cntP (fun g => (st g).toInt = 2) q) + 0))), (2, .int (nI ((cntP (fun g => (st g).toInt = 1) q) + 0))), (6, .int (nI q)), (0, .ref k0), (1, .int 6)]) hx hb dX11_count_103 hl (by decide) rfl (fun ls hl => ?_)
                refine lv_iinc (v := nI (q + 1)) (lv' := [(6, .int (nI (q + 1))), (5, .int (nI ((smP (lvF ft st tn) (fun g => nN (mn g)) q) + (nN (mn q))))), (4, .int (nI ((cntP (fun g => ¬ (tn g).toInt = 0) q) + 0))), (3, .int (nI ((cntP (fun g => (st g).toInt = 2) q) + 0))), (2, .int (nI ((cntP (fun g => (st g).toInt = 1) q) + 0))), (0, .ref k0), (1, .int 6)]) hx hb dX11_count_105 hl (k := 4) rfl (nI_add q 1) (by decide) rfl (fun ls hl => ?_)
                refine lv_goto (tgt := 13) hx hb dX11_count_108 (by decide) ?_
                have hl9 := lv_sub hl [0, 1, 2, 3, 4, 5, 6] rfl
                have e9_2 : nI (cntP (fun g => (st g).toInt = 1) (q + 1)) = (nI ((cntP (fun g => (st g).toInt = 1) q) + 0) : Int32) := by first | exact congrArg nI (cntP_y (P := fun g => (st g).toInt = 1) (show (st q).toInt = 1 by omega)) | exact congrArg nI (cntP_n0 (P := fun g => (st g).toInt = 1) (show ¬ (st q).toInt = 1 by omega))
                have e9_3 : nI (cntP (fun g => (st g).toInt = 2) (q + 1)) = (nI ((cntP (fun g => (st g).toInt = 2) q) + 0) : Int32) := by first | exact congrArg nI (cntP_y (P := fun g => (st g).toInt = 2) (show (st q).toInt = 2 by omega)) | exact congrArg nI (cntP_n0 (P := fun g => (st g).toInt = 2) (show ¬ (st q).toInt = 2 by omega))
                have e9_4 : nI (cntP (fun g => ¬ (tn g).toInt = 0) (q + 1)) = (nI ((cntP (fun g => ¬ (tn g).toInt = 0) q) + 0) : Int32) := by first | exact congrArg nI (cntP_y (P := fun g => ¬ (tn g).toInt = 0) (show ¬ (tn q).toInt = 0 by omega)) | exact congrArg nI (cntP_n0 (P := fun g => ¬ (tn g).toInt = 0) (show ¬ ¬ (tn q).toInt = 0 by omega))
                have e9_5 : nI (smP (lvF ft st tn) (fun g => nN (mn g)) (q + 1)) = (nI ((smP (lvF ft st tn) (fun g => nN (mn g)) q) + (nN (mn q))) : Int32) := by first | exact congrArg nI (smP_y (P := lvF ft st tn) (by assumption)) | exact congrArg nI (smP_n (P := lvF ft st tn) (by assumption))
                have hl9 : lv_has ls 7 [(6, .int (nI (q + 1))), (5, .int (nI (smP (lvF ft st tn) (fun g => nN (mn g)) (q + 1)))), (4, .int (nI (cntP (fun g => ¬ (tn g).toInt = 0) (q + 1)))), (3, .int (nI (cntP (fun g => (st g).toInt = 2) (q + 1)))), (2, .int (nI (cntP (fun g => (st g).toInt = 1) (q + 1)))), (0, .ref k0), (1, .int 6)] := by rw [e9_2]; rw [e9_3]; rw [e9_4]; rw [e9_5]; exact hl9
                exact ih_13 (q + 1) H locs ls (by omega) (by omega) hP hD hS hl9
            · have c_4 : ¬ (tn q).toInt = 0 := zc_ne rfl (by decide) c_4
              refine lv_iconst (v := 1) hx hb dX11_count_72 (by decide) ?_
              refine lv_goto (tgt := 77) hx hb dX11_count_73 (by decide) ?_
              refine lv_iadd hx hb dX11_count_77 ?_
              refine zz_i (v := nI ((cntP (fun g => ¬ (tn g).toInt = 0) q) + 1)) (nI_add (cntP (fun g => ¬ (tn g).toInt = 0) q) 1) ?_
              refine lv_istore (lv' := [(4, .int (nI ((cntP (fun g => ¬ (tn g).toInt = 0) q) + 1))), (3, .int (nI ((cntP (fun g => (st g).toInt = 2) q) + 0))), (2, .int (nI ((cntP (fun g => (st g).toInt = 1) q) + 0))), (6, .int (nI q)), (5, .int (nI (smP (lvF ft st tn) (fun g => nN (mn g)) q))), (0, .ref k0), (1, .int 6)]) hx hb dX11_count_78 hl (by decide) rfl (fun ls hl => ?_)
              refine lv_iload hx hb dX11_count_80 (lv_at hl 4 rfl) ?_
              refine lv_aload_n hx hb dX11_count_82 rfl (lv_at hl 5 rfl) ?_
              refine lv_iload hx hb dX11_count_83 (lv_at hl 3 rfl) ?_
              have hPc := hP.sub (ws' := [(om k0 a I0 J0), (oa (a 5) cI 201 st), (oa (a 6) cZ 201 tn)]) [0, 1, 2] rfl
              have hDc := hD.sub (ws' := [(om k0 a I0 J0), (oa (a 5) cI 201 st), (oa (a 6) cZ 201 tn)]) [0, 1, 2] (by decide) rfl
              have hFc := va_free (wc := [(om k0 a I0 J0), (oa (a 5) cI 201 st), (oa (a 6) cZ 201 tn)]) hD hS hA [0, 1, 2] rfl
              refine zcall (st1 := [.int (pI (q < ft ∧ (st q).toInt = 1 ∧ (tn q).toInt = 0)), .int (nI (smP (lvF ft st tn) (fun g => nN (mn g)) q))]) (va_runV (As := [.int (nI q)]) (rest := [.int (nI (smP (lvF ft st tn) (fun g => nN (mn g)) q))]) ⟨hx, hb, hml, hown, hts⟩ (k_M_is_n l dC dI cI cZ cF H.size k0 a I0 J0 q ft st tn (by assumption) (by omega) (by omega)) (cwV 1 hts (zz_gV mw_1447 mw_1449 mw_56 mw_110 mc_yX11_is) rfl rfl rfl (by decide +kernel) ⟨Nat.le_of_ble_eq_true rfl, Nat.le_of_ble_eq_true rfl⟩) (zPV2 (q0 := 0) (ci := 9) hPc hDc hK hXN rfl rfl) rfl rfl hl.1 rfl (lv_room (Nat.le_of_ble_eq_true rfl)) dX11_count_85 ⟨Nat.le_of_ble_eq_true rfl, Nat.le_of_ble_eq_true rfl⟩) hS hFc hFc rfl (fun t H1 locs ht hB hk1 hS => ?_)
              obtain ⟨hP1, hD1⟩ := hB
              rw [ht] at hP1
              obtain ⟨hP, hD⟩ := va_join (wr := [(oa (a 11) cI 201 mn)]) (w1 := [(om k0 a I0 J0), (oa (a 5) cI 201 st), (oa (a 6) cZ 201 tn)]) hP hD [0, 1, 2] [3] rfl rfl (by decide) (by decide) hk1 hFc hP1 hD1
              clear hk1 hPc hDc hFc hP1 hD1 ht
              generalize H1 = H at hP hS ⊢
              have hP := hP.sub (ws' := [(om k0 a I0 J0), (oa (a 5) cI 201 st), (oa (a 6) cZ 201 tn), (oa (a 11) cI 201 mn)]) [1, 2, 3, 0] rfl
              have hD := hD.sub (ws' := [(om k0 a I0 J0), (oa (a 5) cI 201 st), (oa (a 6) cZ 201 tn), (oa (a 11) cI 201 mn)]) [1, 2, 3, 0] (by decide) rfl
              have hP : va_P (dC, dI) classes [(om k0 a I0 J0), (oa (a 5) cI 201 st), (oa (a 6) cZ 201 tn), (oa (a 11) cI 201 mn)] H := hP
              have hD : va_D A [(om k0 a I0 J0), (oa (a 5) cI 201 st), (oa (a 6) cZ 201 tn), (oa (a 11) cI 201 mn)] := hD
              refine lv_if_eq (tgt := 101) hx hb dX11_count_88 (by decide) (fun c_6 => ?_) (fun c_6 => ?_)
              · have c_6 : ¬ (q < ft ∧ (st q).toInt = 1 ∧ (tn q).toInt = 0) := zp_0 c_6
                refine lv_iconst (v := 0) hx hb dX11_count_101 (by decide) ?_
                refine lv_iadd hx hb dX11_count_102 ?_
                refine zz_i (v := nI ((smP (lvF ft st tn) (fun g => nN (mn g)) q) + 0)) (nI_add (smP (lvF ft st tn) (fun g => nN (mn g)) q) 0) ?_
                refine lv_istore (lv' := [(5, .int (nI ((smP (lvF ft st tn) (fun g => nN (mn g)) q) + 0))), (4, .int (nI ((cntP (fun g => ¬ (tn g).toInt = 0) q) + 1))), (3, .int (nI ((cntP (fun g => (st g).toInt = 2) q) + 0))), (2, .int (nI ((cntP (fun g => (st g).toInt = 1) q) + 0))), (6, .int (nI q)), (0, .ref k0), (1, .int 6)]) hx hb dX11_count_103 hl (by decide) rfl (fun ls hl => ?_)
                refine lv_iinc (v := nI (q + 1)) (lv' := [(6, .int (nI (q + 1))), (5, .int (nI ((smP (lvF ft st tn) (fun g => nN (mn g)) q) + 0))), (4, .int (nI ((cntP (fun g => ¬ (tn g).toInt = 0) q) + 1))), (3, .int (nI ((cntP (fun g => (st g).toInt = 2) q) + 0))), (2, .int (nI ((cntP (fun g => (st g).toInt = 1) q) + 0))), (0, .ref k0), (1, .int 6)]) hx hb dX11_count_105 hl (k := 4) rfl (nI_add q 1) (by decide) rfl (fun ls hl => ?_)
                refine lv_goto (tgt := 13) hx hb dX11_count_108 (by decide) ?_
                have hl9 := lv_sub hl [0, 1, 2, 3, 4, 5, 6] rfl
                have e9_2 : nI (cntP (fun g => (st g).toInt = 1) (q + 1)) = (nI ((cntP (fun g => (st g).toInt = 1) q) + 0) : Int32) := by first | exact congrArg nI (cntP_y (P := fun g => (st g).toInt = 1) (show (st q).toInt = 1 by omega)) | exact congrArg nI (cntP_n0 (P := fun g => (st g).toInt = 1) (show ¬ (st q).toInt = 1 by omega))
                have e9_3 : nI (cntP (fun g => (st g).toInt = 2) (q + 1)) = (nI ((cntP (fun g => (st g).toInt = 2) q) + 0) : Int32) := by first | exact congrArg nI (cntP_y (P := fun g => (st g).toInt = 2) (show (st q).toInt = 2 by omega)) | exact congrArg nI (cntP_n0 (P := fun g => (st g).toInt = 2) (show ¬ (st q).toInt = 2 by omega))
                have e9_4 : nI (cntP (fun g => ¬ (tn g).toInt = 0) (q + 1)) = (nI ((cntP (fun g => ¬ (tn g).toInt = 0) q) + 1) : Int32) := by first | exact congrArg nI (cntP_y (P := fun g => ¬ (tn g).toInt = 0) (show ¬ (tn q).toInt = 0 by omega)) | exact congrArg nI (cntP_n0 (P := fun g => ¬ (tn g).toInt = 0) (show ¬ ¬ (tn q).toInt = 0 by omega))
                have e9_5 : nI (smP (lvF ft st tn) (fun g => nN (mn g)) (q + 1)) = (nI ((smP (lvF ft st tn) (fun g => nN (mn g)) q) + 0) : Int32) := by first | exact congrArg nI (smP_y (P := lvF ft st tn) (by assumption)) | exact congrArg nI (smP_n (P := lvF ft st tn) (by assumption))
                have hl9 : lv_has ls 7 [(6, .int (nI (q + 1))), (5, .int (nI (smP (lvF ft st tn) (fun g => nN (mn g)) (q + 1)))), (4, .int (nI (cntP (fun g => ¬ (tn g).toInt = 0) (q + 1)))), (3, .int (nI (cntP (fun g => (st g).toInt = 2) (q + 1)))), (2, .int (nI (cntP (fun g => (st g).toInt = 1) (q + 1)))), (0, .ref k0), (1, .int 6)] := by rw [e9_2]; rw [e9_3]; rw [e9_4]; rw [e9_5]; exact hl9
                exact ih_13 (q + 1) H locs ls (by omega) (by omega) hP hD hS hl9
              · have c_6 : q < ft ∧ (st q).toInt = 1 ∧ (tn q).toInt = 0 := zp_1 c_6
                refine lv_aload_n hx hb dX11_count_91 rfl (lv_at hl 5 rfl) ?_
                refine va_get (D := (dC, dI)) (ci := 9) (v := .ref (a 11)) (C := RX11) (T := TX11) (N := 55) hx hb hts inX11 hown hK hP 0 rfl rfl 11 (by decide) (hts _ mw_1170) (fun _ h9 => h9) rfl dX11_count_92 ?_
                refine lv_iload hx hb dX11_count_95 (lv_at hl 3 rfl) ?_
                refine z_iald hx hb hK hP 3 0 rfl rfl (e := q) rfl (by omega) (by omega) dX11_count_97 ?_
                refine zz_i (v := nI (nN (mn q))) ((hmw q (by assumption)).1) ?_
                refine lv_goto (tgt := 102) hx hb dX11_count_98 (by decide) ?_
                refine lv_iadd hx hb dX11_count_102 ?_
                refine zz_i (v := nI ((smP (lvF ft st tn) (fun g => nN (mn g)) q) + (nN (mn q)))) (nI_add (smP (lvF ft st tn) (fun g => nN (mn g)) q) (nN (mn q))) ?_
                refine lv_istore (lv' := [(5, .int (nI ((smP (lvF ft st tn) (fun g => nN (mn g)) q) + (nN (mn q))))), (4, .int (nI ((cntP (fun g => ¬ (tn g).toInt = 0) q) + 1))), (3, .int (nI ((cntP (fun g => (st g).toInt = 2) q) + 0))), (2, .int (nI ((cntP (fun g => (st g).toInt = 1) q) + 0))), (6, .int (nI q)), (0, .ref k0), (1, .int 6)]) hx hb dX11_count_103 hl (by decide) rfl (fun ls hl => ?_)
                refine lv_iinc (v := nI (q + 1)) (lv' := [(6, .int (nI (q + 1))), (5, .int (nI ((smP (lvF ft st tn) (fun g => nN (mn g)) q) + (nN (mn q))))), (4, .int (nI ((cntP (fun g => ¬ (tn g).toInt = 0) q) + 1))), (3, .int (nI ((cntP (fun g => (st g).toInt = 2) q) + 0))), (2, .int (nI ((cntP (fun g => (st g).toInt = 1) q) + 0))), (0, .ref k0), (1, .int 6)]) hx hb dX11_count_105 hl (k := 4) rfl (nI_add q 1) (by decide) rfl (fun ls hl => ?_)
                refine lv_goto (tgt := 13) hx hb dX11_count_108 (by decide) ?_
                have hl9 := lv_sub hl [0, 1, 2, 3, 4, 5, 6] rfl
                have e9_2 : nI (cntP (fun g => (st g).toInt = 1) (q + 1)) = (nI ((cntP (fun g => (st g).toInt = 1) q) + 0) : Int32) := by first | exact congrArg nI (cntP_y (P := fun g => (st g).toInt = 1) (show (st q).toInt = 1 by omega)) | exact congrArg nI (cntP_n0 (P := fun g => (st g).toInt = 1) (show ¬ (st q).toInt = 1 by omega))
                have e9_3 : nI (cntP (fun g => (st g).toInt = 2) (q + 1)) = (nI ((cntP (fun g => (st g).toInt = 2) q) + 0) : Int32) := by first | exact congrArg nI (cntP_y (P := fun g => (st g).toInt = 2) (show (st q).toInt = 2 by omega)) | exact congrArg nI (cntP_n0 (P := fun g => (st g).toInt = 2) (show ¬ (st q).toInt = 2 by omega))
                have e9_4 : nI (cntP (fun g => ¬ (tn g).toInt = 0) (q + 1)) = (nI ((cntP (fun g => ¬ (tn g).toInt = 0) q) + 1) : Int32) := by first | exact congrArg nI (cntP_y (P := fun g => ¬ (tn g).toInt = 0) (show ¬ (tn q).toInt = 0 by omega)) | exact congrArg nI (cntP_n0 (P := fun g => ¬ (tn g).toInt = 0) (show ¬ ¬ (tn q).toInt = 0 by omega))
                have e9_5 : nI (smP (lvF ft st tn) (fun g => nN (mn g)) (q + 1)) = (nI ((smP (lvF ft st tn) (fun g => nN (mn g)) q) + (nN (mn q))) : Int32) := by first | exact congrArg nI (smP_y (P := lvF ft st tn) (by assumption)) | exact congrArg nI (smP_n (P := lvF ft st tn) (by assumption))
                have hl9 : lv_has ls 7 [(6, .int (nI (q + 1))), (5, .int (nI (smP (lvF ft st tn) (fun g => nN (mn g)) (q + 1)))), (4, .int (nI (cntP (fun g => ¬ (tn g).toInt = 0) (q + 1)))), (3, .int (nI (cntP (fun g => (st g).toInt = 2) (q + 1)))), (2, .int (nI (cntP (fun g => (st g).toInt = 1) (q + 1)))), (0, .ref k0), (1, .int 6)] := by rw [e9_2]; rw [e9_3]; rw [e9_4]; rw [e9_5]; exact hl9
                exact ih_13 (q + 1) H locs ls (by omega) (by omega) hP hD hS hl9
          · have c_3 : (st q).toInt = 2 := zc_eq rfl (by decide) c_3
            refine lv_iconst (v := 1) hx hb dX11_count_53 (by decide) ?_
            refine lv_goto (tgt := 58) hx hb dX11_count_54 (by decide) ?_
            refine lv_iadd hx hb dX11_count_58 ?_
            refine zz_i (v := nI ((cntP (fun g => (st g).toInt = 2) q) + 1)) (nI_add (cntP (fun g => (st g).toInt = 2) q) 1) ?_
            refine lv_istore_n (lv' := [(3, .int (nI ((cntP (fun g => (st g).toInt = 2) q) + 1))), (2, .int (nI ((cntP (fun g => (st g).toInt = 1) q) + 0))), (6, .int (nI q)), (5, .int (nI (smP (lvF ft st tn) (fun g => nN (mn g)) q))), (4, .int (nI (cntP (fun g => ¬ (tn g).toInt = 0) q))), (0, .ref k0), (1, .int 6)]) hx hb dX11_count_59 rfl hl (by decide) rfl (fun ls hl => ?_)
            refine lv_iload hx hb dX11_count_60 (lv_at hl 4 rfl) ?_
            refine lv_aload_n hx hb dX11_count_62 rfl (lv_at hl 5 rfl) ?_
            refine va_get (D := (dC, dI)) (ci := 9) (v := .ref (a 6)) (C := RX11) (T := TX11) (N := 55) hx hb hts inX11 hown hK hP 0 rfl rfl 6 (by decide) (hts _ mw_1165) (fun _ h9 => h9) rfl dX11_count_63 ?_
            refine lv_iload hx hb dX11_count_66 (lv_at hl 2 rfl) ?_
            refine z_zald hx hb hK hP 2 1 rfl rfl (e := q) rfl (by omega) (by omega) dX11_count_68 ?_
            refine lv_if_eq (tgt := 76) hx hb dX11_count_69 (by decide) (fun c_7 => ?_) (fun c_7 => ?_)
            · have c_7 : (tn q).toInt = 0 := zc_eq rfl (by decide) c_7
              refine lv_iconst (v := 0) hx hb dX11_count_76 (by decide) ?_
              refine lv_iadd hx hb dX11_count_77 ?_
              refine zz_i (v := nI ((cntP (fun g => ¬ (tn g).toInt = 0) q) + 0)) (nI_add (cntP (fun g => ¬ (tn g).toInt = 0) q) 0) ?_
              refine lv_istore (lv' := [(4, .int (nI ((cntP (fun g => ¬ (tn g).toInt = 0) q) + 0))), (3, .int (nI ((cntP (fun g => (st g).toInt = 2) q) + 1))), (2, .int (nI ((cntP (fun g => (st g).toInt = 1) q) + 0))), (6, .int (nI q)), (5, .int (nI (smP (lvF ft st tn) (fun g => nN (mn g)) q))), (0, .ref k0), (1, .int 6)]) hx hb dX11_count_78 hl (by decide) rfl (fun ls hl => ?_)
              refine lv_iload hx hb dX11_count_80 (lv_at hl 4 rfl) ?_
              refine lv_aload_n hx hb dX11_count_82 rfl (lv_at hl 5 rfl) ?_
              refine lv_iload hx hb dX11_count_83 (lv_at hl 3 rfl) ?_
              have hPc := hP.sub (ws' := [(om k0 a I0 J0), (oa (a 5) cI 201 st), (oa (a 6) cZ 201 tn)]) [0, 1, 2] rfl
              have hDc := hD.sub (ws' := [(om k0 a I0 J0), (oa (a 5) cI 201 st), (oa (a 6) cZ 201 tn)]) [0, 1, 2] (by decide) rfl
              have hFc := va_free (wc := [(om k0 a I0 J0), (oa (a 5) cI 201 st), (oa (a 6) cZ 201 tn)]) hD hS hA [0, 1, 2] rfl
              refine zcall (st1 := [.int (pI (q < ft ∧ (st q).toInt = 1 ∧ (tn q).toInt = 0)), .int (nI (smP (lvF ft st tn) (fun g => nN (mn g)) q))]) (va_runV (As := [.int (nI q)]) (rest := [.int (nI (smP (lvF ft st tn) (fun g => nN (mn g)) q))]) ⟨hx, hb, hml, hown, hts⟩ (k_M_is_n l dC dI cI cZ cF H.size k0 a I0 J0 q ft st tn (by assumption) (by omega) (by omega)) (cwV 1 hts (zz_gV mw_1447 mw_1449 mw_56 mw_110 mc_yX11_is) rfl rfl rfl (by decide +kernel) ⟨Nat.le_of_ble_eq_true rfl, Nat.le_of_ble_eq_true rfl⟩) (zPV2 (q0 := 0) (ci := 9) hPc hDc hK hXN rfl rfl) rfl rfl hl.1 rfl (lv_room (Nat.le_of_ble_eq_true rfl)) dX11_count_85 ⟨Nat.le_of_ble_eq_true rfl, Nat.le_of_ble_eq_true rfl⟩) hS hFc hFc rfl (fun t H1 locs ht hB hk1 hS => ?_)
              obtain ⟨hP1, hD1⟩ := hB
              rw [ht] at hP1
              obtain ⟨hP, hD⟩ := va_join (wr := [(oa (a 11) cI 201 mn)]) (w1 := [(om k0 a I0 J0), (oa (a 5) cI 201 st), (oa (a 6) cZ 201 tn)]) hP hD [0, 1, 2] [3] rfl rfl (by decide) (by decide) hk1 hFc hP1 hD1
              clear hk1 hPc hDc hFc hP1 hD1 ht
              generalize H1 = H at hP hS ⊢
              have hP := hP.sub (ws' := [(om k0 a I0 J0), (oa (a 5) cI 201 st), (oa (a 6) cZ 201 tn), (oa (a 11) cI 201 mn)]) [1, 2, 3, 0] rfl
              have hD := hD.sub (ws' := [(om k0 a I0 J0), (oa (a 5) cI 201 st), (oa (a 6) cZ 201 tn), (oa (a 11) cI 201 mn)]) [1, 2, 3, 0] (by decide) rfl
              have hP : va_P (dC, dI) classes [(om k0 a I0 J0), (oa (a 5) cI 201 st), (oa (a 6) cZ 201 tn), (oa (a 11) cI 201 mn)] H := hP
              have hD : va_D A [(om k0 a I0 J0), (oa (a 5) cI 201 st), (oa (a 6) cZ 201 tn), (oa (a 11) cI 201 mn)] := hD
              refine lv_if_eq (tgt := 101) hx hb dX11_count_88 (by decide) (fun c_8 => ?_) (fun c_8 => ?_)
              · have c_8 : ¬ (q < ft ∧ (st q).toInt = 1 ∧ (tn q).toInt = 0) := zp_0 c_8
                refine lv_iconst (v := 0) hx hb dX11_count_101 (by decide) ?_
                refine lv_iadd hx hb dX11_count_102 ?_
                refine zz_i (v := nI ((smP (lvF ft st tn) (fun g => nN (mn g)) q) + 0)) (nI_add (smP (lvF ft st tn) (fun g => nN (mn g)) q) 0) ?_
                refine lv_istore (lv' := [(5, .int (nI ((smP (lvF ft st tn) (fun g => nN (mn g)) q) + 0))), (4, .int (nI ((cntP (fun g => ¬ (tn g).toInt = 0) q) + 0))), (3, .int (nI ((cntP (fun g => (st g).toInt = 2) q) + 1))), (2, .int (nI ((cntP (fun g => (st g).toInt = 1) q) + 0))), (6, .int (nI q)), (0, .ref k0), (1, .int 6)]) hx hb dX11_count_103 hl (by decide) rfl (fun ls hl => ?_)
                refine lv_iinc (v := nI (q + 1)) (lv' := [(6, .int (nI (q + 1))), (5, .int (nI ((smP (lvF ft st tn) (fun g => nN (mn g)) q) + 0))), (4, .int (nI ((cntP (fun g => ¬ (tn g).toInt = 0) q) + 0))), (3, .int (nI ((cntP (fun g => (st g).toInt = 2) q) + 1))), (2, .int (nI ((cntP (fun g => (st g).toInt = 1) q) + 0))), (0, .ref k0), (1, .int 6)]) hx hb dX11_count_105 hl (k := 4) rfl (nI_add q 1) (by decide) rfl (fun ls hl => ?_)
                refine lv_goto (tgt := 13) hx hb dX11_count_108 (by decide) ?_
                have hl9 := lv_sub hl [0, 1, 2, 3, 4, 5, 6] rfl
                have e9_2 : nI (cntP (fun g => (st g).toInt = 1) (q + 1)) = (nI ((cntP (fun g => (st g).toInt = 1) q) + 0) : Int32) := by first | exact congrArg nI (cntP_y (P := fun g => (st g).toInt = 1) (show (st q).toInt = 1 by omega)) | exact congrArg nI (cntP_n0 (P := fun g => (st g).toInt = 1) (show ¬ (st q).toInt = 1 by omega))
                have e9_3 : nI (cntP (fun g => (st g).toInt = 2) (q + 1)) = (nI ((cntP (fun g => (st g).toInt = 2) q) + 1) : Int32) := by first | exact congrArg nI (cntP_y (P := fun g => (st g).toInt = 2) (show (st q).toInt = 2 by omega)) | exact congrArg nI (cntP_n0 (P := fun g => (st g).toInt = 2) (show ¬ (st q).toInt = 2 by omega))
                have e9_4 : nI (cntP (fun g => ¬ (tn g).toInt = 0) (q + 1)) = (nI ((cntP (fun g => ¬ (tn g).toInt = 0) q) + 0) : Int32) := by first | exact congrArg nI (cntP_y (P := fun g => ¬ (tn g).toInt = 0) (show ¬ (tn q).toInt = 0 by omega)) | exact congrArg nI (cntP_n0 (P := fun g => ¬ (tn g).toInt = 0) (show ¬ ¬ (tn q).toInt = 0 by omega))
                have e9_5 : nI (smP (lvF ft st tn) (fun g => nN (mn g)) (q + 1)) = (nI ((smP (lvF ft st tn) (fun g => nN (mn g)) q) + 0) : Int32) := by first | exact congrArg nI (smP_y (P := lvF ft st tn) (by assumption)) | exact congrArg nI (smP_n (P := lvF ft st tn) (by assumption))
                have hl9 : lv_has ls 7 [(6, .int (nI (q + 1))), (5, .int (nI (smP (lvF ft st tn) (fun g => nN (mn g)) (q + 1)))), (4, .int (nI (cntP (fun g => ¬ (tn g).toInt = 0) (q + 1)))), (3, .int (nI (cntP (fun g => (st g).toInt = 2) (q + 1)))), (2, .int (nI (cntP (fun g => (st g).toInt = 1) (q + 1)))), (0, .ref k0), (1, .int 6)] := by rw [e9_2]; rw [e9_3]; rw [e9_4]; rw [e9_5]; exact hl9
                exact ih_13 (q + 1) H locs ls (by omega) (by omega) hP hD hS hl9
              · have c_8 : q < ft ∧ (st q).toInt = 1 ∧ (tn q).toInt = 0 := zp_1 c_8
                refine lv_aload_n hx hb dX11_count_91 rfl (lv_at hl 5 rfl) ?_
                refine va_get (D := (dC, dI)) (ci := 9) (v := .ref (a 11)) (C := RX11) (T := TX11) (N := 55) hx hb hts inX11 hown hK hP 0 rfl rfl 11 (by decide) (hts _ mw_1170) (fun _ h9 => h9) rfl dX11_count_92 ?_
                refine lv_iload hx hb dX11_count_95 (lv_at hl 3 rfl) ?_
                refine z_iald hx hb hK hP 3 0 rfl rfl (e := q) rfl (by omega) (by omega) dX11_count_97 ?_
                refine zz_i (v := nI (nN (mn q))) ((hmw q (by assumption)).1) ?_
                refine lv_goto (tgt := 102) hx hb dX11_count_98 (by decide) ?_
                refine lv_iadd hx hb dX11_count_102 ?_
                refine zz_i (v := nI ((smP (lvF ft st tn) (fun g => nN (mn g)) q) + (nN (mn q)))) (nI_add (smP (lvF ft st tn) (fun g => nN (mn g)) q) (nN (mn q))) ?_
                refine lv_istore (lv' := [(5, .int (nI ((smP (lvF ft st tn) (fun g => nN (mn g)) q) + (nN (mn q))))), (4, .int (nI ((cntP (fun g => ¬ (tn g).toInt = 0) q) + 0))), (3, .int (nI ((cntP (fun g => (st g).toInt = 2) q) + 1))), (2, .int (nI ((cntP (fun g => (st g).toInt = 1) q) + 0))), (6, .int (nI q)), (0, .ref k0), (1, .int 6)]) hx hb dX11_count_103 hl (by decide) rfl (fun ls hl => ?_)
                refine lv_iinc (v := nI (q + 1)) (lv' := [(6, .int (nI (q + 1))), (5, .int (nI ((smP (lvF ft st tn) (fun g => nN (mn g)) q) + (nN (mn q))))), (4, .int (nI ((cntP (fun g => ¬ (tn g).toInt = 0) q) + 0))), (3, .int (nI ((cntP (fun g => (st g).toInt = 2) q) + 1))), (2, .int (nI ((cntP (fun g => (st g).toInt = 1) q) + 0))), (0, .ref k0), (1, .int 6)]) hx hb dX11_count_105 hl (k := 4) rfl (nI_add q 1) (by decide) rfl (fun ls hl => ?_)
                refine lv_goto (tgt := 13) hx hb dX11_count_108 (by decide) ?_
                have hl9 := lv_sub hl [0, 1, 2, 3, 4, 5, 6] rfl
                have e9_2 : nI (cntP (fun g => (st g).toInt = 1) (q + 1)) = (nI ((cntP (fun g => (st g).toInt = 1) q) + 0) : Int32) := by first | exact congrArg nI (cntP_y (P := fun g => (st g).toInt = 1) (show (st q).toInt = 1 by omega)) | exact congrArg nI (cntP_n0 (P := fun g => (st g).toInt = 1) (show ¬ (st q).toInt = 1 by omega))
                have e9_3 : nI (cntP (fun g => (st g).toInt = 2) (q + 1)) = (nI ((cntP (fun g => (st g).toInt = 2) q) + 1) : Int32) := by first | exact congrArg nI (cntP_y (P := fun g => (st g).toInt = 2) (show (st q).toInt = 2 by omega)) | exact congrArg nI (cntP_n0 (P := fun g => (st g).toInt = 2) (show ¬ (st q).toInt = 2 by omega))
                have e9_4 : nI (cntP (fun g => ¬ (tn g).toInt = 0) (q + 1)) = (nI ((cntP (fun g => ¬ (tn g).toInt = 0) q) + 0) : Int32) := by first | exact congrArg nI (cntP_y (P := fun g => ¬ (tn g).toInt = 0) (show ¬ (tn q).toInt = 0 by omega)) | exact congrArg nI (cntP_n0 (P := fun g => ¬ (tn g).toInt = 0) (show ¬ ¬ (tn q).toInt = 0 by omega))
                have e9_5 : nI (smP (lvF ft st tn) (fun g => nN (mn g)) (q + 1)) = (nI ((smP (lvF ft st tn) (fun g => nN (mn g)) q) + (nN (mn q))) : Int32) := by first | exact congrArg nI (smP_y (P := lvF ft st tn) (by assumption)) | exact congrArg nI (smP_n (P := lvF ft st tn) (by assumption))
                have hl9 : lv_has ls 7 [(6, .int (nI (q + 1))), (5, .int (nI (smP (lvF ft st tn) (fun g => nN (mn g)) (q + 1)))), (4, .int (nI (cntP (fun g => ¬ (tn g).toInt = 0) (q + 1)))), (3, .int (nI (cntP (fun g => (st g).toInt = 2) (q + 1)))), (2, .int (nI (cntP (fun g => (st g).toInt = 1) (q + 1)))), (0, .ref k0), (1, .int 6)] := by rw [e9_2]; rw [e9_3]; rw [e9_4]; rw [e9_5]; exact hl9
                exact ih_13 (q + 1) H locs ls (by omega) (by omega) hP hD hS hl9
            · have c_7 : ¬ (tn q).toInt = 0 := zc_ne rfl (by decide) c_7
              refine lv_iconst (v := 1) hx hb dX11_count_72 (by decide) ?_
              refine lv_goto (tgt := 77) hx hb dX11_count_73 (by decide) ?_
              refine lv_iadd hx hb dX11_count_77 ?_
              refine zz_i (v := nI ((cntP (fun g => ¬ (tn g).toInt = 0) q) + 1)) (nI_add (cntP (fun g => ¬ (tn g).toInt = 0) q) 1) ?_
              refine lv_istore (lv' := [(4, .int (nI ((cntP (fun g => ¬ (tn g).toInt = 0) q) + 1))), (3, .int (nI ((cntP (fun g => (st g).toInt = 2) q) + 1))), (2, .int (nI ((cntP (fun g => (st g).toInt = 1) q) + 0))), (6, .int (nI q)), (5, .int (nI (smP (lvF ft st tn) (fun g => nN (mn g)) q))), (0, .ref k0), (1, .int 6)]) hx hb dX11_count_78 hl (by decide) rfl (fun ls hl => ?_)
              refine lv_iload hx hb dX11_count_80 (lv_at hl 4 rfl) ?_
              refine lv_aload_n hx hb dX11_count_82 rfl (lv_at hl 5 rfl) ?_
              refine lv_iload hx hb dX11_count_83 (lv_at hl 3 rfl) ?_
              have hPc := hP.sub (ws' := [(om k0 a I0 J0), (oa (a 5) cI 201 st), (oa (a 6) cZ 201 tn)]) [0, 1, 2] rfl
              have hDc := hD.sub (ws' := [(om k0 a I0 J0), (oa (a 5) cI 201 st), (oa (a 6) cZ 201 tn)]) [0, 1, 2] (by decide) rfl
              have hFc := va_free (wc := [(om k0 a I0 J0), (oa (a 5) cI 201 st), (oa (a 6) cZ 201 tn)]) hD hS hA [0, 1, 2] rfl
              refine zcall (st1 := [.int (pI (q < ft ∧ (st q).toInt = 1 ∧ (tn q).toInt = 0)), .int (nI (smP (lvF ft st tn) (fun g => nN (mn g)) q))]) (va_runV (As := [.int (nI q)]) (rest := [.int (nI (smP (lvF ft st tn) (fun g => nN (mn g)) q))]) ⟨hx, hb, hml, hown, hts⟩ (k_M_is_n l dC dI cI cZ cF H.size k0 a I0 J0 q ft st tn (by assumption) (by omega) (by omega)) (cwV 1 hts (zz_gV mw_1447 mw_1449 mw_56 mw_110 mc_yX11_is) rfl rfl rfl (by decide +kernel) ⟨Nat.le_of_ble_eq_true rfl, Nat.le_of_ble_eq_true rfl⟩) (zPV2 (q0 := 0) (ci := 9) hPc hDc hK hXN rfl rfl) rfl rfl hl.1 rfl (lv_room (Nat.le_of_ble_eq_true rfl)) dX11_count_85 ⟨Nat.le_of_ble_eq_true rfl, Nat.le_of_ble_eq_true rfl⟩) hS hFc hFc rfl (fun t H1 locs ht hB hk1 hS => ?_)
              obtain ⟨hP1, hD1⟩ := hB
              rw [ht] at hP1
              obtain ⟨hP, hD⟩ := va_join (wr := [(oa (a 11) cI 201 mn)]) (w1 := [(om k0 a I0 J0), (oa (a 5) cI 201 st), (oa (a 6) cZ 201 tn)]) hP hD [0, 1, 2] [3] rfl rfl (by decide) (by decide) hk1 hFc hP1 hD1
              clear hk1 hPc hDc hFc hP1 hD1 ht
              generalize H1 = H at hP hS ⊢
              have hP := hP.sub (ws' := [(om k0 a I0 J0), (oa (a 5) cI 201 st), (oa (a 6) cZ 201 tn), (oa (a 11) cI 201 mn)]) [1, 2, 3, 0] rfl
              have hD := hD.sub (ws' := [(om k0 a I0 J0), (oa (a 5) cI 201 st), (oa (a 6) cZ 201 tn), (oa (a 11) cI 201 mn)]) [1, 2, 3, 0] (by decide) rfl
              have hP : va_P (dC, dI) classes [(om k0 a I0 J0), (oa (a 5) cI 201 st), (oa (a 6) cZ 201 tn), (oa (a 11) cI 201 mn)] H := hP
              have hD : va_D A [(om k0 a I0 J0), (oa (a 5) cI 201 st), (oa (a 6) cZ 201 tn), (oa (a 11) cI 201 mn)] := hD
              refine lv_if_eq (tgt := 101) hx hb dX11_count_88 (by decide) (fun c_9 => ?_) (fun c_9 => ?_)
              · have c_9 : ¬ (q < ft ∧ (st q).toInt = 1 ∧ (tn q).toInt = 0) := zp_0 c_9
                refine lv_iconst (v := 0) hx hb dX11_count_101 (by decide) ?_
                refine lv_iadd hx hb dX11_count_102 ?_
                refine zz_i (v := nI ((smP (lvF ft st tn) (fun g => nN (mn g)) q) + 0)) (nI_add (smP (lvF ft st tn) (fun g => nN (mn g)) q) 0) ?_
                refine lv_istore (lv' := [(5, .int (nI ((smP (lvF ft st tn) (fun g => nN (mn g)) q) + 0))), (4, .int (nI ((cntP (fun g => ¬ (tn g).toInt = 0) q) + 1))), (3, .int (nI ((cntP (fun g => (st g).toInt = 2) q) + 1))), (2, .int (nI ((cntP (fun g => (st g).toInt = 1) q) + 0))), (6, .int (nI q)), (0, .ref k0), (1, .int 6)]) hx hb dX11_count_103 hl (by decide) rfl (fun ls hl => ?_)
                refine lv_iinc (v := nI (q + 1)) (lv' := [(6, .int (nI (q + 1))), (5, .int (nI ((smP (lvF ft st tn) (fun g => nN (mn g)) q) + 0))), (4, .int (nI ((cntP (fun g => ¬ (tn g).toInt = 0) q) + 1))), (3, .int (nI ((cntP (fun g => (st g).toInt = 2) q) + 1))), (2, .int (nI ((cntP (fun g => (st g).toInt = 1) q) + 0))), (0, .ref k0), (1, .int 6)]) hx hb dX11_count_105 hl (k := 4) rfl (nI_add q 1) (by decide) rfl (fun ls hl => ?_)
                refine lv_goto (tgt := 13) hx hb dX11_count_108 (by decide) ?_
                have hl9 := lv_sub hl [0, 1, 2, 3, 4, 5, 6] rfl
                have e9_2 : nI (cntP (fun g => (st g).toInt = 1) (q + 1)) = (nI ((cntP (fun g => (st g).toInt = 1) q) + 0) : Int32) := by first | exact congrArg nI (cntP_y (P := fun g => (st g).toInt = 1) (show (st q).toInt = 1 by omega)) | exact congrArg nI (cntP_n0 (P := fun g => (st g).toInt = 1) (show ¬ (st q).toInt = 1 by omega))
                have e9_3 : nI (cntP (fun g => (st g).toInt = 2) (q + 1)) = (nI ((cntP (fun g => (st g).toInt = 2) q) + 1) : Int32) := by first | exact congrArg nI (cntP_y (P := fun g => (st g).toInt = 2) (show (st q).toInt = 2 by omega)) | exact congrArg nI (cntP_n0 (P := fun g => (st g).toInt = 2) (show ¬ (st q).toInt = 2 by omega))
                have e9_4 : nI (cntP (fun g => ¬ (tn g).toInt = 0) (q + 1)) = (nI ((cntP (fun g => ¬ (tn g).toInt = 0) q) + 1) : Int32) := by first | exact congrArg nI (cntP_y (P := fun g => ¬ (tn g).toInt = 0) (show ¬ (tn q).toInt = 0 by omega)) | exact congrArg nI (cntP_n0 (P := fun g => ¬ (tn g).toInt = 0) (show ¬ ¬ (tn q).toInt = 0 by omega))
                have e9_5 : nI (smP (lvF ft st tn) (fun g => nN (mn g)) (q + 1)) = (nI ((smP (lvF ft st tn) (fun g => nN (mn g)) q) + 0) : Int32) := by first | exact congrArg nI (smP_y (P := lvF ft st tn) (by assumption)) | exact congrArg nI (smP_n (P := lvF ft st tn) (by assumption))
                have hl9 : lv_has ls 7 [(6, .int (nI (q + 1))), (5, .int (nI (smP (lvF ft st tn) (fun g => nN (mn g)) (q + 1)))), (4, .int (nI (cntP (fun g => ¬ (tn g).toInt = 0) (q + 1)))), (3, .int (nI (cntP (fun g => (st g).toInt = 2) (q + 1)))), (2, .int (nI (cntP (fun g => (st g).toInt = 1) (q + 1)))), (0, .ref k0), (1, .int 6)] := by rw [e9_2]; rw [e9_3]; rw [e9_4]; rw [e9_5]; exact hl9
                exact ih_13 (q + 1) H locs ls (by omega) (by omega) hP hD hS hl9
              · have c_9 : q < ft ∧ (st q).toInt = 1 ∧ (tn q).toInt = 0 := zp_1 c_9
                refine lv_aload_n hx hb dX11_count_91 rfl (lv_at hl 5 rfl) ?_
                refine va_get (D := (dC, dI)) (ci := 9) (v := .ref (a 11)) (C := RX11) (T := TX11) (N := 55) hx hb hts inX11 hown hK hP 0 rfl rfl 11 (by decide) (hts _ mw_1170) (fun _ h9 => h9) rfl dX11_count_92 ?_
                refine lv_iload hx hb dX11_count_95 (lv_at hl 3 rfl) ?_
                refine z_iald hx hb hK hP 3 0 rfl rfl (e := q) rfl (by omega) (by omega) dX11_count_97 ?_
                refine zz_i (v := nI (nN (mn q))) ((hmw q (by assumption)).1) ?_
                refine lv_goto (tgt := 102) hx hb dX11_count_98 (by decide) ?_
                refine lv_iadd hx hb dX11_count_102 ?_
                refine zz_i (v := nI ((smP (lvF ft st tn) (fun g => nN (mn g)) q) + (nN (mn q)))) (nI_add (smP (lvF ft st tn) (fun g => nN (mn g)) q) (nN (mn q))) ?_
                refine lv_istore (lv' := [(5, .int (nI ((smP (lvF ft st tn) (fun g => nN (mn g)) q) + (nN (mn q))))), (4, .int (nI ((cntP (fun g => ¬ (tn g).toInt = 0) q) + 1))), (3, .int (nI ((cntP (fun g => (st g).toInt = 2) q) + 1))), (2, .int (nI ((cntP (fun g => (st g).toInt = 1) q) + 0))), (6, .int (nI q)), (0, .ref k0), (1, .int 6)]) hx hb dX11_count_103 hl (by decide) rfl (fun ls hl => ?_)
                refine lv_iinc (v := nI (q + 1)) (lv' := [(6, .int (nI (q + 1))), (5, .int (nI ((smP (lvF ft st tn) (fun g => nN (mn g)) q) + (nN (mn q))))), (4, .int (nI ((cntP (fun g => ¬ (tn g).toInt = 0) q) + 1))), (3, .int (nI ((cntP (fun g => (st g).toInt = 2) q) + 1))), (2, .int (nI ((cntP (fun g => (st g).toInt = 1) q) + 0))), (0, .ref k0), (1, .int 6)]) hx hb dX11_count_105 hl (k := 4) rfl (nI_add q 1) (by decide) rfl (fun ls hl => ?_)
                refine lv_goto (tgt := 13) hx hb dX11_count_108 (by decide) ?_
                have hl9 := lv_sub hl [0, 1, 2, 3, 4, 5, 6] rfl
                have e9_2 : nI (cntP (fun g => (st g).toInt = 1) (q + 1)) = (nI ((cntP (fun g => (st g).toInt = 1) q) + 0) : Int32) := by first | exact congrArg nI (cntP_y (P := fun g => (st g).toInt = 1) (show (st q).toInt = 1 by omega)) | exact congrArg nI (cntP_n0 (P := fun g => (st g).toInt = 1) (show ¬ (st q).toInt = 1 by omega))
                have e9_3 : nI (cntP (fun g => (st g).toInt = 2) (q + 1)) = (nI ((cntP (fun g => (st g).toInt = 2) q) + 1) : Int32) := by first | exact congrArg nI (cntP_y (P := fun g => (st g).toInt = 2) (show (st q).toInt = 2 by omega)) | exact congrArg nI (cntP_n0 (P := fun g => (st g).toInt = 2) (show ¬ (st q).toInt = 2 by omega))
                have e9_4 : nI (cntP (fun g => ¬ (tn g).toInt = 0) (q + 1)) = (nI ((cntP (fun g => ¬ (tn g).toInt = 0) q) + 1) : Int32) := by first | exact congrArg nI (cntP_y (P := fun g => ¬ (tn g).toInt = 0) (show ¬ (tn q).toInt = 0 by omega)) | exact congrArg nI (cntP_n0 (P := fun g => ¬ (tn g).toInt = 0) (show ¬ ¬ (tn q).toInt = 0 by omega))
                have e9_5 : nI (smP (lvF ft st tn) (fun g => nN (mn g)) (q + 1)) = (nI ((smP (lvF ft st tn) (fun g => nN (mn g)) q) + (nN (mn q))) : Int32) := by first | exact congrArg nI (smP_y (P := lvF ft st tn) (by assumption)) | exact congrArg nI (smP_n (P := lvF ft st tn) (by assumption))
                have hl9 : lv_has ls 7 [(6, .int (nI (q + 1))), (5, .int (nI (smP (lvF ft st tn) (fun g => nN (mn g)) (q + 1)))), (4, .int (nI (cntP (fun g => ¬ (tn g).toInt = 0) (q + 1)))), (3, .int (nI (cntP (fun g => (st g).toInt = 2) (q + 1)))), (2, .int (nI (cntP (fun g => (st g).toInt = 1) (q + 1)))), (0, .ref k0), (1, .int 6)] := by rw [e9_2]; rw [e9_3]; rw [e9_4]; rw [e9_5]; exact hl9
                exact ih_13 (q + 1) H locs ls (by omega) (by omega) hP hD hS hl9
        · have c_2 : (st q).toInt = 1 := zc_eq rfl (by decide) c_2
          refine lv_iconst (v := 1) hx hb dX11_count_34 (by decide) ?_
          refine lv_goto (tgt := 39) hx hb dX11_count_35 (by decide) ?_
          refine lv_iadd hx hb dX11_count_39 ?_
          refine zz_i (v := nI ((cntP (fun g => (st g).toInt = 1) q) + 1)) (nI_add (cntP (fun g => (st g).toInt = 1) q) 1) ?_
          refine lv_istore_n (lv' := [(2, .int (nI ((cntP (fun g => (st g).toInt = 1) q) + 1))), (6, .int (nI q)), (5, .int (nI (smP (lvF ft st tn) (fun g => nN (mn g)) q))), (4, .int (nI (cntP (fun g => ¬ (tn g).toInt = 0) q))), (3, .int (nI (cntP (fun g => (st g).toInt = 2) q))), (0, .ref k0), (1, .int 6)]) hx hb dX11_count_40 rfl hl (by decide) rfl (fun ls hl => ?_)
          refine lv_iload_n hx hb dX11_count_41 rfl (lv_at hl 4 rfl) ?_
          refine lv_aload_n hx hb dX11_count_42 rfl (lv_at hl 5 rfl) ?_
          refine va_get (D := (dC, dI)) (ci := 9) (v := .ref (a 5)) (C := RX11) (T := TX11) (N := 55) hx hb hts inX11 hown hK hP 0 rfl rfl 5 (by decide) (hts _ mw_1164) (fun _ h9 => h9) rfl dX11_count_43 ?_
          refine lv_iload hx hb dX11_count_46 (lv_at hl 1 rfl) ?_
          refine z_iald hx hb hK hP 1 0 rfl rfl (e := q) rfl (by omega) (by omega) dX11_count_48 ?_
          refine lv_iconst (v := 2) hx hb dX11_count_49 (by decide) ?_
          refine lv_icmp_ne (tgt := 57) hx hb dX11_count_50 (by decide) (fun c_10 => ?_) (fun c_10 => ?_)
          · have c_10 : ¬ (st q).toInt = 2 := zc_ne rfl (by decide) c_10
            refine lv_iconst (v := 0) hx hb dX11_count_57 (by decide) ?_
            refine lv_iadd hx hb dX11_count_58 ?_
            refine zz_i (v := nI ((cntP (fun g => (st g).toInt = 2) q) + 0)) (nI_add (cntP (fun g => (st g).toInt = 2) q) 0) ?_
            refine lv_istore_n (lv' := [(3, .int (nI ((cntP (fun g => (st g).toInt = 2) q) + 0))), (2, .int (nI ((cntP (fun g => (st g).toInt = 1) q) + 1))), (6, .int (nI q)), (5, .int (nI (smP (lvF ft st tn) (fun g => nN (mn g)) q))), (4, .int (nI (cntP (fun g => ¬ (tn g).toInt = 0) q))), (0, .ref k0), (1, .int 6)]) hx hb dX11_count_59 rfl hl (by decide) rfl (fun ls hl => ?_)
            refine lv_iload hx hb dX11_count_60 (lv_at hl 4 rfl) ?_
            refine lv_aload_n hx hb dX11_count_62 rfl (lv_at hl 5 rfl) ?_
            refine va_get (D := (dC, dI)) (ci := 9) (v := .ref (a 6)) (C := RX11) (T := TX11) (N := 55) hx hb hts inX11 hown hK hP 0 rfl rfl 6 (by decide) (hts _ mw_1165) (fun _ h9 => h9) rfl dX11_count_63 ?_
            refine lv_iload hx hb dX11_count_66 (lv_at hl 2 rfl) ?_
            refine z_zald hx hb hK hP 2 1 rfl rfl (e := q) rfl (by omega) (by omega) dX11_count_68 ?_
            refine lv_if_eq (tgt := 76) hx hb dX11_count_69 (by decide) (fun c_11 => ?_) (fun c_11 => ?_)
            · have c_11 : (tn q).toInt = 0 := zc_eq rfl (by decide) c_11
              refine lv_iconst (v := 0) hx hb dX11_count_76 (by decide) ?_
              refine lv_iadd hx hb dX11_count_77 ?_
              refine zz_i (v := nI ((cntP (fun g => ¬ (tn g).toInt = 0) q) + 0)) (nI_add (cntP (fun g => ¬ (tn g).toInt = 0) q) 0) ?_
              refine lv_istore (lv' := [(4, .int (nI ((cntP (fun g => ¬ (tn g).toInt = 0) q) + 0))), (3, .int (nI ((cntP (fun g => (st g).toInt = 2) q) + 0))), (2, .int (nI ((cntP (fun g => (st g).toInt = 1) q) + 1))), (6, .int (nI q)), (5, .int (nI (smP (lvF ft st tn) (fun g => nN (mn g)) q))), (0, .ref k0), (1, .int 6)]) hx hb dX11_count_78 hl (by decide) rfl (fun ls hl => ?_)
              refine lv_iload hx hb dX11_count_80 (lv_at hl 4 rfl) ?_
              refine lv_aload_n hx hb dX11_count_82 rfl (lv_at hl 5 rfl) ?_
              refine lv_iload hx hb dX11_count_83 (lv_at hl 3 rfl) ?_
              have hPc := hP.sub (ws' := [(om k0 a I0 J0), (oa (a 5) cI 201 st), (oa (a 6) cZ 201 tn)]) [0, 1, 2] rfl
              have hDc := hD.sub (ws' := [(om k0 a I0 J0), (oa (a 5) cI 201 st), (oa (a 6) cZ 201 tn)]) [0, 1, 2] (by decide) rfl
              have hFc := va_free (wc := [(om k0 a I0 J0), (oa (a 5) cI 201 st), (oa (a 6) cZ 201 tn)]) hD hS hA [0, 1, 2] rfl
              refine zcall (st1 := [.int (pI (q < ft ∧ (st q).toInt = 1 ∧ (tn q).toInt = 0)), .int (nI (smP (lvF ft st tn) (fun g => nN (mn g)) q))]) (va_runV (As := [.int (nI q)]) (rest := [.int (nI (smP (lvF ft st tn) (fun g => nN (mn g)) q))]) ⟨hx, hb, hml, hown, hts⟩ (k_M_is_n l dC dI cI cZ cF H.size k0 a I0 J0 q ft st tn (by assumption) (by omega) (by omega)) (cwV 1 hts (zz_gV mw_1447 mw_1449 mw_56 mw_110 mc_yX11_is) rfl rfl rfl (by decide +kernel) ⟨Nat.le_of_ble_eq_true rfl, Nat.le_of_ble_eq_true rfl⟩) (zPV2 (q0 := 0) (ci := 9) hPc hDc hK hXN rfl rfl) rfl rfl hl.1 rfl (lv_room (Nat.le_of_ble_eq_true rfl)) dX11_count_85 ⟨Nat.le_of_ble_eq_true rfl, Nat.le_of_ble_eq_true rfl⟩) hS hFc hFc rfl (fun t H1 locs ht hB hk1 hS => ?_)
              obtain ⟨hP1, hD1⟩ := hB
              rw [ht] at hP1
              obtain ⟨hP, hD⟩ := va_join (wr := [(oa (a 11) cI 201 mn)]) (w1 := [(om k0 a I0 J0), (oa (a 5) cI 201 st), (oa (a 6) cZ 201 tn)]) hP hD [0, 1, 2] [3] rfl rfl (by decide) (by decide) hk1 hFc hP1 hD1
              clear hk1 hPc hDc hFc hP1 hD1 ht
              generalize H1 = H at hP hS ⊢
              have hP := hP.sub (ws' := [(om k0 a I0 J0), (oa (a 5) cI 201 st), (oa (a 6) cZ 201 tn), (oa (a 11) cI 201 mn)]) [1, 2, 3, 0] rfl
              have hD := hD.sub (ws' := [(om k0 a I0 J0), (oa (a 5) cI 201 st), (oa (a 6) cZ 201 tn), (oa (a 11) cI 201 mn)]) [1, 2, 3, 0] (by decide) rfl
              have hP : va_P (dC, dI) classes [(om k0 a I0 J0), (oa (a 5) cI 201 st), (oa (a 6) cZ 201 tn), (oa (a 11) cI 201 mn)] H := hP
              have hD : va_D A [(om k0 a I0 J0), (oa (a 5) cI 201 st), (oa (a 6) cZ 201 tn), (oa (a 11) cI 201 mn)] := hD
              refine lv_if_eq (tgt := 101) hx hb dX11_count_88 (by decide) (fun c_12 => ?_) (fun c_12 => ?_)
              · have c_12 : ¬ (q < ft ∧ (st q).toInt = 1 ∧ (tn q).toInt = 0) := zp_0 c_12
                refine lv_iconst (v := 0) hx hb dX11_count_101 (by decide) ?_
                refine lv_iadd hx hb dX11_count_102 ?_
                refine zz_i (v := nI ((smP (lvF ft st tn) (fun g => nN (mn g)) q) + 0)) (nI_add (smP (lvF ft st tn) (fun g => nN (mn g)) q) 0) ?_
                refine lv_istore (lv' := [(5, .int (nI ((smP (lvF ft st tn) (fun g => nN (mn g)) q) + 0))), (4, .int (nI ((cntP (fun g => ¬ (tn g).toInt = 0) q) + 0))), (3, .int (nI ((cntP (fun g => (st g).toInt = 2) q) + 0))), (2, .int (nI ((cntP (fun g => (st g).toInt = 1) q) + 1))), (6, .int (nI q)), (0, .ref k0), (1, .int 6)]) hx hb dX11_count_103 hl (by decide) rfl (fun ls hl => ?_)
                refine lv_iinc (v := nI (q + 1)) (lv' := [(6, .int (nI (q + 1))), (5, .int (nI ((smP (lvF ft st tn) (fun g => nN (mn g)) q) + 0))), (4, .int (nI ((cntP (fun g => ¬ (tn g).toInt = 0) q) + 0))), (3, .int (nI ((cntP (fun g => (st g).toInt = 2) q) + 0))), (2, .int (nI ((cntP (fun g => (st g).toInt = 1) q) + 1))), (0, .ref k0), (1, .int 6)]) hx hb dX11_count_105 hl (k := 4) rfl (nI_add q 1) (by decide) rfl (fun ls hl => ?_)
                refine lv_goto (tgt := 13) hx hb dX11_count_108 (by decide) ?_
                have hl9 := lv_sub hl [0, 1, 2, 3, 4, 5, 6] rfl
                have e9_2 : nI (cntP (fun g => (st g).toInt = 1) (q + 1)) = (nI ((cntP (fun g => (st g).toInt = 1) q) + 1) : Int32) := by first | exact congrArg nI (cntP_y (P := fun g => (st g).toInt = 1) (show (st q).toInt = 1 by omega)) | exact congrArg nI (cntP_n0 (P := fun g => (st g).toInt = 1) (show ¬ (st q).toInt = 1 by omega))
                have e9_3 : nI (cntP (fun g => (st g).toInt = 2) (q + 1)) = (nI ((cntP (fun g => (st g).toInt = 2) q) + 0) : Int32) := by first | exact congrArg nI (cntP_y (P := fun g => (st g).toInt = 2) (show (st q).toInt = 2 by omega)) | exact congrArg nI (cntP_n0 (P := fun g => (st g).toInt = 2) (show ¬ (st q).toInt = 2 by omega))
                have e9_4 : nI (cntP (fun g => ¬ (tn g).toInt = 0) (q + 1)) = (nI ((cntP (fun g => ¬ (tn g).toInt = 0) q) + 0) : Int32) := by first | exact congrArg nI (cntP_y (P := fun g => ¬ (tn g).toInt = 0) (show ¬ (tn q).toInt = 0 by omega)) | exact congrArg nI (cntP_n0 (P := fun g => ¬ (tn g).toInt = 0) (show ¬ ¬ (tn q).toInt = 0 by omega))
                have e9_5 : nI (smP (lvF ft st tn) (fun g => nN (mn g)) (q + 1)) = (nI ((smP (lvF ft st tn) (fun g => nN (mn g)) q) + 0) : Int32) := by first | exact congrArg nI (smP_y (P := lvF ft st tn) (by assumption)) | exact congrArg nI (smP_n (P := lvF ft st tn) (by assumption))
                have hl9 : lv_has ls 7 [(6, .int (nI (q + 1))), (5, .int (nI (smP (lvF ft st tn) (fun g => nN (mn g)) (q + 1)))), (4, .int (nI (cntP (fun g => ¬ (tn g).toInt = 0) (q + 1)))), (3, .int (nI (cntP (fun g => (st g).toInt = 2) (q + 1)))), (2, .int (nI (cntP (fun g => (st g).toInt = 1) (q + 1)))), (0, .ref k0), (1, .int 6)] := by rw [e9_2]; rw [e9_3]; rw [e9_4]; rw [e9_5]; exact hl9
                exact ih_13 (q + 1) H locs ls (by omega) (by omega) hP hD hS hl9
              · have c_12 : q < ft ∧ (st q).toInt = 1 ∧ (tn q).toInt = 0 := zp_1 c_12
                refine lv_aload_n hx hb dX11_count_91 rfl (lv_at hl 5 rfl) ?_
                refine va_get (D := (dC, dI)) (ci := 9) (v := .ref (a 11)) (C := RX11) (T := TX11) (N := 55) hx hb hts inX11 hown hK hP 0 rfl rfl 11 (by decide) (hts _ mw_1170) (fun _ h9 => h9) rfl dX11_count_92 ?_
                refine lv_iload hx hb dX11_count_95 (lv_at hl 3 rfl) ?_
                refine z_iald hx hb hK hP 3 0 rfl rfl (e := q) rfl (by omega) (by omega) dX11_count_97 ?_
                refine zz_i (v := nI (nN (mn q))) ((hmw q (by assumption)).1) ?_
                refine lv_goto (tgt := 102) hx hb dX11_count_98 (by decide) ?_
                refine lv_iadd hx hb dX11_count_102 ?_
                refine zz_i (v := nI ((smP (lvF ft st tn) (fun g => nN (mn g)) q) + (nN (mn q)))) (nI_add (smP (lvF ft st tn) (fun g => nN (mn g)) q) (nN (mn q))) ?_
                refine lv_istore (lv' := [(5, .int (nI ((smP (lvF ft st tn) (fun g => nN (mn g)) q) + (nN (mn q))))), (4, .int (nI ((cntP (fun g => ¬ (tn g).toInt = 0) q) + 0))), (3, .int (nI ((cntP (fun g => (st g).toInt = 2) q) + 0))), (2, .int (nI ((cntP (fun g => (st g).toInt = 1) q) + 1))), (6, .int (nI q)), (0, .ref k0), (1, .int 6)]) hx hb dX11_count_103 hl (by decide) rfl (fun ls hl => ?_)
                refine lv_iinc (v := nI (q + 1)) (lv' := [(6, .int (nI (q + 1))), (5, .int (nI ((smP (lvF ft st tn) (fun g => nN (mn g)) q) + (nN (mn q))))), (4, .int (nI ((cntP (fun g => ¬ (tn g).toInt = 0) q) + 0))), (3, .int (nI ((cntP (fun g => (st g).toInt = 2) q) + 0))), (2, .int (nI ((cntP (fun g => (st g).toInt = 1) q) + 1))), (0, .ref k0), (1, .int 6)]) hx hb dX11_count_105 hl (k := 4) rfl (nI_add q 1) (by decide) rfl (fun ls hl => ?_)
                refine lv_goto (tgt := 13) hx hb dX11_count_108 (by decide) ?_
                have hl9 := lv_sub hl [0, 1, 2, 3, 4, 5, 6] rfl
                have e9_2 : nI (cntP (fun g => (st g).toInt = 1) (q + 1)) = (nI ((cntP (fun g => (st g).toInt = 1) q) + 1) : Int32) := by first | exact congrArg nI (cntP_y (P := fun g => (st g).toInt = 1) (show (st q).toInt = 1 by omega)) | exact congrArg nI (cntP_n0 (P := fun g => (st g).toInt = 1) (show ¬ (st q).toInt = 1 by omega))
                have e9_3 : nI (cntP (fun g => (st g).toInt = 2) (q + 1)) = (nI ((cntP (fun g => (st g).toInt = 2) q) + 0) : Int32) := by first | exact congrArg nI (cntP_y (P := fun g => (st g).toInt = 2) (show (st q).toInt = 2 by omega)) | exact congrArg nI (cntP_n0 (P := fun g => (st g).toInt = 2) (show ¬ (st q).toInt = 2 by omega))
                have e9_4 : nI (cntP (fun g => ¬ (tn g).toInt = 0) (q + 1)) = (nI ((cntP (fun g => ¬ (tn g).toInt = 0) q) + 0) : Int32) := by first | exact congrArg nI (cntP_y (P := fun g => ¬ (tn g).toInt = 0) (show ¬ (tn q).toInt = 0 by omega)) | exact congrArg nI (cntP_n0 (P := fun g => ¬ (tn g).toInt = 0) (show ¬ ¬ (tn q).toInt = 0 by omega))
                have e9_5 : nI (smP (lvF ft st tn) (fun g => nN (mn g)) (q + 1)) = (nI ((smP (lvF ft st tn) (fun g => nN (mn g)) q) + (nN (mn q))) : Int32) := by first | exact congrArg nI (smP_y (P := lvF ft st tn) (by assumption)) | exact congrArg nI (smP_n (P := lvF ft st tn) (by assumption))
                have hl9 : lv_has ls 7 [(6, .int (nI (q + 1))), (5, .int (nI (smP (lvF ft st tn) (fun g => nN (mn g)) (q + 1)))), (4, .int (nI (cntP (fun g => ¬ (tn g).toInt = 0) (q + 1)))), (3, .int (nI (cntP (fun g => (st g).toInt = 2) (q + 1)))), (2, .int (nI (cntP (fun g => (st g).toInt = 1) (q + 1)))), (0, .ref k0), (1, .int 6)] := by rw [e9_2]; rw [e9_3]; rw [e9_4]; rw [e9_5]; exact hl9
                exact ih_13 (q + 1) H locs ls (by omega) (by omega) hP hD hS hl9
            · have c_11 : ¬ (tn q).toInt = 0 := zc_ne rfl (by decide) c_11
              refine lv_iconst (v := 1) hx hb dX11_count_72 (by decide) ?_
              refine lv_goto (tgt := 77) hx hb dX11_count_73 (by decide) ?_
              refine lv_iadd hx hb dX11_count_77 ?_
              refine zz_i (v := nI ((cntP (fun g => ¬ (tn g).toInt = 0) q) + 1)) (nI_add (cntP (fun g => ¬ (tn g).toInt = 0) q) 1) ?_
              refine lv_istore (lv' := [(4, .int (nI ((cntP (fun g => ¬ (tn g).toInt = 0) q) + 1))), (3, .int (nI ((cntP (fun g => (st g).toInt = 2) q) + 0))), (2, .int (nI ((cntP (fun g => (st g).toInt = 1) q) + 1))), (6, .int (nI q)), (5, .int (nI (smP (lvF ft st tn) (fun g => nN (mn g)) q))), (0, .ref k0), (1, .int 6)]) hx hb dX11_count_78 hl (by decide) rfl (fun ls hl => ?_)
              refine lv_iload hx hb dX11_count_80 (lv_at hl 4 rfl) ?_
              refine lv_aload_n hx hb dX11_count_82 rfl (lv_at hl 5 rfl) ?_
              refine lv_iload hx hb dX11_count_83 (lv_at hl 3 rfl) ?_
              have hPc := hP.sub (ws' := [(om k0 a I0 J0), (oa (a 5) cI 201 st), (oa (a 6) cZ 201 tn)]) [0, 1, 2] rfl
              have hDc := hD.sub (ws' := [(om k0 a I0 J0), (oa (a 5) cI 201 st), (oa (a 6) cZ 201 tn)]) [0, 1, 2] (by decide) rfl
              have hFc := va_free (wc := [(om k0 a I0 J0), (oa (a 5) cI 201 st), (oa (a 6) cZ 201 tn)]) hD hS hA [0, 1, 2] rfl
              refine zcall (st1 := [.int (pI (q < ft ∧ (st q).toInt = 1 ∧ (tn q).toInt = 0)), .int (nI (smP (lvF ft st tn) (fun g => nN (mn g)) q))]) (va_runV (As := [.int (nI q)]) (rest := [.int (nI (smP (lvF ft st tn) (fun g => nN (mn g)) q))]) ⟨hx, hb, hml, hown, hts⟩ (k_M_is_n l dC dI cI cZ cF H.size k0 a I0 J0 q ft st tn (by assumption) (by omega) (by omega)) (cwV 1 hts (zz_gV mw_1447 mw_1449 mw_56 mw_110 mc_yX11_is) rfl rfl rfl (by decide +kernel) ⟨Nat.le_of_ble_eq_true rfl, Nat.le_of_ble_eq_true rfl⟩) (zPV2 (q0 := 0) (ci := 9) hPc hDc hK hXN rfl rfl) rfl rfl hl.1 rfl (lv_room (Nat.le_of_ble_eq_true rfl)) dX11_count_85 ⟨Nat.le_of_ble_eq_true rfl, Nat.le_of_ble_eq_true rfl⟩) hS hFc hFc rfl (fun t H1 locs ht hB hk1 hS => ?_)
              obtain ⟨hP1, hD1⟩ := hB
              rw [ht] at hP1
              obtain ⟨hP, hD⟩ := va_join (wr := [(oa (a 11) cI 201 mn)]) (w1 := [(om k0 a I0 J0), (oa (a 5) cI 201 st), (oa (a 6) cZ 201 tn)]) hP hD [0, 1, 2] [3] rfl rfl (by decide) (by decide) hk1 hFc hP1 hD1
              clear hk1 hPc hDc hFc hP1 hD1 ht
              generalize H1 = H at hP hS ⊢
              have hP := hP.sub (ws' := [(om k0 a I0 J0), (oa (a 5) cI 201 st), (oa (a 6) cZ 201 tn), (oa (a 11) cI 201 mn)]) [1, 2, 3, 0] rfl
              have hD := hD.sub (ws' := [(om k0 a I0 J0), (oa (a 5) cI 201 st), (oa (a 6) cZ 201 tn), (oa (a 11) cI 201 mn)]) [1, 2, 3, 0] (by decide) rfl
              have hP : va_P (dC, dI) classes [(om k0 a I0 J0), (oa (a 5) cI 201 st), (oa (a 6) cZ 201 tn), (oa (a 11) cI 201 mn)] H := hP
              have hD : va_D A [(om k0 a I0 J0), (oa (a 5) cI 201 st), (oa (a 6) cZ 201 tn), (oa (a 11) cI 201 mn)] := hD
              refine lv_if_eq (tgt := 101) hx hb dX11_count_88 (by decide) (fun c_13 => ?_) (fun c_13 => ?_)
              · have c_13 : ¬ (q < ft ∧ (st q).toInt = 1 ∧ (tn q).toInt = 0) := zp_0 c_13
                refine lv_iconst (v := 0) hx hb dX11_count_101 (by decide) ?_
                refine lv_iadd hx hb dX11_count_102 ?_
                refine zz_i (v := nI ((smP (lvF ft st tn) (fun g => nN (mn g)) q) + 0)) (nI_add (smP (lvF ft st tn) (fun g => nN (mn g)) q) 0) ?_
                refine lv_istore (lv' := [(5, .int (nI ((smP (lvF ft st tn) (fun g => nN (mn g)) q) + 0))), (4, .int (nI ((cntP (fun g => ¬ (tn g).toInt = 0) q) + 1))), (3, .int (nI ((cntP (fun g => (st g).toInt = 2) q) + 0))), (2, .int (nI ((cntP (fun g => (st g).toInt = 1) q) + 1))), (6, .int (nI q)), (0, .ref k0), (1, .int 6)]) hx hb dX11_count_103 hl (by decide) rfl (fun ls hl => ?_)
                refine lv_iinc (v := nI (q + 1)) (lv' := [(6, .int (nI (q + 1))), (5, .int (nI ((smP (lvF ft st tn) (fun g => nN (mn g)) q) + 0))), (4, .int (nI ((cntP (fun g => ¬ (tn g).toInt = 0) q) + 1))), (3, .int (nI ((cntP (fun g => (st g).toInt = 2) q) + 0))), (2, .int (nI ((cntP (fun g => (st g).toInt = 1) q) + 1))), (0, .ref k0), (1, .int 6)]) hx hb dX11_count_105 hl (k := 4) rfl (nI_add q 1) (by decide) rfl (fun ls hl => ?_)
                refine lv_goto (tgt := 13) hx hb dX11_count_108 (by decide) ?_
                have hl9 := lv_sub hl [0, 1, 2, 3, 4, 5, 6] rfl
                have e9_2 : nI (cntP (fun g => (st g).toInt = 1) (q + 1)) = (nI ((cntP (fun g => (st g).toInt = 1) q) + 1) : Int32) := by first | exact congrArg nI (cntP_y (P := fun g => (st g).toInt = 1) (show (st q).toInt = 1 by omega)) | exact congrArg nI (cntP_n0 (P := fun g => (st g).toInt = 1) (show ¬ (st q).toInt = 1 by omega))
                have e9_3 : nI (cntP (fun g => (st g).toInt = 2) (q + 1)) = (nI ((cntP (fun g => (st g).toInt = 2) q) + 0) : Int32) := by first | exact congrArg nI (cntP_y (P := fun g => (st g).toInt = 2) (show (st q).toInt = 2 by omega)) | exact congrArg nI (cntP_n0 (P := fun g => (st g).toInt = 2) (show ¬ (st q).toInt = 2 by omega))
                have e9_4 : nI (cntP (fun g => ¬ (tn g).toInt = 0) (q + 1)) = (nI ((cntP (fun g => ¬ (tn g).toInt = 0) q) + 1) : Int32) := by first | exact congrArg nI (cntP_y (P := fun g => ¬ (tn g).toInt = 0) (show ¬ (tn q).toInt = 0 by omega)) | exact congrArg nI (cntP_n0 (P := fun g => ¬ (tn g).toInt = 0) (show ¬ ¬ (tn q).toInt = 0 by omega))
                have e9_5 : nI (smP (lvF ft st tn) (fun g => nN (mn g)) (q + 1)) = (nI ((smP (lvF ft st tn) (fun g => nN (mn g)) q) + 0) : Int32) := by first | exact congrArg nI (smP_y (P := lvF ft st tn) (by assumption)) | exact congrArg nI (smP_n (P := lvF ft st tn) (by assumption))
                have hl9 : lv_has ls 7 [(6, .int (nI (q + 1))), (5, .int (nI (smP (lvF ft st tn) (fun g => nN (mn g)) (q + 1)))), (4, .int (nI (cntP (fun g => ¬ (tn g).toInt = 0) (q + 1)))), (3, .int (nI (cntP (fun g => (st g).toInt = 2) (q + 1)))), (2, .int (nI (cntP (fun g => (st g).toInt = 1) (q + 1)))), (0, .ref k0), (1, .int 6)] := by rw [e9_2]; rw [e9_3]; rw [e9_4]; rw [e9_5]; exact hl9
                exact ih_13 (q + 1) H locs ls (by omega) (by omega) hP hD hS hl9
              · have c_13 : q < ft ∧ (st q).toInt = 1 ∧ (tn q).toInt = 0 := zp_1 c_13
                refine lv_aload_n hx hb dX11_count_91 rfl (lv_at hl 5 rfl) ?_
                refine va_get (D := (dC, dI)) (ci := 9) (v := .ref (a 11)) (C := RX11) (T := TX11) (N := 55) hx hb hts inX11 hown hK hP 0 rfl rfl 11 (by decide) (hts _ mw_1170) (fun _ h9 => h9) rfl dX11_count_92 ?_
                refine lv_iload hx hb dX11_count_95 (lv_at hl 3 rfl) ?_
                refine z_iald hx hb hK hP 3 0 rfl rfl (e := q) rfl (by omega) (by omega) dX11_count_97 ?_
                refine zz_i (v := nI (nN (mn q))) ((hmw q (by assumption)).1) ?_
                refine lv_goto (tgt := 102) hx hb dX11_count_98 (by decide) ?_
                refine lv_iadd hx hb dX11_count_102 ?_
                refine zz_i (v := nI ((smP (lvF ft st tn) (fun g => nN (mn g)) q) + (nN (mn q)))) (nI_add (smP (lvF ft st tn) (fun g => nN (mn g)) q) (nN (mn q))) ?_
                refine lv_istore (lv' := [(5, .int (nI ((smP (lvF ft st tn) (fun g => nN (mn g)) q) + (nN (mn q))))), (4, .int (nI ((cntP (fun g => ¬ (tn g).toInt = 0) q) + 1))), (3, .int (nI ((cntP (fun g => (st g).toInt = 2) q) + 0))), (2, .int (nI ((cntP (fun g => (st g).toInt = 1) q) + 1))), (6, .int (nI q)), (0, .ref k0), (1, .int 6)]) hx hb dX11_count_103 hl (by decide) rfl (fun ls hl => ?_)
                refine lv_iinc (v := nI (q + 1)) (lv' := [(6, .int (nI (q + 1))), (5, .int (nI ((smP (lvF ft st tn) (fun g => nN (mn g)) q) + (nN (mn q))))), (4, .int (nI ((cntP (fun g => ¬ (tn g).toInt = 0) q) + 1))), (3, .int (nI ((cntP (fun g => (st g).toInt = 2) q) + 0))), (2, .int (nI ((cntP (fun g => (st g).toInt = 1) q) + 1))), (0, .ref k0), (1, .int 6)]) hx hb dX11_count_105 hl (k := 4) rfl (nI_add q 1) (by decide) rfl (fun ls hl => ?_)
                refine lv_goto (tgt := 13) hx hb dX11_count_108 (by decide) ?_
                have hl9 := lv_sub hl [0, 1, 2, 3, 4, 5, 6] rfl
                have e9_2 : nI (cntP (fun g => (st g).toInt = 1) (q + 1)) = (nI ((cntP (fun g => (st g).toInt = 1) q) + 1) : Int32) := by first | exact congrArg nI (cntP_y (P := fun g => (st g).toInt = 1) (show (st q).toInt = 1 by omega)) | exact congrArg nI (cntP_n0 (P := fun g => (st g).toInt = 1) (show ¬ (st q).toInt = 1 by omega))
                have e9_3 : nI (cntP (fun g => (st g).toInt = 2) (q + 1)) = (nI ((cntP (fun g => (st g).toInt = 2) q) + 0) : Int32) := by first | exact congrArg nI (cntP_y (P := fun g => (st g).toInt = 2) (show (st q).toInt = 2 by omega)) | exact congrArg nI (cntP_n0 (P := fun g => (st g).toInt = 2) (show ¬ (st q).toInt = 2 by omega))
                have e9_4 : nI (cntP (fun g => ¬ (tn g).toInt = 0) (q + 1)) = (nI ((cntP (fun g => ¬ (tn g).toInt = 0) q) + 1) : Int32) := by first | exact congrArg nI (cntP_y (P := fun g => ¬ (tn g).toInt = 0) (show ¬ (tn q).toInt = 0 by omega)) | exact congrArg nI (cntP_n0 (P := fun g => ¬ (tn g).toInt = 0) (show ¬ ¬ (tn q).toInt = 0 by omega))
                have e9_5 : nI (smP (lvF ft st tn) (fun g => nN (mn g)) (q + 1)) = (nI ((smP (lvF ft st tn) (fun g => nN (mn g)) q) + (nN (mn q))) : Int32) := by first | exact congrArg nI (smP_y (P := lvF ft st tn) (by assumption)) | exact congrArg nI (smP_n (P := lvF ft st tn) (by assumption))
                have hl9 : lv_has ls 7 [(6, .int (nI (q + 1))), (5, .int (nI (smP (lvF ft st tn) (fun g => nN (mn g)) (q + 1)))), (4, .int (nI (cntP (fun g => ¬ (tn g).toInt = 0) (q + 1)))), (3, .int (nI (cntP (fun g => (st g).toInt = 2) (q + 1)))), (2, .int (nI (cntP (fun g => (st g).toInt = 1) (q + 1)))), (0, .ref k0), (1, .int 6)] := by rw [e9_2]; rw [e9_3]; rw [e9_4]; rw [e9_5]; exact hl9
                exact ih_13 (q + 1) H locs ls (by omega) (by omega) hP hD hS hl9
          · have c_10 : (st q).toInt = 2 := zc_eq rfl (by decide) c_10
            refine lv_iconst (v := 1) hx hb dX11_count_53 (by decide) ?_
            refine lv_goto (tgt := 58) hx hb dX11_count_54 (by decide) ?_
            refine lv_iadd hx hb dX11_count_58 ?_
            refine zz_i (v := nI ((cntP (fun g => (st g).toInt = 2) q) + 1)) (nI_add (cntP (fun g => (st g).toInt = 2) q) 1) ?_
            refine lv_istore_n (lv' := [(3, .int (nI ((cntP (fun g => (st g).toInt = 2) q) + 1))), (2, .int (nI ((cntP (fun g => (st g).toInt = 1) q) + 1))), (6, .int (nI q)), (5, .int (nI (smP (lvF ft st tn) (fun g => nN (mn g)) q))), (4, .int (nI (cntP (fun g => ¬ (tn g).toInt = 0) q))), (0, .ref k0), (1, .int 6)]) hx hb dX11_count_59 rfl hl (by decide) rfl (fun ls hl => ?_)
            refine lv_iload hx hb dX11_count_60 (lv_at hl 4 rfl) ?_
            refine lv_aload_n hx hb dX11_count_62 rfl (lv_at hl 5 rfl) ?_
            refine va_get (D := (dC, dI)) (ci := 9) (v := .ref (a 6)) (C := RX11) (T := TX11) (N := 55) hx hb hts inX11 hown hK hP 0 rfl rfl 6 (by decide) (hts _ mw_1165) (fun _ h9 => h9) rfl dX11_count_63 ?_
            refine lv_iload hx hb dX11_count_66 (lv_at hl 2 rfl) ?_
            refine z_zald hx hb hK hP 2 1 rfl rfl (e := q) rfl (by omega) (by omega) dX11_count_68 ?_
            refine lv_if_eq (tgt := 76) hx hb dX11_count_69 (by decide) (fun c_14 => ?_) (fun c_14 => ?_)
            · have c_14 : (tn q).toInt = 0 := zc_eq rfl (by decide) c_14
              refine lv_iconst (v := 0) hx hb dX11_count_76 (by decide) ?_
              refine lv_iadd hx hb dX11_count_77 ?_
              refine zz_i (v := nI ((cntP (fun g => ¬ (tn g).toInt = 0) q) + 0)) (nI_add (cntP (fun g => ¬ (tn g).toInt = 0) q) 0) ?_
              refine lv_istore (lv' := [(4, .int (nI ((cntP (fun g => ¬ (tn g).toInt = 0) q) + 0))), (3, .int (nI ((cntP (fun g => (st g).toInt = 2) q) + 1))), (2, .int (nI ((cntP (fun g => (st g).toInt = 1) q) + 1))), (6, .int (nI q)), (5, .int (nI (smP (lvF ft st tn) (fun g => nN (mn g)) q))), (0, .ref k0), (1, .int 6)]) hx hb dX11_count_78 hl (by decide) rfl (fun ls hl => ?_)
              refine lv_iload hx hb dX11_count_80 (lv_at hl 4 rfl) ?_
              refine lv_aload_n hx hb dX11_count_82 rfl (lv_at hl 5 rfl) ?_
              refine lv_iload hx hb dX11_count_83 (lv_at hl 3 rfl) ?_
              have hPc := hP.sub (ws' := [(om k0 a I0 J0), (oa (a 5) cI 201 st), (oa (a 6) cZ 201 tn)]) [0, 1, 2] rfl
              have hDc := hD.sub (ws' := [(om k0 a I0 J0), (oa (a 5) cI 201 st), (oa (a 6) cZ 201 tn)]) [0, 1, 2] (by decide) rfl
              have hFc := va_free (wc := [(om k0 a I0 J0), (oa (a 5) cI 201 st), (oa (a 6) cZ 201 tn)]) hD hS hA [0, 1, 2] rfl
              refine zcall (st1 := [.int (pI (q < ft ∧ (st q).toInt = 1 ∧ (tn q).toInt = 0)), .int (nI (smP (lvF ft st tn) (fun g => nN (mn g)) q))]) (va_runV (As := [.int (nI q)]) (rest := [.int (nI (smP (lvF ft st tn) (fun g => nN (mn g)) q))]) ⟨hx, hb, hml, hown, hts⟩ (k_M_is_n l dC dI cI cZ cF H.size k0 a I0 J0 q ft st tn (by assumption) (by omega) (by omega)) (cwV 1 hts (zz_gV mw_1447 mw_1449 mw_56 mw_110 mc_yX11_is) rfl rfl rfl (by decide +kernel) ⟨Nat.le_of_ble_eq_true rfl, Nat.le_of_ble_eq_true rfl⟩) (zPV2 (q0 := 0) (ci := 9) hPc hDc hK hXN rfl rfl) rfl rfl hl.1 rfl (lv_room (Nat.le_of_ble_eq_true rfl)) dX11_count_85 ⟨Nat.le_of_ble_eq_true rfl, Nat.le_of_ble_eq_true rfl⟩) hS hFc hFc rfl (fun t H1 locs ht hB hk1 hS => ?_)
              obtain ⟨hP1, hD1⟩ := hB
              rw [ht] at hP1
              obtain ⟨hP, hD⟩ := va_join (wr := [(oa (a 11) cI 201 mn)]) (w1 := [(om k0 a I0 J0), (oa (a 5) cI 201 st), (oa (a 6) cZ 201 tn)]) hP hD [0, 1, 2] [3] rfl rfl (by decide) (by decide) hk1 hFc hP1 hD1
              clear hk1 hPc hDc hFc hP1 hD1 ht
              generalize H1 = H at hP hS ⊢
              have hP := hP.sub (ws' := [(om k0 a I0 J0), (oa (a 5) cI 201 st), (oa (a 6) cZ 201 tn), (oa (a 11) cI 201 mn)]) [1, 2, 3, 0] rfl
              have hD := hD.sub (ws' := [(om k0 a I0 J0), (oa (a 5) cI 201 st), (oa (a 6) cZ 201 tn), (oa (a 11) cI 201 mn)]) [1, 2, 3, 0] (by decide) rfl
              have hP : va_P (dC, dI) classes [(om k0 a I0 J0), (oa (a 5) cI 201 st), (oa (a 6) cZ 201 tn), (oa (a 11) cI 201 mn)] H := hP
              have hD : va_D A [(om k0 a I0 J0), (oa (a 5) cI 201 st), (oa (a 6) cZ 201 tn), (oa (a 11) cI 201 mn)] := hD
              refine lv_if_eq (tgt := 101) hx hb dX11_count_88 (by decide) (fun c_15 => ?_) (fun c_15 => ?_)
              · have c_15 : ¬ (q < ft ∧ (st q).toInt = 1 ∧ (tn q).toInt = 0) := zp_0 c_15
                refine lv_iconst (v := 0) hx hb dX11_count_101 (by decide) ?_
                refine lv_iadd hx hb dX11_count_102 ?_
                refine zz_i (v := nI ((smP (lvF ft st tn) (fun g => nN (mn g)) q) + 0)) (nI_add (smP (lvF ft st tn) (fun g => nN (mn g)) q) 0) ?_
                refine lv_istore (lv' := [(5, .int (nI ((smP (lvF ft st tn) (fun g => nN (mn g)) q) + 0))), (4, .int (nI ((cntP (fun g => ¬ (tn g).toInt = 0) q) + 0))), (3, .int (nI ((cntP (fun g => (st g).toInt = 2) q) + 1))), (2, .int (nI ((cntP (fun g => (st g).toInt = 1) q) + 1))), (6, .int (nI q)), (0, .ref k0), (1, .int 6)]) hx hb dX11_count_103 hl (by decide) rfl (fun ls hl => ?_)
                refine lv_iinc (v := nI (q + 1)) (lv' := [(6, .int (nI (q + 1))), (5, .int (nI ((smP (lvF ft st tn) (fun g => nN (mn g)) q) + 0))), (4, .int (nI ((cntP (fun g => ¬ (tn g).toInt = 0) q) + 0))), (3, .int (nI ((cntP (fun g => (st g).toInt = 2) q) + 1))), (2, .int (nI ((cntP (fun g => (st g).toInt = 1) q) + 1))), (0, .ref k0), (1, .int 6)]) hx hb dX11_count_105 hl (k := 4) rfl (nI_add q 1) (by decide) rfl (fun ls hl => ?_)
                refine lv_goto (tgt := 13) hx hb dX11_count_108 (by decide) ?_
                have hl9 := lv_sub hl [0, 1, 2, 3, 4, 5, 6] rfl
                have e9_2 : nI (cntP (fun g => (st g).toInt = 1) (q + 1)) = (nI ((cntP (fun g => (st g).toInt = 1) q) + 1) : Int32) := by first | exact congrArg nI (cntP_y (P := fun g => (st g).toInt = 1) (show (st q).toInt = 1 by omega)) | exact congrArg nI (cntP_n0 (P := fun g => (st g).toInt = 1) (show ¬ (st q).toInt = 1 by omega))
                have e9_3 : nI (cntP (fun g => (st g).toInt = 2) (q + 1)) = (nI ((cntP (fun g => (st g).toInt = 2) q) + 1) : Int32) := by first | exact congrArg nI (cntP_y (P := fun g => (st g).toInt = 2) (show (st q).toInt = 2 by omega)) | exact congrArg nI (cntP_n0 (P := fun g => (st g).toInt = 2) (show ¬ (st q).toInt = 2 by omega))
                have e9_4 : nI (cntP (fun g => ¬ (tn g).toInt = 0) (q + 1)) = (nI ((cntP (fun g => ¬ (tn g).toInt = 0) q) + 0) : Int32) := by first | exact congrArg nI (cntP_y (P := fun g => ¬ (tn g).toInt = 0) (show ¬ (tn q).toInt = 0 by omega)) | exact congrArg nI (cntP_n0 (P := fun g => ¬ (tn g).toInt = 0) (show ¬ ¬ (tn q).toInt = 0 by omega))
                have e9_5 : nI (smP (lvF ft st tn) (fun g => nN (mn g)) (q + 1)) = (nI ((smP (lvF ft st tn) (fun g => nN (mn g)) q) + 0) : Int32) := by first | exact congrArg nI (smP_y (P := lvF ft st tn) (by assumption)) | exact congrArg nI (smP_n (P := lvF ft st tn) (by assumption))
                have hl9 : lv_has ls 7 [(6, .int (nI (q + 1))), (5, .int (nI (smP (lvF ft st tn) (fun g => nN (mn g)) (q + 1)))), (4, .int (nI (cntP (fun g => ¬ (tn g).toInt = 0) (q + 1)))), (3, .int (nI (cntP (fun g => (st g).toInt = 2) (q + 1)))), (2, .int (nI (cntP (fun g => (st g).toInt = 1) (q + 1)))), (0, .ref k0), (1, .int 6)] := by rw [e9_2]; rw [e9_3]; rw [e9_4]; rw [e9_5]; exact hl9
                exact ih_13 (q + 1) H locs ls (by omega) (by omega) hP hD hS hl9
              · have c_15 : q < ft ∧ (st q).toInt = 1 ∧ (tn q).toInt = 0 := zp_1 c_15
                refine lv_aload_n hx hb dX11_count_91 rfl (lv_at hl 5 rfl) ?_
                refine va_get (D := (dC, dI)) (ci := 9) (v := .ref (a 11)) (C := RX11) (T := TX11) (N := 55) hx hb hts inX11 hown hK hP 0 rfl rfl 11 (by decide) (hts _ mw_1170) (fun _ h9 => h9) rfl dX11_count_92 ?_
                refine lv_iload hx hb dX11_count_95 (lv_at hl 3 rfl) ?_
                refine z_iald hx hb hK hP 3 0 rfl rfl (e := q) rfl (by omega) (by omega) dX11_count_97 ?_
                refine zz_i (v := nI (nN (mn q))) ((hmw q (by assumption)).1) ?_
                refine lv_goto (tgt := 102) hx hb dX11_count_98 (by decide) ?_
                refine lv_iadd hx hb dX11_count_102 ?_
                refine zz_i (v := nI ((smP (lvF ft st tn) (fun g => nN (mn g)) q) + (nN (mn q)))) (nI_add (smP (lvF ft st tn) (fun g => nN (mn g)) q) (nN (mn q))) ?_
                refine lv_istore (lv' := [(5, .int (nI ((smP (lvF ft st tn) (fun g => nN (mn g)) q) + (nN (mn q))))), (4, .int (nI ((cntP (fun g => ¬ (tn g).toInt = 0) q) + 0))), (3, .int (nI ((cntP (fun g => (st g).toInt = 2) q) + 1))), (2, .int (nI ((cntP (fun g => (st g).toInt = 1) q) + 1))), (6, .int (nI q)), (0, .ref k0), (1, .int 6)]) hx hb dX11_count_103 hl (by decide) rfl (fun ls hl => ?_)
                refine lv_iinc (v := nI (q + 1)) (lv' := [(6, .int (nI (q + 1))), (5, .int (nI ((smP (lvF ft st tn) (fun g => nN (mn g)) q) + (nN (mn q))))), (4, .int (nI ((cntP (fun g => ¬ (tn g).toInt = 0) q) + 0))), (3, .int (nI ((cntP (fun g => (st g).toInt = 2) q) + 1))), (2, .int (nI ((cntP (fun g => (st g).toInt = 1) q) + 1))), (0, .ref k0), (1, .int 6)]) hx hb dX11_count_105 hl (k := 4) rfl (nI_add q 1) (by decide) rfl (fun ls hl => ?_)
                refine lv_goto (tgt := 13) hx hb dX11_count_108 (by decide) ?_
                have hl9 := lv_sub hl [0, 1, 2, 3, 4, 5, 6] rfl
                have e9_2 : nI (cntP (fun g => (st g).toInt = 1) (q + 1)) = (nI ((cntP (fun g => (st g).toInt = 1) q) + 1) : Int32) := by first | exact congrArg nI (cntP_y (P := fun g => (st g).toInt = 1) (show (st q).toInt = 1 by omega)) | exact congrArg nI (cntP_n0 (P := fun g => (st g).toInt = 1) (show ¬ (st q).toInt = 1 by omega))
                have e9_3 : nI (cntP (fun g => (st g).toInt = 2) (q + 1)) = (nI ((cntP (fun g => (st g).toInt = 2) q) + 1) : Int32) := by first | exact congrArg nI (cntP_y (P := fun g => (st g).toInt = 2) (show (st q).toInt = 2 by omega)) | exact congrArg nI (cntP_n0 (P := fun g => (st g).toInt = 2) (show ¬ (st q).toInt = 2 by omega))
                have e9_4 : nI (cntP (fun g => ¬ (tn g).toInt = 0) (q + 1)) = (nI ((cntP (fun g => ¬ (tn g).toInt = 0) q) + 0) : Int32) := by first | exact congrArg nI (cntP_y (P := fun g => ¬ (tn g).toInt = 0) (show ¬ (tn q).toInt = 0 by omega)) | exact congrArg nI (cntP_n0 (P := fun g => ¬ (tn g).toInt = 0) (show ¬ ¬ (tn q).toInt = 0 by omega))
                have e9_5 : nI (smP (lvF ft st tn) (fun g => nN (mn g)) (q + 1)) = (nI ((smP (lvF ft st tn) (fun g => nN (mn g)) q) + (nN (mn q))) : Int32) := by first | exact congrArg nI (smP_y (P := lvF ft st tn) (by assumption)) | exact congrArg nI (smP_n (P := lvF ft st tn) (by assumption))
                have hl9 : lv_has ls 7 [(6, .int (nI (q + 1))), (5, .int (nI (smP (lvF ft st tn) (fun g => nN (mn g)) (q + 1)))), (4, .int (nI (cntP (fun g => ¬ (tn g).toInt = 0) (q + 1)))), (3, .int (nI (cntP (fun g => (st g).toInt = 2) (q + 1)))), (2, .int (nI (cntP (fun g => (st g).toInt = 1) (q + 1)))), (0, .ref k0), (1, .int 6)] := by rw [e9_2]; rw [e9_3]; rw [e9_4]; rw [e9_5]; exact hl9
                exact ih_13 (q + 1) H locs ls (by omega) (by omega) hP hD hS hl9
            · have c_14 : ¬ (tn q).toInt = 0 := zc_ne rfl (by decide) c_14
              refine lv_iconst (v := 1) hx hb dX11_count_72 (by decide) ?_
              refine lv_goto (tgt := 77) hx hb dX11_count_73 (by decide) ?_
              refine lv_iadd hx hb dX11_count_77 ?_
              refine zz_i (v := nI ((cntP (fun g => ¬ (tn g).toInt = 0) q) + 1)) (nI_add (cntP (fun g => ¬ (tn g).toInt = 0) q) 1) ?_
              refine lv_istore (lv' := [(4, .int (nI ((cntP (fun g => ¬ (tn g).toInt = 0) q) + 1))), (3, .int (nI ((cntP (fun g => (st g).toInt = 2) q) + 1))), (2, .int (nI ((cntP (fun g => (st g).toInt = 1) q) + 1))), (6, .int (nI q)), (5, .int (nI (smP (lvF ft st tn) (fun g => nN (mn g)) q))), (0, .ref k0), (1, .int 6)]) hx hb dX11_count_78 hl (by decide) rfl (fun ls hl => ?_)
              refine lv_iload hx hb dX11_count_80 (lv_at hl 4 rfl) ?_
              refine lv_aload_n hx hb dX11_count_82 rfl (lv_at hl 5 rfl) ?_
              refine lv_iload hx hb dX11_count_83 (lv_at hl 3 rfl) ?_
              have hPc := hP.sub (ws' := [(om k0 a I0 J0), (oa (a 5) cI 201 st), (oa (a 6) cZ 201 tn)]) [0, 1, 2] rfl
              have hDc := hD.sub (ws' := [(om k0 a I0 J0), (oa (a 5) cI 201 st), (oa (a 6) cZ 201 tn)]) [0, 1, 2] (by decide) rfl
              have hFc := va_free (wc := [(om k0 a I0 J0), (oa (a 5) cI 201 st), (oa (a 6) cZ 201 tn)]) hD hS hA [0, 1, 2] rfl
              refine zcall (st1 := [.int (pI (q < ft ∧ (st q).toInt = 1 ∧ (tn q).toInt = 0)), .int (nI (smP (lvF ft st tn) (fun g => nN (mn g)) q))]) (va_runV (As := [.int (nI q)]) (rest := [.int (nI (smP (lvF ft st tn) (fun g => nN (mn g)) q))]) ⟨hx, hb, hml, hown, hts⟩ (k_M_is_n l dC dI cI cZ cF H.size k0 a I0 J0 q ft st tn (by assumption) (by omega) (by omega)) (cwV 1 hts (zz_gV mw_1447 mw_1449 mw_56 mw_110 mc_yX11_is) rfl rfl rfl (by decide +kernel) ⟨Nat.le_of_ble_eq_true rfl, Nat.le_of_ble_eq_true rfl⟩) (zPV2 (q0 := 0) (ci := 9) hPc hDc hK hXN rfl rfl) rfl rfl hl.1 rfl (lv_room (Nat.le_of_ble_eq_true rfl)) dX11_count_85 ⟨Nat.le_of_ble_eq_true rfl, Nat.le_of_ble_eq_true rfl⟩) hS hFc hFc rfl (fun t H1 locs ht hB hk1 hS => ?_)
              obtain ⟨hP1, hD1⟩ := hB
              rw [ht] at hP1
              obtain ⟨hP, hD⟩ := va_join (wr := [(oa (a 11) cI 201 mn)]) (w1 := [(om k0 a I0 J0), (oa (a 5) cI 201 st), (oa (a 6) cZ 201 tn)]) hP hD [0, 1, 2] [3] rfl rfl (by decide) (by decide) hk1 hFc hP1 hD1
              clear hk1 hPc hDc hFc hP1 hD1 ht
              generalize H1 = H at hP hS ⊢
              have hP := hP.sub (ws' := [(om k0 a I0 J0), (oa (a 5) cI 201 st), (oa (a 6) cZ 201 tn), (oa (a 11) cI 201 mn)]) [1, 2, 3, 0] rfl
              have hD := hD.sub (ws' := [(om k0 a I0 J0), (oa (a 5) cI 201 st), (oa (a 6) cZ 201 tn), (oa (a 11) cI 201 mn)]) [1, 2, 3, 0] (by decide) rfl
              have hP : va_P (dC, dI) classes [(om k0 a I0 J0), (oa (a 5) cI 201 st), (oa (a 6) cZ 201 tn), (oa (a 11) cI 201 mn)] H := hP
              have hD : va_D A [(om k0 a I0 J0), (oa (a 5) cI 201 st), (oa (a 6) cZ 201 tn), (oa (a 11) cI 201 mn)] := hD
              refine lv_if_eq (tgt := 101) hx hb dX11_count_88 (by decide) (fun c_16 => ?_) (fun c_16 => ?_)
              · have c_16 : ¬ (q < ft ∧ (st q).toInt = 1 ∧ (tn q).toInt = 0) := zp_0 c_16
                refine lv_iconst (v := 0) hx hb dX11_count_101 (by decide) ?_
                refine lv_iadd hx hb dX11_count_102 ?_
                refine zz_i (v := nI ((smP (lvF ft st tn) (fun g => nN (mn g)) q) + 0)) (nI_add (smP (lvF ft st tn) (fun g => nN (mn g)) q) 0) ?_
                refine lv_istore (lv' := [(5, .int (nI ((smP (lvF ft st tn) (fun g => nN (mn g)) q) + 0))), (4, .int (nI ((cntP (fun g => ¬ (tn g).toInt = 0) q) + 1))), (3, .int (nI ((cntP (fun g => (st g).toInt = 2) q) + 1))), (2, .int (nI ((cntP (fun g => (st g).toInt = 1) q) + 1))), (6, .int (nI q)), (0, .ref k0), (1, .int 6)]) hx hb dX11_count_103 hl (by decide) rfl (fun ls hl => ?_)
                refine lv_iinc (v := nI (q + 1)) (lv' := [(6, .int (nI (q + 1))), (5, .int (nI ((smP (lvF ft st tn) (fun g => nN (mn g)) q) + 0))), (4, .int (nI ((cntP (fun g => ¬ (tn g).toInt = 0) q) + 1))), (3, .int (nI ((cntP (fun g => (st g).toInt = 2) q) + 1))), (2, .int (nI ((cntP (fun g => (st g).toInt = 1) q) + 1))), (0, .ref k0), (1, .int 6)]) hx hb dX11_count_105 hl (k := 4) rfl (nI_add q 1) (by decide) rfl (fun ls hl => ?_)
                refine lv_goto (tgt := 13) hx hb dX11_count_108 (by decide) ?_
                have hl9 := lv_sub hl [0, 1, 2, 3, 4, 5, 6] rfl
                have e9_2 : nI (cntP (fun g => (st g).toInt = 1) (q + 1)) = (nI ((cntP (fun g => (st g).toInt = 1) q) + 1) : Int32) := by first | exact congrArg nI (cntP_y (P := fun g => (st g).toInt = 1) (show (st q).toInt = 1 by omega)) | exact congrArg nI (cntP_n0 (P := fun g => (st g).toInt = 1) (show ¬ (st q).toInt = 1 by omega))
                have e9_3 : nI (cntP (fun g => (st g).toInt = 2) (q + 1)) = (nI ((cntP (fun g => (st g).toInt = 2) q) + 1) : Int32) := by first | exact congrArg nI (cntP_y (P := fun g => (st g).toInt = 2) (show (st q).toInt = 2 by omega)) | exact congrArg nI (cntP_n0 (P := fun g => (st g).toInt = 2) (show ¬ (st q).toInt = 2 by omega))
                have e9_4 : nI (cntP (fun g => ¬ (tn g).toInt = 0) (q + 1)) = (nI ((cntP (fun g => ¬ (tn g).toInt = 0) q) + 1) : Int32) := by first | exact congrArg nI (cntP_y (P := fun g => ¬ (tn g).toInt = 0) (show ¬ (tn q).toInt = 0 by omega)) | exact congrArg nI (cntP_n0 (P := fun g => ¬ (tn g).toInt = 0) (show ¬ ¬ (tn q).toInt = 0 by omega))
                have e9_5 : nI (smP (lvF ft st tn) (fun g => nN (mn g)) (q + 1)) = (nI ((smP (lvF ft st tn) (fun g => nN (mn g)) q) + 0) : Int32) := by first | exact congrArg nI (smP_y (P := lvF ft st tn) (by assumption)) | exact congrArg nI (smP_n (P := lvF ft st tn) (by assumption))
                have hl9 : lv_has ls 7 [(6, .int (nI (q + 1))), (5, .int (nI (smP (lvF ft st tn) (fun g => nN (mn g)) (q + 1)))), (4, .int (nI (cntP (fun g => ¬ (tn g).toInt = 0) (q + 1)))), (3, .int (nI (cntP (fun g => (st g).toInt = 2) (q + 1)))), (2, .int (nI (cntP (fun g => (st g).toInt = 1) (q + 1)))), (0, .ref k0), (1, .int 6)] := by rw [e9_2]; rw [e9_3]; rw [e9_4]; rw [e9_5]; exact hl9
                exact ih_13 (q + 1) H locs ls (by omega) (by omega) hP hD hS hl9
              · have c_16 : q < ft ∧ (st q).toInt = 1 ∧ (tn q).toInt = 0 := zp_1 c_16
                refine lv_aload_n hx hb dX11_count_91 rfl (lv_at hl 5 rfl) ?_
                refine va_get (D := (dC, dI)) (ci := 9) (v := .ref (a 11)) (C := RX11) (T := TX11) (N := 55) hx hb hts inX11 hown hK hP 0 rfl rfl 11 (by decide) (hts _ mw_1170) (fun _ h9 => h9) rfl dX11_count_92 ?_
                refine lv_iload hx hb dX11_count_95 (lv_at hl 3 rfl) ?_
                refine z_iald hx hb hK hP 3 0 rfl rfl (e := q) rfl (by omega) (by omega) dX11_count_97 ?_
                refine zz_i (v := nI (nN (mn q))) ((hmw q (by assumption)).1) ?_
                refine lv_goto (tgt := 102) hx hb dX11_count_98 (by decide) ?_
                refine lv_iadd hx hb dX11_count_102 ?_
                refine zz_i (v := nI ((smP (lvF ft st tn) (fun g => nN (mn g)) q) + (nN (mn q)))) (nI_add (smP (lvF ft st tn) (fun g => nN (mn g)) q) (nN (mn q))) ?_
                refine lv_istore (lv' := [(5, .int (nI ((smP (lvF ft st tn) (fun g => nN (mn g)) q) + (nN (mn q))))), (4, .int (nI ((cntP (fun g => ¬ (tn g).toInt = 0) q) + 1))), (3, .int (nI ((cntP (fun g => (st g).toInt = 2) q) + 1))), (2, .int (nI ((cntP (fun g => (st g).toInt = 1) q) + 1))), (6, .int (nI q)), (0, .ref k0), (1, .int 6)]) hx hb dX11_count_103 hl (by decide) rfl (fun ls hl => ?_)
                refine lv_iinc (v := nI (q + 1)) (lv' := [(6, .int (nI (q + 1))), (5, .int (nI ((smP (lvF ft st tn) (fun g => nN (mn g)) q) + (nN (mn q))))), (4, .int (nI ((cntP (fun g => ¬ (tn g).toInt = 0) q) + 1))), (3, .int (nI ((cntP (fun g => (st g).toInt = 2) q) + 1))), (2, .int (nI ((cntP (fun g => (st g).toInt = 1) q) + 1))), (0, .ref k0), (1, .int 6)]) hx hb dX11_count_105 hl (k := 4) rfl (nI_add q 1) (by decide) rfl (fun ls hl => ?_)
                refine lv_goto (tgt := 13) hx hb dX11_count_108 (by decide) ?_
                have hl9 := lv_sub hl [0, 1, 2, 3, 4, 5, 6] rfl
                have e9_2 : nI (cntP (fun g => (st g).toInt = 1) (q + 1)) = (nI ((cntP (fun g => (st g).toInt = 1) q) + 1) : Int32) := by first | exact congrArg nI (cntP_y (P := fun g => (st g).toInt = 1) (show (st q).toInt = 1 by omega)) | exact congrArg nI (cntP_n0 (P := fun g => (st g).toInt = 1) (show ¬ (st q).toInt = 1 by omega))
                have e9_3 : nI (cntP (fun g => (st g).toInt = 2) (q + 1)) = (nI ((cntP (fun g => (st g).toInt = 2) q) + 1) : Int32) := by first | exact congrArg nI (cntP_y (P := fun g => (st g).toInt = 2) (show (st q).toInt = 2 by omega)) | exact congrArg nI (cntP_n0 (P := fun g => (st g).toInt = 2) (show ¬ (st q).toInt = 2 by omega))
                have e9_4 : nI (cntP (fun g => ¬ (tn g).toInt = 0) (q + 1)) = (nI ((cntP (fun g => ¬ (tn g).toInt = 0) q) + 1) : Int32) := by first | exact congrArg nI (cntP_y (P := fun g => ¬ (tn g).toInt = 0) (show ¬ (tn q).toInt = 0 by omega)) | exact congrArg nI (cntP_n0 (P := fun g => ¬ (tn g).toInt = 0) (show ¬ ¬ (tn q).toInt = 0 by omega))
                have e9_5 : nI (smP (lvF ft st tn) (fun g => nN (mn g)) (q + 1)) = (nI ((smP (lvF ft st tn) (fun g => nN (mn g)) q) + (nN (mn q))) : Int32) := by first | exact congrArg nI (smP_y (P := lvF ft st tn) (by assumption)) | exact congrArg nI (smP_n (P := lvF ft st tn) (by assumption))
                have hl9 : lv_has ls 7 [(6, .int (nI (q + 1))), (5, .int (nI (smP (lvF ft st tn) (fun g => nN (mn g)) (q + 1)))), (4, .int (nI (cntP (fun g => ¬ (tn g).toInt = 0) (q + 1)))), (3, .int (nI (cntP (fun g => (st g).toInt = 2) (q + 1)))), (2, .int (nI (cntP (fun g => (st g).toInt = 1) (q + 1)))), (0, .ref k0), (1, .int 6)] := by rw [e9_2]; rw [e9_3]; rw [e9_4]; rw [e9_5]; exact hl9
                exact ih_13 (q + 1) H locs ls (by omega) (by omega) hP hD hS hl9
  have e9_2 : nI (cntP (fun g => (st g).toInt = 1) 0) = (0 : Int32) := by rfl
  have e9_3 : nI (cntP (fun g => (st g).toInt = 2) 0) = (0 : Int32) := by rfl
  have e9_4 : nI (cntP (fun g => ¬ (tn g).toInt = 0) 0) = (0 : Int32) := by rfl
  have e9_5 : nI (smP (lvF ft st tn) (fun g => nN (mn g)) 0) = (0 : Int32) := by rfl
  have hl9 : lv_has ls 7 [(6, .int (nI 0)), (5, .int (nI (smP (lvF ft st tn) (fun g => nN (mn g)) 0))), (4, .int (nI (cntP (fun g => ¬ (tn g).toInt = 0) 0))), (3, .int (nI (cntP (fun g => (st g).toInt = 2) 0))), (2, .int (nI (cntP (fun g => (st g).toInt = 1) 0))), (0, .ref k0), (1, .int 6)] := by rw [e9_2]; rw [e9_3]; rw [e9_4]; rw [e9_5]; exact lv_sub hl [0, 1, 2, 3, 4, 5, 6] rfl
  exact hl_13 _ 0 s.heap [] ls (Nat.lt_succ_self _) (by omega) hP hD hS hl9
set_option maxHeartbeats 4000000 in
set_option maxRecDepth 100000 in
theorem k_M_count_7 (l : Launch) (dC : Nat → ClassId) (dI : Nat → Nat → Nat) (cI cZ cF : ClassId) (sz : Nat) (k0 : Nat) (a : Nat → Nat) (I0 : Nat → Int32) (J0 : Nat → Int64) (ft : Nat) (st : Nat → Int32) (tn : Nat → Int32) (mn : Nat → Int32) (hft : I0 0 = nI ft) (h200 : ft ≤ 200) (hmw : ∀ q, lvF ft st tn q → mn q = nI (nN (mn q)) ∧ nN (mn q) ≤ 40) : Met l yX11_count (.code yX11_count cX11_count 7 (some .int) :: ws0) ({ frames := 2, cells := 0, slots := 0, locals := 42 } : Room) (va_Pc [.ref k0, .int 7] (zPre (dC, dI) classes (zTy cI cZ cF) [(om k0 a I0 J0), (oa (a 5) cI 201 st), (oa (a 6) cZ 201 tn), (oa (a 11) cI 201 mn)] sz zXN)) (zQ (some (.int (I0 15))) (fun t => va_P (dC, dI) classes [(om k0 a I0 J0), (oa (a 5) cI 201 st), (oa (a 6) cZ 201 tn), (oa (a 11) cI 201 mn)] t.heap ∧ va_D (va_A [(om k0 a I0 J0), (oa (a 5) cI 201 st), (oa (a 6) cZ 201 tn), (oa (a 11) cI 201 mn)] sz) [(om k0 a I0 J0), (oa (a 5) cI 201 st), (oa (a 6) cZ 201 tn), (oa (a 11) cI 201 mn)]) (va_A [(om k0 a I0 J0), (oa (a 5) cI 201 st), (oa (a 6) cZ 201 tn), (oa (a 11) cI 201 mn)] sz)) 0 0 (va_A [(om k0 a I0 J0), (oa (a 5) cI 201 st), (oa (a 6) cZ 201 tn), (oa (a 11) cI 201 mn)] sz) := by
  refine Met.ofW (cc := cX11_count) (maxL := 7) (ret := (some .int)) (by decide) rfl ?_
  intro p e s m args below meth c s₁ B hml hv
  obtain ⟨rfl, hsz, hP, hK, hD0, hXN⟩ := hv
  have hx := B.exec
  have hb := B.bytes
  have hr := B.returns
  have hts0 := atoms_spec (ws := .code yX11_count cX11_count 7 (some .int) :: ws0) B.pre
  have hts : ∀ w9 ∈ ws0, w9.before ([.ref k0, .int 7] : List Value).toArray s = true := fun w9 h => hts0 w9 (List.mem_cons_of_mem _ h)
  have hown : s.vm.findClass "ScaleShopModel" = some m.cls := findClass_of_methodNamed B.named
  have hlocks := B.notSynchronized
  subst hsz
  have hD := hD0.self (sz := s.heap.size)
  clear hD0
  generalize hAe : va_A [(om k0 a I0 J0), (oa (a 5) cI 201 st), (oa (a 6) cZ 201 tn), (oa (a 11) cI 201 mn)] s.heap.size = A at hD ⊢
  have hA : ∀ q : Nat, s.heap.size ≤ q → A q := fun q h => by rw [← hAe]; exact Or.inr h
  clear hAe
  have hS : va_S A s.heap s.heap [] := va_S.rf
  have hP : va_P (dC, dI) classes [(om k0 a I0 J0), (oa (a 5) cI 201 st), (oa (a 6) cZ 201 tn), (oa (a 11) cI 201 mn)] s.heap := hP
  obtain ⟨Q9, hQ9⟩ : ∃ Q9 : State → Prop, Q9 = MQ below (zQ (some (.int (I0 15))) (fun t => va_P (dC, dI) classes [(om k0 a I0 J0), (oa (a 5) cI 201 st), (oa (a 6) cZ 201 tn), (oa (a 11) cI 201 mn)] t.heap ∧ va_D A [(om k0 a I0 J0), (oa (a 5) cI 201 st), (oa (a 6) cZ 201 tn), (oa (a 11) cI 201 mn)]) A) ([.ref k0, .int 7] : List Value).toArray s 0 0 A := ⟨_, rfl⟩
  rw [← hQ9]
  have hl := lv_entry ([.ref k0, .int 7]) (n := 7) (Nat.le_of_ble_eq_true rfl)
  rw [lg_entry_eq]
  generalize (lg_sl ([.ref k0, .int 7]) ++ List.replicate (7 - (lg_sl ([.ref k0, .int 7])).length) Slot.unset).toArray = ls at hl ⊢
  have hl : lv_has ls 7 [(0, .ref k0), (1, .int 7)] := hl
  refine lv_iconst (v := 0) hx hb dX11_count_0 (by decide) ?_
  refine lv_istore_n (lv' := [(2, .int 0), (0, .ref k0), (1, .int 7)]) hx hb dX11_count_1 rfl hl (by decide) rfl (fun ls hl => ?_)
  refine lv_iconst (v := 0) hx hb dX11_count_2 (by decide) ?_
  refine lv_istore_n (lv' := [(3, .int 0), (2, .int 0), (0, .ref k0), (1, .int 7)]) hx hb dX11_count_3 rfl hl (by decide) rfl (fun ls hl => ?_)
  refine lv_iconst (v := 0) hx hb dX11_count_4 (by decide) ?_
  refine lv_istore (lv' := [(4, .int 0), (3, .int 0), (2, .int 0), (0, .ref k0), (1, .int 7)]) hx hb dX11_count_5 hl (by decide) rfl (fun ls hl => ?_)
  refine lv_iconst (v := 0) hx hb dX11_count_7 (by decide) ?_
  refine lv_istore (lv' := [(5, .int 0), (4, .int 0), (3, .int 0), (2, .int 0), (0, .ref k0), (1, .int 7)]) hx hb dX11_count_8 hl (by decide) rfl (fun ls hl => ?_)
  refine lv_iconst (v := 0) hx hb dX11_count_10 (by decide) ?_
  refine lv_istore (lv' := [(6, .int 0), (5, .int 0), (4, .int 0), (3, .int 0), (2, .int 0), (0, .ref k0), (1, .int 7)]) hx hb dX11_count_11 hl (by decide) rfl (fun ls hl => ?_)
  have hl_13 : ∀ (n9 : Nat) (q : Nat) (H : Heap) (locs : List Loc) (ls : Array Slot), ft - q < n9 → (q ≤ ft) → va_P (dC, dI) classes [(om k0 a I0 J0), (oa (a 5) cI 201 st), (oa (a 6) cZ 201 tn), (oa (a 11) cI 201 mn)] H → va_D A [(om k0 a I0 J0), (oa (a 5) cI 201 st), (oa (a 6) cZ 201 tn), (oa (a 11) cI 201 mn)] → va_S A s.heap H locs → lv_has ls 7 [(6, .int (nI q)), (5, .int (nI (smP (lvF ft st tn) (fun g => nN (mn g)) q))), (4, .int (nI (cntP (fun g => ¬ (tn g).toInt = 0) q))), (3, .int (nI (cntP (fun g => (st g).toInt = 2) q))), (2, .int (nI (cntP (fun g => (st g).toInt = 1) q))), (0, .ref k0), (1, .int 7)] → W p l e ((headSpec (.code yX11_count cX11_count 7 (some .int) :: ws0) ({ frames := 2, cells := 0, slots := 0, locals := 42 } : Room)).room) s m ([.ref k0, .int 7] : List Value).toArray below meth c H locs 0 0 Q9 (F0 m 13 ls []) := by
    intro n9
    induction n9 with
    | zero => intro q H locs ls hm; exact absurd hm (Nat.not_lt_zero _)
    | succ n9 ih_13 =>
      intro q H locs ls hm hq hP hD hS hl
      have hc2 := cntP_b (fun g => (st g).toInt = 1) q
      have hc3 := cntP_b (fun g => (st g).toInt = 2) q
      have hc4 := cntP_b (fun g => ¬ (tn g).toInt = 0) q
      have hc5 := smP_b (P := lvF ft st tn) (c := fun g => nN (mn g)) q (fun j _ h => (hmw j h).2)
      refine lv_iload hx hb dX11_count_13 (lv_at hl 0 rfl) ?_
      refine lv_aload_n hx hb dX11_count_15 rfl (lv_at hl 5 rfl) ?_
      refine va_get (D := (dC, dI)) (ci := 9) (v := .int (I0 0)) (C := RX11) (T := TX11) (N := 55) hx hb hts inX11 hown hK hP 0 rfl rfl 0 (by decide) (hts _ mw_1159) (fun _ h9 => h9) rfl dX11_count_16 ?_
      refine zz_i (v := nI ft) (hft) ?_
      refine lv_icmp_ge (tgt := 111) hx hb dX11_count_19 (by decide) (fun c_1 => ?_) (fun c_1 => ?_)
      · have c_1 : ((ft : Nat) : Int) ≤ ((q : Nat) : Int) := zc_le (nI_toInt (by omega)) (nI_toInt (by omega)) c_1
        refine lv_iload_n hx hb dX11_count_111 rfl (lv_at hl 6 rfl) ?_
        refine lv_tableIn (tgt := 185) (off := 73) hx hb dX11_count_112 (by decide) (by decide) (by decide) (by decide) ?_
        refine lv_aload_n hx hb dX11_count_185 rfl (lv_at hl 5 rfl) ?_
        refine va_get (D := (dC, dI)) (ci := 9) (v := .int (I0 15)) (C := RX11) (T := TX11) (N := 55) hx hb hts inX11 hown hK hP 0 rfl rfl 15 (by decide) (hts _ mw_1174) (fun _ h9 => h9) rfl dX11_count_186 ?_
        have hP9 := hP.sub (ws' := [(om k0 a I0 J0), (oa (a 5) cI 201 st), (oa (a 6) cZ 201 tn), (oa (a 11) cI 201 mn)]) [0, 1, 2, 3] rfl
        have hD9 := hD.sub (ws' := [(om k0 a I0 J0), (oa (a 5) cI 201 st), (oa (a 6) cZ 201 tn), (oa (a 11) cI 201 mn)]) [0, 1, 2, 3] (by decide) rfl
        rw [hQ9]
        exact W.iret (v := I0 15) hx hb hr (fun t ht hW => ⟨⟨rfl, by rw [ht]; exact hP9, hD9⟩, hS.F ht⟩) hS.2.2 dX11_count_189
      · have c_1 : ((q : Nat) : Int) < ((ft : Nat) : Int) := zc_nle (nI_toInt (by omega)) (nI_toInt (by omega)) c_1
        refine lv_iload_n hx hb dX11_count_22 rfl (lv_at hl 4 rfl) ?_
        refine lv_aload_n hx hb dX11_count_23 rfl (lv_at hl 5 rfl) ?_
        refine va_get (D := (dC, dI)) (ci := 9) (v := .ref (a 5)) (C := RX11) (T := TX11) (N := 55) hx hb hts inX11 hown hK hP 0 rfl rfl 5 (by decide) (hts _ mw_1164) (fun _ h9 => h9) rfl dX11_count_24 ?_
        refine lv_iload hx hb dX11_count_27 (lv_at hl 0 rfl) ?_
        refine z_iald hx hb hK hP 1 0 rfl rfl (e := q) rfl (by omega) (by omega) dX11_count_29 ?_
        refine lv_iconst (v := 1) hx hb dX11_count_30 (by decide) ?_
        refine lv_icmp_ne (tgt := 38) hx hb dX11_count_31 (by decide) (fun c_2 => ?_) (fun c_2 => ?_)
        · have c_2 : ¬ (st q).toInt = 1 := zc_ne rfl (by decide) c_2
          refine lv_iconst (v := 0) hx hb dX11_count_38 (by decide) ?_
          refine lv_iadd hx hb dX11_count_39 ?_
          refine zz_i (v := nI ((cntP (fun g => (st g).toInt = 1) q) + 0)) (nI_add (cntP (fun g => (st g).toInt = 1) q) 0) ?_
          refine lv_istore_n (lv' := [(2, .int (nI ((cntP (fun g => (st g).toInt = 1) q) + 0))), (6, .int (nI q)), (5, .int (nI (smP (lvF ft st tn) (fun g => nN (mn g)) q))), (4, .int (nI (cntP (fun g => ¬ (tn g).toInt = 0) q))), (3, .int (nI (cntP (fun g => (st g).toInt = 2) q))), (0, .ref k0), (1, .int 7)]) hx hb dX11_count_40 rfl hl (by decide) rfl (fun ls hl => ?_)
          refine lv_iload_n hx hb dX11_count_41 rfl (lv_at hl 4 rfl) ?_
          refine lv_aload_n hx hb dX11_count_42 rfl (lv_at hl 5 rfl) ?_
          refine va_get (D := (dC, dI)) (ci := 9) (v := .ref (a 5)) (C := RX11) (T := TX11) (N := 55) hx hb hts inX11 hown hK hP 0 rfl rfl 5 (by decide) (hts _ mw_1164) (fun _ h9 => h9) rfl dX11_count_43 ?_
          refine lv_iload hx hb dX11_count_46 (lv_at hl 1 rfl) ?_
          refine z_iald hx hb hK hP 1 0 rfl rfl (e := q) rfl (by omega) (by omega) dX11_count_48 ?_
          refine lv_iconst (v := 2) hx hb dX11_count_49 (by decide) ?_
          refine lv_icmp_ne (tgt := 57) hx hb dX11_count_50 (by decide) (fun c_3 => ?_) (fun c_3 => ?_)
          · have c_3 : ¬ (st q).toInt = 2 := zc_ne rfl (by decide) c_3
            refine lv_iconst (v := 0) hx hb dX11_count_57 (by decide) ?_
            refine lv_iadd hx hb dX11_count_58 ?_
            refine zz_i (v := nI ((cntP (fun g => (st g).toInt = 2) q) + 0)) (nI_add (cntP (fun g => (st g).toInt = 2) q) 0) ?_
            refine lv_istore_n (lv' := [(3, .int (nI ((cntP (fun g => (st g).toInt = 2) q) + 0))), (2, .int (nI ((cntP (fun g => (st g).toInt = 1) q) + 0))), (6, .int (nI q)), (5, .int (nI (smP (lvF ft st tn) (fun g => nN (mn g)) q))), (4, .int (nI (cntP (fun g => ¬ (tn g).toInt = 0) q))), (0, .ref k0), (1, .int 7)]) hx hb dX11_count_59 rfl hl (by decide) rfl (fun ls hl => ?_)
            refine lv_iload hx hb dX11_count_60 (lv_at hl 4 rfl) ?_
            refine lv_aload_n hx hb dX11_count_62 rfl (lv_at hl 5 rfl) ?_
            refine va_get (D := (dC, dI)) (ci := 9) (v := .ref (a 6)) (C := RX11) (T := TX11) (N := 55) hx hb hts inX11 hown hK hP 0 rfl rfl 6 (by decide) (hts _ mw_1165) (fun _ h9 => h9) rfl dX11_count_63 ?_
            refine lv_iload hx hb dX11_count_66 (lv_at hl 2 rfl) ?_
            refine z_zald hx hb hK hP 2 1 rfl rfl (e := q) rfl (by omega) (by omega) dX11_count_68 ?_
            refine lv_if_eq (tgt := 76) hx hb dX11_count_69 (by decide) (fun c_4 => ?_) (fun c_4 => ?_)
            · have c_4 : (tn q).toInt = 0 := zc_eq rfl (by decide) c_4
              refine lv_iconst (v := 0) hx hb dX11_count_76 (by decide) ?_
              refine lv_iadd hx hb dX11_count_77 ?_
              refine zz_i (v := nI ((cntP (fun g => ¬ (tn g).toInt = 0) q) + 0)) (nI_add (cntP (fun g => ¬ (tn g).toInt = 0) q) 0) ?_
              refine lv_istore (lv' := [(4, .int (nI ((cntP (fun g => ¬ (tn g).toInt = 0) q) + 0))), (3, .int (nI ((cntP (fun g => (st g).toInt = 2) q) + 0))), (2, .int (nI ((cntP (fun g => (st g).toInt = 1) q) + 0))), (6, .int (nI q)), (5, .int (nI (smP (lvF ft st tn) (fun g => nN (mn g)) q))), (0, .ref k0), (1, .int 7)]) hx hb dX11_count_78 hl (by decide) rfl (fun ls hl => ?_)
              refine lv_iload hx hb dX11_count_80 (lv_at hl 4 rfl) ?_
              refine lv_aload_n hx hb dX11_count_82 rfl (lv_at hl 5 rfl) ?_
              refine lv_iload hx hb dX11_count_83 (lv_at hl 3 rfl) ?_
              have hPc := hP.sub (ws' := [(om k0 a I0 J0), (oa (a 5) cI 201 st), (oa (a 6) cZ 201 tn)]) [0, 1, 2] rfl
              have hDc := hD.sub (ws' := [(om k0 a I0 J0), (oa (a 5) cI 201 st), (oa (a 6) cZ 201 tn)]) [0, 1, 2] (by decide) rfl
              have hFc := va_free (wc := [(om k0 a I0 J0), (oa (a 5) cI 201 st), (oa (a 6) cZ 201 tn)]) hD hS hA [0, 1, 2] rfl
              refine zcall (st1 := [.int (pI (q < ft ∧ (st q).toInt = 1 ∧ (tn q).toInt = 0)), .int (nI (smP (lvF ft st tn) (fun g => nN (mn g)) q))]) (va_runV (As := [.int (nI q)]) (rest := [.int (nI (smP (lvF ft st tn) (fun g => nN (mn g)) q))]) ⟨hx, hb, hml, hown, hts⟩ (k_M_is_n l dC dI cI cZ cF H.size k0 a I0 J0 q ft st tn (by assumption) (by omega) (by omega)) (cwV 1 hts (zz_gV mw_1447 mw_1449 mw_56 mw_110 mc_yX11_is) rfl rfl rfl (by decide +kernel) ⟨Nat.le_of_ble_eq_true rfl, Nat.le_of_ble_eq_true rfl⟩) (zPV2 (q0 := 0) (ci := 9) hPc hDc hK hXN rfl rfl) rfl rfl hl.1 rfl (lv_room (Nat.le_of_ble_eq_true rfl)) dX11_count_85 ⟨Nat.le_of_ble_eq_true rfl, Nat.le_of_ble_eq_true rfl⟩) hS hFc hFc rfl (fun t H1 locs ht hB hk1 hS => ?_)
              obtain ⟨hP1, hD1⟩ := hB
              rw [ht] at hP1
              obtain ⟨hP, hD⟩ := va_join (wr := [(oa (a 11) cI 201 mn)]) (w1 := [(om k0 a I0 J0), (oa (a 5) cI 201 st), (oa (a 6) cZ 201 tn)]) hP hD [0, 1, 2] [3] rfl rfl (by decide) (by decide) hk1 hFc hP1 hD1
              clear hk1 hPc hDc hFc hP1 hD1 ht
              generalize H1 = H at hP hS ⊢
              have hP := hP.sub (ws' := [(om k0 a I0 J0), (oa (a 5) cI 201 st), (oa (a 6) cZ 201 tn), (oa (a 11) cI 201 mn)]) [1, 2, 3, 0] rfl
              have hD := hD.sub (ws' := [(om k0 a I0 J0), (oa (a 5) cI 201 st), (oa (a 6) cZ 201 tn), (oa (a 11) cI 201 mn)]) [1, 2, 3, 0] (by decide) rfl
              have hP : va_P (dC, dI) classes [(om k0 a I0 J0), (oa (a 5) cI 201 st), (oa (a 6) cZ 201 tn), (oa (a 11) cI 201 mn)] H := hP
              have hD : va_D A [(om k0 a I0 J0), (oa (a 5) cI 201 st), (oa (a 6) cZ 201 tn), (oa (a 11) cI 201 mn)] := hD
              refine lv_if_eq (tgt := 101) hx hb dX11_count_88 (by decide) (fun c_5 => ?_) (fun c_5 => ?_)
              · have c_5 : ¬ (q < ft ∧ (st q).toInt = 1 ∧ (tn q).toInt = 0) := zp_0 c_5
                refine lv_iconst (v := 0) hx hb dX11_count_101 (by decide) ?_
                refine lv_iadd hx hb dX11_count_102 ?_
                refine zz_i (v := nI ((smP (lvF ft st tn) (fun g => nN (mn g)) q) + 0)) (nI_add (smP (lvF ft st tn) (fun g => nN (mn g)) q) 0) ?_
                refine lv_istore (lv' := [(5, .int (nI ((smP (lvF ft st tn) (fun g => nN (mn g)) q) + 0))), (4, .int (nI ((cntP (fun g => ¬ (tn g).toInt = 0) q) + 0))), (3, .int (nI ((cntP (fun g => (st g).toInt = 2) q) + 0))), (2, .int (nI ((cntP (fun g => (st g).toInt = 1) q) + 0))), (6, .int (nI q)), (0, .ref k0), (1, .int 7)]) hx hb dX11_count_103 hl (by decide) rfl (fun ls hl => ?_)
                refine lv_iinc (v := nI (q + 1)) (lv' := [(6, .int (nI (q + 1))), (5, .int (nI ((smP (lvF ft st tn) (fun g => nN (mn g)) q) + 0))), (4, .int (nI ((cntP (fun g => ¬ (tn g).toInt = 0) q) + 0))), (3, .int (nI ((cntP (fun g => (st g).toInt = 2) q) + 0))), (2, .int (nI ((cntP (fun g => (st g).toInt = 1) q) + 0))), (0, .ref k0), (1, .int 7)]) hx hb dX11_count_105 hl (k := 4) rfl (nI_add q 1) (by decide) rfl (fun ls hl => ?_)
                refine lv_goto (tgt := 13) hx hb dX11_count_108 (by decide) ?_
                have hl9 := lv_sub hl [0, 1, 2, 3, 4, 5, 6] rfl
                have e9_2 : nI (cntP (fun g => (st g).toInt = 1) (q + 1)) = (nI ((cntP (fun g => (st g).toInt = 1) q) + 0) : Int32) := by first | exact congrArg nI (cntP_y (P := fun g => (st g).toInt = 1) (show (st q).toInt = 1 by omega)) | exact congrArg nI (cntP_n0 (P := fun g => (st g).toInt = 1) (show ¬ (st q).toInt = 1 by omega))
                have e9_3 : nI (cntP (fun g => (st g).toInt = 2) (q + 1)) = (nI ((cntP (fun g => (st g).toInt = 2) q) + 0) : Int32) := by first | exact congrArg nI (cntP_y (P := fun g => (st g).toInt = 2) (show (st q).toInt = 2 by omega)) | exact congrArg nI (cntP_n0 (P := fun g => (st g).toInt = 2) (show ¬ (st q).toInt = 2 by omega))
                have e9_4 : nI (cntP (fun g => ¬ (tn g).toInt = 0) (q + 1)) = (nI ((cntP (fun g => ¬ (tn g).toInt = 0) q) + 0) : Int32) := by first | exact congrArg nI (cntP_y (P := fun g => ¬ (tn g).toInt = 0) (show ¬ (tn q).toInt = 0 by omega)) | exact congrArg nI (cntP_n0 (P := fun g => ¬ (tn g).toInt = 0) (show ¬ ¬ (tn q).toInt = 0 by omega))
                have e9_5 : nI (smP (lvF ft st tn) (fun g => nN (mn g)) (q + 1)) = (nI ((smP (lvF ft st tn) (fun g => nN (mn g)) q) + 0) : Int32) := by first | exact congrArg nI (smP_y (P := lvF ft st tn) (by assumption)) | exact congrArg nI (smP_n (P := lvF ft st tn) (by assumption))
                have hl9 : lv_has ls 7 [(6, .int (nI (q + 1))), (5, .int (nI (smP (lvF ft st tn) (fun g => nN (mn g)) (q + 1)))), (4, .int (nI (cntP (fun g => ¬ (tn g).toInt = 0) (q + 1)))), (3, .int (nI (cntP (fun g => (st g).toInt = 2) (q + 1)))), (2, .int (nI (cntP (fun g => (st g).toInt = 1) (q + 1)))), (0, .ref k0), (1, .int 7)] := by rw [e9_2]; rw [e9_3]; rw [e9_4]; rw [e9_5]; exact hl9
                exact ih_13 (q + 1) H locs ls (by omega) (by omega) hP hD hS hl9
              · have c_5 : q < ft ∧ (st q).toInt = 1 ∧ (tn q).toInt = 0 := zp_1 c_5
                refine lv_aload_n hx hb dX11_count_91 rfl (lv_at hl 5 rfl) ?_
                refine va_get (D := (dC, dI)) (ci := 9) (v := .ref (a 11)) (C := RX11) (T := TX11) (N := 55) hx hb hts inX11 hown hK hP 0 rfl rfl 11 (by decide) (hts _ mw_1170) (fun _ h9 => h9) rfl dX11_count_92 ?_
                refine lv_iload hx hb dX11_count_95 (lv_at hl 3 rfl) ?_
                refine z_iald hx hb hK hP 3 0 rfl rfl (e := q) rfl (by omega) (by omega) dX11_count_97 ?_
                refine zz_i (v := nI (nN (mn q))) ((hmw q (by assumption)).1) ?_
                refine lv_goto (tgt := 102) hx hb dX11_count_98 (by decide) ?_
                refine lv_iadd hx hb dX11_count_102 ?_
                refine zz_i (v := nI ((smP (lvF ft st tn) (fun g => nN (mn g)) q) + (nN (mn q)))) (nI_add (smP (lvF ft st tn) (fun g => nN (mn g)) q) (nN (mn q))) ?_
                refine lv_istore (lv' := [(5, .int (nI ((smP (lvF ft st tn) (fun g => nN (mn g)) q) + (nN (mn q))))), (4, .int (nI ((cntP (fun g => ¬ (tn g).toInt = 0) q) + 0))), (3, .int (nI ((cntP (fun g => (st g).toInt = 2) q) + 0))), (2, .int (nI ((cntP (fun g => (st g).toInt = 1) q) + 0))), (6, .int (nI q)), (0, .ref k0), (1, .int 7)]) hx hb dX11_count_103 hl (by decide) rfl (fun ls hl => ?_)
                refine lv_iinc (v := nI (q + 1)) (lv' := [(6, .int (nI (q + 1))), (5, .int (nI ((smP (lvF ft st tn) (fun g => nN (mn g)) q) + (nN (mn q))))), (4, .int (nI ((cntP (fun g => ¬ (tn g).toInt = 0) q) + 0))), (3, .int (nI ((cntP (fun g => (st g).toInt = 2) q) + 0))), (2, .int (nI ((cntP (fun g => (st g).toInt = 1) q) + 0))), (0, .ref k0), (1, .int 7)]) hx hb dX11_count_105 hl (k := 4) rfl (nI_add q 1) (by decide) rfl (fun ls hl => ?_)
                refine lv_goto (tgt := 13) hx hb dX11_count_108 (by decide) ?_
                have hl9 := lv_sub hl [0, 1, 2, 3, 4, 5, 6] rfl
                have e9_2 : nI (cntP (fun g => (st g).toInt = 1) (q + 1)) = (nI ((cntP (fun g => (st g).toInt = 1) q) + 0) : Int32) := by first | exact congrArg nI (cntP_y (P := fun g => (st g).toInt = 1) (show (st q).toInt = 1 by omega)) | exact congrArg nI (cntP_n0 (P := fun g => (st g).toInt = 1) (show ¬ (st q).toInt = 1 by omega))
                have e9_3 : nI (cntP (fun g => (st g).toInt = 2) (q + 1)) = (nI ((cntP (fun g => (st g).toInt = 2) q) + 0) : Int32) := by first | exact congrArg nI (cntP_y (P := fun g => (st g).toInt = 2) (show (st q).toInt = 2 by omega)) | exact congrArg nI (cntP_n0 (P := fun g => (st g).toInt = 2) (show ¬ (st q).toInt = 2 by omega))
                have e9_4 : nI (cntP (fun g => ¬ (tn g).toInt = 0) (q + 1)) = (nI ((cntP (fun g => ¬ (tn g).toInt = 0) q) + 0) : Int32) := by first | exact congrArg nI (cntP_y (P := fun g => ¬ (tn g).toInt = 0) (show ¬ (tn q).toInt = 0 by omega)) | exact congrArg nI (cntP_n0 (P := fun g => ¬ (tn g).toInt = 0) (show ¬ ¬ (tn q).toInt = 0 by omega))
                have e9_5 : nI (smP (lvF ft st tn) (fun g => nN (mn g)) (q + 1)) = (nI ((smP (lvF ft st tn) (fun g => nN (mn g)) q) + (nN (mn q))) : Int32) := by first | exact congrArg nI (smP_y (P := lvF ft st tn) (by assumption)) | exact congrArg nI (smP_n (P := lvF ft st tn) (by assumption))
                have hl9 : lv_has ls 7 [(6, .int (nI (q + 1))), (5, .int (nI (smP (lvF ft st tn) (fun g => nN (mn g)) (q + 1)))), (4, .int (nI (cntP (fun g => ¬ (tn g).toInt = 0) (q + 1)))), (3, .int (nI (cntP (fun g => (st g).toInt = 2) (q + 1)))), (2, .int (nI (cntP (fun g => (st g).toInt = 1) (q + 1)))), (0, .ref k0), (1, .int 7)] := by rw [e9_2]; rw [e9_3]; rw [e9_4]; rw [e9_5]; exact hl9
                exact ih_13 (q + 1) H locs ls (by omega) (by omega) hP hD hS hl9
            · have c_4 : ¬ (tn q).toInt = 0 := zc_ne rfl (by decide) c_4
              refine lv_iconst (v := 1) hx hb dX11_count_72 (by decide) ?_
              refine lv_goto (tgt := 77) hx hb dX11_count_73 (by decide) ?_
              refine lv_iadd hx hb dX11_count_77 ?_
              refine zz_i (v := nI ((cntP (fun g => ¬ (tn g).toInt = 0) q) + 1)) (nI_add (cntP (fun g => ¬ (tn g).toInt = 0) q) 1) ?_
              refine lv_istore (lv' := [(4, .int (nI ((cntP (fun g => ¬ (tn g).toInt = 0) q) + 1))), (3, .int (nI ((cntP (fun g => (st g).toInt = 2) q) + 0))), (2, .int (nI ((cntP (fun g => (st g).toInt = 1) q) + 0))), (6, .int (nI q)), (5, .int (nI (smP (lvF ft st tn) (fun g => nN (mn g)) q))), (0, .ref k0), (1, .int 7)]) hx hb dX11_count_78 hl (by decide) rfl (fun ls hl => ?_)
              refine lv_iload hx hb dX11_count_80 (lv_at hl 4 rfl) ?_
              refine lv_aload_n hx hb dX11_count_82 rfl (lv_at hl 5 rfl) ?_
              refine lv_iload hx hb dX11_count_83 (lv_at hl 3 rfl) ?_
              have hPc := hP.sub (ws' := [(om k0 a I0 J0), (oa (a 5) cI 201 st), (oa (a 6) cZ 201 tn)]) [0, 1, 2] rfl
              have hDc := hD.sub (ws' := [(om k0 a I0 J0), (oa (a 5) cI 201 st), (oa (a 6) cZ 201 tn)]) [0, 1, 2] (by decide) rfl
              have hFc := va_free (wc := [(om k0 a I0 J0), (oa (a 5) cI 201 st), (oa (a 6) cZ 201 tn)]) hD hS hA [0, 1, 2] rfl
              refine zcall (st1 := [.int (pI (q < ft ∧ (st q).toInt = 1 ∧ (tn q).toInt = 0)), .int (nI (smP (lvF ft st tn) (fun g => nN (mn g)) q))]) (va_runV (As := [.int (nI q)]) (rest := [.int (nI (smP (lvF ft st tn) (fun g => nN (mn g)) q))]) ⟨hx, hb, hml, hown, hts⟩ (k_M_is_n l dC dI cI cZ cF H.size k0 a I0 J0 q ft st tn (by assumption) (by omega) (by omega)) (cwV 1 hts (zz_gV mw_1447 mw_1449 mw_56 mw_110 mc_yX11_is) rfl rfl rfl (by decide +kernel) ⟨Nat.le_of_ble_eq_true rfl, Nat.le_of_ble_eq_true rfl⟩) (zPV2 (q0 := 0) (ci := 9) hPc hDc hK hXN rfl rfl) rfl rfl hl.1 rfl (lv_room (Nat.le_of_ble_eq_true rfl)) dX11_count_85 ⟨Nat.le_of_ble_eq_true rfl, Nat.le_of_ble_eq_true rfl⟩) hS hFc hFc rfl (fun t H1 locs ht hB hk1 hS => ?_)
              obtain ⟨hP1, hD1⟩ := hB
              rw [ht] at hP1
              obtain ⟨hP, hD⟩ := va_join (wr := [(oa (a 11) cI 201 mn)]) (w1 := [(om k0 a I0 J0), (oa (a 5) cI 201 st), (oa (a 6) cZ 201 tn)]) hP hD [0, 1, 2] [3] rfl rfl (by decide) (by decide) hk1 hFc hP1 hD1
              clear hk1 hPc hDc hFc hP1 hD1 ht
              generalize H1 = H at hP hS ⊢
              have hP := hP.sub (ws' := [(om k0 a I0 J0), (oa (a 5) cI 201 st), (oa (a 6) cZ 201 tn), (oa (a 11) cI 201 mn)]) [1, 2, 3, 0] rfl
              have hD := hD.sub (ws' := [(om k0 a I0 J0), (oa (a 5) cI 201 st), (oa (a 6) cZ 201 tn), (oa (a 11) cI 201 mn)]) [1, 2, 3, 0] (by decide) rfl
              have hP : va_P (dC, dI) classes [(om k0 a I0 J0), (oa (a 5) cI 201 st), (oa (a 6) cZ 201 tn), (oa (a 11) cI 201 mn)] H := hP
              have hD : va_D A [(om k0 a I0 J0), (oa (a 5) cI 201 st), (oa (a 6) cZ 201 tn), (oa (a 11) cI 201 mn)] := hD
              refine lv_if_eq (tgt := 101) hx hb dX11_count_88 (by decide) (fun c_6 => ?_) (fun c_6 => ?_)
              · have c_6 : ¬ (q < ft ∧ (st q).toInt = 1 ∧ (tn q).toInt = 0) := zp_0 c_6
                refine lv_iconst (v := 0) hx hb dX11_count_101 (by decide) ?_
                refine lv_iadd hx hb dX11_count_102 ?_
                refine zz_i (v := nI ((smP (lvF ft st tn) (fun g => nN (mn g)) q) + 0)) (nI_add (smP (lvF ft st tn) (fun g => nN (mn g)) q) 0) ?_
                refine lv_istore (lv' := [(5, .int (nI ((smP (lvF ft st tn) (fun g => nN (mn g)) q) + 0))), (4, .int (nI ((cntP (fun g => ¬ (tn g).toInt = 0) q) + 1))), (3, .int (nI ((cntP (fun g => (st g).toInt = 2) q) + 0))), (2, .int (nI ((cntP (fun g => (st g).toInt = 1) q) + 0))), (6, .int (nI q)), (0, .ref k0), (1, .int 7)]) hx hb dX11_count_103 hl (by decide) rfl (fun ls hl => ?_)
                refine lv_iinc (v := nI (q + 1)) (lv' := [(6, .int (nI (q + 1))), (5, .int (nI ((smP (lvF ft st tn) (fun g => nN (mn g)) q) + 0))), (4, .int (nI ((cntP (fun g => ¬ (tn g).toInt = 0) q) + 1))), (3, .int (nI ((cntP (fun g => (st g).toInt = 2) q) + 0))), (2, .int (nI ((cntP (fun g => (st g).toInt = 1) q) + 0))), (0, .ref k0), (1, .int 7)]) hx hb dX11_count_105 hl (k := 4) rfl (nI_add q 1) (by decide) rfl (fun ls hl => ?_)
                refine lv_goto (tgt := 13) hx hb dX11_count_108 (by decide) ?_
                have hl9 := lv_sub hl [0, 1, 2, 3, 4, 5, 6] rfl
                have e9_2 : nI (cntP (fun g => (st g).toInt = 1) (q + 1)) = (nI ((cntP (fun g => (st g).toInt = 1) q) + 0) : Int32) := by first | exact congrArg nI (cntP_y (P := fun g => (st g).toInt = 1) (show (st q).toInt = 1 by omega)) | exact congrArg nI (cntP_n0 (P := fun g => (st g).toInt = 1) (show ¬ (st q).toInt = 1 by omega))
                have e9_3 : nI (cntP (fun g => (st g).toInt = 2) (q + 1)) = (nI ((cntP (fun g => (st g).toInt = 2) q) + 0) : Int32) := by first | exact congrArg nI (cntP_y (P := fun g => (st g).toInt = 2) (show (st q).toInt = 2 by omega)) | exact congrArg nI (cntP_n0 (P := fun g => (st g).toInt = 2) (show ¬ (st q).toInt = 2 by omega))
                have e9_4 : nI (cntP (fun g => ¬ (tn g).toInt = 0) (q + 1)) = (nI ((cntP (fun g => ¬ (tn g).toInt = 0) q) + 1) : Int32) := by first | exact congrArg nI (cntP_y (P := fun g => ¬ (tn g).toInt = 0) (show ¬ (tn q).toInt = 0 by omega)) | exact congrArg nI (cntP_n0 (P := fun g => ¬ (tn g).toInt = 0) (show ¬ ¬ (tn q).toInt = 0 by omega))
                have e9_5 : nI (smP (lvF ft st tn) (fun g => nN (mn g)) (q + 1)) = (nI ((smP (lvF ft st tn) (fun g => nN (mn g)) q) + 0) : Int32) := by first | exact congrArg nI (smP_y (P := lvF ft st tn) (by assumption)) | exact congrArg nI (smP_n (P := lvF ft st tn) (by assumption))
                have hl9 : lv_has ls 7 [(6, .int (nI (q + 1))), (5, .int (nI (smP (lvF ft st tn) (fun g => nN (mn g)) (q + 1)))), (4, .int (nI (cntP (fun g => ¬ (tn g).toInt = 0) (q + 1)))), (3, .int (nI (cntP (fun g => (st g).toInt = 2) (q + 1)))), (2, .int (nI (cntP (fun g => (st g).toInt = 1) (q + 1)))), (0, .ref k0), (1, .int 7)] := by rw [e9_2]; rw [e9_3]; rw [e9_4]; rw [e9_5]; exact hl9
                exact ih_13 (q + 1) H locs ls (by omega) (by omega) hP hD hS hl9
              · have c_6 : q < ft ∧ (st q).toInt = 1 ∧ (tn q).toInt = 0 := zp_1 c_6
                refine lv_aload_n hx hb dX11_count_91 rfl (lv_at hl 5 rfl) ?_
                refine va_get (D := (dC, dI)) (ci := 9) (v := .ref (a 11)) (C := RX11) (T := TX11) (N := 55) hx hb hts inX11 hown hK hP 0 rfl rfl 11 (by decide) (hts _ mw_1170) (fun _ h9 => h9) rfl dX11_count_92 ?_
                refine lv_iload hx hb dX11_count_95 (lv_at hl 3 rfl) ?_
                refine z_iald hx hb hK hP 3 0 rfl rfl (e := q) rfl (by omega) (by omega) dX11_count_97 ?_
                refine zz_i (v := nI (nN (mn q))) ((hmw q (by assumption)).1) ?_
                refine lv_goto (tgt := 102) hx hb dX11_count_98 (by decide) ?_
                refine lv_iadd hx hb dX11_count_102 ?_
                refine zz_i (v := nI ((smP (lvF ft st tn) (fun g => nN (mn g)) q) + (nN (mn q)))) (nI_add (smP (lvF ft st tn) (fun g => nN (mn g)) q) (nN (mn q))) ?_
                refine lv_istore (lv' := [(5, .int (nI ((smP (lvF ft st tn) (fun g => nN (mn g)) q) + (nN (mn q))))), (4, .int (nI ((cntP (fun g => ¬ (tn g).toInt = 0) q) + 1))), (3, .int (nI ((cntP (fun g => (st g).toInt = 2) q) + 0))), (2, .int (nI ((cntP (fun g => (st g).toInt = 1) q) + 0))), (6, .int (nI q)), (0, .ref k0), (1, .int 7)]) hx hb dX11_count_103 hl (by decide) rfl (fun ls hl => ?_)
                refine lv_iinc (v := nI (q + 1)) (lv' := [(6, .int (nI (q + 1))), (5, .int (nI ((smP (lvF ft st tn) (fun g => nN (mn g)) q) + (nN (mn q))))), (4, .int (nI ((cntP (fun g => ¬ (tn g).toInt = 0) q) + 1))), (3, .int (nI ((cntP (fun g => (st g).toInt = 2) q) + 0))), (2, .int (nI ((cntP (fun g => (st g).toInt = 1) q) + 0))), (0, .ref k0), (1, .int 7)]) hx hb dX11_count_105 hl (k := 4) rfl (nI_add q 1) (by decide) rfl (fun ls hl => ?_)
                refine lv_goto (tgt := 13) hx hb dX11_count_108 (by decide) ?_
                have hl9 := lv_sub hl [0, 1, 2, 3, 4, 5, 6] rfl
                have e9_2 : nI (cntP (fun g => (st g).toInt = 1) (q + 1)) = (nI ((cntP (fun g => (st g).toInt = 1) q) + 0) : Int32) := by first | exact congrArg nI (cntP_y (P := fun g => (st g).toInt = 1) (show (st q).toInt = 1 by omega)) | exact congrArg nI (cntP_n0 (P := fun g => (st g).toInt = 1) (show ¬ (st q).toInt = 1 by omega))
                have e9_3 : nI (cntP (fun g => (st g).toInt = 2) (q + 1)) = (nI ((cntP (fun g => (st g).toInt = 2) q) + 0) : Int32) := by first | exact congrArg nI (cntP_y (P := fun g => (st g).toInt = 2) (show (st q).toInt = 2 by omega)) | exact congrArg nI (cntP_n0 (P := fun g => (st g).toInt = 2) (show ¬ (st q).toInt = 2 by omega))
                have e9_4 : nI (cntP (fun g => ¬ (tn g).toInt = 0) (q + 1)) = (nI ((cntP (fun g => ¬ (tn g).toInt = 0) q) + 1) : Int32) := by first | exact congrArg nI (cntP_y (P := fun g => ¬ (tn g).toInt = 0) (show ¬ (tn q).toInt = 0 by omega)) | exact congrArg nI (cntP_n0 (P := fun g => ¬ (tn g).toInt = 0) (show ¬ ¬ (tn q).toInt = 0 by omega))
                have e9_5 : nI (smP (lvF ft st tn) (fun g => nN (mn g)) (q + 1)) = (nI ((smP (lvF ft st tn) (fun g => nN (mn g)) q) + (nN (mn q))) : Int32) := by first | exact congrArg nI (smP_y (P := lvF ft st tn) (by assumption)) | exact congrArg nI (smP_n (P := lvF ft st tn) (by assumption))
                have hl9 : lv_has ls 7 [(6, .int (nI (q + 1))), (5, .int (nI (smP (lvF ft st tn) (fun g => nN (mn g)) (q + 1)))), (4, .int (nI (cntP (fun g => ¬ (tn g).toInt = 0) (q + 1)))), (3, .int (nI (cntP (fun g => (st g).toInt = 2) (q + 1)))), (2, .int (nI (cntP (fun g => (st g).toInt = 1) (q + 1)))), (0, .ref k0), (1, .int 7)] := by rw [e9_2]; rw [e9_3]; rw [e9_4]; rw [e9_5]; exact hl9
                exact ih_13 (q + 1) H locs ls (by omega) (by omega) hP hD hS hl9
          · have c_3 : (st q).toInt = 2 := zc_eq rfl (by decide) c_3
            refine lv_iconst (v := 1) hx hb dX11_count_53 (by decide) ?_
            refine lv_goto (tgt := 58) hx hb dX11_count_54 (by decide) ?_
            refine lv_iadd hx hb dX11_count_58 ?_
            refine zz_i (v := nI ((cntP (fun g => (st g).toInt = 2) q) + 1)) (nI_add (cntP (fun g => (st g).toInt = 2) q) 1) ?_
            refine lv_istore_n (lv' := [(3, .int (nI ((cntP (fun g => (st g).toInt = 2) q) + 1))), (2, .int (nI ((cntP (fun g => (st g).toInt = 1) q) + 0))), (6, .int (nI q)), (5, .int (nI (smP (lvF ft st tn) (fun g => nN (mn g)) q))), (4, .int (nI (cntP (fun g => ¬ (tn g).toInt = 0) q))), (0, .ref k0), (1, .int 7)]) hx hb dX11_count_59 rfl hl (by decide) rfl (fun ls hl => ?_)
            refine lv_iload hx hb dX11_count_60 (lv_at hl 4 rfl) ?_
            refine lv_aload_n hx hb dX11_count_62 rfl (lv_at hl 5 rfl) ?_
            refine va_get (D := (dC, dI)) (ci := 9) (v := .ref (a 6)) (C := RX11) (T := TX11) (N := 55) hx hb hts inX11 hown hK hP 0 rfl rfl 6 (by decide) (hts _ mw_1165) (fun _ h9 => h9) rfl dX11_count_63 ?_
            refine lv_iload hx hb dX11_count_66 (lv_at hl 2 rfl) ?_
            refine z_zald hx hb hK hP 2 1 rfl rfl (e := q) rfl (by omega) (by omega) dX11_count_68 ?_
            refine lv_if_eq (tgt := 76) hx hb dX11_count_69 (by decide) (fun c_7 => ?_) (fun c_7 => ?_)
            · have c_7 : (tn q).toInt = 0 := zc_eq rfl (by decide) c_7
              refine lv_iconst (v := 0) hx hb dX11_count_76 (by decide) ?_
              refine lv_iadd hx hb dX11_count_77 ?_
              refine zz_i (v := nI ((cntP (fun g => ¬ (tn g).toInt = 0) q) + 0)) (nI_add (cntP (fun g => ¬ (tn g).toInt = 0) q) 0) ?_
              refine lv_istore (lv' := [(4, .int (nI ((cntP (fun g => ¬ (tn g).toInt = 0) q) + 0))), (3, .int (nI ((cntP (fun g => (st g).toInt = 2) q) + 1))), (2, .int (nI ((cntP (fun g => (st g).toInt = 1) q) + 0))), (6, .int (nI q)), (5, .int (nI (smP (lvF ft st tn) (fun g => nN (mn g)) q))), (0, .ref k0), (1, .int 7)]) hx hb dX11_count_78 hl (by decide) rfl (fun ls hl => ?_)
              refine lv_iload hx hb dX11_count_80 (lv_at hl 4 rfl) ?_
              refine lv_aload_n hx hb dX11_count_82 rfl (lv_at hl 5 rfl) ?_
              refine lv_iload hx hb dX11_count_83 (lv_at hl 3 rfl) ?_
              have hPc := hP.sub (ws' := [(om k0 a I0 J0), (oa (a 5) cI 201 st), (oa (a 6) cZ 201 tn)]) [0, 1, 2] rfl
              have hDc := hD.sub (ws' := [(om k0 a I0 J0), (oa (a 5) cI 201 st), (oa (a 6) cZ 201 tn)]) [0, 1, 2] (by decide) rfl
              have hFc := va_free (wc := [(om k0 a I0 J0), (oa (a 5) cI 201 st), (oa (a 6) cZ 201 tn)]) hD hS hA [0, 1, 2] rfl
              refine zcall (st1 := [.int (pI (q < ft ∧ (st q).toInt = 1 ∧ (tn q).toInt = 0)), .int (nI (smP (lvF ft st tn) (fun g => nN (mn g)) q))]) (va_runV (As := [.int (nI q)]) (rest := [.int (nI (smP (lvF ft st tn) (fun g => nN (mn g)) q))]) ⟨hx, hb, hml, hown, hts⟩ (k_M_is_n l dC dI cI cZ cF H.size k0 a I0 J0 q ft st tn (by assumption) (by omega) (by omega)) (cwV 1 hts (zz_gV mw_1447 mw_1449 mw_56 mw_110 mc_yX11_is) rfl rfl rfl (by decide +kernel) ⟨Nat.le_of_ble_eq_true rfl, Nat.le_of_ble_eq_true rfl⟩) (zPV2 (q0 := 0) (ci := 9) hPc hDc hK hXN rfl rfl) rfl rfl hl.1 rfl (lv_room (Nat.le_of_ble_eq_true rfl)) dX11_count_85 ⟨Nat.le_of_ble_eq_true rfl, Nat.le_of_ble_eq_true rfl⟩) hS hFc hFc rfl (fun t H1 locs ht hB hk1 hS => ?_)
              obtain ⟨hP1, hD1⟩ := hB
              rw [ht] at hP1
              obtain ⟨hP, hD⟩ := va_join (wr := [(oa (a 11) cI 201 mn)]) (w1 := [(om k0 a I0 J0), (oa (a 5) cI 201 st), (oa (a 6) cZ 201 tn)]) hP hD [0, 1, 2] [3] rfl rfl (by decide) (by decide) hk1 hFc hP1 hD1
              clear hk1 hPc hDc hFc hP1 hD1 ht
              generalize H1 = H at hP hS ⊢
              have hP := hP.sub (ws' := [(om k0 a I0 J0), (oa (a 5) cI 201 st), (oa (a 6) cZ 201 tn), (oa (a 11) cI 201 mn)]) [1, 2, 3, 0] rfl
              have hD := hD.sub (ws' := [(om k0 a I0 J0), (oa (a 5) cI 201 st), (oa (a 6) cZ 201 tn), (oa (a 11) cI 201 mn)]) [1, 2, 3, 0] (by decide) rfl
              have hP : va_P (dC, dI) classes [(om k0 a I0 J0), (oa (a 5) cI 201 st), (oa (a 6) cZ 201 tn), (oa (a 11) cI 201 mn)] H := hP
              have hD : va_D A [(om k0 a I0 J0), (oa (a 5) cI 201 st), (oa (a 6) cZ 201 tn), (oa (a 11) cI 201 mn)] := hD
              refine lv_if_eq (tgt := 101) hx hb dX11_count_88 (by decide) (fun c_8 => ?_) (fun c_8 => ?_)
              · have c_8 : ¬ (q < ft ∧ (st q).toInt = 1 ∧ (tn q).toInt = 0) := zp_0 c_8
                refine lv_iconst (v := 0) hx hb dX11_count_101 (by decide) ?_
                refine lv_iadd hx hb dX11_count_102 ?_
                refine zz_i (v := nI ((smP (lvF ft st tn) (fun g => nN (mn g)) q) + 0)) (nI_add (smP (lvF ft st tn) (fun g => nN (mn g)) q) 0) ?_
                refine lv_istore (lv' := [(5, .int (nI ((smP (lvF ft st tn) (fun g => nN (mn g)) q) + 0))), (4, .int (nI ((cntP (fun g => ¬ (tn g).toInt = 0) q) + 0))), (3, .int (nI ((cntP (fun g => (st g).toInt = 2) q) + 1))), (2, .int (nI ((cntP (fun g => (st g).toInt = 1) q) + 0))), (6, .int (nI q)), (0, .ref k0), (1, .int 7)]) hx hb dX11_count_103 hl (by decide) rfl (fun ls hl => ?_)
                refine lv_iinc (v := nI (q + 1)) (lv' := [(6, .int (nI (q + 1))), (5, .int (nI ((smP (lvF ft st tn) (fun g => nN (mn g)) q) + 0))), (4, .int (nI ((cntP (fun g => ¬ (tn g).toInt = 0) q) + 0))), (3, .int (nI ((cntP (fun g => (st g).toInt = 2) q) + 1))), (2, .int (nI ((cntP (fun g => (st g).toInt = 1) q) + 0))), (0, .ref k0), (1, .int 7)]) hx hb dX11_count_105 hl (k := 4) rfl (nI_add q 1) (by decide) rfl (fun ls hl => ?_)
                refine lv_goto (tgt := 13) hx hb dX11_count_108 (by decide) ?_
                have hl9 := lv_sub hl [0, 1, 2, 3, 4, 5, 6] rfl
                have e9_2 : nI (cntP (fun g => (st g).toInt = 1) (q + 1)) = (nI ((cntP (fun g => (st g).toInt = 1) q) + 0) : Int32) := by first | exact congrArg nI (cntP_y (P := fun g => (st g).toInt = 1) (show (st q).toInt = 1 by omega)) | exact congrArg nI (cntP_n0 (P := fun g => (st g).toInt = 1) (show ¬ (st q).toInt = 1 by omega))
                have e9_3 : nI (cntP (fun g => (st g).toInt = 2) (q + 1)) = (nI ((cntP (fun g => (st g).toInt = 2) q) + 1) : Int32) := by first | exact congrArg nI (cntP_y (P := fun g => (st g).toInt = 2) (show (st q).toInt = 2 by omega)) | exact congrArg nI (cntP_n0 (P := fun g => (st g).toInt = 2) (show ¬ (st q).toInt = 2 by omega))
                have e9_4 : nI (cntP (fun g => ¬ (tn g).toInt = 0) (q + 1)) = (nI ((cntP (fun g => ¬ (tn g).toInt = 0) q) + 0) : Int32) := by first | exact congrArg nI (cntP_y (P := fun g => ¬ (tn g).toInt = 0) (show ¬ (tn q).toInt = 0 by omega)) | exact congrArg nI (cntP_n0 (P := fun g => ¬ (tn g).toInt = 0) (show ¬ ¬ (tn q).toInt = 0 by omega))
                have e9_5 : nI (smP (lvF ft st tn) (fun g => nN (mn g)) (q + 1)) = (nI ((smP (lvF ft st tn) (fun g => nN (mn g)) q) + 0) : Int32) := by first | exact congrArg nI (smP_y (P := lvF ft st tn) (by assumption)) | exact congrArg nI (smP_n (P := lvF ft st tn) (by assumption))
                have hl9 : lv_has ls 7 [(6, .int (nI (q + 1))), (5, .int (nI (smP (lvF ft st tn) (fun g => nN (mn g)) (q + 1)))), (4, .int (nI (cntP (fun g => ¬ (tn g).toInt = 0) (q + 1)))), (3, .int (nI (cntP (fun g => (st g).toInt = 2) (q + 1)))), (2, .int (nI (cntP (fun g => (st g).toInt = 1) (q + 1)))), (0, .ref k0), (1, .int 7)] := by rw [e9_2]; rw [e9_3]; rw [e9_4]; rw [e9_5]; exact hl9
                exact ih_13 (q + 1) H locs ls (by omega) (by omega) hP hD hS hl9
              · have c_8 : q < ft ∧ (st q).toInt = 1 ∧ (tn q).toInt = 0 := zp_1 c_8
                refine lv_aload_n hx hb dX11_count_91 rfl (lv_at hl 5 rfl) ?_
                refine va_get (D := (dC, dI)) (ci := 9) (v := .ref (a 11)) (C := RX11) (T := TX11) (N := 55) hx hb hts inX11 hown hK hP 0 rfl rfl 11 (by decide) (hts _ mw_1170) (fun _ h9 => h9) rfl dX11_count_92 ?_
                refine lv_iload hx hb dX11_count_95 (lv_at hl 3 rfl) ?_
                refine z_iald hx hb hK hP 3 0 rfl rfl (e := q) rfl (by omega) (by omega) dX11_count_97 ?_
                refine zz_i (v := nI (nN (mn q))) ((hmw q (by assumption)).1) ?_
                refine lv_goto (tgt := 102) hx hb dX11_count_98 (by decide) ?_
                refine lv_iadd hx hb dX11_count_102 ?_
                refine zz_i (v := nI ((smP (lvF ft st tn) (fun g => nN (mn g)) q) + (nN (mn q)))) (nI_add (smP (lvF ft st tn) (fun g => nN (mn g)) q) (nN (mn q))) ?_
                refine lv_istore (lv' := [(5, .int (nI ((smP (lvF ft st tn) (fun g => nN (mn g)) q) + (nN (mn q))))), (4, .int (nI ((cntP (fun g => ¬ (tn g).toInt = 0) q) + 0))), (3, .int (nI ((cntP (fun g => (st g).toInt = 2) q) + 1))), (2, .int (nI ((cntP (fun g => (st g).toInt = 1) q) + 0))), (6, .int (nI q)), (0, .ref k0), (1, .int 7)]) hx hb dX11_count_103 hl (by decide) rfl (fun ls hl => ?_)
                refine lv_iinc (v := nI (q + 1)) (lv' := [(6, .int (nI (q + 1))), (5, .int (nI ((smP (lvF ft st tn) (fun g => nN (mn g)) q) + (nN (mn q))))), (4, .int (nI ((cntP (fun g => ¬ (tn g).toInt = 0) q) + 0))), (3, .int (nI ((cntP (fun g => (st g).toInt = 2) q) + 1))), (2, .int (nI ((cntP (fun g => (st g).toInt = 1) q) + 0))), (0, .ref k0), (1, .int 7)]) hx hb dX11_count_105 hl (k := 4) rfl (nI_add q 1) (by decide) rfl (fun ls hl => ?_)
                refine lv_goto (tgt := 13) hx hb dX11_count_108 (by decide) ?_
                have hl9 := lv_sub hl [0, 1, 2, 3, 4, 5, 6] rfl
                have e9_2 : nI (cntP (fun g => (st g).toInt = 1) (q + 1)) = (nI ((cntP (fun g => (st g).toInt = 1) q) + 0) : Int32) := by first | exact congrArg nI (cntP_y (P := fun g => (st g).toInt = 1) (show (st q).toInt = 1 by omega)) | exact congrArg nI (cntP_n0 (P := fun g => (st g).toInt = 1) (show ¬ (st q).toInt = 1 by omega))
                have e9_3 : nI (cntP (fun g => (st g).toInt = 2) (q + 1)) = (nI ((cntP (fun g => (st g).toInt = 2) q) + 1) : Int32) := by first | exact congrArg nI (cntP_y (P := fun g => (st g).toInt = 2) (show (st q).toInt = 2 by omega)) | exact congrArg nI (cntP_n0 (P := fun g => (st g).toInt = 2) (show ¬ (st q).toInt = 2 by omega))
                have e9_4 : nI (cntP (fun g => ¬ (tn g).toInt = 0) (q + 1)) = (nI ((cntP (fun g => ¬ (tn g).toInt = 0) q) + 0) : Int32) := by first | exact congrArg nI (cntP_y (P := fun g => ¬ (tn g).toInt = 0) (show ¬ (tn q).toInt = 0 by omega)) | exact congrArg nI (cntP_n0 (P := fun g => ¬ (tn g).toInt = 0) (show ¬ ¬ (tn q).toInt = 0 by omega))
                have e9_5 : nI (smP (lvF ft st tn) (fun g => nN (mn g)) (q + 1)) = (nI ((smP (lvF ft st tn) (fun g => nN (mn g)) q) + (nN (mn q))) : Int32) := by first | exact congrArg nI (smP_y (P := lvF ft st tn) (by assumption)) | exact congrArg nI (smP_n (P := lvF ft st tn) (by assumption))
                have hl9 : lv_has ls 7 [(6, .int (nI (q + 1))), (5, .int (nI (smP (lvF ft st tn) (fun g => nN (mn g)) (q + 1)))), (4, .int (nI (cntP (fun g => ¬ (tn g).toInt = 0) (q + 1)))), (3, .int (nI (cntP (fun g => (st g).toInt = 2) (q + 1)))), (2, .int (nI (cntP (fun g => (st g).toInt = 1) (q + 1)))), (0, .ref k0), (1, .int 7)] := by rw [e9_2]; rw [e9_3]; rw [e9_4]; rw [e9_5]; exact hl9
                exact ih_13 (q + 1) H locs ls (by omega) (by omega) hP hD hS hl9
            · have c_7 : ¬ (tn q).toInt = 0 := zc_ne rfl (by decide) c_7
              refine lv_iconst (v := 1) hx hb dX11_count_72 (by decide) ?_
              refine lv_goto (tgt := 77) hx hb dX11_count_73 (by decide) ?_
              refine lv_iadd hx hb dX11_count_77 ?_
              refine zz_i (v := nI ((cntP (fun g => ¬ (tn g).toInt = 0) q) + 1)) (nI_add (cntP (fun g => ¬ (tn g).toInt = 0) q) 1) ?_
              refine lv_istore (lv' := [(4, .int (nI ((cntP (fun g => ¬ (tn g).toInt = 0) q) + 1))), (3, .int (nI ((cntP (fun g => (st g).toInt = 2) q) + 1))), (2, .int (nI ((cntP (fun g => (st g).toInt = 1) q) + 0))), (6, .int (nI q)), (5, .int (nI (smP (lvF ft st tn) (fun g => nN (mn g)) q))), (0, .ref k0), (1, .int 7)]) hx hb dX11_count_78 hl (by decide) rfl (fun ls hl => ?_)
              refine lv_iload hx hb dX11_count_80 (lv_at hl 4 rfl) ?_
              refine lv_aload_n hx hb dX11_count_82 rfl (lv_at hl 5 rfl) ?_
              refine lv_iload hx hb dX11_count_83 (lv_at hl 3 rfl) ?_
              have hPc := hP.sub (ws' := [(om k0 a I0 J0), (oa (a 5) cI 201 st), (oa (a 6) cZ 201 tn)]) [0, 1, 2] rfl
              have hDc := hD.sub (ws' := [(om k0 a I0 J0), (oa (a 5) cI 201 st), (oa (a 6) cZ 201 tn)]) [0, 1, 2] (by decide) rfl
              have hFc := va_free (wc := [(om k0 a I0 J0), (oa (a 5) cI 201 st), (oa (a 6) cZ 201 tn)]) hD hS hA [0, 1, 2] rfl
              refine zcall (st1 := [.int (pI (q < ft ∧ (st q).toInt = 1 ∧ (tn q).toInt = 0)), .int (nI (smP (lvF ft st tn) (fun g => nN (mn g)) q))]) (va_runV (As := [.int (nI q)]) (rest := [.int (nI (smP (lvF ft st tn) (fun g => nN (mn g)) q))]) ⟨hx, hb, hml, hown, hts⟩ (k_M_is_n l dC dI cI cZ cF H.size k0 a I0 J0 q ft st tn (by assumption) (by omega) (by omega)) (cwV 1 hts (zz_gV mw_1447 mw_1449 mw_56 mw_110 mc_yX11_is) rfl rfl rfl (by decide +kernel) ⟨Nat.le_of_ble_eq_true rfl, Nat.le_of_ble_eq_true rfl⟩) (zPV2 (q0 := 0) (ci := 9) hPc hDc hK hXN rfl rfl) rfl rfl hl.1 rfl (lv_room (Nat.le_of_ble_eq_true rfl)) dX11_count_85 ⟨Nat.le_of_ble_eq_true rfl, Nat.le_of_ble_eq_true rfl⟩) hS hFc hFc rfl (fun t H1 locs ht hB hk1 hS => ?_)
              obtain ⟨hP1, hD1⟩ := hB
              rw [ht] at hP1
              obtain ⟨hP, hD⟩ := va_join (wr := [(oa (a 11) cI 201 mn)]) (w1 := [(om k0 a I0 J0), (oa (a 5) cI 201 st), (oa (a 6) cZ 201 tn)]) hP hD [0, 1, 2] [3] rfl rfl (by decide) (by decide) hk1 hFc hP1 hD1
              clear hk1 hPc hDc hFc hP1 hD1 ht
              generalize H1 = H at hP hS ⊢
              have hP := hP.sub (ws' := [(om k0 a I0 J0), (oa (a 5) cI 201 st), (oa (a 6) cZ 201 tn), (oa (a 11) cI 201 mn)]) [1, 2, 3, 0] rfl
              have hD := hD.sub (ws' := [(om k0 a I0 J0), (oa (a 5) cI 201 st), (oa (a 6) cZ 201 tn), (oa (a 11) cI 201 mn)]) [1, 2, 3, 0] (by decide) rfl
              have hP : va_P (dC, dI) classes [(om k0 a I0 J0), (oa (a 5) cI 201 st), (oa (a 6) cZ 201 tn), (oa (a 11) cI 201 mn)] H := hP
              have hD : va_D A [(om k0 a I0 J0), (oa (a 5) cI 201 st), (oa (a 6) cZ 201 tn), (oa (a 11) cI 201 mn)] := hD
              refine lv_if_eq (tgt := 101) hx hb dX11_count_88 (by decide) (fun c_9 => ?_) (fun c_9 => ?_)
              · have c_9 : ¬ (q < ft ∧ (st q).toInt = 1 ∧ (tn q).toInt = 0) := zp_0 c_9
                refine lv_iconst (v := 0) hx hb dX11_count_101 (by decide) ?_
                refine lv_iadd hx hb dX11_count_102 ?_
                refine zz_i (v := nI ((smP (lvF ft st tn) (fun g => nN (mn g)) q) + 0)) (nI_add (smP (lvF ft st tn) (fun g => nN (mn g)) q) 0) ?_
                refine lv_istore (lv' := [(5, .int (nI ((smP (lvF ft st tn) (fun g => nN (mn g)) q) + 0))), (4, .int (nI ((cntP (fun g => ¬ (tn g).toInt = 0) q) + 1))), (3, .int (nI ((cntP (fun g => (st g).toInt = 2) q) + 1))), (2, .int (nI ((cntP (fun g => (st g).toInt = 1) q) + 0))), (6, .int (nI q)), (0, .ref k0), (1, .int 7)]) hx hb dX11_count_103 hl (by decide) rfl (fun ls hl => ?_)
                refine lv_iinc (v := nI (q + 1)) (lv' := [(6, .int (nI (q + 1))), (5, .int (nI ((smP (lvF ft st tn) (fun g => nN (mn g)) q) + 0))), (4, .int (nI ((cntP (fun g => ¬ (tn g).toInt = 0) q) + 1))), (3, .int (nI ((cntP (fun g => (st g).toInt = 2) q) + 1))), (2, .int (nI ((cntP (fun g => (st g).toInt = 1) q) + 0))), (0, .ref k0), (1, .int 7)]) hx hb dX11_count_105 hl (k := 4) rfl (nI_add q 1) (by decide) rfl (fun ls hl => ?_)
                refine lv_goto (tgt := 13) hx hb dX11_count_108 (by decide) ?_
                have hl9 := lv_sub hl [0, 1, 2, 3, 4, 5, 6] rfl
                have e9_2 : nI (cntP (fun g => (st g).toInt = 1) (q + 1)) = (nI ((cntP (fun g => (st g).toInt = 1) q) + 0) : Int32) := by first | exact congrArg nI (cntP_y (P := fun g => (st g).toInt = 1) (show (st q).toInt = 1 by omega)) | exact congrArg nI (cntP_n0 (P := fun g => (st g).toInt = 1) (show ¬ (st q).toInt = 1 by omega))
                have e9_3 : nI (cntP (fun g => (st g).toInt = 2) (q + 1)) = (nI ((cntP (fun g => (st g).toInt = 2) q) + 1) : Int32) := by first | exact congrArg nI (cntP_y (P := fun g => (st g).toInt = 2) (show (st q).toInt = 2 by omega)) | exact congrArg nI (cntP_n0 (P := fun g => (st g).toInt = 2) (show ¬ (st q).toInt = 2 by omega))
                have e9_4 : nI (cntP (fun g => ¬ (tn g).toInt = 0) (q + 1)) = (nI ((cntP (fun g => ¬ (tn g).toInt = 0) q) + 1) : Int32) := by first | exact congrArg nI (cntP_y (P := fun g => ¬ (tn g).toInt = 0) (show ¬ (tn q).toInt = 0 by omega)) | exact congrArg nI (cntP_n0 (P := fun g => ¬ (tn g).toInt = 0) (show ¬ ¬ (tn q).toInt = 0 by omega))
                have e9_5 : nI (smP (lvF ft st tn) (fun g => nN (mn g)) (q + 1)) = (nI ((smP (lvF ft st tn) (fun g => nN (mn g)) q) + 0) : Int32) := by first | exact congrArg nI (smP_y (P := lvF ft st tn) (by assumption)) | exact congrArg nI (smP_n (P := lvF ft st tn) (by assumption))
                have hl9 : lv_has ls 7 [(6, .int (nI (q + 1))), (5, .int (nI (smP (lvF ft st tn) (fun g => nN (mn g)) (q + 1)))), (4, .int (nI (cntP (fun g => ¬ (tn g).toInt = 0) (q + 1)))), (3, .int (nI (cntP (fun g => (st g).toInt = 2) (q + 1)))), (2, .int (nI (cntP (fun g => (st g).toInt = 1) (q + 1)))), (0, .ref k0), (1, .int 7)] := by rw [e9_2]; rw [e9_3]; rw [e9_4]; rw [e9_5]; exact hl9
                exact ih_13 (q + 1) H locs ls (by omega) (by omega) hP hD hS hl9
              · have c_9 : q < ft ∧ (st q).toInt = 1 ∧ (tn q).toInt = 0 := zp_1 c_9
                refine lv_aload_n hx hb dX11_count_91 rfl (lv_at hl 5 rfl) ?_
                refine va_get (D := (dC, dI)) (ci := 9) (v := .ref (a 11)) (C := RX11) (T := TX11) (N := 55) hx hb hts inX11 hown hK hP 0 rfl rfl 11 (by decide) (hts _ mw_1170) (fun _ h9 => h9) rfl dX11_count_92 ?_
                refine lv_iload hx hb dX11_count_95 (lv_at hl 3 rfl) ?_
                refine z_iald hx hb hK hP 3 0 rfl rfl (e := q) rfl (by omega) (by omega) dX11_count_97 ?_
                refine zz_i (v := nI (nN (mn q))) ((hmw q (by assumption)).1) ?_
                refine lv_goto (tgt := 102) hx hb dX11_count_98 (by decide) ?_
                refine lv_iadd hx hb dX11_count_102 ?_
                refine zz_i (v := nI ((smP (lvF ft st tn) (fun g => nN (mn g)) q) + (nN (mn q)))) (nI_add (smP (lvF ft st tn) (fun g => nN (mn g)) q) (nN (mn q))) ?_
                refine lv_istore (lv' := [(5, .int (nI ((smP (lvF ft st tn) (fun g => nN (mn g)) q) + (nN (mn q))))), (4, .int (nI ((cntP (fun g => ¬ (tn g).toInt = 0) q) + 1))), (3, .int (nI ((cntP (fun g => (st g).toInt = 2) q) + 1))), (2, .int (nI ((cntP (fun g => (st g).toInt = 1) q) + 0))), (6, .int (nI q)), (0, .ref k0), (1, .int 7)]) hx hb dX11_count_103 hl (by decide) rfl (fun ls hl => ?_)
                refine lv_iinc (v := nI (q + 1)) (lv' := [(6, .int (nI (q + 1))), (5, .int (nI ((smP (lvF ft st tn) (fun g => nN (mn g)) q) + (nN (mn q))))), (4, .int (nI ((cntP (fun g => ¬ (tn g).toInt = 0) q) + 1))), (3, .int (nI ((cntP (fun g => (st g).toInt = 2) q) + 1))), (2, .int (nI ((cntP (fun g => (st g).toInt = 1) q) + 0))), (0, .ref k0), (1, .int 7)]) hx hb dX11_count_105 hl (k := 4) rfl (nI_add q 1) (by decide) rfl (fun ls hl => ?_)
                refine lv_goto (tgt := 13) hx hb dX11_count_108 (by decide) ?_
                have hl9 := lv_sub hl [0, 1, 2, 3, 4, 5, 6] rfl
                have e9_2 : nI (cntP (fun g => (st g).toInt = 1) (q + 1)) = (nI ((cntP (fun g => (st g).toInt = 1) q) + 0) : Int32) := by first | exact congrArg nI (cntP_y (P := fun g => (st g).toInt = 1) (show (st q).toInt = 1 by omega)) | exact congrArg nI (cntP_n0 (P := fun g => (st g).toInt = 1) (show ¬ (st q).toInt = 1 by omega))
                have e9_3 : nI (cntP (fun g => (st g).toInt = 2) (q + 1)) = (nI ((cntP (fun g => (st g).toInt = 2) q) + 1) : Int32) := by first | exact congrArg nI (cntP_y (P := fun g => (st g).toInt = 2) (show (st q).toInt = 2 by omega)) | exact congrArg nI (cntP_n0 (P := fun g => (st g).toInt = 2) (show ¬ (st q).toInt = 2 by omega))
                have e9_4 : nI (cntP (fun g => ¬ (tn g).toInt = 0) (q + 1)) = (nI ((cntP (fun g => ¬ (tn g).toInt = 0) q) + 1) : Int32) := by first | exact congrArg nI (cntP_y (P := fun g => ¬ (tn g).toInt = 0) (show ¬ (tn q).toInt = 0 by omega)) | exact congrArg nI (cntP_n0 (P := fun g => ¬ (tn g).toInt = 0) (show ¬ ¬ (tn q).toInt = 0 by omega))
                have e9_5 : nI (smP (lvF ft st tn) (fun g => nN (mn g)) (q + 1)) = (nI ((smP (lvF ft st tn) (fun g => nN (mn g)) q) + (nN (mn q))) : Int32) := by first | exact congrArg nI (smP_y (P := lvF ft st tn) (by assumption)) | exact congrArg nI (smP_n (P := lvF ft st tn) (by assumption))
                have hl9 : lv_has ls 7 [(6, .int (nI (q + 1))), (5, .int (nI (smP (lvF ft st tn) (fun g => nN (mn g)) (q + 1)))), (4, .int (nI (cntP (fun g => ¬ (tn g).toInt = 0) (q + 1)))), (3, .int (nI (cntP (fun g => (st g).toInt = 2) (q + 1)))), (2, .int (nI (cntP (fun g => (st g).toInt = 1) (q + 1)))), (0, .ref k0), (1, .int 7)] := by rw [e9_2]; rw [e9_3]; rw [e9_4]; rw [e9_5]; exact hl9
                exact ih_13 (q + 1) H locs ls (by omega) (by omega) hP hD hS hl9
        · have c_2 : (st q).toInt = 1 := zc_eq rfl (by decide) c_2
          refine lv_iconst (v := 1) hx hb dX11_count_34 (by decide) ?_
          refine lv_goto (tgt := 39) hx hb dX11_count_35 (by decide) ?_
          refine lv_iadd hx hb dX11_count_39 ?_
          refine zz_i (v := nI ((cntP (fun g => (st g).toInt = 1) q) + 1)) (nI_add (cntP (fun g => (st g).toInt = 1) q) 1) ?_
          refine lv_istore_n (lv' := [(2, .int (nI ((cntP (fun g => (st g).toInt = 1) q) + 1))), (6, .int (nI q)), (5, .int (nI (smP (lvF ft st tn) (fun g => nN (mn g)) q))), (4, .int (nI (cntP (fun g => ¬ (tn g).toInt = 0) q))), (3, .int (nI (cntP (fun g => (st g).toInt = 2) q))), (0, .ref k0), (1, .int 7)]) hx hb dX11_count_40 rfl hl (by decide) rfl (fun ls hl => ?_)
          refine lv_iload_n hx hb dX11_count_41 rfl (lv_at hl 4 rfl) ?_
          refine lv_aload_n hx hb dX11_count_42 rfl (lv_at hl 5 rfl) ?_
          refine va_get (D := (dC, dI)) (ci := 9) (v := .ref (a 5)) (C := RX11) (T := TX11) (N := 55) hx hb hts inX11 hown hK hP 0 rfl rfl 5 (by decide) (hts _ mw_1164) (fun _ h9 => h9) rfl dX11_count_43 ?_
          refine lv_iload hx hb dX11_count_46 (lv_at hl 1 rfl) ?_
          refine z_iald hx hb hK hP 1 0 rfl rfl (e := q) rfl (by omega) (by omega) dX11_count_48 ?_
          refine lv_iconst (v := 2) hx hb dX11_count_49 (by decide) ?_
          refine lv_icmp_ne (tgt := 57) hx hb dX11_count_50 (by decide) (fun c_10 => ?_) (fun c_10 => ?_)
          · have c_10 : ¬ (st q).toInt = 2 := zc_ne rfl (by decide) c_10
            refine lv_iconst (v := 0) hx hb dX11_count_57 (by decide) ?_
            refine lv_iadd hx hb dX11_count_58 ?_
            refine zz_i (v := nI ((cntP (fun g => (st g).toInt = 2) q) + 0)) (nI_add (cntP (fun g => (st g).toInt = 2) q) 0) ?_
            refine lv_istore_n (lv' := [(3, .int (nI ((cntP (fun g => (st g).toInt = 2) q) + 0))), (2, .int (nI ((cntP (fun g => (st g).toInt = 1) q) + 1))), (6, .int (nI q)), (5, .int (nI (smP (lvF ft st tn) (fun g => nN (mn g)) q))), (4, .int (nI (cntP (fun g => ¬ (tn g).toInt = 0) q))), (0, .ref k0), (1, .int 7)]) hx hb dX11_count_59 rfl hl (by decide) rfl (fun ls hl => ?_)
            refine lv_iload hx hb dX11_count_60 (lv_at hl 4 rfl) ?_
            refine lv_aload_n hx hb dX11_count_62 rfl (lv_at hl 5 rfl) ?_
            refine va_get (D := (dC, dI)) (ci := 9) (v := .ref (a 6)) (C := RX11) (T := TX11) (N := 55) hx hb hts inX11 hown hK hP 0 rfl rfl 6 (by decide) (hts _ mw_1165) (fun _ h9 => h9) rfl dX11_count_63 ?_
            refine lv_iload hx hb dX11_count_66 (lv_at hl 2 rfl) ?_
            refine z_zald hx hb hK hP 2 1 rfl rfl (e := q) rfl (by omega) (by omega) dX11_count_68 ?_
            refine lv_if_eq (tgt := 76) hx hb dX11_count_69 (by decide) (fun c_11 => ?_) (fun c_11 => ?_)
            · have c_11 : (tn q).toInt = 0 := zc_eq rfl (by decide) c_11
              refine lv_iconst (v := 0) hx hb dX11_count_76 (by decide) ?_
              refine lv_iadd hx hb dX11_count_77 ?_
              refine zz_i (v := nI ((cntP (fun g => ¬ (tn g).toInt = 0) q) + 0)) (nI_add (cntP (fun g => ¬ (tn g).toInt = 0) q) 0) ?_
              refine lv_istore (lv' := [(4, .int (nI ((cntP (fun g => ¬ (tn g).toInt = 0) q) + 0))), (3, .int (nI ((cntP (fun g => (st g).toInt = 2) q) + 0))), (2, .int (nI ((cntP (fun g => (st g).toInt = 1) q) + 1))), (6, .int (nI q)), (5, .int (nI (smP (lvF ft st tn) (fun g => nN (mn g)) q))), (0, .ref k0), (1, .int 7)]) hx hb dX11_count_78 hl (by decide) rfl (fun ls hl => ?_)
              refine lv_iload hx hb dX11_count_80 (lv_at hl 4 rfl) ?_
              refine lv_aload_n hx hb dX11_count_82 rfl (lv_at hl 5 rfl) ?_
              refine lv_iload hx hb dX11_count_83 (lv_at hl 3 rfl) ?_
              have hPc := hP.sub (ws' := [(om k0 a I0 J0), (oa (a 5) cI 201 st), (oa (a 6) cZ 201 tn)]) [0, 1, 2] rfl
              have hDc := hD.sub (ws' := [(om k0 a I0 J0), (oa (a 5) cI 201 st), (oa (a 6) cZ 201 tn)]) [0, 1, 2] (by decide) rfl
              have hFc := va_free (wc := [(om k0 a I0 J0), (oa (a 5) cI 201 st), (oa (a 6) cZ 201 tn)]) hD hS hA [0, 1, 2] rfl
              refine zcall (st1 := [.int (pI (q < ft ∧ (st q).toInt = 1 ∧ (tn q).toInt = 0)), .int (nI (smP (lvF ft st tn) (fun g => nN (mn g)) q))]) (va_runV (As := [.int (nI q)]) (rest := [.int (nI (smP (lvF ft st tn) (fun g => nN (mn g)) q))]) ⟨hx, hb, hml, hown, hts⟩ (k_M_is_n l dC dI cI cZ cF H.size k0 a I0 J0 q ft st tn (by assumption) (by omega) (by omega)) (cwV 1 hts (zz_gV mw_1447 mw_1449 mw_56 mw_110 mc_yX11_is) rfl rfl rfl (by decide +kernel) ⟨Nat.le_of_ble_eq_true rfl, Nat.le_of_ble_eq_true rfl⟩) (zPV2 (q0 := 0) (ci := 9) hPc hDc hK hXN rfl rfl) rfl rfl hl.1 rfl (lv_room (Nat.le_of_ble_eq_true rfl)) dX11_count_85 ⟨Nat.le_of_ble_eq_true rfl, Nat.le_of_ble_eq_true rfl⟩) hS hFc hFc rfl (fun t H1 locs ht hB hk1 hS => ?_)
              obtain ⟨hP1, hD1⟩ := hB
              rw [ht] at hP1
              obtain ⟨hP, hD⟩ := va_join (wr := [(oa (a 11) cI 201 mn)]) (w1 := [(om k0 a I0 J0), (oa (a 5) cI 201 st), (oa (a 6) cZ 201 tn)]) hP hD [0, 1, 2] [3] rfl rfl (by decide) (by decide) hk1 hFc hP1 hD1
              clear hk1 hPc hDc hFc hP1 hD1 ht
              generalize H1 = H at hP hS ⊢
              have hP := hP.sub (ws' := [(om k0 a I0 J0), (oa (a 5) cI 201 st), (oa (a 6) cZ 201 tn), (oa (a 11) cI 201 mn)]) [1, 2, 3, 0] rfl
              have hD := hD.sub (ws' := [(om k0 a I0 J0), (oa (a 5) cI 201 st), (oa (a 6) cZ 201 tn), (oa (a 11) cI 201 mn)]) [1, 2, 3, 0] (by decide) rfl
              have hP : va_P (dC, dI) classes [(om k0 a I0 J0), (oa (a 5) cI 201 st), (oa (a 6) cZ 201 tn), (oa (a 11) cI 201 mn)] H := hP
              have hD : va_D A [(om k0 a I0 J0), (oa (a 5) cI 201 st), (oa (a 6) cZ 201 tn), (oa (a 11) cI 201 mn)] := hD
              refine lv_if_eq (tgt := 101) hx hb dX11_count_88 (by decide) (fun c_12 => ?_) (fun c_12 => ?_)
              · have c_12 : ¬ (q < ft ∧ (st q).toInt = 1 ∧ (tn q).toInt = 0) := zp_0 c_12
                refine lv_iconst (v := 0) hx hb dX11_count_101 (by decide) ?_
                refine lv_iadd hx hb dX11_count_102 ?_
                refine zz_i (v := nI ((smP (lvF ft st tn) (fun g => nN (mn g)) q) + 0)) (nI_add (smP (lvF ft st tn) (fun g => nN (mn g)) q) 0) ?_
                refine lv_istore (lv' := [(5, .int (nI ((smP (lvF ft st tn) (fun g => nN (mn g)) q) + 0))), (4, .int (nI ((cntP (fun g => ¬ (tn g).toInt = 0) q) + 0))), (3, .int (nI ((cntP (fun g => (st g).toInt = 2) q) + 0))), (2, .int (nI ((cntP (fun g => (st g).toInt = 1) q) + 1))), (6, .int (nI q)), (0, .ref k0), (1, .int 7)]) hx hb dX11_count_103 hl (by decide) rfl (fun ls hl => ?_)
                refine lv_iinc (v := nI (q + 1)) (lv' := [(6, .int (nI (q + 1))), (5, .int (nI ((smP (lvF ft st tn) (fun g => nN (mn g)) q) + 0))), (4, .int (nI ((cntP (fun g => ¬ (tn g).toInt = 0) q) + 0))), (3, .int (nI ((cntP (fun g => (st g).toInt = 2) q) + 0))), (2, .int (nI ((cntP (fun g => (st g).toInt = 1) q) + 1))), (0, .ref k0), (1, .int 7)]) hx hb dX11_count_105 hl (k := 4) rfl (nI_add q 1) (by decide) rfl (fun ls hl => ?_)
                refine lv_goto (tgt := 13) hx hb dX11_count_108 (by decide) ?_
                have hl9 := lv_sub hl [0, 1, 2, 3, 4, 5, 6] rfl
                have e9_2 : nI (cntP (fun g => (st g).toInt = 1) (q + 1)) = (nI ((cntP (fun g => (st g).toInt = 1) q) + 1) : Int32) := by first | exact congrArg nI (cntP_y (P := fun g => (st g).toInt = 1) (show (st q).toInt = 1 by omega)) | exact congrArg nI (cntP_n0 (P := fun g => (st g).toInt = 1) (show ¬ (st q).toInt = 1 by omega))
                have e9_3 : nI (cntP (fun g => (st g).toInt = 2) (q + 1)) = (nI ((cntP (fun g => (st g).toInt = 2) q) + 0) : Int32) := by first | exact congrArg nI (cntP_y (P := fun g => (st g).toInt = 2) (show (st q).toInt = 2 by omega)) | exact congrArg nI (cntP_n0 (P := fun g => (st g).toInt = 2) (show ¬ (st q).toInt = 2 by omega))
                have e9_4 : nI (cntP (fun g => ¬ (tn g).toInt = 0) (q + 1)) = (nI ((cntP (fun g => ¬ (tn g).toInt = 0) q) + 0) : Int32) := by first | exact congrArg nI (cntP_y (P := fun g => ¬ (tn g).toInt = 0) (show ¬ (tn q).toInt = 0 by omega)) | exact congrArg nI (cntP_n0 (P := fun g => ¬ (tn g).toInt = 0) (show ¬ ¬ (tn q).toInt = 0 by omega))
                have e9_5 : nI (smP (lvF ft st tn) (fun g => nN (mn g)) (q + 1)) = (nI ((smP (lvF ft st tn) (fun g => nN (mn g)) q) + 0) : Int32) := by first | exact congrArg nI (smP_y (P := lvF ft st tn) (by assumption)) | exact congrArg nI (smP_n (P := lvF ft st tn) (by assumption))
                have hl9 : lv_has ls 7 [(6, .int (nI (q + 1))), (5, .int (nI (smP (lvF ft st tn) (fun g => nN (mn g)) (q + 1)))), (4, .int (nI (cntP (fun g => ¬ (tn g).toInt = 0) (q + 1)))), (3, .int (nI (cntP (fun g => (st g).toInt = 2) (q + 1)))), (2, .int (nI (cntP (fun g => (st g).toInt = 1) (q + 1)))), (0, .ref k0), (1, .int 7)] := by rw [e9_2]; rw [e9_3]; rw [e9_4]; rw [e9_5]; exact hl9
                exact ih_13 (q + 1) H locs ls (by omega) (by omega) hP hD hS hl9
              · have c_12 : q < ft ∧ (st q).toInt = 1 ∧ (tn q).toInt = 0 := zp_1 c_12
                refine lv_aload_n hx hb dX11_count_91 rfl (lv_at hl 5 rfl) ?_
                refine va_get (D := (dC, dI)) (ci := 9) (v := .ref (a 11)) (C := RX11) (T := TX11) (N := 55) hx hb hts inX11 hown hK hP 0 rfl rfl 11 (by decide) (hts _ mw_1170) (fun _ h9 => h9) rfl dX11_count_92 ?_
                refine lv_iload hx hb dX11_count_95 (lv_at hl 3 rfl) ?_
                refine z_iald hx hb hK hP 3 0 rfl rfl (e := q) rfl (by omega) (by omega) dX11_count_97 ?_
                refine zz_i (v := nI (nN (mn q))) ((hmw q (by assumption)).1) ?_
                refine lv_goto (tgt := 102) hx hb dX11_count_98 (by decide) ?_
                refine lv_iadd hx hb dX11_count_102 ?_
                refine zz_i (v := nI ((smP (lvF ft st tn) (fun g => nN (mn g)) q) + (nN (mn q)))) (nI_add (smP (lvF ft st tn) (fun g => nN (mn g)) q) (nN (mn q))) ?_
                refine lv_istore (lv' := [(5, .int (nI ((smP (lvF ft st tn) (fun g => nN (mn g)) q) + (nN (mn q))))), (4, .int (nI ((cntP (fun g => ¬ (tn g).toInt = 0) q) + 0))), (3, .int (nI ((cntP (fun g => (st g).toInt = 2) q) + 0))), (2, .int (nI ((cntP (fun g => (st g).toInt = 1) q) + 1))), (6, .int (nI q)), (0, .ref k0), (1, .int 7)]) hx hb dX11_count_103 hl (by decide) rfl (fun ls hl => ?_)
                refine lv_iinc (v := nI (q + 1)) (lv' := [(6, .int (nI (q + 1))), (5, .int (nI ((smP (lvF ft st tn) (fun g => nN (mn g)) q) + (nN (mn q))))), (4, .int (nI ((cntP (fun g => ¬ (tn g).toInt = 0) q) + 0))), (3, .int (nI ((cntP (fun g => (st g).toInt = 2) q) + 0))), (2, .int (nI ((cntP (fun g => (st g).toInt = 1) q) + 1))), (0, .ref k0), (1, .int 7)]) hx hb dX11_count_105 hl (k := 4) rfl (nI_add q 1) (by decide) rfl (fun ls hl => ?_)
                refine lv_goto (tgt := 13) hx hb dX11_count_108 (by decide) ?_
                have hl9 := lv_sub hl [0, 1, 2, 3, 4, 5, 6] rfl
                have e9_2 : nI (cntP (fun g => (st g).toInt = 1) (q + 1)) = (nI ((cntP (fun g => (st g).toInt = 1) q) + 1) : Int32) := by first | exact congrArg nI (cntP_y (P := fun g => (st g).toInt = 1) (show (st q).toInt = 1 by omega)) | exact congrArg nI (cntP_n0 (P := fun g => (st g).toInt = 1) (show ¬ (st q).toInt = 1 by omega))
                have e9_3 : nI (cntP (fun g => (st g).toInt = 2) (q + 1)) = (nI ((cntP (fun g => (st g).toInt = 2) q) + 0) : Int32) := by first | exact congrArg nI (cntP_y (P := fun g => (st g).toInt = 2) (show (st q).toInt = 2 by omega)) | exact congrArg nI (cntP_n0 (P := fun g => (st g).toInt = 2) (show ¬ (st q).toInt = 2 by omega))
                have e9_4 : nI (cntP (fun g => ¬ (tn g).toInt = 0) (q + 1)) = (nI ((cntP (fun g => ¬ (tn g).toInt = 0) q) + 0) : Int32) := by first | exact congrArg nI (cntP_y (P := fun g => ¬ (tn g).toInt = 0) (show ¬ (tn q).toInt = 0 by omega)) | exact congrArg nI (cntP_n0 (P := fun g => ¬ (tn g).toInt = 0) (show ¬ ¬ (tn q).toInt = 0 by omega))
                have e9_5 : nI (smP (lvF ft st tn) (fun g => nN (mn g)) (q + 1)) = (nI ((smP (lvF ft st tn) (fun g => nN (mn g)) q) + (nN (mn q))) : Int32) := by first | exact congrArg nI (smP_y (P := lvF ft st tn) (by assumption)) | exact congrArg nI (smP_n (P := lvF ft st tn) (by assumption))
                have hl9 : lv_has ls 7 [(6, .int (nI (q + 1))), (5, .int (nI (smP (lvF ft st tn) (fun g => nN (mn g)) (q + 1)))), (4, .int (nI (cntP (fun g => ¬ (tn g).toInt = 0) (q + 1)))), (3, .int (nI (cntP (fun g => (st g).toInt = 2) (q + 1)))), (2, .int (nI (cntP (fun g => (st g).toInt = 1) (q + 1)))), (0, .ref k0), (1, .int 7)] := by rw [e9_2]; rw [e9_3]; rw [e9_4]; rw [e9_5]; exact hl9
                exact ih_13 (q + 1) H locs ls (by omega) (by omega) hP hD hS hl9
            · have c_11 : ¬ (tn q).toInt = 0 := zc_ne rfl (by decide) c_11
              refine lv_iconst (v := 1) hx hb dX11_count_72 (by decide) ?_
              refine lv_goto (tgt := 77) hx hb dX11_count_73 (by decide) ?_
              refine lv_iadd hx hb dX11_count_77 ?_
              refine zz_i (v := nI ((cntP (fun g => ¬ (tn g).toInt = 0) q) + 1)) (nI_add (cntP (fun g => ¬ (tn g).toInt = 0) q) 1) ?_
              refine lv_istore (lv' := [(4, .int (nI ((cntP (fun g => ¬ (tn g).toInt = 0) q) + 1))), (3, .int (nI ((cntP (fun g => (st g).toInt = 2) q) + 0))), (2, .int (nI ((cntP (fun g => (st g).toInt = 1) q) + 1))), (6, .int (nI q)), (5, .int (nI (smP (lvF ft st tn) (fun g => nN (mn g)) q))), (0, .ref k0), (1, .int 7)]) hx hb dX11_count_78 hl (by decide) rfl (fun ls hl => ?_)
              refine lv_iload hx hb dX11_count_80 (lv_at hl 4 rfl) ?_
              refine lv_aload_n hx hb dX11_count_82 rfl (lv_at hl 5 rfl) ?_
              refine lv_iload hx hb dX11_count_83 (lv_at hl 3 rfl) ?_
              have hPc := hP.sub (ws' := [(om k0 a I0 J0), (oa (a 5) cI 201 st), (oa (a 6) cZ 201 tn)]) [0, 1, 2] rfl
              have hDc := hD.sub (ws' := [(om k0 a I0 J0), (oa (a 5) cI 201 st), (oa (a 6) cZ 201 tn)]) [0, 1, 2] (by decide) rfl
              have hFc := va_free (wc := [(om k0 a I0 J0), (oa (a 5) cI 201 st), (oa (a 6) cZ 201 tn)]) hD hS hA [0, 1, 2] rfl
              refine zcall (st1 := [.int (pI (q < ft ∧ (st q).toInt = 1 ∧ (tn q).toInt = 0)), .int (nI (smP (lvF ft st tn) (fun g => nN (mn g)) q))]) (va_runV (As := [.int (nI q)]) (rest := [.int (nI (smP (lvF ft st tn) (fun g => nN (mn g)) q))]) ⟨hx, hb, hml, hown, hts⟩ (k_M_is_n l dC dI cI cZ cF H.size k0 a I0 J0 q ft st tn (by assumption) (by omega) (by omega)) (cwV 1 hts (zz_gV mw_1447 mw_1449 mw_56 mw_110 mc_yX11_is) rfl rfl rfl (by decide +kernel) ⟨Nat.le_of_ble_eq_true rfl, Nat.le_of_ble_eq_true rfl⟩) (zPV2 (q0 := 0) (ci := 9) hPc hDc hK hXN rfl rfl) rfl rfl hl.1 rfl (lv_room (Nat.le_of_ble_eq_true rfl)) dX11_count_85 ⟨Nat.le_of_ble_eq_true rfl, Nat.le_of_ble_eq_true rfl⟩) hS hFc hFc rfl (fun t H1 locs ht hB hk1 hS => ?_)
              obtain ⟨hP1, hD1⟩ := hB
              rw [ht] at hP1
              obtain ⟨hP, hD⟩ := va_join (wr := [(oa (a 11) cI 201 mn)]) (w1 := [(om k0 a I0 J0), (oa (a 5) cI 201 st), (oa (a 6) cZ 201 tn)]) hP hD [0, 1, 2] [3] rfl rfl (by decide) (by decide) hk1 hFc hP1 hD1
              clear hk1 hPc hDc hFc hP1 hD1 ht
              generalize H1 = H at hP hS ⊢
              have hP := hP.sub (ws' := [(om k0 a I0 J0), (oa (a 5) cI 201 st), (oa (a 6) cZ 201 tn), (oa (a 11) cI 201 mn)]) [1, 2, 3, 0] rfl
              have hD := hD.sub (ws' := [(om k0 a I0 J0), (oa (a 5) cI 201 st), (oa (a 6) cZ 201 tn), (oa (a 11) cI 201 mn)]) [1, 2, 3, 0] (by decide) rfl
              have hP : va_P (dC, dI) classes [(om k0 a I0 J0), (oa (a 5) cI 201 st), (oa (a 6) cZ 201 tn), (oa (a 11) cI 201 mn)] H := hP
              have hD : va_D A [(om k0 a I0 J0), (oa (a 5) cI 201 st), (oa (a 6) cZ 201 tn), (oa (a 11) cI 201 mn)] := hD
              refine lv_if_eq (tgt := 101) hx hb dX11_count_88 (by decide) (fun c_13 => ?_) (fun c_13 => ?_)
              · have c_13 : ¬ (q < ft ∧ (st q).toInt = 1 ∧ (tn q).toInt = 0) := zp_0 c_13
                refine lv_iconst (v := 0) hx hb dX11_count_101 (by decide) ?_
                refine lv_iadd hx hb dX11_count_102 ?_
                refine zz_i (v := nI ((smP (lvF ft st tn) (fun g => nN (mn g)) q) + 0)) (nI_add (smP (lvF ft st tn) (fun g => nN (mn g)) q) 0) ?_
                refine lv_istore (lv' := [(5, .int (nI ((smP (lvF ft st tn) (fun g => nN (mn g)) q) + 0))), (4, .int (nI ((cntP (fun g => ¬ (tn g).toInt = 0) q) + 1))), (3, .int (nI ((cntP (fun g => (st g).toInt = 2) q) + 0))), (2, .int (nI ((cntP (fun g => (st g).toInt = 1) q) + 1))), (6, .int (nI q)), (0, .ref k0), (1, .int 7)]) hx hb dX11_count_103 hl (by decide) rfl (fun ls hl => ?_)
                refine lv_iinc (v := nI (q + 1)) (lv' := [(6, .int (nI (q + 1))), (5, .int (nI ((smP (lvF ft st tn) (fun g => nN (mn g)) q) + 0))), (4, .int (nI ((cntP (fun g => ¬ (tn g).toInt = 0) q) + 1))), (3, .int (nI ((cntP (fun g => (st g).toInt = 2) q) + 0))), (2, .int (nI ((cntP (fun g => (st g).toInt = 1) q) + 1))), (0, .ref k0), (1, .int 7)]) hx hb dX11_count_105 hl (k := 4) rfl (nI_add q 1) (by decide) rfl (fun ls hl => ?_)
                refine lv_goto (tgt := 13) hx hb dX11_count_108 (by decide) ?_
                have hl9 := lv_sub hl [0, 1, 2, 3, 4, 5, 6] rfl
                have e9_2 : nI (cntP (fun g => (st g).toInt = 1) (q + 1)) = (nI ((cntP (fun g => (st g).toInt = 1) q) + 1) : Int32) := by first | exact congrArg nI (cntP_y (P := fun g => (st g).toInt = 1) (show (st q).toInt = 1 by omega)) | exact congrArg nI (cntP_n0 (P := fun g => (st g).toInt = 1) (show ¬ (st q).toInt = 1 by omega))
                have e9_3 : nI (cntP (fun g => (st g).toInt = 2) (q + 1)) = (nI ((cntP (fun g => (st g).toInt = 2) q) + 0) : Int32) := by first | exact congrArg nI (cntP_y (P := fun g => (st g).toInt = 2) (show (st q).toInt = 2 by omega)) | exact congrArg nI (cntP_n0 (P := fun g => (st g).toInt = 2) (show ¬ (st q).toInt = 2 by omega))
                have e9_4 : nI (cntP (fun g => ¬ (tn g).toInt = 0) (q + 1)) = (nI ((cntP (fun g => ¬ (tn g).toInt = 0) q) + 1) : Int32) := by first | exact congrArg nI (cntP_y (P := fun g => ¬ (tn g).toInt = 0) (show ¬ (tn q).toInt = 0 by omega)) | exact congrArg nI (cntP_n0 (P := fun g => ¬ (tn g).toInt = 0) (show ¬ ¬ (tn q).toInt = 0 by omega))
                have e9_5 : nI (smP (lvF ft st tn) (fun g => nN (mn g)) (q + 1)) = (nI ((smP (lvF ft st tn) (fun g => nN (mn g)) q) + 0) : Int32) := by first | exact congrArg nI (smP_y (P := lvF ft st tn) (by assumption)) | exact congrArg nI (smP_n (P := lvF ft st tn) (by assumption))
                have hl9 : lv_has ls 7 [(6, .int (nI (q + 1))), (5, .int (nI (smP (lvF ft st tn) (fun g => nN (mn g)) (q + 1)))), (4, .int (nI (cntP (fun g => ¬ (tn g).toInt = 0) (q + 1)))), (3, .int (nI (cntP (fun g => (st g).toInt = 2) (q + 1)))), (2, .int (nI (cntP (fun g => (st g).toInt = 1) (q + 1)))), (0, .ref k0), (1, .int 7)] := by rw [e9_2]; rw [e9_3]; rw [e9_4]; rw [e9_5]; exact hl9
                exact ih_13 (q + 1) H locs ls (by omega) (by omega) hP hD hS hl9
              · have c_13 : q < ft ∧ (st q).toInt = 1 ∧ (tn q).toInt = 0 := zp_1 c_13
                refine lv_aload_n hx hb dX11_count_91 rfl (lv_at hl 5 rfl) ?_
                refine va_get (D := (dC, dI)) (ci := 9) (v := .ref (a 11)) (C := RX11) (T := TX11) (N := 55) hx hb hts inX11 hown hK hP 0 rfl rfl 11 (by decide) (hts _ mw_1170) (fun _ h9 => h9) rfl dX11_count_92 ?_
                refine lv_iload hx hb dX11_count_95 (lv_at hl 3 rfl) ?_
                refine z_iald hx hb hK hP 3 0 rfl rfl (e := q) rfl (by omega) (by omega) dX11_count_97 ?_
                refine zz_i (v := nI (nN (mn q))) ((hmw q (by assumption)).1) ?_
                refine lv_goto (tgt := 102) hx hb dX11_count_98 (by decide) ?_
                refine lv_iadd hx hb dX11_count_102 ?_
                refine zz_i (v := nI ((smP (lvF ft st tn) (fun g => nN (mn g)) q) + (nN (mn q)))) (nI_add (smP (lvF ft st tn) (fun g => nN (mn g)) q) (nN (mn q))) ?_
                refine lv_istore (lv' := [(5, .int (nI ((smP (lvF ft st tn) (fun g => nN (mn g)) q) + (nN (mn q))))), (4, .int (nI ((cntP (fun g => ¬ (tn g).toInt = 0) q) + 1))), (3, .int (nI ((cntP (fun g => (st g).toInt = 2) q) + 0))), (2, .int (nI ((cntP (fun g => (st g).toInt = 1) q) + 1))), (6, .int (nI q)), (0, .ref k0), (1, .int 7)]) hx hb dX11_count_103 hl (by decide) rfl (fun ls hl => ?_)
                refine lv_iinc (v := nI (q + 1)) (lv' := [(6, .int (nI (q + 1))), (5, .int (nI ((smP (lvF ft st tn) (fun g => nN (mn g)) q) + (nN (mn q))))), (4, .int (nI ((cntP (fun g => ¬ (tn g).toInt = 0) q) + 1))), (3, .int (nI ((cntP (fun g => (st g).toInt = 2) q) + 0))), (2, .int (nI ((cntP (fun g => (st g).toInt = 1) q) + 1))), (0, .ref k0), (1, .int 7)]) hx hb dX11_count_105 hl (k := 4) rfl (nI_add q 1) (by decide) rfl (fun ls hl => ?_)
                refine lv_goto (tgt := 13) hx hb dX11_count_108 (by decide) ?_
                have hl9 := lv_sub hl [0, 1, 2, 3, 4, 5, 6] rfl
                have e9_2 : nI (cntP (fun g => (st g).toInt = 1) (q + 1)) = (nI ((cntP (fun g => (st g).toInt = 1) q) + 1) : Int32) := by first | exact congrArg nI (cntP_y (P := fun g => (st g).toInt = 1) (show (st q).toInt = 1 by omega)) | exact congrArg nI (cntP_n0 (P := fun g => (st g).toInt = 1) (show ¬ (st q).toInt = 1 by omega))
                have e9_3 : nI (cntP (fun g => (st g).toInt = 2) (q + 1)) = (nI ((cntP (fun g => (st g).toInt = 2) q) + 0) : Int32) := by first | exact congrArg nI (cntP_y (P := fun g => (st g).toInt = 2) (show (st q).toInt = 2 by omega)) | exact congrArg nI (cntP_n0 (P := fun g => (st g).toInt = 2) (show ¬ (st q).toInt = 2 by omega))
                have e9_4 : nI (cntP (fun g => ¬ (tn g).toInt = 0) (q + 1)) = (nI ((cntP (fun g => ¬ (tn g).toInt = 0) q) + 1) : Int32) := by first | exact congrArg nI (cntP_y (P := fun g => ¬ (tn g).toInt = 0) (show ¬ (tn q).toInt = 0 by omega)) | exact congrArg nI (cntP_n0 (P := fun g => ¬ (tn g).toInt = 0) (show ¬ ¬ (tn q).toInt = 0 by omega))
                have e9_5 : nI (smP (lvF ft st tn) (fun g => nN (mn g)) (q + 1)) = (nI ((smP (lvF ft st tn) (fun g => nN (mn g)) q) + (nN (mn q))) : Int32) := by first | exact congrArg nI (smP_y (P := lvF ft st tn) (by assumption)) | exact congrArg nI (smP_n (P := lvF ft st tn) (by assumption))
                have hl9 : lv_has ls 7 [(6, .int (nI (q + 1))), (5, .int (nI (smP (lvF ft st tn) (fun g => nN (mn g)) (q + 1)))), (4, .int (nI (cntP (fun g => ¬ (tn g).toInt = 0) (q + 1)))), (3, .int (nI (cntP (fun g => (st g).toInt = 2) (q + 1)))), (2, .int (nI (cntP (fun g => (st g).toInt = 1) (q + 1)))), (0, .ref k0), (1, .int 7)] := by rw [e9_2]; rw [e9_3]; rw [e9_4]; rw [e9_5]; exact hl9
                exact ih_13 (q + 1) H locs ls (by omega) (by omega) hP hD hS hl9
          · have c_10 : (st q).toInt = 2 := zc_eq rfl (by decide) c_10
            refine lv_iconst (v := 1) hx hb dX11_count_53 (by decide) ?_
            refine lv_goto (tgt := 58) hx hb dX11_count_54 (by decide) ?_
            refine lv_iadd hx hb dX11_count_58 ?_
            refine zz_i (v := nI ((cntP (fun g => (st g).toInt = 2) q) + 1)) (nI_add (cntP (fun g => (st g).toInt = 2) q) 1) ?_
            refine lv_istore_n (lv' := [(3, .int (nI ((cntP (fun g => (st g).toInt = 2) q) + 1))), (2, .int (nI ((cntP (fun g => (st g).toInt = 1) q) + 1))), (6, .int (nI q)), (5, .int (nI (smP (lvF ft st tn) (fun g => nN (mn g)) q))), (4, .int (nI (cntP (fun g => ¬ (tn g).toInt = 0) q))), (0, .ref k0), (1, .int 7)]) hx hb dX11_count_59 rfl hl (by decide) rfl (fun ls hl => ?_)
            refine lv_iload hx hb dX11_count_60 (lv_at hl 4 rfl) ?_
            refine lv_aload_n hx hb dX11_count_62 rfl (lv_at hl 5 rfl) ?_
            refine va_get (D := (dC, dI)) (ci := 9) (v := .ref (a 6)) (C := RX11) (T := TX11) (N := 55) hx hb hts inX11 hown hK hP 0 rfl rfl 6 (by decide) (hts _ mw_1165) (fun _ h9 => h9) rfl dX11_count_63 ?_
            refine lv_iload hx hb dX11_count_66 (lv_at hl 2 rfl) ?_
            refine z_zald hx hb hK hP 2 1 rfl rfl (e := q) rfl (by omega) (by omega) dX11_count_68 ?_
            refine lv_if_eq (tgt := 76) hx hb dX11_count_69 (by decide) (fun c_14 => ?_) (fun c_14 => ?_)
            · have c_14 : (tn q).toInt = 0 := zc_eq rfl (by decide) c_14
              refine lv_iconst (v := 0) hx hb dX11_count_76 (by decide) ?_
              refine lv_iadd hx hb dX11_count_77 ?_
              refine zz_i (v := nI ((cntP (fun g => ¬ (tn g).toInt = 0) q) + 0)) (nI_add (cntP (fun g => ¬ (tn g).toInt = 0) q) 0) ?_
              refine lv_istore (lv' := [(4, .int (nI ((cntP (fun g => ¬ (tn g).toInt = 0) q) + 0))), (3, .int (nI ((cntP (fun g => (st g).toInt = 2) q) + 1))), (2, .int (nI ((cntP (fun g => (st g).toInt = 1) q) + 1))), (6, .int (nI q)), (5, .int (nI (smP (lvF ft st tn) (fun g => nN (mn g)) q))), (0, .ref k0), (1, .int 7)]) hx hb dX11_count_78 hl (by decide) rfl (fun ls hl => ?_)
              refine lv_iload hx hb dX11_count_80 (lv_at hl 4 rfl) ?_
              refine lv_aload_n hx hb dX11_count_82 rfl (lv_at hl 5 rfl) ?_
              refine lv_iload hx hb dX11_count_83 (lv_at hl 3 rfl) ?_
              have hPc := hP.sub (ws' := [(om k0 a I0 J0), (oa (a 5) cI 201 st), (oa (a 6) cZ 201 tn)]) [0, 1, 2] rfl
              have hDc := hD.sub (ws' := [(om k0 a I0 J0), (oa (a 5) cI 201 st), (oa (a 6) cZ 201 tn)]) [0, 1, 2] (by decide) rfl
              have hFc := va_free (wc := [(om k0 a I0 J0), (oa (a 5) cI 201 st), (oa (a 6) cZ 201 tn)]) hD hS hA [0, 1, 2] rfl
              refine zcall (st1 := [.int (pI (q < ft ∧ (st q).toInt = 1 ∧ (tn q).toInt = 0)), .int (nI (smP (lvF ft st tn) (fun g => nN (mn g)) q))]) (va_runV (As := [.int (nI q)]) (rest := [.int (nI (smP (lvF ft st tn) (fun g => nN (mn g)) q))]) ⟨hx, hb, hml, hown, hts⟩ (k_M_is_n l dC dI cI cZ cF H.size k0 a I0 J0 q ft st tn (by assumption) (by omega) (by omega)) (cwV 1 hts (zz_gV mw_1447 mw_1449 mw_56 mw_110 mc_yX11_is) rfl rfl rfl (by decide +kernel) ⟨Nat.le_of_ble_eq_true rfl, Nat.le_of_ble_eq_true rfl⟩) (zPV2 (q0 := 0) (ci := 9) hPc hDc hK hXN rfl rfl) rfl rfl hl.1 rfl (lv_room (Nat.le_of_ble_eq_true rfl)) dX11_count_85 ⟨Nat.le_of_ble_eq_true rfl, Nat.le_of_ble_eq_true rfl⟩) hS hFc hFc rfl (fun t H1 locs ht hB hk1 hS => ?_)
              obtain ⟨hP1, hD1⟩ := hB
              rw [ht] at hP1
              obtain ⟨hP, hD⟩ := va_join (wr := [(oa (a 11) cI 201 mn)]) (w1 := [(om k0 a I0 J0), (oa (a 5) cI 201 st), (oa (a 6) cZ 201 tn)]) hP hD [0, 1, 2] [3] rfl rfl (by decide) (by decide) hk1 hFc hP1 hD1
              clear hk1 hPc hDc hFc hP1 hD1 ht
              generalize H1 = H at hP hS ⊢
              have hP := hP.sub (ws' := [(om k0 a I0 J0), (oa (a 5) cI 201 st), (oa (a 6) cZ 201 tn), (oa (a 11) cI 201 mn)]) [1, 2, 3, 0] rfl
              have hD := hD.sub (ws' := [(om k0 a I0 J0), (oa (a 5) cI 201 st), (oa (a 6) cZ 201 tn), (oa (a 11) cI 201 mn)]) [1, 2, 3, 0] (by decide) rfl
              have hP : va_P (dC, dI) classes [(om k0 a I0 J0), (oa (a 5) cI 201 st), (oa (a 6) cZ 201 tn), (oa (a 11) cI 201 mn)] H := hP
              have hD : va_D A [(om k0 a I0 J0), (oa (a 5) cI 201 st), (oa (a 6) cZ 201 tn), (oa (a 11) cI 201 mn)] := hD
              refine lv_if_eq (tgt := 101) hx hb dX11_count_88 (by decide) (fun c_15 => ?_) (fun c_15 => ?_)
              · have c_15 : ¬ (q < ft ∧ (st q).toInt = 1 ∧ (tn q).toInt = 0) := zp_0 c_15
                refine lv_iconst (v := 0) hx hb dX11_count_101 (by decide) ?_
                refine lv_iadd hx hb dX11_count_102 ?_
                refine zz_i (v := nI ((smP (lvF ft st tn) (fun g => nN (mn g)) q) + 0)) (nI_add (smP (lvF ft st tn) (fun g => nN (mn g)) q) 0) ?_
                refine lv_istore (lv' := [(5, .int (nI ((smP (lvF ft st tn) (fun g => nN (mn g)) q) + 0))), (4, .int (nI ((cntP (fun g => ¬ (tn g).toInt = 0) q) + 0))), (3, .int (nI ((cntP (fun g => (st g).toInt = 2) q) + 1))), (2, .int (nI ((cntP (fun g => (st g).toInt = 1) q) + 1))), (6, .int (nI q)), (0, .ref k0), (1, .int 7)]) hx hb dX11_count_103 hl (by decide) rfl (fun ls hl => ?_)
                refine lv_iinc (v := nI (q + 1)) (lv' := [(6, .int (nI (q + 1))), (5, .int (nI ((smP (lvF ft st tn) (fun g => nN (mn g)) q) + 0))), (4, .int (nI ((cntP (fun g => ¬ (tn g).toInt = 0) q) + 0))), (3, .int (nI ((cntP (fun g => (st g).toInt = 2) q) + 1))), (2, .int (nI ((cntP (fun g => (st g).toInt = 1) q) + 1))), (0, .ref k0), (1, .int 7)]) hx hb dX11_count_105 hl (k := 4) rfl (nI_add q 1) (by decide) rfl (fun ls hl => ?_)
                refine lv_goto (tgt := 13) hx hb dX11_count_108 (by decide) ?_
                have hl9 := lv_sub hl [0, 1, 2, 3, 4, 5, 6] rfl
                have e9_2 : nI (cntP (fun g => (st g).toInt = 1) (q + 1)) = (nI ((cntP (fun g => (st g).toInt = 1) q) + 1) : Int32) := by first | exact congrArg nI (cntP_y (P := fun g => (st g).toInt = 1) (show (st q).toInt = 1 by omega)) | exact congrArg nI (cntP_n0 (P := fun g => (st g).toInt = 1) (show ¬ (st q).toInt = 1 by omega))
                have e9_3 : nI (cntP (fun g => (st g).toInt = 2) (q + 1)) = (nI ((cntP (fun g => (st g).toInt = 2) q) + 1) : Int32) := by first | exact congrArg nI (cntP_y (P := fun g => (st g).toInt = 2) (show (st q).toInt = 2 by omega)) | exact congrArg nI (cntP_n0 (P := fun g => (st g).toInt = 2) (show ¬ (st q).toInt = 2 by omega))
                have e9_4 : nI (cntP (fun g => ¬ (tn g).toInt = 0) (q + 1)) = (nI ((cntP (fun g => ¬ (tn g).toInt = 0) q) + 0) : Int32) := by first | exact congrArg nI (cntP_y (P := fun g => ¬ (tn g).toInt = 0) (show ¬ (tn q).toInt = 0 by omega)) | exact congrArg nI (cntP_n0 (P := fun g => ¬ (tn g).toInt = 0) (show ¬ ¬ (tn q).toInt = 0 by omega))
                have e9_5 : nI (smP (lvF ft st tn) (fun g => nN (mn g)) (q + 1)) = (nI ((smP (lvF ft st tn) (fun g => nN (mn g)) q) + 0) : Int32) := by first | exact congrArg nI (smP_y (P := lvF ft st tn) (by assumption)) | exact congrArg nI (smP_n (P := lvF ft st tn) (by assumption))
                have hl9 : lv_has ls 7 [(6, .int (nI (q + 1))), (5, .int (nI (smP (lvF ft st tn) (fun g => nN (mn g)) (q + 1)))), (4, .int (nI (cntP (fun g => ¬ (tn g).toInt = 0) (q + 1)))), (3, .int (nI (cntP (fun g => (st g).toInt = 2) (q + 1)))), (2, .int (nI (cntP (fun g => (st g).toInt = 1) (q + 1)))), (0, .ref k0), (1, .int 7)] := by rw [e9_2]; rw [e9_3]; rw [e9_4]; rw [e9_5]; exact hl9
                exact ih_13 (q + 1) H locs ls (by omega) (by omega) hP hD hS hl9
              · have c_15 : q < ft ∧ (st q).toInt = 1 ∧ (tn q).toInt = 0 := zp_1 c_15
                refine lv_aload_n hx hb dX11_count_91 rfl (lv_at hl 5 rfl) ?_
                refine va_get (D := (dC, dI)) (ci := 9) (v := .ref (a 11)) (C := RX11) (T := TX11) (N := 55) hx hb hts inX11 hown hK hP 0 rfl rfl 11 (by decide) (hts _ mw_1170) (fun _ h9 => h9) rfl dX11_count_92 ?_
                refine lv_iload hx hb dX11_count_95 (lv_at hl 3 rfl) ?_
                refine z_iald hx hb hK hP 3 0 rfl rfl (e := q) rfl (by omega) (by omega) dX11_count_97 ?_
                refine zz_i (v := nI (nN (mn q))) ((hmw q (by assumption)).1) ?_
                refine lv_goto (tgt := 102) hx hb dX11_count_98 (by decide) ?_
                refine lv_iadd hx hb dX11_count_102 ?_
                refine zz_i (v := nI ((smP (lvF ft st tn) (fun g => nN (mn g)) q) + (nN (mn q)))) (nI_add (smP (lvF ft st tn) (fun g => nN (mn g)) q) (nN (mn q))) ?_
                refine lv_istore (lv' := [(5, .int (nI ((smP (lvF ft st tn) (fun g => nN (mn g)) q) + (nN (mn q))))), (4, .int (nI ((cntP (fun g => ¬ (tn g).toInt = 0) q) + 0))), (3, .int (nI ((cntP (fun g => (st g).toInt = 2) q) + 1))), (2, .int (nI ((cntP (fun g => (st g).toInt = 1) q) + 1))), (6, .int (nI q)), (0, .ref k0), (1, .int 7)]) hx hb dX11_count_103 hl (by decide) rfl (fun ls hl => ?_)
                refine lv_iinc (v := nI (q + 1)) (lv' := [(6, .int (nI (q + 1))), (5, .int (nI ((smP (lvF ft st tn) (fun g => nN (mn g)) q) + (nN (mn q))))), (4, .int (nI ((cntP (fun g => ¬ (tn g).toInt = 0) q) + 0))), (3, .int (nI ((cntP (fun g => (st g).toInt = 2) q) + 1))), (2, .int (nI ((cntP (fun g => (st g).toInt = 1) q) + 1))), (0, .ref k0), (1, .int 7)]) hx hb dX11_count_105 hl (k := 4) rfl (nI_add q 1) (by decide) rfl (fun ls hl => ?_)
                refine lv_goto (tgt := 13) hx hb dX11_count_108 (by decide) ?_
                have hl9 := lv_sub hl [0, 1, 2, 3, 4, 5, 6] rfl
                have e9_2 : nI (cntP (fun g => (st g).toInt = 1) (q + 1)) = (nI ((cntP (fun g => (st g).toInt = 1) q) + 1) : Int32) := by first | exact congrArg nI (cntP_y (P := fun g => (st g).toInt = 1) (show (st q).toInt = 1 by omega)) | exact congrArg nI (cntP_n0 (P := fun g => (st g).toInt = 1) (show ¬ (st q).toInt = 1 by omega))
                have e9_3 : nI (cntP (fun g => (st g).toInt = 2) (q + 1)) = (nI ((cntP (fun g => (st g).toInt = 2) q) + 1) : Int32) := by first | exact congrArg nI (cntP_y (P := fun g => (st g).toInt = 2) (show (st q).toInt = 2 by omega)) | exact congrArg nI (cntP_n0 (P := fun g => (st g).toInt = 2) (show ¬ (st q).toInt = 2 by omega))
                have e9_4 : nI (cntP (fun g => ¬ (tn g).toInt = 0) (q + 1)) = (nI ((cntP (fun g => ¬ (tn g).toInt = 0) q) + 0) : Int32) := by first | exact congrArg nI (cntP_y (P := fun g => ¬ (tn g).toInt = 0) (show ¬ (tn q).toInt = 0 by omega)) | exact congrArg nI (cntP_n0 (P := fun g => ¬ (tn g).toInt = 0) (show ¬ ¬ (tn q).toInt = 0 by omega))
                have e9_5 : nI (smP (lvF ft st tn) (fun g => nN (mn g)) (q + 1)) = (nI ((smP (lvF ft st tn) (fun g => nN (mn g)) q) + (nN (mn q))) : Int32) := by first | exact congrArg nI (smP_y (P := lvF ft st tn) (by assumption)) | exact congrArg nI (smP_n (P := lvF ft st tn) (by assumption))
                have hl9 : lv_has ls 7 [(6, .int (nI (q + 1))), (5, .int (nI (smP (lvF ft st tn) (fun g => nN (mn g)) (q + 1)))), (4, .int (nI (cntP (fun g => ¬ (tn g).toInt = 0) (q + 1)))), (3, .int (nI (cntP (fun g => (st g).toInt = 2) (q + 1)))), (2, .int (nI (cntP (fun g => (st g).toInt = 1) (q + 1)))), (0, .ref k0), (1, .int 7)] := by rw [e9_2]; rw [e9_3]; rw [e9_4]; rw [e9_5]; exact hl9
                exact ih_13 (q + 1) H locs ls (by omega) (by omega) hP hD hS hl9
            · have c_14 : ¬ (tn q).toInt = 0 := zc_ne rfl (by decide) c_14
              refine lv_iconst (v := 1) hx hb dX11_count_72 (by decide) ?_
              refine lv_goto (tgt := 77) hx hb dX11_count_73 (by decide) ?_
              refine lv_iadd hx hb dX11_count_77 ?_
              refine zz_i (v := nI ((cntP (fun g => ¬ (tn g).toInt = 0) q) + 1)) (nI_add (cntP (fun g => ¬ (tn g).toInt = 0) q) 1) ?_
              refine lv_istore (lv' := [(4, .int (nI ((cntP (fun g => ¬ (tn g).toInt = 0) q) + 1))), (3, .int (nI ((cntP (fun g => (st g).toInt = 2) q) + 1))), (2, .int (nI ((cntP (fun g => (st g).toInt = 1) q) + 1))), (6, .int (nI q)), (5, .int (nI (smP (lvF ft st tn) (fun g => nN (mn g)) q))), (0, .ref k0), (1, .int 7)]) hx hb dX11_count_78 hl (by decide) rfl (fun ls hl => ?_)
              refine lv_iload hx hb dX11_count_80 (lv_at hl 4 rfl) ?_
              refine lv_aload_n hx hb dX11_count_82 rfl (lv_at hl 5 rfl) ?_
              refine lv_iload hx hb dX11_count_83 (lv_at hl 3 rfl) ?_
              have hPc := hP.sub (ws' := [(om k0 a I0 J0), (oa (a 5) cI 201 st), (oa (a 6) cZ 201 tn)]) [0, 1, 2] rfl
              have hDc := hD.sub (ws' := [(om k0 a I0 J0), (oa (a 5) cI 201 st), (oa (a 6) cZ 201 tn)]) [0, 1, 2] (by decide) rfl
              have hFc := va_free (wc := [(om k0 a I0 J0), (oa (a 5) cI 201 st), (oa (a 6) cZ 201 tn)]) hD hS hA [0, 1, 2] rfl
              refine zcall (st1 := [.int (pI (q < ft ∧ (st q).toInt = 1 ∧ (tn q).toInt = 0)), .int (nI (smP (lvF ft st tn) (fun g => nN (mn g)) q))]) (va_runV (As := [.int (nI q)]) (rest := [.int (nI (smP (lvF ft st tn) (fun g => nN (mn g)) q))]) ⟨hx, hb, hml, hown, hts⟩ (k_M_is_n l dC dI cI cZ cF H.size k0 a I0 J0 q ft st tn (by assumption) (by omega) (by omega)) (cwV 1 hts (zz_gV mw_1447 mw_1449 mw_56 mw_110 mc_yX11_is) rfl rfl rfl (by decide +kernel) ⟨Nat.le_of_ble_eq_true rfl, Nat.le_of_ble_eq_true rfl⟩) (zPV2 (q0 := 0) (ci := 9) hPc hDc hK hXN rfl rfl) rfl rfl hl.1 rfl (lv_room (Nat.le_of_ble_eq_true rfl)) dX11_count_85 ⟨Nat.le_of_ble_eq_true rfl, Nat.le_of_ble_eq_true rfl⟩) hS hFc hFc rfl (fun t H1 locs ht hB hk1 hS => ?_)
              obtain ⟨hP1, hD1⟩ := hB
              rw [ht] at hP1
              obtain ⟨hP, hD⟩ := va_join (wr := [(oa (a 11) cI 201 mn)]) (w1 := [(om k0 a I0 J0), (oa (a 5) cI 201 st), (oa (a 6) cZ 201 tn)]) hP hD [0, 1, 2] [3] rfl rfl (by decide) (by decide) hk1 hFc hP1 hD1
              clear hk1 hPc hDc hFc hP1 hD1 ht
              generalize H1 = H at hP hS ⊢
              have hP := hP.sub (ws' := [(om k0 a I0 J0), (oa (a 5) cI 201 st), (oa (a 6) cZ 201 tn), (oa (a 11) cI 201 mn)]) [1, 2, 3, 0] rfl
              have hD := hD.sub (ws' := [(om k0 a I0 J0), (oa (a 5) cI 201 st), (oa (a 6) cZ 201 tn), (oa (a 11) cI 201 mn)]) [1, 2, 3, 0] (by decide) rfl
              have hP : va_P (dC, dI) classes [(om k0 a I0 J0), (oa (a 5) cI 201 st), (oa (a 6) cZ 201 tn), (oa (a 11) cI 201 mn)] H := hP
              have hD : va_D A [(om k0 a I0 J0), (oa (a 5) cI 201 st), (oa (a 6) cZ 201 tn), (oa (a 11) cI 201 mn)] := hD
              refine lv_if_eq (tgt := 101) hx hb dX11_count_88 (by decide) (fun c_16 => ?_) (fun c_16 => ?_)
              · have c_16 : ¬ (q < ft ∧ (st q).toInt = 1 ∧ (tn q).toInt = 0) := zp_0 c_16
                refine lv_iconst (v := 0) hx hb dX11_count_101 (by decide) ?_
                refine lv_iadd hx hb dX11_count_102 ?_
                refine zz_i (v := nI ((smP (lvF ft st tn) (fun g => nN (mn g)) q) + 0)) (nI_add (smP (lvF ft st tn) (fun g => nN (mn g)) q) 0) ?_
                refine lv_istore (lv' := [(5, .int (nI ((smP (lvF ft st tn) (fun g => nN (mn g)) q) + 0))), (4, .int (nI ((cntP (fun g => ¬ (tn g).toInt = 0) q) + 1))), (3, .int (nI ((cntP (fun g => (st g).toInt = 2) q) + 1))), (2, .int (nI ((cntP (fun g => (st g).toInt = 1) q) + 1))), (6, .int (nI q)), (0, .ref k0), (1, .int 7)]) hx hb dX11_count_103 hl (by decide) rfl (fun ls hl => ?_)
                refine lv_iinc (v := nI (q + 1)) (lv' := [(6, .int (nI (q + 1))), (5, .int (nI ((smP (lvF ft st tn) (fun g => nN (mn g)) q) + 0))), (4, .int (nI ((cntP (fun g => ¬ (tn g).toInt = 0) q) + 1))), (3, .int (nI ((cntP (fun g => (st g).toInt = 2) q) + 1))), (2, .int (nI ((cntP (fun g => (st g).toInt = 1) q) + 1))), (0, .ref k0), (1, .int 7)]) hx hb dX11_count_105 hl (k := 4) rfl (nI_add q 1) (by decide) rfl (fun ls hl => ?_)
                refine lv_goto (tgt := 13) hx hb dX11_count_108 (by decide) ?_
                have hl9 := lv_sub hl [0, 1, 2, 3, 4, 5, 6] rfl
                have e9_2 : nI (cntP (fun g => (st g).toInt = 1) (q + 1)) = (nI ((cntP (fun g => (st g).toInt = 1) q) + 1) : Int32) := by first | exact congrArg nI (cntP_y (P := fun g => (st g).toInt = 1) (show (st q).toInt = 1 by omega)) | exact congrArg nI (cntP_n0 (P := fun g => (st g).toInt = 1) (show ¬ (st q).toInt = 1 by omega))
                have e9_3 : nI (cntP (fun g => (st g).toInt = 2) (q + 1)) = (nI ((cntP (fun g => (st g).toInt = 2) q) + 1) : Int32) := by first | exact congrArg nI (cntP_y (P := fun g => (st g).toInt = 2) (show (st q).toInt = 2 by omega)) | exact congrArg nI (cntP_n0 (P := fun g => (st g).toInt = 2) (show ¬ (st q).toInt = 2 by omega))
                have e9_4 : nI (cntP (fun g => ¬ (tn g).toInt = 0) (q + 1)) = (nI ((cntP (fun g => ¬ (tn g).toInt = 0) q) + 1) : Int32) := by first | exact congrArg nI (cntP_y (P := fun g => ¬ (tn g).toInt = 0) (show ¬ (tn q).toInt = 0 by omega)) | exact congrArg nI (cntP_n0 (P := fun g => ¬ (tn g).toInt = 0) (show ¬ ¬ (tn q).toInt = 0 by omega))
                have e9_5 : nI (smP (lvF ft st tn) (fun g => nN (mn g)) (q + 1)) = (nI ((smP (lvF ft st tn) (fun g => nN (mn g)) q) + 0) : Int32) := by first | exact congrArg nI (smP_y (P := lvF ft st tn) (by assumption)) | exact congrArg nI (smP_n (P := lvF ft st tn) (by assumption))
                have hl9 : lv_has ls 7 [(6, .int (nI (q + 1))), (5, .int (nI (smP (lvF ft st tn) (fun g => nN (mn g)) (q + 1)))), (4, .int (nI (cntP (fun g => ¬ (tn g).toInt = 0) (q + 1)))), (3, .int (nI (cntP (fun g => (st g).toInt = 2) (q + 1)))), (2, .int (nI (cntP (fun g => (st g).toInt = 1) (q + 1)))), (0, .ref k0), (1, .int 7)] := by rw [e9_2]; rw [e9_3]; rw [e9_4]; rw [e9_5]; exact hl9
                exact ih_13 (q + 1) H locs ls (by omega) (by omega) hP hD hS hl9
              · have c_16 : q < ft ∧ (st q).toInt = 1 ∧ (tn q).toInt = 0 := zp_1 c_16
                refine lv_aload_n hx hb dX11_count_91 rfl (lv_at hl 5 rfl) ?_
                refine va_get (D := (dC, dI)) (ci := 9) (v := .ref (a 11)) (C := RX11) (T := TX11) (N := 55) hx hb hts inX11 hown hK hP 0 rfl rfl 11 (by decide) (hts _ mw_1170) (fun _ h9 => h9) rfl dX11_count_92 ?_
                refine lv_iload hx hb dX11_count_95 (lv_at hl 3 rfl) ?_
                refine z_iald hx hb hK hP 3 0 rfl rfl (e := q) rfl (by omega) (by omega) dX11_count_97 ?_
                refine zz_i (v := nI (nN (mn q))) ((hmw q (by assumption)).1) ?_
                refine lv_goto (tgt := 102) hx hb dX11_count_98 (by decide) ?_
                refine lv_iadd hx hb dX11_count_102 ?_
                refine zz_i (v := nI ((smP (lvF ft st tn) (fun g => nN (mn g)) q) + (nN (mn q)))) (nI_add (smP (lvF ft st tn) (fun g => nN (mn g)) q) (nN (mn q))) ?_
                refine lv_istore (lv' := [(5, .int (nI ((smP (lvF ft st tn) (fun g => nN (mn g)) q) + (nN (mn q))))), (4, .int (nI ((cntP (fun g => ¬ (tn g).toInt = 0) q) + 1))), (3, .int (nI ((cntP (fun g => (st g).toInt = 2) q) + 1))), (2, .int (nI ((cntP (fun g => (st g).toInt = 1) q) + 1))), (6, .int (nI q)), (0, .ref k0), (1, .int 7)]) hx hb dX11_count_103 hl (by decide) rfl (fun ls hl => ?_)
                refine lv_iinc (v := nI (q + 1)) (lv' := [(6, .int (nI (q + 1))), (5, .int (nI ((smP (lvF ft st tn) (fun g => nN (mn g)) q) + (nN (mn q))))), (4, .int (nI ((cntP (fun g => ¬ (tn g).toInt = 0) q) + 1))), (3, .int (nI ((cntP (fun g => (st g).toInt = 2) q) + 1))), (2, .int (nI ((cntP (fun g => (st g).toInt = 1) q) + 1))), (0, .ref k0), (1, .int 7)]) hx hb dX11_count_105 hl (k := 4) rfl (nI_add q 1) (by decide) rfl (fun ls hl => ?_)
                refine lv_goto (tgt := 13) hx hb dX11_count_108 (by decide) ?_
                have hl9 := lv_sub hl [0, 1, 2, 3, 4, 5, 6] rfl
                have e9_2 : nI (cntP (fun g => (st g).toInt = 1) (q + 1)) = (nI ((cntP (fun g => (st g).toInt = 1) q) + 1) : Int32) := by first | exact congrArg nI (cntP_y (P := fun g => (st g).toInt = 1) (show (st q).toInt = 1 by omega)) | exact congrArg nI (cntP_n0 (P := fun g => (st g).toInt = 1) (show ¬ (st q).toInt = 1 by omega))
                have e9_3 : nI (cntP (fun g => (st g).toInt = 2) (q + 1)) = (nI ((cntP (fun g => (st g).toInt = 2) q) + 1) : Int32) := by first | exact congrArg nI (cntP_y (P := fun g => (st g).toInt = 2) (show (st q).toInt = 2 by omega)) | exact congrArg nI (cntP_n0 (P := fun g => (st g).toInt = 2) (show ¬ (st q).toInt = 2 by omega))
                have e9_4 : nI (cntP (fun g => ¬ (tn g).toInt = 0) (q + 1)) = (nI ((cntP (fun g => ¬ (tn g).toInt = 0) q) + 1) : Int32) := by first | exact congrArg nI (cntP_y (P := fun g => ¬ (tn g).toInt = 0) (show ¬ (tn q).toInt = 0 by omega)) | exact congrArg nI (cntP_n0 (P := fun g => ¬ (tn g).toInt = 0) (show ¬ ¬ (tn q).toInt = 0 by omega))
                have e9_5 : nI (smP (lvF ft st tn) (fun g => nN (mn g)) (q + 1)) = (nI ((smP (lvF ft st tn) (fun g => nN (mn g)) q) + (nN (mn q))) : Int32) := by first | exact congrArg nI (smP_y (P := lvF ft st tn) (by assumption)) | exact congrArg nI (smP_n (P := lvF ft st tn) (by assumption))
                have hl9 : lv_has ls 7 [(6, .int (nI (q + 1))), (5, .int (nI (smP (lvF ft st tn) (fun g => nN (mn g)) (q + 1)))), (4, .int (nI (cntP (fun g => ¬ (tn g).toInt = 0) (q + 1)))), (3, .int (nI (cntP (fun g => (st g).toInt = 2) (q + 1)))), (2, .int (nI (cntP (fun g => (st g).toInt = 1) (q + 1)))), (0, .ref k0), (1, .int 7)] := by rw [e9_2]; rw [e9_3]; rw [e9_4]; rw [e9_5]; exact hl9
                exact ih_13 (q + 1) H locs ls (by omega) (by omega) hP hD hS hl9
  have e9_2 : nI (cntP (fun g => (st g).toInt = 1) 0) = (0 : Int32) := by rfl
  have e9_3 : nI (cntP (fun g => (st g).toInt = 2) 0) = (0 : Int32) := by rfl
  have e9_4 : nI (cntP (fun g => ¬ (tn g).toInt = 0) 0) = (0 : Int32) := by rfl
  have e9_5 : nI (smP (lvF ft st tn) (fun g => nN (mn g)) 0) = (0 : Int32) := by rfl
  have hl9 : lv_has ls 7 [(6, .int (nI 0)), (5, .int (nI (smP (lvF ft st tn) (fun g => nN (mn g)) 0))), (4, .int (nI (cntP (fun g => ¬ (tn g).toInt = 0) 0))), (3, .int (nI (cntP (fun g => (st g).toInt = 2) 0))), (2, .int (nI (cntP (fun g => (st g).toInt = 1) 0))), (0, .ref k0), (1, .int 7)] := by rw [e9_2]; rw [e9_3]; rw [e9_4]; rw [e9_5]; exact lv_sub hl [0, 1, 2, 3, 4, 5, 6] rfl
  exact hl_13 _ 0 s.heap [] ls (Nat.lt_succ_self _) (by omega) hP hD hS hl9
set_option maxHeartbeats 4000000 in
set_option maxRecDepth 100000 in
theorem k_M_count_d (l : Launch) (dC : Nat → ClassId) (dI : Nat → Nat → Nat) (cI cZ cF : ClassId) (sz : Nat) (k0 : Nat) (a : Nat → Nat) (I0 : Nat → Int32) (J0 : Nat → Int64) (ft : Nat) (w : Int32) (st : Nat → Int32) (tn : Nat → Int32) (mn : Nat → Int32) (hft : I0 0 = nI ft) (h200 : ft ≤ 200) (hmw : ∀ q, lvF ft st tn q → mn q = nI (nN (mn q)) ∧ nN (mn q) ≤ 40) (hw9 : w.toInt < 0 ∨ 7 < w.toInt) : Met l yX11_count (.code yX11_count cX11_count 7 (some .int) :: ws0) ({ frames := 2, cells := 0, slots := 0, locals := 42 } : Room) (va_Pc [.ref k0, .int w] (zPre (dC, dI) classes (zTy cI cZ cF) [(om k0 a I0 J0), (oa (a 5) cI 201 st), (oa (a 6) cZ 201 tn), (oa (a 11) cI 201 mn)] sz zXN)) (zQ (some (.int (-1))) (fun t => va_P (dC, dI) classes [(om k0 a I0 J0), (oa (a 5) cI 201 st), (oa (a 6) cZ 201 tn), (oa (a 11) cI 201 mn)] t.heap ∧ va_D (va_A [(om k0 a I0 J0), (oa (a 5) cI 201 st), (oa (a 6) cZ 201 tn), (oa (a 11) cI 201 mn)] sz) [(om k0 a I0 J0), (oa (a 5) cI 201 st), (oa (a 6) cZ 201 tn), (oa (a 11) cI 201 mn)]) (va_A [(om k0 a I0 J0), (oa (a 5) cI 201 st), (oa (a 6) cZ 201 tn), (oa (a 11) cI 201 mn)] sz)) 0 0 (va_A [(om k0 a I0 J0), (oa (a 5) cI 201 st), (oa (a 6) cZ 201 tn), (oa (a 11) cI 201 mn)] sz) := by
  refine Met.ofW (cc := cX11_count) (maxL := 7) (ret := (some .int)) (by decide) rfl ?_
  intro p e s m args below meth c s₁ B hml hv
  obtain ⟨rfl, hsz, hP, hK, hD0, hXN⟩ := hv
  have hx := B.exec
  have hb := B.bytes
  have hr := B.returns
  have hts0 := atoms_spec (ws := .code yX11_count cX11_count 7 (some .int) :: ws0) B.pre
  have hts : ∀ w9 ∈ ws0, w9.before ([.ref k0, .int w] : List Value).toArray s = true := fun w9 h => hts0 w9 (List.mem_cons_of_mem _ h)
  have hown : s.vm.findClass "ScaleShopModel" = some m.cls := findClass_of_methodNamed B.named
  have hlocks := B.notSynchronized
  subst hsz
  have hD := hD0.self (sz := s.heap.size)
  clear hD0
  generalize hAe : va_A [(om k0 a I0 J0), (oa (a 5) cI 201 st), (oa (a 6) cZ 201 tn), (oa (a 11) cI 201 mn)] s.heap.size = A at hD ⊢
  have hA : ∀ q : Nat, s.heap.size ≤ q → A q := fun q h => by rw [← hAe]; exact Or.inr h
  clear hAe
  have hS : va_S A s.heap s.heap [] := va_S.rf
  have hP : va_P (dC, dI) classes [(om k0 a I0 J0), (oa (a 5) cI 201 st), (oa (a 6) cZ 201 tn), (oa (a 11) cI 201 mn)] s.heap := hP
  obtain ⟨Q9, hQ9⟩ : ∃ Q9 : State → Prop, Q9 = MQ below (zQ (some (.int (-1))) (fun t => va_P (dC, dI) classes [(om k0 a I0 J0), (oa (a 5) cI 201 st), (oa (a 6) cZ 201 tn), (oa (a 11) cI 201 mn)] t.heap ∧ va_D A [(om k0 a I0 J0), (oa (a 5) cI 201 st), (oa (a 6) cZ 201 tn), (oa (a 11) cI 201 mn)]) A) ([.ref k0, .int w] : List Value).toArray s 0 0 A := ⟨_, rfl⟩
  rw [← hQ9]
  have hl := lv_entry ([.ref k0, .int w]) (n := 7) (Nat.le_of_ble_eq_true rfl)
  rw [lg_entry_eq]
  generalize (lg_sl ([.ref k0, .int w]) ++ List.replicate (7 - (lg_sl ([.ref k0, .int w])).length) Slot.unset).toArray = ls at hl ⊢
  have hl : lv_has ls 7 [(0, .ref k0), (1, .int w)] := hl
  refine lv_iconst (v := 0) hx hb dX11_count_0 (by decide) ?_
  refine lv_istore_n (lv' := [(2, .int 0), (0, .ref k0), (1, .int w)]) hx hb dX11_count_1 rfl hl (by decide) rfl (fun ls hl => ?_)
  refine lv_iconst (v := 0) hx hb dX11_count_2 (by decide) ?_
  refine lv_istore_n (lv' := [(3, .int 0), (2, .int 0), (0, .ref k0), (1, .int w)]) hx hb dX11_count_3 rfl hl (by decide) rfl (fun ls hl => ?_)
  refine lv_iconst (v := 0) hx hb dX11_count_4 (by decide) ?_
  refine lv_istore (lv' := [(4, .int 0), (3, .int 0), (2, .int 0), (0, .ref k0), (1, .int w)]) hx hb dX11_count_5 hl (by decide) rfl (fun ls hl => ?_)
  refine lv_iconst (v := 0) hx hb dX11_count_7 (by decide) ?_
  refine lv_istore (lv' := [(5, .int 0), (4, .int 0), (3, .int 0), (2, .int 0), (0, .ref k0), (1, .int w)]) hx hb dX11_count_8 hl (by decide) rfl (fun ls hl => ?_)
  refine lv_iconst (v := 0) hx hb dX11_count_10 (by decide) ?_
  refine lv_istore (lv' := [(6, .int 0), (5, .int 0), (4, .int 0), (3, .int 0), (2, .int 0), (0, .ref k0), (1, .int w)]) hx hb dX11_count_11 hl (by decide) rfl (fun ls hl => ?_)
  have hl_13 : ∀ (n9 : Nat) (q : Nat) (H : Heap) (locs : List Loc) (ls : Array Slot), ft - q < n9 → (q ≤ ft) → va_P (dC, dI) classes [(om k0 a I0 J0), (oa (a 5) cI 201 st), (oa (a 6) cZ 201 tn), (oa (a 11) cI 201 mn)] H → va_D A [(om k0 a I0 J0), (oa (a 5) cI 201 st), (oa (a 6) cZ 201 tn), (oa (a 11) cI 201 mn)] → va_S A s.heap H locs → lv_has ls 7 [(6, .int (nI q)), (5, .int (nI (smP (lvF ft st tn) (fun g => nN (mn g)) q))), (4, .int (nI (cntP (fun g => ¬ (tn g).toInt = 0) q))), (3, .int (nI (cntP (fun g => (st g).toInt = 2) q))), (2, .int (nI (cntP (fun g => (st g).toInt = 1) q))), (0, .ref k0), (1, .int w)] → W p l e ((headSpec (.code yX11_count cX11_count 7 (some .int) :: ws0) ({ frames := 2, cells := 0, slots := 0, locals := 42 } : Room)).room) s m ([.ref k0, .int w] : List Value).toArray below meth c H locs 0 0 Q9 (F0 m 13 ls []) := by
    intro n9
    induction n9 with
    | zero => intro q H locs ls hm; exact absurd hm (Nat.not_lt_zero _)
    | succ n9 ih_13 =>
      intro q H locs ls hm hq hP hD hS hl
      have hc2 := cntP_b (fun g => (st g).toInt = 1) q
      have hc3 := cntP_b (fun g => (st g).toInt = 2) q
      have hc4 := cntP_b (fun g => ¬ (tn g).toInt = 0) q
      have hc5 := smP_b (P := lvF ft st tn) (c := fun g => nN (mn g)) q (fun j _ h => (hmw j h).2)
      refine lv_iload hx hb dX11_count_13 (lv_at hl 0 rfl) ?_
      refine lv_aload_n hx hb dX11_count_15 rfl (lv_at hl 5 rfl) ?_
      refine va_get (D := (dC, dI)) (ci := 9) (v := .int (I0 0)) (C := RX11) (T := TX11) (N := 55) hx hb hts inX11 hown hK hP 0 rfl rfl 0 (by decide) (hts _ mw_1159) (fun _ h9 => h9) rfl dX11_count_16 ?_
      refine zz_i (v := nI ft) (hft) ?_
      refine lv_icmp_ge (tgt := 111) hx hb dX11_count_19 (by decide) (fun c_1 => ?_) (fun c_1 => ?_)
      · have c_1 : ((ft : Nat) : Int) ≤ ((q : Nat) : Int) := zc_le (nI_toInt (by omega)) (nI_toInt (by omega)) c_1
        refine lv_iload_n hx hb dX11_count_111 rfl (lv_at hl 6 rfl) ?_
        refine lv_tableOut (tgt := 190) hx hb dX11_count_112 (hw9) (by decide) ?_
        refine lv_iconst (v := (-1)) hx hb dX11_count_190 (by decide) ?_
        have hP9 := hP.sub (ws' := [(om k0 a I0 J0), (oa (a 5) cI 201 st), (oa (a 6) cZ 201 tn), (oa (a 11) cI 201 mn)]) [0, 1, 2, 3] rfl
        have hD9 := hD.sub (ws' := [(om k0 a I0 J0), (oa (a 5) cI 201 st), (oa (a 6) cZ 201 tn), (oa (a 11) cI 201 mn)]) [0, 1, 2, 3] (by decide) rfl
        rw [hQ9]
        exact W.iret (v := (-1)) hx hb hr (fun t ht hW => ⟨⟨rfl, by rw [ht]; exact hP9, hD9⟩, hS.F ht⟩) hS.2.2 dX11_count_191
      · have c_1 : ((q : Nat) : Int) < ((ft : Nat) : Int) := zc_nle (nI_toInt (by omega)) (nI_toInt (by omega)) c_1
        refine lv_iload_n hx hb dX11_count_22 rfl (lv_at hl 4 rfl) ?_
        refine lv_aload_n hx hb dX11_count_23 rfl (lv_at hl 5 rfl) ?_
        refine va_get (D := (dC, dI)) (ci := 9) (v := .ref (a 5)) (C := RX11) (T := TX11) (N := 55) hx hb hts inX11 hown hK hP 0 rfl rfl 5 (by decide) (hts _ mw_1164) (fun _ h9 => h9) rfl dX11_count_24 ?_
        refine lv_iload hx hb dX11_count_27 (lv_at hl 0 rfl) ?_
        refine z_iald hx hb hK hP 1 0 rfl rfl (e := q) rfl (by omega) (by omega) dX11_count_29 ?_
        refine lv_iconst (v := 1) hx hb dX11_count_30 (by decide) ?_
        refine lv_icmp_ne (tgt := 38) hx hb dX11_count_31 (by decide) (fun c_2 => ?_) (fun c_2 => ?_)
        · have c_2 : ¬ (st q).toInt = 1 := zc_ne rfl (by decide) c_2
          refine lv_iconst (v := 0) hx hb dX11_count_38 (by decide) ?_
          refine lv_iadd hx hb dX11_count_39 ?_
          refine zz_i (v := nI ((cntP (fun g => (st g).toInt = 1) q) + 0)) (nI_add (cntP (fun g => (st g).toInt = 1) q) 0) ?_
          refine lv_istore_n (lv' := [(2, .int (nI ((cntP (fun g => (st g).toInt = 1) q) + 0))), (6, .int (nI q)), (5, .int (nI (smP (lvF ft st tn) (fun g => nN (mn g)) q))), (4, .int (nI (cntP (fun g => ¬ (tn g).toInt = 0) q))), (3, .int (nI (cntP (fun g => (st g).toInt = 2) q))), (0, .ref k0), (1, .int w)]) hx hb dX11_count_40 rfl hl (by decide) rfl (fun ls hl => ?_)
          refine lv_iload_n hx hb dX11_count_41 rfl (lv_at hl 4 rfl) ?_
          refine lv_aload_n hx hb dX11_count_42 rfl (lv_at hl 5 rfl) ?_
          refine va_get (D := (dC, dI)) (ci := 9) (v := .ref (a 5)) (C := RX11) (T := TX11) (N := 55) hx hb hts inX11 hown hK hP 0 rfl rfl 5 (by decide) (hts _ mw_1164) (fun _ h9 => h9) rfl dX11_count_43 ?_
          refine lv_iload hx hb dX11_count_46 (lv_at hl 1 rfl) ?_
          refine z_iald hx hb hK hP 1 0 rfl rfl (e := q) rfl (by omega) (by omega) dX11_count_48 ?_
          refine lv_iconst (v := 2) hx hb dX11_count_49 (by decide) ?_
          refine lv_icmp_ne (tgt := 57) hx hb dX11_count_50 (by decide) (fun c_3 => ?_) (fun c_3 => ?_)
          · have c_3 : ¬ (st q).toInt = 2 := zc_ne rfl (by decide) c_3
            refine lv_iconst (v := 0) hx hb dX11_count_57 (by decide) ?_
            refine lv_iadd hx hb dX11_count_58 ?_
            refine zz_i (v := nI ((cntP (fun g => (st g).toInt = 2) q) + 0)) (nI_add (cntP (fun g => (st g).toInt = 2) q) 0) ?_
            refine lv_istore_n (lv' := [(3, .int (nI ((cntP (fun g => (st g).toInt = 2) q) + 0))), (2, .int (nI ((cntP (fun g => (st g).toInt = 1) q) + 0))), (6, .int (nI q)), (5, .int (nI (smP (lvF ft st tn) (fun g => nN (mn g)) q))), (4, .int (nI (cntP (fun g => ¬ (tn g).toInt = 0) q))), (0, .ref k0), (1, .int w)]) hx hb dX11_count_59 rfl hl (by decide) rfl (fun ls hl => ?_)
            refine lv_iload hx hb dX11_count_60 (lv_at hl 4 rfl) ?_
            refine lv_aload_n hx hb dX11_count_62 rfl (lv_at hl 5 rfl) ?_
            refine va_get (D := (dC, dI)) (ci := 9) (v := .ref (a 6)) (C := RX11) (T := TX11) (N := 55) hx hb hts inX11 hown hK hP 0 rfl rfl 6 (by decide) (hts _ mw_1165) (fun _ h9 => h9) rfl dX11_count_63 ?_
            refine lv_iload hx hb dX11_count_66 (lv_at hl 2 rfl) ?_
            refine z_zald hx hb hK hP 2 1 rfl rfl (e := q) rfl (by omega) (by omega) dX11_count_68 ?_
            refine lv_if_eq (tgt := 76) hx hb dX11_count_69 (by decide) (fun c_4 => ?_) (fun c_4 => ?_)
            · have c_4 : (tn q).toInt = 0 := zc_eq rfl (by decide) c_4
              refine lv_iconst (v := 0) hx hb dX11_count_76 (by decide) ?_
              refine lv_iadd hx hb dX11_count_77 ?_
              refine zz_i (v := nI ((cntP (fun g => ¬ (tn g).toInt = 0) q) + 0)) (nI_add (cntP (fun g => ¬ (tn g).toInt = 0) q) 0) ?_
              refine lv_istore (lv' := [(4, .int (nI ((cntP (fun g => ¬ (tn g).toInt = 0) q) + 0))), (3, .int (nI ((cntP (fun g => (st g).toInt = 2) q) + 0))), (2, .int (nI ((cntP (fun g => (st g).toInt = 1) q) + 0))), (6, .int (nI q)), (5, .int (nI (smP (lvF ft st tn) (fun g => nN (mn g)) q))), (0, .ref k0), (1, .int w)]) hx hb dX11_count_78 hl (by decide) rfl (fun ls hl => ?_)
              refine lv_iload hx hb dX11_count_80 (lv_at hl 4 rfl) ?_
              refine lv_aload_n hx hb dX11_count_82 rfl (lv_at hl 5 rfl) ?_
              refine lv_iload hx hb dX11_count_83 (lv_at hl 3 rfl) ?_
              have hPc := hP.sub (ws' := [(om k0 a I0 J0), (oa (a 5) cI 201 st), (oa (a 6) cZ 201 tn)]) [0, 1, 2] rfl
              have hDc := hD.sub (ws' := [(om k0 a I0 J0), (oa (a 5) cI 201 st), (oa (a 6) cZ 201 tn)]) [0, 1, 2] (by decide) rfl
              have hFc := va_free (wc := [(om k0 a I0 J0), (oa (a 5) cI 201 st), (oa (a 6) cZ 201 tn)]) hD hS hA [0, 1, 2] rfl
              refine zcall (st1 := [.int (pI (q < ft ∧ (st q).toInt = 1 ∧ (tn q).toInt = 0)), .int (nI (smP (lvF ft st tn) (fun g => nN (mn g)) q))]) (va_runV (As := [.int (nI q)]) (rest := [.int (nI (smP (lvF ft st tn) (fun g => nN (mn g)) q))]) ⟨hx, hb, hml, hown, hts⟩ (k_M_is_n l dC dI cI cZ cF H.size k0 a I0 J0 q ft st tn (by assumption) (by omega) (by omega)) (cwV 1 hts (zz_gV mw_1447 mw_1449 mw_56 mw_110 mc_yX11_is) rfl rfl rfl (by decide +kernel) ⟨Nat.le_of_ble_eq_true rfl, Nat.le_of_ble_eq_true rfl⟩) (zPV2 (q0 := 0) (ci := 9) hPc hDc hK hXN rfl rfl) rfl rfl hl.1 rfl (lv_room (Nat.le_of_ble_eq_true rfl)) dX11_count_85 ⟨Nat.le_of_ble_eq_true rfl, Nat.le_of_ble_eq_true rfl⟩) hS hFc hFc rfl (fun t H1 locs ht hB hk1 hS => ?_)
              obtain ⟨hP1, hD1⟩ := hB
              rw [ht] at hP1
              obtain ⟨hP, hD⟩ := va_join (wr := [(oa (a 11) cI 201 mn)]) (w1 := [(om k0 a I0 J0), (oa (a 5) cI 201 st), (oa (a 6) cZ 201 tn)]) hP hD [0, 1, 2] [3] rfl rfl (by decide) (by decide) hk1 hFc hP1 hD1
              clear hk1 hPc hDc hFc hP1 hD1 ht
              generalize H1 = H at hP hS ⊢
              have hP := hP.sub (ws' := [(om k0 a I0 J0), (oa (a 5) cI 201 st), (oa (a 6) cZ 201 tn), (oa (a 11) cI 201 mn)]) [1, 2, 3, 0] rfl
              have hD := hD.sub (ws' := [(om k0 a I0 J0), (oa (a 5) cI 201 st), (oa (a 6) cZ 201 tn), (oa (a 11) cI 201 mn)]) [1, 2, 3, 0] (by decide) rfl
              have hP : va_P (dC, dI) classes [(om k0 a I0 J0), (oa (a 5) cI 201 st), (oa (a 6) cZ 201 tn), (oa (a 11) cI 201 mn)] H := hP
              have hD : va_D A [(om k0 a I0 J0), (oa (a 5) cI 201 st), (oa (a 6) cZ 201 tn), (oa (a 11) cI 201 mn)] := hD
              refine lv_if_eq (tgt := 101) hx hb dX11_count_88 (by decide) (fun c_5 => ?_) (fun c_5 => ?_)
              · have c_5 : ¬ (q < ft ∧ (st q).toInt = 1 ∧ (tn q).toInt = 0) := zp_0 c_5
                refine lv_iconst (v := 0) hx hb dX11_count_101 (by decide) ?_
                refine lv_iadd hx hb dX11_count_102 ?_
                refine zz_i (v := nI ((smP (lvF ft st tn) (fun g => nN (mn g)) q) + 0)) (nI_add (smP (lvF ft st tn) (fun g => nN (mn g)) q) 0) ?_
                refine lv_istore (lv' := [(5, .int (nI ((smP (lvF ft st tn) (fun g => nN (mn g)) q) + 0))), (4, .int (nI ((cntP (fun g => ¬ (tn g).toInt = 0) q) + 0))), (3, .int (nI ((cntP (fun g => (st g).toInt = 2) q) + 0))), (2, .int (nI ((cntP (fun g => (st g).toInt = 1) q) + 0))), (6, .int (nI q)), (0, .ref k0), (1, .int w)]) hx hb dX11_count_103 hl (by decide) rfl (fun ls hl => ?_)
                refine lv_iinc (v := nI (q + 1)) (lv' := [(6, .int (nI (q + 1))), (5, .int (nI ((smP (lvF ft st tn) (fun g => nN (mn g)) q) + 0))), (4, .int (nI ((cntP (fun g => ¬ (tn g).toInt = 0) q) + 0))), (3, .int (nI ((cntP (fun g => (st g).toInt = 2) q) + 0))), (2, .int (nI ((cntP (fun g => (st g).toInt = 1) q) + 0))), (0, .ref k0), (1, .int w)]) hx hb dX11_count_105 hl (k := 4) rfl (nI_add q 1) (by decide) rfl (fun ls hl => ?_)
                refine lv_goto (tgt := 13) hx hb dX11_count_108 (by decide) ?_
                have hl9 := lv_sub hl [0, 1, 2, 3, 4, 5, 6] rfl
                have e9_2 : nI (cntP (fun g => (st g).toInt = 1) (q + 1)) = (nI ((cntP (fun g => (st g).toInt = 1) q) + 0) : Int32) := by first | exact congrArg nI (cntP_y (P := fun g => (st g).toInt = 1) (show (st q).toInt = 1 by omega)) | exact congrArg nI (cntP_n0 (P := fun g => (st g).toInt = 1) (show ¬ (st q).toInt = 1 by omega))
                have e9_3 : nI (cntP (fun g => (st g).toInt = 2) (q + 1)) = (nI ((cntP (fun g => (st g).toInt = 2) q) + 0) : Int32) := by first | exact congrArg nI (cntP_y (P := fun g => (st g).toInt = 2) (show (st q).toInt = 2 by omega)) | exact congrArg nI (cntP_n0 (P := fun g => (st g).toInt = 2) (show ¬ (st q).toInt = 2 by omega))
                have e9_4 : nI (cntP (fun g => ¬ (tn g).toInt = 0) (q + 1)) = (nI ((cntP (fun g => ¬ (tn g).toInt = 0) q) + 0) : Int32) := by first | exact congrArg nI (cntP_y (P := fun g => ¬ (tn g).toInt = 0) (show ¬ (tn q).toInt = 0 by omega)) | exact congrArg nI (cntP_n0 (P := fun g => ¬ (tn g).toInt = 0) (show ¬ ¬ (tn q).toInt = 0 by omega))
                have e9_5 : nI (smP (lvF ft st tn) (fun g => nN (mn g)) (q + 1)) = (nI ((smP (lvF ft st tn) (fun g => nN (mn g)) q) + 0) : Int32) := by first | exact congrArg nI (smP_y (P := lvF ft st tn) (by assumption)) | exact congrArg nI (smP_n (P := lvF ft st tn) (by assumption))
                have hl9 : lv_has ls 7 [(6, .int (nI (q + 1))), (5, .int (nI (smP (lvF ft st tn) (fun g => nN (mn g)) (q + 1)))), (4, .int (nI (cntP (fun g => ¬ (tn g).toInt = 0) (q + 1)))), (3, .int (nI (cntP (fun g => (st g).toInt = 2) (q + 1)))), (2, .int (nI (cntP (fun g => (st g).toInt = 1) (q + 1)))), (0, .ref k0), (1, .int w)] := by rw [e9_2]; rw [e9_3]; rw [e9_4]; rw [e9_5]; exact hl9
                exact ih_13 (q + 1) H locs ls (by omega) (by omega) hP hD hS hl9
              · have c_5 : q < ft ∧ (st q).toInt = 1 ∧ (tn q).toInt = 0 := zp_1 c_5
                refine lv_aload_n hx hb dX11_count_91 rfl (lv_at hl 5 rfl) ?_
                refine va_get (D := (dC, dI)) (ci := 9) (v := .ref (a 11)) (C := RX11) (T := TX11) (N := 55) hx hb hts inX11 hown hK hP 0 rfl rfl 11 (by decide) (hts _ mw_1170) (fun _ h9 => h9) rfl dX11_count_92 ?_
                refine lv_iload hx hb dX11_count_95 (lv_at hl 3 rfl) ?_
                refine z_iald hx hb hK hP 3 0 rfl rfl (e := q) rfl (by omega) (by omega) dX11_count_97 ?_
                refine zz_i (v := nI (nN (mn q))) ((hmw q (by assumption)).1) ?_
                refine lv_goto (tgt := 102) hx hb dX11_count_98 (by decide) ?_
                refine lv_iadd hx hb dX11_count_102 ?_
                refine zz_i (v := nI ((smP (lvF ft st tn) (fun g => nN (mn g)) q) + (nN (mn q)))) (nI_add (smP (lvF ft st tn) (fun g => nN (mn g)) q) (nN (mn q))) ?_
                refine lv_istore (lv' := [(5, .int (nI ((smP (lvF ft st tn) (fun g => nN (mn g)) q) + (nN (mn q))))), (4, .int (nI ((cntP (fun g => ¬ (tn g).toInt = 0) q) + 0))), (3, .int (nI ((cntP (fun g => (st g).toInt = 2) q) + 0))), (2, .int (nI ((cntP (fun g => (st g).toInt = 1) q) + 0))), (6, .int (nI q)), (0, .ref k0), (1, .int w)]) hx hb dX11_count_103 hl (by decide) rfl (fun ls hl => ?_)
                refine lv_iinc (v := nI (q + 1)) (lv' := [(6, .int (nI (q + 1))), (5, .int (nI ((smP (lvF ft st tn) (fun g => nN (mn g)) q) + (nN (mn q))))), (4, .int (nI ((cntP (fun g => ¬ (tn g).toInt = 0) q) + 0))), (3, .int (nI ((cntP (fun g => (st g).toInt = 2) q) + 0))), (2, .int (nI ((cntP (fun g => (st g).toInt = 1) q) + 0))), (0, .ref k0), (1, .int w)]) hx hb dX11_count_105 hl (k := 4) rfl (nI_add q 1) (by decide) rfl (fun ls hl => ?_)
                refine lv_goto (tgt := 13) hx hb dX11_count_108 (by decide) ?_
                have hl9 := lv_sub hl [0, 1, 2, 3, 4, 5, 6] rfl
                have e9_2 : nI (cntP (fun g => (st g).toInt = 1) (q + 1)) = (nI ((cntP (fun g => (st g).toInt = 1) q) + 0) : Int32) := by first | exact congrArg nI (cntP_y (P := fun g => (st g).toInt = 1) (show (st q).toInt = 1 by omega)) | exact congrArg nI (cntP_n0 (P := fun g => (st g).toInt = 1) (show ¬ (st q).toInt = 1 by omega))
                have e9_3 : nI (cntP (fun g => (st g).toInt = 2) (q + 1)) = (nI ((cntP (fun g => (st g).toInt = 2) q) + 0) : Int32) := by first | exact congrArg nI (cntP_y (P := fun g => (st g).toInt = 2) (show (st q).toInt = 2 by omega)) | exact congrArg nI (cntP_n0 (P := fun g => (st g).toInt = 2) (show ¬ (st q).toInt = 2 by omega))
                have e9_4 : nI (cntP (fun g => ¬ (tn g).toInt = 0) (q + 1)) = (nI ((cntP (fun g => ¬ (tn g).toInt = 0) q) + 0) : Int32) := by first | exact congrArg nI (cntP_y (P := fun g => ¬ (tn g).toInt = 0) (show ¬ (tn q).toInt = 0 by omega)) | exact congrArg nI (cntP_n0 (P := fun g => ¬ (tn g).toInt = 0) (show ¬ ¬ (tn q).toInt = 0 by omega))
                have e9_5 : nI (smP (lvF ft st tn) (fun g => nN (mn g)) (q + 1)) = (nI ((smP (lvF ft st tn) (fun g => nN (mn g)) q) + (nN (mn q))) : Int32) := by first | exact congrArg nI (smP_y (P := lvF ft st tn) (by assumption)) | exact congrArg nI (smP_n (P := lvF ft st tn) (by assumption))
                have hl9 : lv_has ls 7 [(6, .int (nI (q + 1))), (5, .int (nI (smP (lvF ft st tn) (fun g => nN (mn g)) (q + 1)))), (4, .int (nI (cntP (fun g => ¬ (tn g).toInt = 0) (q + 1)))), (3, .int (nI (cntP (fun g => (st g).toInt = 2) (q + 1)))), (2, .int (nI (cntP (fun g => (st g).toInt = 1) (q + 1)))), (0, .ref k0), (1, .int w)] := by rw [e9_2]; rw [e9_3]; rw [e9_4]; rw [e9_5]; exact hl9
                exact ih_13 (q + 1) H locs ls (by omega) (by omega) hP hD hS hl9
            · have c_4 : ¬ (tn q).toInt = 0 := zc_ne rfl (by decide) c_4
              refine lv_iconst (v := 1) hx hb dX11_count_72 (by decide) ?_
              refine lv_goto (tgt := 77) hx hb dX11_count_73 (by decide) ?_
              refine lv_iadd hx hb dX11_count_77 ?_
              refine zz_i (v := nI ((cntP (fun g => ¬ (tn g).toInt = 0) q) + 1)) (nI_add (cntP (fun g => ¬ (tn g).toInt = 0) q) 1) ?_
              refine lv_istore (lv' := [(4, .int (nI ((cntP (fun g => ¬ (tn g).toInt = 0) q) + 1))), (3, .int (nI ((cntP (fun g => (st g).toInt = 2) q) + 0))), (2, .int (nI ((cntP (fun g => (st g).toInt = 1) q) + 0))), (6, .int (nI q)), (5, .int (nI (smP (lvF ft st tn) (fun g => nN (mn g)) q))), (0, .ref k0), (1, .int w)]) hx hb dX11_count_78 hl (by decide) rfl (fun ls hl => ?_)
              refine lv_iload hx hb dX11_count_80 (lv_at hl 4 rfl) ?_
              refine lv_aload_n hx hb dX11_count_82 rfl (lv_at hl 5 rfl) ?_
              refine lv_iload hx hb dX11_count_83 (lv_at hl 3 rfl) ?_
              have hPc := hP.sub (ws' := [(om k0 a I0 J0), (oa (a 5) cI 201 st), (oa (a 6) cZ 201 tn)]) [0, 1, 2] rfl
              have hDc := hD.sub (ws' := [(om k0 a I0 J0), (oa (a 5) cI 201 st), (oa (a 6) cZ 201 tn)]) [0, 1, 2] (by decide) rfl
              have hFc := va_free (wc := [(om k0 a I0 J0), (oa (a 5) cI 201 st), (oa (a 6) cZ 201 tn)]) hD hS hA [0, 1, 2] rfl
              refine zcall (st1 := [.int (pI (q < ft ∧ (st q).toInt = 1 ∧ (tn q).toInt = 0)), .int (nI (smP (lvF ft st tn) (fun g => nN (mn g)) q))]) (va_runV (As := [.int (nI q)]) (rest := [.int (nI (smP (lvF ft st tn) (fun g => nN (mn g)) q))]) ⟨hx, hb, hml, hown, hts⟩ (k_M_is_n l dC dI cI cZ cF H.size k0 a I0 J0 q ft st tn (by assumption) (by omega) (by omega)) (cwV 1 hts (zz_gV mw_1447 mw_1449 mw_56 mw_110 mc_yX11_is) rfl rfl rfl (by decide +kernel) ⟨Nat.le_of_ble_eq_true rfl, Nat.le_of_ble_eq_true rfl⟩) (zPV2 (q0 := 0) (ci := 9) hPc hDc hK hXN rfl rfl) rfl rfl hl.1 rfl (lv_room (Nat.le_of_ble_eq_true rfl)) dX11_count_85 ⟨Nat.le_of_ble_eq_true rfl, Nat.le_of_ble_eq_true rfl⟩) hS hFc hFc rfl (fun t H1 locs ht hB hk1 hS => ?_)
              obtain ⟨hP1, hD1⟩ := hB
              rw [ht] at hP1
              obtain ⟨hP, hD⟩ := va_join (wr := [(oa (a 11) cI 201 mn)]) (w1 := [(om k0 a I0 J0), (oa (a 5) cI 201 st), (oa (a 6) cZ 201 tn)]) hP hD [0, 1, 2] [3] rfl rfl (by decide) (by decide) hk1 hFc hP1 hD1
              clear hk1 hPc hDc hFc hP1 hD1 ht
              generalize H1 = H at hP hS ⊢
              have hP := hP.sub (ws' := [(om k0 a I0 J0), (oa (a 5) cI 201 st), (oa (a 6) cZ 201 tn), (oa (a 11) cI 201 mn)]) [1, 2, 3, 0] rfl
              have hD := hD.sub (ws' := [(om k0 a I0 J0), (oa (a 5) cI 201 st), (oa (a 6) cZ 201 tn), (oa (a 11) cI 201 mn)]) [1, 2, 3, 0] (by decide) rfl
              have hP : va_P (dC, dI) classes [(om k0 a I0 J0), (oa (a 5) cI 201 st), (oa (a 6) cZ 201 tn), (oa (a 11) cI 201 mn)] H := hP
              have hD : va_D A [(om k0 a I0 J0), (oa (a 5) cI 201 st), (oa (a 6) cZ 201 tn), (oa (a 11) cI 201 mn)] := hD
              refine lv_if_eq (tgt := 101) hx hb dX11_count_88 (by decide) (fun c_6 => ?_) (fun c_6 => ?_)
              · have c_6 : ¬ (q < ft ∧ (st q).toInt = 1 ∧ (tn q).toInt = 0) := zp_0 c_6
                refine lv_iconst (v := 0) hx hb dX11_count_101 (by decide) ?_
                refine lv_iadd hx hb dX11_count_102 ?_
                refine zz_i (v := nI ((smP (lvF ft st tn) (fun g => nN (mn g)) q) + 0)) (nI_add (smP (lvF ft st tn) (fun g => nN (mn g)) q) 0) ?_
                refine lv_istore (lv' := [(5, .int (nI ((smP (lvF ft st tn) (fun g => nN (mn g)) q) + 0))), (4, .int (nI ((cntP (fun g => ¬ (tn g).toInt = 0) q) + 1))), (3, .int (nI ((cntP (fun g => (st g).toInt = 2) q) + 0))), (2, .int (nI ((cntP (fun g => (st g).toInt = 1) q) + 0))), (6, .int (nI q)), (0, .ref k0), (1, .int w)]) hx hb dX11_count_103 hl (by decide) rfl (fun ls hl => ?_)
                refine lv_iinc (v := nI (q + 1)) (lv' := [(6, .int (nI (q + 1))), (5, .int (nI ((smP (lvF ft st tn) (fun g => nN (mn g)) q) + 0))), (4, .int (nI ((cntP (fun g => ¬ (tn g).toInt = 0) q) + 1))), (3, .int (nI ((cntP (fun g => (st g).toInt = 2) q) + 0))), (2, .int (nI ((cntP (fun g => (st g).toInt = 1) q) + 0))), (0, .ref k0), (1, .int w)]) hx hb dX11_count_105 hl (k := 4) rfl (nI_add q 1) (by decide) rfl (fun ls hl => ?_)
                refine lv_goto (tgt := 13) hx hb dX11_count_108 (by decide) ?_
                have hl9 := lv_sub hl [0, 1, 2, 3, 4, 5, 6] rfl
                have e9_2 : nI (cntP (fun g => (st g).toInt = 1) (q + 1)) = (nI ((cntP (fun g => (st g).toInt = 1) q) + 0) : Int32) := by first | exact congrArg nI (cntP_y (P := fun g => (st g).toInt = 1) (show (st q).toInt = 1 by omega)) | exact congrArg nI (cntP_n0 (P := fun g => (st g).toInt = 1) (show ¬ (st q).toInt = 1 by omega))
                have e9_3 : nI (cntP (fun g => (st g).toInt = 2) (q + 1)) = (nI ((cntP (fun g => (st g).toInt = 2) q) + 0) : Int32) := by first | exact congrArg nI (cntP_y (P := fun g => (st g).toInt = 2) (show (st q).toInt = 2 by omega)) | exact congrArg nI (cntP_n0 (P := fun g => (st g).toInt = 2) (show ¬ (st q).toInt = 2 by omega))
                have e9_4 : nI (cntP (fun g => ¬ (tn g).toInt = 0) (q + 1)) = (nI ((cntP (fun g => ¬ (tn g).toInt = 0) q) + 1) : Int32) := by first | exact congrArg nI (cntP_y (P := fun g => ¬ (tn g).toInt = 0) (show ¬ (tn q).toInt = 0 by omega)) | exact congrArg nI (cntP_n0 (P := fun g => ¬ (tn g).toInt = 0) (show ¬ ¬ (tn q).toInt = 0 by omega))
                have e9_5 : nI (smP (lvF ft st tn) (fun g => nN (mn g)) (q + 1)) = (nI ((smP (lvF ft st tn) (fun g => nN (mn g)) q) + 0) : Int32) := by first | exact congrArg nI (smP_y (P := lvF ft st tn) (by assumption)) | exact congrArg nI (smP_n (P := lvF ft st tn) (by assumption))
                have hl9 : lv_has ls 7 [(6, .int (nI (q + 1))), (5, .int (nI (smP (lvF ft st tn) (fun g => nN (mn g)) (q + 1)))), (4, .int (nI (cntP (fun g => ¬ (tn g).toInt = 0) (q + 1)))), (3, .int (nI (cntP (fun g => (st g).toInt = 2) (q + 1)))), (2, .int (nI (cntP (fun g => (st g).toInt = 1) (q + 1)))), (0, .ref k0), (1, .int w)] := by rw [e9_2]; rw [e9_3]; rw [e9_4]; rw [e9_5]; exact hl9
                exact ih_13 (q + 1) H locs ls (by omega) (by omega) hP hD hS hl9
              · have c_6 : q < ft ∧ (st q).toInt = 1 ∧ (tn q).toInt = 0 := zp_1 c_6
                refine lv_aload_n hx hb dX11_count_91 rfl (lv_at hl 5 rfl) ?_
                refine va_get (D := (dC, dI)) (ci := 9) (v := .ref (a 11)) (C := RX11) (T := TX11) (N := 55) hx hb hts inX11 hown hK hP 0 rfl rfl 11 (by decide) (hts _ mw_1170) (fun _ h9 => h9) rfl dX11_count_92 ?_
                refine lv_iload hx hb dX11_count_95 (lv_at hl 3 rfl) ?_
                refine z_iald hx hb hK hP 3 0 rfl rfl (e := q) rfl (by omega) (by omega) dX11_count_97 ?_
                refine zz_i (v := nI (nN (mn q))) ((hmw q (by assumption)).1) ?_
                refine lv_goto (tgt := 102) hx hb dX11_count_98 (by decide) ?_
                refine lv_iadd hx hb dX11_count_102 ?_
                refine zz_i (v := nI ((smP (lvF ft st tn) (fun g => nN (mn g)) q) + (nN (mn q)))) (nI_add (smP (lvF ft st tn) (fun g => nN (mn g)) q) (nN (mn q))) ?_
                refine lv_istore (lv' := [(5, .int (nI ((smP (lvF ft st tn) (fun g => nN (mn g)) q) + (nN (mn q))))), (4, .int (nI ((cntP (fun g => ¬ (tn g).toInt = 0) q) + 1))), (3, .int (nI ((cntP (fun g => (st g).toInt = 2) q) + 0))), (2, .int (nI ((cntP (fun g => (st g).toInt = 1) q) + 0))), (6, .int (nI q)), (0, .ref k0), (1, .int w)]) hx hb dX11_count_103 hl (by decide) rfl (fun ls hl => ?_)
                refine lv_iinc (v := nI (q + 1)) (lv' := [(6, .int (nI (q + 1))), (5, .int (nI ((smP (lvF ft st tn) (fun g => nN (mn g)) q) + (nN (mn q))))), (4, .int (nI ((cntP (fun g => ¬ (tn g).toInt = 0) q) + 1))), (3, .int (nI ((cntP (fun g => (st g).toInt = 2) q) + 0))), (2, .int (nI ((cntP (fun g => (st g).toInt = 1) q) + 0))), (0, .ref k0), (1, .int w)]) hx hb dX11_count_105 hl (k := 4) rfl (nI_add q 1) (by decide) rfl (fun ls hl => ?_)
                refine lv_goto (tgt := 13) hx hb dX11_count_108 (by decide) ?_
                have hl9 := lv_sub hl [0, 1, 2, 3, 4, 5, 6] rfl
                have e9_2 : nI (cntP (fun g => (st g).toInt = 1) (q + 1)) = (nI ((cntP (fun g => (st g).toInt = 1) q) + 0) : Int32) := by first | exact congrArg nI (cntP_y (P := fun g => (st g).toInt = 1) (show (st q).toInt = 1 by omega)) | exact congrArg nI (cntP_n0 (P := fun g => (st g).toInt = 1) (show ¬ (st q).toInt = 1 by omega))
                have e9_3 : nI (cntP (fun g => (st g).toInt = 2) (q + 1)) = (nI ((cntP (fun g => (st g).toInt = 2) q) + 0) : Int32) := by first | exact congrArg nI (cntP_y (P := fun g => (st g).toInt = 2) (show (st q).toInt = 2 by omega)) | exact congrArg nI (cntP_n0 (P := fun g => (st g).toInt = 2) (show ¬ (st q).toInt = 2 by omega))
                have e9_4 : nI (cntP (fun g => ¬ (tn g).toInt = 0) (q + 1)) = (nI ((cntP (fun g => ¬ (tn g).toInt = 0) q) + 1) : Int32) := by first | exact congrArg nI (cntP_y (P := fun g => ¬ (tn g).toInt = 0) (show ¬ (tn q).toInt = 0 by omega)) | exact congrArg nI (cntP_n0 (P := fun g => ¬ (tn g).toInt = 0) (show ¬ ¬ (tn q).toInt = 0 by omega))
                have e9_5 : nI (smP (lvF ft st tn) (fun g => nN (mn g)) (q + 1)) = (nI ((smP (lvF ft st tn) (fun g => nN (mn g)) q) + (nN (mn q))) : Int32) := by first | exact congrArg nI (smP_y (P := lvF ft st tn) (by assumption)) | exact congrArg nI (smP_n (P := lvF ft st tn) (by assumption))
                have hl9 : lv_has ls 7 [(6, .int (nI (q + 1))), (5, .int (nI (smP (lvF ft st tn) (fun g => nN (mn g)) (q + 1)))), (4, .int (nI (cntP (fun g => ¬ (tn g).toInt = 0) (q + 1)))), (3, .int (nI (cntP (fun g => (st g).toInt = 2) (q + 1)))), (2, .int (nI (cntP (fun g => (st g).toInt = 1) (q + 1)))), (0, .ref k0), (1, .int w)] := by rw [e9_2]; rw [e9_3]; rw [e9_4]; rw [e9_5]; exact hl9
                exact ih_13 (q + 1) H locs ls (by omega) (by omega) hP hD hS hl9
          · have c_3 : (st q).toInt = 2 := zc_eq rfl (by decide) c_3
            refine lv_iconst (v := 1) hx hb dX11_count_53 (by decide) ?_
            refine lv_goto (tgt := 58) hx hb dX11_count_54 (by decide) ?_
            refine lv_iadd hx hb dX11_count_58 ?_
            refine zz_i (v := nI ((cntP (fun g => (st g).toInt = 2) q) + 1)) (nI_add (cntP (fun g => (st g).toInt = 2) q) 1) ?_
            refine lv_istore_n (lv' := [(3, .int (nI ((cntP (fun g => (st g).toInt = 2) q) + 1))), (2, .int (nI ((cntP (fun g => (st g).toInt = 1) q) + 0))), (6, .int (nI q)), (5, .int (nI (smP (lvF ft st tn) (fun g => nN (mn g)) q))), (4, .int (nI (cntP (fun g => ¬ (tn g).toInt = 0) q))), (0, .ref k0), (1, .int w)]) hx hb dX11_count_59 rfl hl (by decide) rfl (fun ls hl => ?_)
            refine lv_iload hx hb dX11_count_60 (lv_at hl 4 rfl) ?_
            refine lv_aload_n hx hb dX11_count_62 rfl (lv_at hl 5 rfl) ?_
            refine va_get (D := (dC, dI)) (ci := 9) (v := .ref (a 6)) (C := RX11) (T := TX11) (N := 55) hx hb hts inX11 hown hK hP 0 rfl rfl 6 (by decide) (hts _ mw_1165) (fun _ h9 => h9) rfl dX11_count_63 ?_
            refine lv_iload hx hb dX11_count_66 (lv_at hl 2 rfl) ?_
            refine z_zald hx hb hK hP 2 1 rfl rfl (e := q) rfl (by omega) (by omega) dX11_count_68 ?_
            refine lv_if_eq (tgt := 76) hx hb dX11_count_69 (by decide) (fun c_7 => ?_) (fun c_7 => ?_)
            · have c_7 : (tn q).toInt = 0 := zc_eq rfl (by decide) c_7
              refine lv_iconst (v := 0) hx hb dX11_count_76 (by decide) ?_
              refine lv_iadd hx hb dX11_count_77 ?_
              refine zz_i (v := nI ((cntP (fun g => ¬ (tn g).toInt = 0) q) + 0)) (nI_add (cntP (fun g => ¬ (tn g).toInt = 0) q) 0) ?_
              refine lv_istore (lv' := [(4, .int (nI ((cntP (fun g => ¬ (tn g).toInt = 0) q) + 0))), (3, .int (nI ((cntP (fun g => (st g).toInt = 2) q) + 1))), (2, .int (nI ((cntP (fun g => (st g).toInt = 1) q) + 0))), (6, .int (nI q)), (5, .int (nI (smP (lvF ft st tn) (fun g => nN (mn g)) q))), (0, .ref k0), (1, .int w)]) hx hb dX11_count_78 hl (by decide) rfl (fun ls hl => ?_)
              refine lv_iload hx hb dX11_count_80 (lv_at hl 4 rfl) ?_
              refine lv_aload_n hx hb dX11_count_82 rfl (lv_at hl 5 rfl) ?_
              refine lv_iload hx hb dX11_count_83 (lv_at hl 3 rfl) ?_
              have hPc := hP.sub (ws' := [(om k0 a I0 J0), (oa (a 5) cI 201 st), (oa (a 6) cZ 201 tn)]) [0, 1, 2] rfl
              have hDc := hD.sub (ws' := [(om k0 a I0 J0), (oa (a 5) cI 201 st), (oa (a 6) cZ 201 tn)]) [0, 1, 2] (by decide) rfl
              have hFc := va_free (wc := [(om k0 a I0 J0), (oa (a 5) cI 201 st), (oa (a 6) cZ 201 tn)]) hD hS hA [0, 1, 2] rfl
              refine zcall (st1 := [.int (pI (q < ft ∧ (st q).toInt = 1 ∧ (tn q).toInt = 0)), .int (nI (smP (lvF ft st tn) (fun g => nN (mn g)) q))]) (va_runV (As := [.int (nI q)]) (rest := [.int (nI (smP (lvF ft st tn) (fun g => nN (mn g)) q))]) ⟨hx, hb, hml, hown, hts⟩ (k_M_is_n l dC dI cI cZ cF H.size k0 a I0 J0 q ft st tn (by assumption) (by omega) (by omega)) (cwV 1 hts (zz_gV mw_1447 mw_1449 mw_56 mw_110 mc_yX11_is) rfl rfl rfl (by decide +kernel) ⟨Nat.le_of_ble_eq_true rfl, Nat.le_of_ble_eq_true rfl⟩) (zPV2 (q0 := 0) (ci := 9) hPc hDc hK hXN rfl rfl) rfl rfl hl.1 rfl (lv_room (Nat.le_of_ble_eq_true rfl)) dX11_count_85 ⟨Nat.le_of_ble_eq_true rfl, Nat.le_of_ble_eq_true rfl⟩) hS hFc hFc rfl (fun t H1 locs ht hB hk1 hS => ?_)
              obtain ⟨hP1, hD1⟩ := hB
              rw [ht] at hP1
              obtain ⟨hP, hD⟩ := va_join (wr := [(oa (a 11) cI 201 mn)]) (w1 := [(om k0 a I0 J0), (oa (a 5) cI 201 st), (oa (a 6) cZ 201 tn)]) hP hD [0, 1, 2] [3] rfl rfl (by decide) (by decide) hk1 hFc hP1 hD1
              clear hk1 hPc hDc hFc hP1 hD1 ht
              generalize H1 = H at hP hS ⊢
              have hP := hP.sub (ws' := [(om k0 a I0 J0), (oa (a 5) cI 201 st), (oa (a 6) cZ 201 tn), (oa (a 11) cI 201 mn)]) [1, 2, 3, 0] rfl
              have hD := hD.sub (ws' := [(om k0 a I0 J0), (oa (a 5) cI 201 st), (oa (a 6) cZ 201 tn), (oa (a 11) cI 201 mn)]) [1, 2, 3, 0] (by decide) rfl
              have hP : va_P (dC, dI) classes [(om k0 a I0 J0), (oa (a 5) cI 201 st), (oa (a 6) cZ 201 tn), (oa (a 11) cI 201 mn)] H := hP
              have hD : va_D A [(om k0 a I0 J0), (oa (a 5) cI 201 st), (oa (a 6) cZ 201 tn), (oa (a 11) cI 201 mn)] := hD
              refine lv_if_eq (tgt := 101) hx hb dX11_count_88 (by decide) (fun c_8 => ?_) (fun c_8 => ?_)
              · have c_8 : ¬ (q < ft ∧ (st q).toInt = 1 ∧ (tn q).toInt = 0) := zp_0 c_8
                refine lv_iconst (v := 0) hx hb dX11_count_101 (by decide) ?_
                refine lv_iadd hx hb dX11_count_102 ?_
                refine zz_i (v := nI ((smP (lvF ft st tn) (fun g => nN (mn g)) q) + 0)) (nI_add (smP (lvF ft st tn) (fun g => nN (mn g)) q) 0) ?_
                refine lv_istore (lv' := [(5, .int (nI ((smP (lvF ft st tn) (fun g => nN (mn g)) q) + 0))), (4, .int (nI ((cntP (fun g => ¬ (tn g).toInt = 0) q) + 0))), (3, .int (nI ((cntP (fun g => (st g).toInt = 2) q) + 1))), (2, .int (nI ((cntP (fun g => (st g).toInt = 1) q) + 0))), (6, .int (nI q)), (0, .ref k0), (1, .int w)]) hx hb dX11_count_103 hl (by decide) rfl (fun ls hl => ?_)
                refine lv_iinc (v := nI (q + 1)) (lv' := [(6, .int (nI (q + 1))), (5, .int (nI ((smP (lvF ft st tn) (fun g => nN (mn g)) q) + 0))), (4, .int (nI ((cntP (fun g => ¬ (tn g).toInt = 0) q) + 0))), (3, .int (nI ((cntP (fun g => (st g).toInt = 2) q) + 1))), (2, .int (nI ((cntP (fun g => (st g).toInt = 1) q) + 0))), (0, .ref k0), (1, .int w)]) hx hb dX11_count_105 hl (k := 4) rfl (nI_add q 1) (by decide) rfl (fun ls hl => ?_)
                refine lv_goto (tgt := 13) hx hb dX11_count_108 (by decide) ?_
                have hl9 := lv_sub hl [0, 1, 2, 3, 4, 5, 6] rfl
                have e9_2 : nI (cntP (fun g => (st g).toInt = 1) (q + 1)) = (nI ((cntP (fun g => (st g).toInt = 1) q) + 0) : Int32) := by first | exact congrArg nI (cntP_y (P := fun g => (st g).toInt = 1) (show (st q).toInt = 1 by omega)) | exact congrArg nI (cntP_n0 (P := fun g => (st g).toInt = 1) (show ¬ (st q).toInt = 1 by omega))
                have e9_3 : nI (cntP (fun g => (st g).toInt = 2) (q + 1)) = (nI ((cntP (fun g => (st g).toInt = 2) q) + 1) : Int32) := by first | exact congrArg nI (cntP_y (P := fun g => (st g).toInt = 2) (show (st q).toInt = 2 by omega)) | exact congrArg nI (cntP_n0 (P := fun g => (st g).toInt = 2) (show ¬ (st q).toInt = 2 by omega))
                have e9_4 : nI (cntP (fun g => ¬ (tn g).toInt = 0) (q + 1)) = (nI ((cntP (fun g => ¬ (tn g).toInt = 0) q) + 0) : Int32) := by first | exact congrArg nI (cntP_y (P := fun g => ¬ (tn g).toInt = 0) (show ¬ (tn q).toInt = 0 by omega)) | exact congrArg nI (cntP_n0 (P := fun g => ¬ (tn g).toInt = 0) (show ¬ ¬ (tn q).toInt = 0 by omega))
                have e9_5 : nI (smP (lvF ft st tn) (fun g => nN (mn g)) (q + 1)) = (nI ((smP (lvF ft st tn) (fun g => nN (mn g)) q) + 0) : Int32) := by first | exact congrArg nI (smP_y (P := lvF ft st tn) (by assumption)) | exact congrArg nI (smP_n (P := lvF ft st tn) (by assumption))
                have hl9 : lv_has ls 7 [(6, .int (nI (q + 1))), (5, .int (nI (smP (lvF ft st tn) (fun g => nN (mn g)) (q + 1)))), (4, .int (nI (cntP (fun g => ¬ (tn g).toInt = 0) (q + 1)))), (3, .int (nI (cntP (fun g => (st g).toInt = 2) (q + 1)))), (2, .int (nI (cntP (fun g => (st g).toInt = 1) (q + 1)))), (0, .ref k0), (1, .int w)] := by rw [e9_2]; rw [e9_3]; rw [e9_4]; rw [e9_5]; exact hl9
                exact ih_13 (q + 1) H locs ls (by omega) (by omega) hP hD hS hl9
              · have c_8 : q < ft ∧ (st q).toInt = 1 ∧ (tn q).toInt = 0 := zp_1 c_8
                refine lv_aload_n hx hb dX11_count_91 rfl (lv_at hl 5 rfl) ?_
                refine va_get (D := (dC, dI)) (ci := 9) (v := .ref (a 11)) (C := RX11) (T := TX11) (N := 55) hx hb hts inX11 hown hK hP 0 rfl rfl 11 (by decide) (hts _ mw_1170) (fun _ h9 => h9) rfl dX11_count_92 ?_
                refine lv_iload hx hb dX11_count_95 (lv_at hl 3 rfl) ?_
                refine z_iald hx hb hK hP 3 0 rfl rfl (e := q) rfl (by omega) (by omega) dX11_count_97 ?_
                refine zz_i (v := nI (nN (mn q))) ((hmw q (by assumption)).1) ?_
                refine lv_goto (tgt := 102) hx hb dX11_count_98 (by decide) ?_
                refine lv_iadd hx hb dX11_count_102 ?_
                refine zz_i (v := nI ((smP (lvF ft st tn) (fun g => nN (mn g)) q) + (nN (mn q)))) (nI_add (smP (lvF ft st tn) (fun g => nN (mn g)) q) (nN (mn q))) ?_
                refine lv_istore (lv' := [(5, .int (nI ((smP (lvF ft st tn) (fun g => nN (mn g)) q) + (nN (mn q))))), (4, .int (nI ((cntP (fun g => ¬ (tn g).toInt = 0) q) + 0))), (3, .int (nI ((cntP (fun g => (st g).toInt = 2) q) + 1))), (2, .int (nI ((cntP (fun g => (st g).toInt = 1) q) + 0))), (6, .int (nI q)), (0, .ref k0), (1, .int w)]) hx hb dX11_count_103 hl (by decide) rfl (fun ls hl => ?_)
                refine lv_iinc (v := nI (q + 1)) (lv' := [(6, .int (nI (q + 1))), (5, .int (nI ((smP (lvF ft st tn) (fun g => nN (mn g)) q) + (nN (mn q))))), (4, .int (nI ((cntP (fun g => ¬ (tn g).toInt = 0) q) + 0))), (3, .int (nI ((cntP (fun g => (st g).toInt = 2) q) + 1))), (2, .int (nI ((cntP (fun g => (st g).toInt = 1) q) + 0))), (0, .ref k0), (1, .int w)]) hx hb dX11_count_105 hl (k := 4) rfl (nI_add q 1) (by decide) rfl (fun ls hl => ?_)
                refine lv_goto (tgt := 13) hx hb dX11_count_108 (by decide) ?_
                have hl9 := lv_sub hl [0, 1, 2, 3, 4, 5, 6] rfl
                have e9_2 : nI (cntP (fun g => (st g).toInt = 1) (q + 1)) = (nI ((cntP (fun g => (st g).toInt = 1) q) + 0) : Int32) := by first | exact congrArg nI (cntP_y (P := fun g => (st g).toInt = 1) (show (st q).toInt = 1 by omega)) | exact congrArg nI (cntP_n0 (P := fun g => (st g).toInt = 1) (show ¬ (st q).toInt = 1 by omega))
                have e9_3 : nI (cntP (fun g => (st g).toInt = 2) (q + 1)) = (nI ((cntP (fun g => (st g).toInt = 2) q) + 1) : Int32) := by first | exact congrArg nI (cntP_y (P := fun g => (st g).toInt = 2) (show (st q).toInt = 2 by omega)) | exact congrArg nI (cntP_n0 (P := fun g => (st g).toInt = 2) (show ¬ (st q).toInt = 2 by omega))
                have e9_4 : nI (cntP (fun g => ¬ (tn g).toInt = 0) (q + 1)) = (nI ((cntP (fun g => ¬ (tn g).toInt = 0) q) + 0) : Int32) := by first | exact congrArg nI (cntP_y (P := fun g => ¬ (tn g).toInt = 0) (show ¬ (tn q).toInt = 0 by omega)) | exact congrArg nI (cntP_n0 (P := fun g => ¬ (tn g).toInt = 0) (show ¬ ¬ (tn q).toInt = 0 by omega))
                have e9_5 : nI (smP (lvF ft st tn) (fun g => nN (mn g)) (q + 1)) = (nI ((smP (lvF ft st tn) (fun g => nN (mn g)) q) + (nN (mn q))) : Int32) := by first | exact congrArg nI (smP_y (P := lvF ft st tn) (by assumption)) | exact congrArg nI (smP_n (P := lvF ft st tn) (by assumption))
                have hl9 : lv_has ls 7 [(6, .int (nI (q + 1))), (5, .int (nI (smP (lvF ft st tn) (fun g => nN (mn g)) (q + 1)))), (4, .int (nI (cntP (fun g => ¬ (tn g).toInt = 0) (q + 1)))), (3, .int (nI (cntP (fun g => (st g).toInt = 2) (q + 1)))), (2, .int (nI (cntP (fun g => (st g).toInt = 1) (q + 1)))), (0, .ref k0), (1, .int w)] := by rw [e9_2]; rw [e9_3]; rw [e9_4]; rw [e9_5]; exact hl9
                exact ih_13 (q + 1) H locs ls (by omega) (by omega) hP hD hS hl9
            · have c_7 : ¬ (tn q).toInt = 0 := zc_ne rfl (by decide) c_7
              refine lv_iconst (v := 1) hx hb dX11_count_72 (by decide) ?_
              refine lv_goto (tgt := 77) hx hb dX11_count_73 (by decide) ?_
              refine lv_iadd hx hb dX11_count_77 ?_
              refine zz_i (v := nI ((cntP (fun g => ¬ (tn g).toInt = 0) q) + 1)) (nI_add (cntP (fun g => ¬ (tn g).toInt = 0) q) 1) ?_
              refine lv_istore (lv' := [(4, .int (nI ((cntP (fun g => ¬ (tn g).toInt = 0) q) + 1))), (3, .int (nI ((cntP (fun g => (st g).toInt = 2) q) + 1))), (2, .int (nI ((cntP (fun g => (st g).toInt = 1) q) + 0))), (6, .int (nI q)), (5, .int (nI (smP (lvF ft st tn) (fun g => nN (mn g)) q))), (0, .ref k0), (1, .int w)]) hx hb dX11_count_78 hl (by decide) rfl (fun ls hl => ?_)
              refine lv_iload hx hb dX11_count_80 (lv_at hl 4 rfl) ?_
              refine lv_aload_n hx hb dX11_count_82 rfl (lv_at hl 5 rfl) ?_
              refine lv_iload hx hb dX11_count_83 (lv_at hl 3 rfl) ?_
              have hPc := hP.sub (ws' := [(om k0 a I0 J0), (oa (a 5) cI 201 st), (oa (a 6) cZ 201 tn)]) [0, 1, 2] rfl
              have hDc := hD.sub (ws' := [(om k0 a I0 J0), (oa (a 5) cI 201 st), (oa (a 6) cZ 201 tn)]) [0, 1, 2] (by decide) rfl
              have hFc := va_free (wc := [(om k0 a I0 J0), (oa (a 5) cI 201 st), (oa (a 6) cZ 201 tn)]) hD hS hA [0, 1, 2] rfl
              refine zcall (st1 := [.int (pI (q < ft ∧ (st q).toInt = 1 ∧ (tn q).toInt = 0)), .int (nI (smP (lvF ft st tn) (fun g => nN (mn g)) q))]) (va_runV (As := [.int (nI q)]) (rest := [.int (nI (smP (lvF ft st tn) (fun g => nN (mn g)) q))]) ⟨hx, hb, hml, hown, hts⟩ (k_M_is_n l dC dI cI cZ cF H.size k0 a I0 J0 q ft st tn (by assumption) (by omega) (by omega)) (cwV 1 hts (zz_gV mw_1447 mw_1449 mw_56 mw_110 mc_yX11_is) rfl rfl rfl (by decide +kernel) ⟨Nat.le_of_ble_eq_true rfl, Nat.le_of_ble_eq_true rfl⟩) (zPV2 (q0 := 0) (ci := 9) hPc hDc hK hXN rfl rfl) rfl rfl hl.1 rfl (lv_room (Nat.le_of_ble_eq_true rfl)) dX11_count_85 ⟨Nat.le_of_ble_eq_true rfl, Nat.le_of_ble_eq_true rfl⟩) hS hFc hFc rfl (fun t H1 locs ht hB hk1 hS => ?_)
              obtain ⟨hP1, hD1⟩ := hB
              rw [ht] at hP1
              obtain ⟨hP, hD⟩ := va_join (wr := [(oa (a 11) cI 201 mn)]) (w1 := [(om k0 a I0 J0), (oa (a 5) cI 201 st), (oa (a 6) cZ 201 tn)]) hP hD [0, 1, 2] [3] rfl rfl (by decide) (by decide) hk1 hFc hP1 hD1
              clear hk1 hPc hDc hFc hP1 hD1 ht
              generalize H1 = H at hP hS ⊢
              have hP := hP.sub (ws' := [(om k0 a I0 J0), (oa (a 5) cI 201 st), (oa (a 6) cZ 201 tn), (oa (a 11) cI 201 mn)]) [1, 2, 3, 0] rfl
              have hD := hD.sub (ws' := [(om k0 a I0 J0), (oa (a 5) cI 201 st), (oa (a 6) cZ 201 tn), (oa (a 11) cI 201 mn)]) [1, 2, 3, 0] (by decide) rfl
              have hP : va_P (dC, dI) classes [(om k0 a I0 J0), (oa (a 5) cI 201 st), (oa (a 6) cZ 201 tn), (oa (a 11) cI 201 mn)] H := hP
              have hD : va_D A [(om k0 a I0 J0), (oa (a 5) cI 201 st), (oa (a 6) cZ 201 tn), (oa (a 11) cI 201 mn)] := hD
              refine lv_if_eq (tgt := 101) hx hb dX11_count_88 (by decide) (fun c_9 => ?_) (fun c_9 => ?_)
              · have c_9 : ¬ (q < ft ∧ (st q).toInt = 1 ∧ (tn q).toInt = 0) := zp_0 c_9
                refine lv_iconst (v := 0) hx hb dX11_count_101 (by decide) ?_
                refine lv_iadd hx hb dX11_count_102 ?_
                refine zz_i (v := nI ((smP (lvF ft st tn) (fun g => nN (mn g)) q) + 0)) (nI_add (smP (lvF ft st tn) (fun g => nN (mn g)) q) 0) ?_
                refine lv_istore (lv' := [(5, .int (nI ((smP (lvF ft st tn) (fun g => nN (mn g)) q) + 0))), (4, .int (nI ((cntP (fun g => ¬ (tn g).toInt = 0) q) + 1))), (3, .int (nI ((cntP (fun g => (st g).toInt = 2) q) + 1))), (2, .int (nI ((cntP (fun g => (st g).toInt = 1) q) + 0))), (6, .int (nI q)), (0, .ref k0), (1, .int w)]) hx hb dX11_count_103 hl (by decide) rfl (fun ls hl => ?_)
                refine lv_iinc (v := nI (q + 1)) (lv' := [(6, .int (nI (q + 1))), (5, .int (nI ((smP (lvF ft st tn) (fun g => nN (mn g)) q) + 0))), (4, .int (nI ((cntP (fun g => ¬ (tn g).toInt = 0) q) + 1))), (3, .int (nI ((cntP (fun g => (st g).toInt = 2) q) + 1))), (2, .int (nI ((cntP (fun g => (st g).toInt = 1) q) + 0))), (0, .ref k0), (1, .int w)]) hx hb dX11_count_105 hl (k := 4) rfl (nI_add q 1) (by decide) rfl (fun ls hl => ?_)
                refine lv_goto (tgt := 13) hx hb dX11_count_108 (by decide) ?_
                have hl9 := lv_sub hl [0, 1, 2, 3, 4, 5, 6] rfl
                have e9_2 : nI (cntP (fun g => (st g).toInt = 1) (q + 1)) = (nI ((cntP (fun g => (st g).toInt = 1) q) + 0) : Int32) := by first | exact congrArg nI (cntP_y (P := fun g => (st g).toInt = 1) (show (st q).toInt = 1 by omega)) | exact congrArg nI (cntP_n0 (P := fun g => (st g).toInt = 1) (show ¬ (st q).toInt = 1 by omega))
                have e9_3 : nI (cntP (fun g => (st g).toInt = 2) (q + 1)) = (nI ((cntP (fun g => (st g).toInt = 2) q) + 1) : Int32) := by first | exact congrArg nI (cntP_y (P := fun g => (st g).toInt = 2) (show (st q).toInt = 2 by omega)) | exact congrArg nI (cntP_n0 (P := fun g => (st g).toInt = 2) (show ¬ (st q).toInt = 2 by omega))
                have e9_4 : nI (cntP (fun g => ¬ (tn g).toInt = 0) (q + 1)) = (nI ((cntP (fun g => ¬ (tn g).toInt = 0) q) + 1) : Int32) := by first | exact congrArg nI (cntP_y (P := fun g => ¬ (tn g).toInt = 0) (show ¬ (tn q).toInt = 0 by omega)) | exact congrArg nI (cntP_n0 (P := fun g => ¬ (tn g).toInt = 0) (show ¬ ¬ (tn q).toInt = 0 by omega))
                have e9_5 : nI (smP (lvF ft st tn) (fun g => nN (mn g)) (q + 1)) = (nI ((smP (lvF ft st tn) (fun g => nN (mn g)) q) + 0) : Int32) := by first | exact congrArg nI (smP_y (P := lvF ft st tn) (by assumption)) | exact congrArg nI (smP_n (P := lvF ft st tn) (by assumption))
                have hl9 : lv_has ls 7 [(6, .int (nI (q + 1))), (5, .int (nI (smP (lvF ft st tn) (fun g => nN (mn g)) (q + 1)))), (4, .int (nI (cntP (fun g => ¬ (tn g).toInt = 0) (q + 1)))), (3, .int (nI (cntP (fun g => (st g).toInt = 2) (q + 1)))), (2, .int (nI (cntP (fun g => (st g).toInt = 1) (q + 1)))), (0, .ref k0), (1, .int w)] := by rw [e9_2]; rw [e9_3]; rw [e9_4]; rw [e9_5]; exact hl9
                exact ih_13 (q + 1) H locs ls (by omega) (by omega) hP hD hS hl9
              · have c_9 : q < ft ∧ (st q).toInt = 1 ∧ (tn q).toInt = 0 := zp_1 c_9
                refine lv_aload_n hx hb dX11_count_91 rfl (lv_at hl 5 rfl) ?_
                refine va_get (D := (dC, dI)) (ci := 9) (v := .ref (a 11)) (C := RX11) (T := TX11) (N := 55) hx hb hts inX11 hown hK hP 0 rfl rfl 11 (by decide) (hts _ mw_1170) (fun _ h9 => h9) rfl dX11_count_92 ?_
                refine lv_iload hx hb dX11_count_95 (lv_at hl 3 rfl) ?_
                refine z_iald hx hb hK hP 3 0 rfl rfl (e := q) rfl (by omega) (by omega) dX11_count_97 ?_
                refine zz_i (v := nI (nN (mn q))) ((hmw q (by assumption)).1) ?_
                refine lv_goto (tgt := 102) hx hb dX11_count_98 (by decide) ?_
                refine lv_iadd hx hb dX11_count_102 ?_
                refine zz_i (v := nI ((smP (lvF ft st tn) (fun g => nN (mn g)) q) + (nN (mn q)))) (nI_add (smP (lvF ft st tn) (fun g => nN (mn g)) q) (nN (mn q))) ?_
                refine lv_istore (lv' := [(5, .int (nI ((smP (lvF ft st tn) (fun g => nN (mn g)) q) + (nN (mn q))))), (4, .int (nI ((cntP (fun g => ¬ (tn g).toInt = 0) q) + 1))), (3, .int (nI ((cntP (fun g => (st g).toInt = 2) q) + 1))), (2, .int (nI ((cntP (fun g => (st g).toInt = 1) q) + 0))), (6, .int (nI q)), (0, .ref k0), (1, .int w)]) hx hb dX11_count_103 hl (by decide) rfl (fun ls hl => ?_)
                refine lv_iinc (v := nI (q + 1)) (lv' := [(6, .int (nI (q + 1))), (5, .int (nI ((smP (lvF ft st tn) (fun g => nN (mn g)) q) + (nN (mn q))))), (4, .int (nI ((cntP (fun g => ¬ (tn g).toInt = 0) q) + 1))), (3, .int (nI ((cntP (fun g => (st g).toInt = 2) q) + 1))), (2, .int (nI ((cntP (fun g => (st g).toInt = 1) q) + 0))), (0, .ref k0), (1, .int w)]) hx hb dX11_count_105 hl (k := 4) rfl (nI_add q 1) (by decide) rfl (fun ls hl => ?_)
                refine lv_goto (tgt := 13) hx hb dX11_count_108 (by decide) ?_
                have hl9 := lv_sub hl [0, 1, 2, 3, 4, 5, 6] rfl
                have e9_2 : nI (cntP (fun g => (st g).toInt = 1) (q + 1)) = (nI ((cntP (fun g => (st g).toInt = 1) q) + 0) : Int32) := by first | exact congrArg nI (cntP_y (P := fun g => (st g).toInt = 1) (show (st q).toInt = 1 by omega)) | exact congrArg nI (cntP_n0 (P := fun g => (st g).toInt = 1) (show ¬ (st q).toInt = 1 by omega))
                have e9_3 : nI (cntP (fun g => (st g).toInt = 2) (q + 1)) = (nI ((cntP (fun g => (st g).toInt = 2) q) + 1) : Int32) := by first | exact congrArg nI (cntP_y (P := fun g => (st g).toInt = 2) (show (st q).toInt = 2 by omega)) | exact congrArg nI (cntP_n0 (P := fun g => (st g).toInt = 2) (show ¬ (st q).toInt = 2 by omega))
                have e9_4 : nI (cntP (fun g => ¬ (tn g).toInt = 0) (q + 1)) = (nI ((cntP (fun g => ¬ (tn g).toInt = 0) q) + 1) : Int32) := by first | exact congrArg nI (cntP_y (P := fun g => ¬ (tn g).toInt = 0) (show ¬ (tn q).toInt = 0 by omega)) | exact congrArg nI (cntP_n0 (P := fun g => ¬ (tn g).toInt = 0) (show ¬ ¬ (tn q).toInt = 0 by omega))
                have e9_5 : nI (smP (lvF ft st tn) (fun g => nN (mn g)) (q + 1)) = (nI ((smP (lvF ft st tn) (fun g => nN (mn g)) q) + (nN (mn q))) : Int32) := by first | exact congrArg nI (smP_y (P := lvF ft st tn) (by assumption)) | exact congrArg nI (smP_n (P := lvF ft st tn) (by assumption))
                have hl9 : lv_has ls 7 [(6, .int (nI (q + 1))), (5, .int (nI (smP (lvF ft st tn) (fun g => nN (mn g)) (q + 1)))), (4, .int (nI (cntP (fun g => ¬ (tn g).toInt = 0) (q + 1)))), (3, .int (nI (cntP (fun g => (st g).toInt = 2) (q + 1)))), (2, .int (nI (cntP (fun g => (st g).toInt = 1) (q + 1)))), (0, .ref k0), (1, .int w)] := by rw [e9_2]; rw [e9_3]; rw [e9_4]; rw [e9_5]; exact hl9
                exact ih_13 (q + 1) H locs ls (by omega) (by omega) hP hD hS hl9
        · have c_2 : (st q).toInt = 1 := zc_eq rfl (by decide) c_2
          refine lv_iconst (v := 1) hx hb dX11_count_34 (by decide) ?_
          refine lv_goto (tgt := 39) hx hb dX11_count_35 (by decide) ?_
          refine lv_iadd hx hb dX11_count_39 ?_
          refine zz_i (v := nI ((cntP (fun g => (st g).toInt = 1) q) + 1)) (nI_add (cntP (fun g => (st g).toInt = 1) q) 1) ?_
          refine lv_istore_n (lv' := [(2, .int (nI ((cntP (fun g => (st g).toInt = 1) q) + 1))), (6, .int (nI q)), (5, .int (nI (smP (lvF ft st tn) (fun g => nN (mn g)) q))), (4, .int (nI (cntP (fun g => ¬ (tn g).toInt = 0) q))), (3, .int (nI (cntP (fun g => (st g).toInt = 2) q))), (0, .ref k0), (1, .int w)]) hx hb dX11_count_40 rfl hl (by decide) rfl (fun ls hl => ?_)
          refine lv_iload_n hx hb dX11_count_41 rfl (lv_at hl 4 rfl) ?_
          refine lv_aload_n hx hb dX11_count_42 rfl (lv_at hl 5 rfl) ?_
          refine va_get (D := (dC, dI)) (ci := 9) (v := .ref (a 5)) (C := RX11) (T := TX11) (N := 55) hx hb hts inX11 hown hK hP 0 rfl rfl 5 (by decide) (hts _ mw_1164) (fun _ h9 => h9) rfl dX11_count_43 ?_
          refine lv_iload hx hb dX11_count_46 (lv_at hl 1 rfl) ?_
          refine z_iald hx hb hK hP 1 0 rfl rfl (e := q) rfl (by omega) (by omega) dX11_count_48 ?_
          refine lv_iconst (v := 2) hx hb dX11_count_49 (by decide) ?_
          refine lv_icmp_ne (tgt := 57) hx hb dX11_count_50 (by decide) (fun c_10 => ?_) (fun c_10 => ?_)
          · have c_10 : ¬ (st q).toInt = 2 := zc_ne rfl (by decide) c_10
            refine lv_iconst (v := 0) hx hb dX11_count_57 (by decide) ?_
            refine lv_iadd hx hb dX11_count_58 ?_
            refine zz_i (v := nI ((cntP (fun g => (st g).toInt = 2) q) + 0)) (nI_add (cntP (fun g => (st g).toInt = 2) q) 0) ?_
            refine lv_istore_n (lv' := [(3, .int (nI ((cntP (fun g => (st g).toInt = 2) q) + 0))), (2, .int (nI ((cntP (fun g => (st g).toInt = 1) q) + 1))), (6, .int (nI q)), (5, .int (nI (smP (lvF ft st tn) (fun g => nN (mn g)) q))), (4, .int (nI (cntP (fun g => ¬ (tn g).toInt = 0) q))), (0, .ref k0), (1, .int w)]) hx hb dX11_count_59 rfl hl (by decide) rfl (fun ls hl => ?_)
            refine lv_iload hx hb dX11_count_60 (lv_at hl 4 rfl) ?_
            refine lv_aload_n hx hb dX11_count_62 rfl (lv_at hl 5 rfl) ?_
            refine va_get (D := (dC, dI)) (ci := 9) (v := .ref (a 6)) (C := RX11) (T := TX11) (N := 55) hx hb hts inX11 hown hK hP 0 rfl rfl 6 (by decide) (hts _ mw_1165) (fun _ h9 => h9) rfl dX11_count_63 ?_
            refine lv_iload hx hb dX11_count_66 (lv_at hl 2 rfl) ?_
            refine z_zald hx hb hK hP 2 1 rfl rfl (e := q) rfl (by omega) (by omega) dX11_count_68 ?_
            refine lv_if_eq (tgt := 76) hx hb dX11_count_69 (by decide) (fun c_11 => ?_) (fun c_11 => ?_)
            · have c_11 : (tn q).toInt = 0 := zc_eq rfl (by decide) c_11
              refine lv_iconst (v := 0) hx hb dX11_count_76 (by decide) ?_
              refine lv_iadd hx hb dX11_count_77 ?_
              refine zz_i (v := nI ((cntP (fun g => ¬ (tn g).toInt = 0) q) + 0)) (nI_add (cntP (fun g => ¬ (tn g).toInt = 0) q) 0) ?_
              refine lv_istore (lv' := [(4, .int (nI ((cntP (fun g => ¬ (tn g).toInt = 0) q) + 0))), (3, .int (nI ((cntP (fun g => (st g).toInt = 2) q) + 0))), (2, .int (nI ((cntP (fun g => (st g).toInt = 1) q) + 1))), (6, .int (nI q)), (5, .int (nI (smP (lvF ft st tn) (fun g => nN (mn g)) q))), (0, .ref k0), (1, .int w)]) hx hb dX11_count_78 hl (by decide) rfl (fun ls hl => ?_)
              refine lv_iload hx hb dX11_count_80 (lv_at hl 4 rfl) ?_
              refine lv_aload_n hx hb dX11_count_82 rfl (lv_at hl 5 rfl) ?_
              refine lv_iload hx hb dX11_count_83 (lv_at hl 3 rfl) ?_
              have hPc := hP.sub (ws' := [(om k0 a I0 J0), (oa (a 5) cI 201 st), (oa (a 6) cZ 201 tn)]) [0, 1, 2] rfl
              have hDc := hD.sub (ws' := [(om k0 a I0 J0), (oa (a 5) cI 201 st), (oa (a 6) cZ 201 tn)]) [0, 1, 2] (by decide) rfl
              have hFc := va_free (wc := [(om k0 a I0 J0), (oa (a 5) cI 201 st), (oa (a 6) cZ 201 tn)]) hD hS hA [0, 1, 2] rfl
              refine zcall (st1 := [.int (pI (q < ft ∧ (st q).toInt = 1 ∧ (tn q).toInt = 0)), .int (nI (smP (lvF ft st tn) (fun g => nN (mn g)) q))]) (va_runV (As := [.int (nI q)]) (rest := [.int (nI (smP (lvF ft st tn) (fun g => nN (mn g)) q))]) ⟨hx, hb, hml, hown, hts⟩ (k_M_is_n l dC dI cI cZ cF H.size k0 a I0 J0 q ft st tn (by assumption) (by omega) (by omega)) (cwV 1 hts (zz_gV mw_1447 mw_1449 mw_56 mw_110 mc_yX11_is) rfl rfl rfl (by decide +kernel) ⟨Nat.le_of_ble_eq_true rfl, Nat.le_of_ble_eq_true rfl⟩) (zPV2 (q0 := 0) (ci := 9) hPc hDc hK hXN rfl rfl) rfl rfl hl.1 rfl (lv_room (Nat.le_of_ble_eq_true rfl)) dX11_count_85 ⟨Nat.le_of_ble_eq_true rfl, Nat.le_of_ble_eq_true rfl⟩) hS hFc hFc rfl (fun t H1 locs ht hB hk1 hS => ?_)
              obtain ⟨hP1, hD1⟩ := hB
              rw [ht] at hP1
              obtain ⟨hP, hD⟩ := va_join (wr := [(oa (a 11) cI 201 mn)]) (w1 := [(om k0 a I0 J0), (oa (a 5) cI 201 st), (oa (a 6) cZ 201 tn)]) hP hD [0, 1, 2] [3] rfl rfl (by decide) (by decide) hk1 hFc hP1 hD1
              clear hk1 hPc hDc hFc hP1 hD1 ht
              generalize H1 = H at hP hS ⊢
              have hP := hP.sub (ws' := [(om k0 a I0 J0), (oa (a 5) cI 201 st), (oa (a 6) cZ 201 tn), (oa (a 11) cI 201 mn)]) [1, 2, 3, 0] rfl
              have hD := hD.sub (ws' := [(om k0 a I0 J0), (oa (a 5) cI 201 st), (oa (a 6) cZ 201 tn), (oa (a 11) cI 201 mn)]) [1, 2, 3, 0] (by decide) rfl
              have hP : va_P (dC, dI) classes [(om k0 a I0 J0), (oa (a 5) cI 201 st), (oa (a 6) cZ 201 tn), (oa (a 11) cI 201 mn)] H := hP
              have hD : va_D A [(om k0 a I0 J0), (oa (a 5) cI 201 st), (oa (a 6) cZ 201 tn), (oa (a 11) cI 201 mn)] := hD
              refine lv_if_eq (tgt := 101) hx hb dX11_count_88 (by decide) (fun c_12 => ?_) (fun c_12 => ?_)
              · have c_12 : ¬ (q < ft ∧ (st q).toInt = 1 ∧ (tn q).toInt = 0) := zp_0 c_12
                refine lv_iconst (v := 0) hx hb dX11_count_101 (by decide) ?_
                refine lv_iadd hx hb dX11_count_102 ?_
                refine zz_i (v := nI ((smP (lvF ft st tn) (fun g => nN (mn g)) q) + 0)) (nI_add (smP (lvF ft st tn) (fun g => nN (mn g)) q) 0) ?_
                refine lv_istore (lv' := [(5, .int (nI ((smP (lvF ft st tn) (fun g => nN (mn g)) q) + 0))), (4, .int (nI ((cntP (fun g => ¬ (tn g).toInt = 0) q) + 0))), (3, .int (nI ((cntP (fun g => (st g).toInt = 2) q) + 0))), (2, .int (nI ((cntP (fun g => (st g).toInt = 1) q) + 1))), (6, .int (nI q)), (0, .ref k0), (1, .int w)]) hx hb dX11_count_103 hl (by decide) rfl (fun ls hl => ?_)
                refine lv_iinc (v := nI (q + 1)) (lv' := [(6, .int (nI (q + 1))), (5, .int (nI ((smP (lvF ft st tn) (fun g => nN (mn g)) q) + 0))), (4, .int (nI ((cntP (fun g => ¬ (tn g).toInt = 0) q) + 0))), (3, .int (nI ((cntP (fun g => (st g).toInt = 2) q) + 0))), (2, .int (nI ((cntP (fun g => (st g).toInt = 1) q) + 1))), (0, .ref k0), (1, .int w)]) hx hb dX11_count_105 hl (k := 4) rfl (nI_add q 1) (by decide) rfl (fun ls hl => ?_)
                refine lv_goto (tgt := 13) hx hb dX11_count_108 (by decide) ?_
                have hl9 := lv_sub hl [0, 1, 2, 3, 4, 5, 6] rfl
                have e9_2 : nI (cntP (fun g => (st g).toInt = 1) (q + 1)) = (nI ((cntP (fun g => (st g).toInt = 1) q) + 1) : Int32) := by first | exact congrArg nI (cntP_y (P := fun g => (st g).toInt = 1) (show (st q).toInt = 1 by omega)) | exact congrArg nI (cntP_n0 (P := fun g => (st g).toInt = 1) (show ¬ (st q).toInt = 1 by omega))
                have e9_3 : nI (cntP (fun g => (st g).toInt = 2) (q + 1)) = (nI ((cntP (fun g => (st g).toInt = 2) q) + 0) : Int32) := by first | exact congrArg nI (cntP_y (P := fun g => (st g).toInt = 2) (show (st q).toInt = 2 by omega)) | exact congrArg nI (cntP_n0 (P := fun g => (st g).toInt = 2) (show ¬ (st q).toInt = 2 by omega))
                have e9_4 : nI (cntP (fun g => ¬ (tn g).toInt = 0) (q + 1)) = (nI ((cntP (fun g => ¬ (tn g).toInt = 0) q) + 0) : Int32) := by first | exact congrArg nI (cntP_y (P := fun g => ¬ (tn g).toInt = 0) (show ¬ (tn q).toInt = 0 by omega)) | exact congrArg nI (cntP_n0 (P := fun g => ¬ (tn g).toInt = 0) (show ¬ ¬ (tn q).toInt = 0 by omega))
                have e9_5 : nI (smP (lvF ft st tn) (fun g => nN (mn g)) (q + 1)) = (nI ((smP (lvF ft st tn) (fun g => nN (mn g)) q) + 0) : Int32) := by first | exact congrArg nI (smP_y (P := lvF ft st tn) (by assumption)) | exact congrArg nI (smP_n (P := lvF ft st tn) (by assumption))
                have hl9 : lv_has ls 7 [(6, .int (nI (q + 1))), (5, .int (nI (smP (lvF ft st tn) (fun g => nN (mn g)) (q + 1)))), (4, .int (nI (cntP (fun g => ¬ (tn g).toInt = 0) (q + 1)))), (3, .int (nI (cntP (fun g => (st g).toInt = 2) (q + 1)))), (2, .int (nI (cntP (fun g => (st g).toInt = 1) (q + 1)))), (0, .ref k0), (1, .int w)] := by rw [e9_2]; rw [e9_3]; rw [e9_4]; rw [e9_5]; exact hl9
                exact ih_13 (q + 1) H locs ls (by omega) (by omega) hP hD hS hl9
              · have c_12 : q < ft ∧ (st q).toInt = 1 ∧ (tn q).toInt = 0 := zp_1 c_12
                refine lv_aload_n hx hb dX11_count_91 rfl (lv_at hl 5 rfl) ?_
                refine va_get (D := (dC, dI)) (ci := 9) (v := .ref (a 11)) (C := RX11) (T := TX11) (N := 55) hx hb hts inX11 hown hK hP 0 rfl rfl 11 (by decide) (hts _ mw_1170) (fun _ h9 => h9) rfl dX11_count_92 ?_
                refine lv_iload hx hb dX11_count_95 (lv_at hl 3 rfl) ?_
                refine z_iald hx hb hK hP 3 0 rfl rfl (e := q) rfl (by omega) (by omega) dX11_count_97 ?_
                refine zz_i (v := nI (nN (mn q))) ((hmw q (by assumption)).1) ?_
                refine lv_goto (tgt := 102) hx hb dX11_count_98 (by decide) ?_
                refine lv_iadd hx hb dX11_count_102 ?_
                refine zz_i (v := nI ((smP (lvF ft st tn) (fun g => nN (mn g)) q) + (nN (mn q)))) (nI_add (smP (lvF ft st tn) (fun g => nN (mn g)) q) (nN (mn q))) ?_
                refine lv_istore (lv' := [(5, .int (nI ((smP (lvF ft st tn) (fun g => nN (mn g)) q) + (nN (mn q))))), (4, .int (nI ((cntP (fun g => ¬ (tn g).toInt = 0) q) + 0))), (3, .int (nI ((cntP (fun g => (st g).toInt = 2) q) + 0))), (2, .int (nI ((cntP (fun g => (st g).toInt = 1) q) + 1))), (6, .int (nI q)), (0, .ref k0), (1, .int w)]) hx hb dX11_count_103 hl (by decide) rfl (fun ls hl => ?_)
                refine lv_iinc (v := nI (q + 1)) (lv' := [(6, .int (nI (q + 1))), (5, .int (nI ((smP (lvF ft st tn) (fun g => nN (mn g)) q) + (nN (mn q))))), (4, .int (nI ((cntP (fun g => ¬ (tn g).toInt = 0) q) + 0))), (3, .int (nI ((cntP (fun g => (st g).toInt = 2) q) + 0))), (2, .int (nI ((cntP (fun g => (st g).toInt = 1) q) + 1))), (0, .ref k0), (1, .int w)]) hx hb dX11_count_105 hl (k := 4) rfl (nI_add q 1) (by decide) rfl (fun ls hl => ?_)
                refine lv_goto (tgt := 13) hx hb dX11_count_108 (by decide) ?_
                have hl9 := lv_sub hl [0, 1, 2, 3, 4, 5, 6] rfl
                have e9_2 : nI (cntP (fun g => (st g).toInt = 1) (q + 1)) = (nI ((cntP (fun g => (st g).toInt = 1) q) + 1) : Int32) := by first | exact congrArg nI (cntP_y (P := fun g => (st g).toInt = 1) (show (st q).toInt = 1 by omega)) | exact congrArg nI (cntP_n0 (P := fun g => (st g).toInt = 1) (show ¬ (st q).toInt = 1 by omega))
                have e9_3 : nI (cntP (fun g => (st g).toInt = 2) (q + 1)) = (nI ((cntP (fun g => (st g).toInt = 2) q) + 0) : Int32) := by first | exact congrArg nI (cntP_y (P := fun g => (st g).toInt = 2) (show (st q).toInt = 2 by omega)) | exact congrArg nI (cntP_n0 (P := fun g => (st g).toInt = 2) (show ¬ (st q).toInt = 2 by omega))
                have e9_4 : nI (cntP (fun g => ¬ (tn g).toInt = 0) (q + 1)) = (nI ((cntP (fun g => ¬ (tn g).toInt = 0) q) + 0) : Int32) := by first | exact congrArg nI (cntP_y (P := fun g => ¬ (tn g).toInt = 0) (show ¬ (tn q).toInt = 0 by omega)) | exact congrArg nI (cntP_n0 (P := fun g => ¬ (tn g).toInt = 0) (show ¬ ¬ (tn q).toInt = 0 by omega))
                have e9_5 : nI (smP (lvF ft st tn) (fun g => nN (mn g)) (q + 1)) = (nI ((smP (lvF ft st tn) (fun g => nN (mn g)) q) + (nN (mn q))) : Int32) := by first | exact congrArg nI (smP_y (P := lvF ft st tn) (by assumption)) | exact congrArg nI (smP_n (P := lvF ft st tn) (by assumption))
                have hl9 : lv_has ls 7 [(6, .int (nI (q + 1))), (5, .int (nI (smP (lvF ft st tn) (fun g => nN (mn g)) (q + 1)))), (4, .int (nI (cntP (fun g => ¬ (tn g).toInt = 0) (q + 1)))), (3, .int (nI (cntP (fun g => (st g).toInt = 2) (q + 1)))), (2, .int (nI (cntP (fun g => (st g).toInt = 1) (q + 1)))), (0, .ref k0), (1, .int w)] := by rw [e9_2]; rw [e9_3]; rw [e9_4]; rw [e9_5]; exact hl9
                exact ih_13 (q + 1) H locs ls (by omega) (by omega) hP hD hS hl9
            · have c_11 : ¬ (tn q).toInt = 0 := zc_ne rfl (by decide) c_11
              refine lv_iconst (v := 1) hx hb dX11_count_72 (by decide) ?_
              refine lv_goto (tgt := 77) hx hb dX11_count_73 (by decide) ?_
              refine lv_iadd hx hb dX11_count_77 ?_
              refine zz_i (v := nI ((cntP (fun g => ¬ (tn g).toInt = 0) q) + 1)) (nI_add (cntP (fun g => ¬ (tn g).toInt = 0) q) 1) ?_
              refine lv_istore (lv' := [(4, .int (nI ((cntP (fun g => ¬ (tn g).toInt = 0) q) + 1))), (3, .int (nI ((cntP (fun g => (st g).toInt = 2) q) + 0))), (2, .int (nI ((cntP (fun g => (st g).toInt = 1) q) + 1))), (6, .int (nI q)), (5, .int (nI (smP (lvF ft st tn) (fun g => nN (mn g)) q))), (0, .ref k0), (1, .int w)]) hx hb dX11_count_78 hl (by decide) rfl (fun ls hl => ?_)
              refine lv_iload hx hb dX11_count_80 (lv_at hl 4 rfl) ?_
              refine lv_aload_n hx hb dX11_count_82 rfl (lv_at hl 5 rfl) ?_
              refine lv_iload hx hb dX11_count_83 (lv_at hl 3 rfl) ?_
              have hPc := hP.sub (ws' := [(om k0 a I0 J0), (oa (a 5) cI 201 st), (oa (a 6) cZ 201 tn)]) [0, 1, 2] rfl
              have hDc := hD.sub (ws' := [(om k0 a I0 J0), (oa (a 5) cI 201 st), (oa (a 6) cZ 201 tn)]) [0, 1, 2] (by decide) rfl
              have hFc := va_free (wc := [(om k0 a I0 J0), (oa (a 5) cI 201 st), (oa (a 6) cZ 201 tn)]) hD hS hA [0, 1, 2] rfl
              refine zcall (st1 := [.int (pI (q < ft ∧ (st q).toInt = 1 ∧ (tn q).toInt = 0)), .int (nI (smP (lvF ft st tn) (fun g => nN (mn g)) q))]) (va_runV (As := [.int (nI q)]) (rest := [.int (nI (smP (lvF ft st tn) (fun g => nN (mn g)) q))]) ⟨hx, hb, hml, hown, hts⟩ (k_M_is_n l dC dI cI cZ cF H.size k0 a I0 J0 q ft st tn (by assumption) (by omega) (by omega)) (cwV 1 hts (zz_gV mw_1447 mw_1449 mw_56 mw_110 mc_yX11_is) rfl rfl rfl (by decide +kernel) ⟨Nat.le_of_ble_eq_true rfl, Nat.le_of_ble_eq_true rfl⟩) (zPV2 (q0 := 0) (ci := 9) hPc hDc hK hXN rfl rfl) rfl rfl hl.1 rfl (lv_room (Nat.le_of_ble_eq_true rfl)) dX11_count_85 ⟨Nat.le_of_ble_eq_true rfl, Nat.le_of_ble_eq_true rfl⟩) hS hFc hFc rfl (fun t H1 locs ht hB hk1 hS => ?_)
              obtain ⟨hP1, hD1⟩ := hB
              rw [ht] at hP1
              obtain ⟨hP, hD⟩ := va_join (wr := [(oa (a 11) cI 201 mn)]) (w1 := [(om k0 a I0 J0), (oa (a 5) cI 201 st), (oa (a 6) cZ 201 tn)]) hP hD [0, 1, 2] [3] rfl rfl (by decide) (by decide) hk1 hFc hP1 hD1
              clear hk1 hPc hDc hFc hP1 hD1 ht
              generalize H1 = H at hP hS ⊢
              have hP := hP.sub (ws' := [(om k0 a I0 J0), (oa (a 5) cI 201 st), (oa (a 6) cZ 201 tn), (oa (a 11) cI 201 mn)]) [1, 2, 3, 0] rfl
              have hD := hD.sub (ws' := [(om k0 a I0 J0), (oa (a 5) cI 201 st), (oa (a 6) cZ 201 tn), (oa (a 11) cI 201 mn)]) [1, 2, 3, 0] (by decide) rfl
              have hP : va_P (dC, dI) classes [(om k0 a I0 J0), (oa (a 5) cI 201 st), (oa (a 6) cZ 201 tn), (oa (a 11) cI 201 mn)] H := hP
              have hD : va_D A [(om k0 a I0 J0), (oa (a 5) cI 201 st), (oa (a 6) cZ 201 tn), (oa (a 11) cI 201 mn)] := hD
              refine lv_if_eq (tgt := 101) hx hb dX11_count_88 (by decide) (fun c_13 => ?_) (fun c_13 => ?_)
              · have c_13 : ¬ (q < ft ∧ (st q).toInt = 1 ∧ (tn q).toInt = 0) := zp_0 c_13
                refine lv_iconst (v := 0) hx hb dX11_count_101 (by decide) ?_
                refine lv_iadd hx hb dX11_count_102 ?_
                refine zz_i (v := nI ((smP (lvF ft st tn) (fun g => nN (mn g)) q) + 0)) (nI_add (smP (lvF ft st tn) (fun g => nN (mn g)) q) 0) ?_
                refine lv_istore (lv' := [(5, .int (nI ((smP (lvF ft st tn) (fun g => nN (mn g)) q) + 0))), (4, .int (nI ((cntP (fun g => ¬ (tn g).toInt = 0) q) + 1))), (3, .int (nI ((cntP (fun g => (st g).toInt = 2) q) + 0))), (2, .int (nI ((cntP (fun g => (st g).toInt = 1) q) + 1))), (6, .int (nI q)), (0, .ref k0), (1, .int w)]) hx hb dX11_count_103 hl (by decide) rfl (fun ls hl => ?_)
                refine lv_iinc (v := nI (q + 1)) (lv' := [(6, .int (nI (q + 1))), (5, .int (nI ((smP (lvF ft st tn) (fun g => nN (mn g)) q) + 0))), (4, .int (nI ((cntP (fun g => ¬ (tn g).toInt = 0) q) + 1))), (3, .int (nI ((cntP (fun g => (st g).toInt = 2) q) + 0))), (2, .int (nI ((cntP (fun g => (st g).toInt = 1) q) + 1))), (0, .ref k0), (1, .int w)]) hx hb dX11_count_105 hl (k := 4) rfl (nI_add q 1) (by decide) rfl (fun ls hl => ?_)
                refine lv_goto (tgt := 13) hx hb dX11_count_108 (by decide) ?_
                have hl9 := lv_sub hl [0, 1, 2, 3, 4, 5, 6] rfl
                have e9_2 : nI (cntP (fun g => (st g).toInt = 1) (q + 1)) = (nI ((cntP (fun g => (st g).toInt = 1) q) + 1) : Int32) := by first | exact congrArg nI (cntP_y (P := fun g => (st g).toInt = 1) (show (st q).toInt = 1 by omega)) | exact congrArg nI (cntP_n0 (P := fun g => (st g).toInt = 1) (show ¬ (st q).toInt = 1 by omega))
                have e9_3 : nI (cntP (fun g => (st g).toInt = 2) (q + 1)) = (nI ((cntP (fun g => (st g).toInt = 2) q) + 0) : Int32) := by first | exact congrArg nI (cntP_y (P := fun g => (st g).toInt = 2) (show (st q).toInt = 2 by omega)) | exact congrArg nI (cntP_n0 (P := fun g => (st g).toInt = 2) (show ¬ (st q).toInt = 2 by omega))
                have e9_4 : nI (cntP (fun g => ¬ (tn g).toInt = 0) (q + 1)) = (nI ((cntP (fun g => ¬ (tn g).toInt = 0) q) + 1) : Int32) := by first | exact congrArg nI (cntP_y (P := fun g => ¬ (tn g).toInt = 0) (show ¬ (tn q).toInt = 0 by omega)) | exact congrArg nI (cntP_n0 (P := fun g => ¬ (tn g).toInt = 0) (show ¬ ¬ (tn q).toInt = 0 by omega))
                have e9_5 : nI (smP (lvF ft st tn) (fun g => nN (mn g)) (q + 1)) = (nI ((smP (lvF ft st tn) (fun g => nN (mn g)) q) + 0) : Int32) := by first | exact congrArg nI (smP_y (P := lvF ft st tn) (by assumption)) | exact congrArg nI (smP_n (P := lvF ft st tn) (by assumption))
                have hl9 : lv_has ls 7 [(6, .int (nI (q + 1))), (5, .int (nI (smP (lvF ft st tn) (fun g => nN (mn g)) (q + 1)))), (4, .int (nI (cntP (fun g => ¬ (tn g).toInt = 0) (q + 1)))), (3, .int (nI (cntP (fun g => (st g).toInt = 2) (q + 1)))), (2, .int (nI (cntP (fun g => (st g).toInt = 1) (q + 1)))), (0, .ref k0), (1, .int w)] := by rw [e9_2]; rw [e9_3]; rw [e9_4]; rw [e9_5]; exact hl9
                exact ih_13 (q + 1) H locs ls (by omega) (by omega) hP hD hS hl9
              · have c_13 : q < ft ∧ (st q).toInt = 1 ∧ (tn q).toInt = 0 := zp_1 c_13
                refine lv_aload_n hx hb dX11_count_91 rfl (lv_at hl 5 rfl) ?_
                refine va_get (D := (dC, dI)) (ci := 9) (v := .ref (a 11)) (C := RX11) (T := TX11) (N := 55) hx hb hts inX11 hown hK hP 0 rfl rfl 11 (by decide) (hts _ mw_1170) (fun _ h9 => h9) rfl dX11_count_92 ?_
                refine lv_iload hx hb dX11_count_95 (lv_at hl 3 rfl) ?_
                refine z_iald hx hb hK hP 3 0 rfl rfl (e := q) rfl (by omega) (by omega) dX11_count_97 ?_
                refine zz_i (v := nI (nN (mn q))) ((hmw q (by assumption)).1) ?_
                refine lv_goto (tgt := 102) hx hb dX11_count_98 (by decide) ?_
                refine lv_iadd hx hb dX11_count_102 ?_
                refine zz_i (v := nI ((smP (lvF ft st tn) (fun g => nN (mn g)) q) + (nN (mn q)))) (nI_add (smP (lvF ft st tn) (fun g => nN (mn g)) q) (nN (mn q))) ?_
                refine lv_istore (lv' := [(5, .int (nI ((smP (lvF ft st tn) (fun g => nN (mn g)) q) + (nN (mn q))))), (4, .int (nI ((cntP (fun g => ¬ (tn g).toInt = 0) q) + 1))), (3, .int (nI ((cntP (fun g => (st g).toInt = 2) q) + 0))), (2, .int (nI ((cntP (fun g => (st g).toInt = 1) q) + 1))), (6, .int (nI q)), (0, .ref k0), (1, .int w)]) hx hb dX11_count_103 hl (by decide) rfl (fun ls hl => ?_)
                refine lv_iinc (v := nI (q + 1)) (lv' := [(6, .int (nI (q + 1))), (5, .int (nI ((smP (lvF ft st tn) (fun g => nN (mn g)) q) + (nN (mn q))))), (4, .int (nI ((cntP (fun g => ¬ (tn g).toInt = 0) q) + 1))), (3, .int (nI ((cntP (fun g => (st g).toInt = 2) q) + 0))), (2, .int (nI ((cntP (fun g => (st g).toInt = 1) q) + 1))), (0, .ref k0), (1, .int w)]) hx hb dX11_count_105 hl (k := 4) rfl (nI_add q 1) (by decide) rfl (fun ls hl => ?_)
                refine lv_goto (tgt := 13) hx hb dX11_count_108 (by decide) ?_
                have hl9 := lv_sub hl [0, 1, 2, 3, 4, 5, 6] rfl
                have e9_2 : nI (cntP (fun g => (st g).toInt = 1) (q + 1)) = (nI ((cntP (fun g => (st g).toInt = 1) q) + 1) : Int32) := by first | exact congrArg nI (cntP_y (P := fun g => (st g).toInt = 1) (show (st q).toInt = 1 by omega)) | exact congrArg nI (cntP_n0 (P := fun g => (st g).toInt = 1) (show ¬ (st q).toInt = 1 by omega))
                have e9_3 : nI (cntP (fun g => (st g).toInt = 2) (q + 1)) = (nI ((cntP (fun g => (st g).toInt = 2) q) + 0) : Int32) := by first | exact congrArg nI (cntP_y (P := fun g => (st g).toInt = 2) (show (st q).toInt = 2 by omega)) | exact congrArg nI (cntP_n0 (P := fun g => (st g).toInt = 2) (show ¬ (st q).toInt = 2 by omega))
                have e9_4 : nI (cntP (fun g => ¬ (tn g).toInt = 0) (q + 1)) = (nI ((cntP (fun g => ¬ (tn g).toInt = 0) q) + 1) : Int32) := by first | exact congrArg nI (cntP_y (P := fun g => ¬ (tn g).toInt = 0) (show ¬ (tn q).toInt = 0 by omega)) | exact congrArg nI (cntP_n0 (P := fun g => ¬ (tn g).toInt = 0) (show ¬ ¬ (tn q).toInt = 0 by omega))
                have e9_5 : nI (smP (lvF ft st tn) (fun g => nN (mn g)) (q + 1)) = (nI ((smP (lvF ft st tn) (fun g => nN (mn g)) q) + (nN (mn q))) : Int32) := by first | exact congrArg nI (smP_y (P := lvF ft st tn) (by assumption)) | exact congrArg nI (smP_n (P := lvF ft st tn) (by assumption))
                have hl9 : lv_has ls 7 [(6, .int (nI (q + 1))), (5, .int (nI (smP (lvF ft st tn) (fun g => nN (mn g)) (q + 1)))), (4, .int (nI (cntP (fun g => ¬ (tn g).toInt = 0) (q + 1)))), (3, .int (nI (cntP (fun g => (st g).toInt = 2) (q + 1)))), (2, .int (nI (cntP (fun g => (st g).toInt = 1) (q + 1)))), (0, .ref k0), (1, .int w)] := by rw [e9_2]; rw [e9_3]; rw [e9_4]; rw [e9_5]; exact hl9
                exact ih_13 (q + 1) H locs ls (by omega) (by omega) hP hD hS hl9
          · have c_10 : (st q).toInt = 2 := zc_eq rfl (by decide) c_10
            refine lv_iconst (v := 1) hx hb dX11_count_53 (by decide) ?_
            refine lv_goto (tgt := 58) hx hb dX11_count_54 (by decide) ?_
            refine lv_iadd hx hb dX11_count_58 ?_
            refine zz_i (v := nI ((cntP (fun g => (st g).toInt = 2) q) + 1)) (nI_add (cntP (fun g => (st g).toInt = 2) q) 1) ?_
            refine lv_istore_n (lv' := [(3, .int (nI ((cntP (fun g => (st g).toInt = 2) q) + 1))), (2, .int (nI ((cntP (fun g => (st g).toInt = 1) q) + 1))), (6, .int (nI q)), (5, .int (nI (smP (lvF ft st tn) (fun g => nN (mn g)) q))), (4, .int (nI (cntP (fun g => ¬ (tn g).toInt = 0) q))), (0, .ref k0), (1, .int w)]) hx hb dX11_count_59 rfl hl (by decide) rfl (fun ls hl => ?_)
            refine lv_iload hx hb dX11_count_60 (lv_at hl 4 rfl) ?_
            refine lv_aload_n hx hb dX11_count_62 rfl (lv_at hl 5 rfl) ?_
            refine va_get (D := (dC, dI)) (ci := 9) (v := .ref (a 6)) (C := RX11) (T := TX11) (N := 55) hx hb hts inX11 hown hK hP 0 rfl rfl 6 (by decide) (hts _ mw_1165) (fun _ h9 => h9) rfl dX11_count_63 ?_
            refine lv_iload hx hb dX11_count_66 (lv_at hl 2 rfl) ?_
            refine z_zald hx hb hK hP 2 1 rfl rfl (e := q) rfl (by omega) (by omega) dX11_count_68 ?_
            refine lv_if_eq (tgt := 76) hx hb dX11_count_69 (by decide) (fun c_14 => ?_) (fun c_14 => ?_)
            · have c_14 : (tn q).toInt = 0 := zc_eq rfl (by decide) c_14
              refine lv_iconst (v := 0) hx hb dX11_count_76 (by decide) ?_
              refine lv_iadd hx hb dX11_count_77 ?_
              refine zz_i (v := nI ((cntP (fun g => ¬ (tn g).toInt = 0) q) + 0)) (nI_add (cntP (fun g => ¬ (tn g).toInt = 0) q) 0) ?_
              refine lv_istore (lv' := [(4, .int (nI ((cntP (fun g => ¬ (tn g).toInt = 0) q) + 0))), (3, .int (nI ((cntP (fun g => (st g).toInt = 2) q) + 1))), (2, .int (nI ((cntP (fun g => (st g).toInt = 1) q) + 1))), (6, .int (nI q)), (5, .int (nI (smP (lvF ft st tn) (fun g => nN (mn g)) q))), (0, .ref k0), (1, .int w)]) hx hb dX11_count_78 hl (by decide) rfl (fun ls hl => ?_)
              refine lv_iload hx hb dX11_count_80 (lv_at hl 4 rfl) ?_
              refine lv_aload_n hx hb dX11_count_82 rfl (lv_at hl 5 rfl) ?_
              refine lv_iload hx hb dX11_count_83 (lv_at hl 3 rfl) ?_
              have hPc := hP.sub (ws' := [(om k0 a I0 J0), (oa (a 5) cI 201 st), (oa (a 6) cZ 201 tn)]) [0, 1, 2] rfl
              have hDc := hD.sub (ws' := [(om k0 a I0 J0), (oa (a 5) cI 201 st), (oa (a 6) cZ 201 tn)]) [0, 1, 2] (by decide) rfl
              have hFc := va_free (wc := [(om k0 a I0 J0), (oa (a 5) cI 201 st), (oa (a 6) cZ 201 tn)]) hD hS hA [0, 1, 2] rfl
              refine zcall (st1 := [.int (pI (q < ft ∧ (st q).toInt = 1 ∧ (tn q).toInt = 0)), .int (nI (smP (lvF ft st tn) (fun g => nN (mn g)) q))]) (va_runV (As := [.int (nI q)]) (rest := [.int (nI (smP (lvF ft st tn) (fun g => nN (mn g)) q))]) ⟨hx, hb, hml, hown, hts⟩ (k_M_is_n l dC dI cI cZ cF H.size k0 a I0 J0 q ft st tn (by assumption) (by omega) (by omega)) (cwV 1 hts (zz_gV mw_1447 mw_1449 mw_56 mw_110 mc_yX11_is) rfl rfl rfl (by decide +kernel) ⟨Nat.le_of_ble_eq_true rfl, Nat.le_of_ble_eq_true rfl⟩) (zPV2 (q0 := 0) (ci := 9) hPc hDc hK hXN rfl rfl) rfl rfl hl.1 rfl (lv_room (Nat.le_of_ble_eq_true rfl)) dX11_count_85 ⟨Nat.le_of_ble_eq_true rfl, Nat.le_of_ble_eq_true rfl⟩) hS hFc hFc rfl (fun t H1 locs ht hB hk1 hS => ?_)
              obtain ⟨hP1, hD1⟩ := hB
              rw [ht] at hP1
              obtain ⟨hP, hD⟩ := va_join (wr := [(oa (a 11) cI 201 mn)]) (w1 := [(om k0 a I0 J0), (oa (a 5) cI 201 st), (oa (a 6) cZ 201 tn)]) hP hD [0, 1, 2] [3] rfl rfl (by decide) (by decide) hk1 hFc hP1 hD1
              clear hk1 hPc hDc hFc hP1 hD1 ht
              generalize H1 = H at hP hS ⊢
              have hP := hP.sub (ws' := [(om k0 a I0 J0), (oa (a 5) cI 201 st), (oa (a 6) cZ 201 tn), (oa (a 11) cI 201 mn)]) [1, 2, 3, 0] rfl
              have hD := hD.sub (ws' := [(om k0 a I0 J0), (oa (a 5) cI 201 st), (oa (a 6) cZ 201 tn), (oa (a 11) cI 201 mn)]) [1, 2, 3, 0] (by decide) rfl
              have hP : va_P (dC, dI) classes [(om k0 a I0 J0), (oa (a 5) cI 201 st), (oa (a 6) cZ 201 tn), (oa (a 11) cI 201 mn)] H := hP
              have hD : va_D A [(om k0 a I0 J0), (oa (a 5) cI 201 st), (oa (a 6) cZ 201 tn), (oa (a 11) cI 201 mn)] := hD
              refine lv_if_eq (tgt := 101) hx hb dX11_count_88 (by decide) (fun c_15 => ?_) (fun c_15 => ?_)
              · have c_15 : ¬ (q < ft ∧ (st q).toInt = 1 ∧ (tn q).toInt = 0) := zp_0 c_15
                refine lv_iconst (v := 0) hx hb dX11_count_101 (by decide) ?_
                refine lv_iadd hx hb dX11_count_102 ?_
                refine zz_i (v := nI ((smP (lvF ft st tn) (fun g => nN (mn g)) q) + 0)) (nI_add (smP (lvF ft st tn) (fun g => nN (mn g)) q) 0) ?_
                refine lv_istore (lv' := [(5, .int (nI ((smP (lvF ft st tn) (fun g => nN (mn g)) q) + 0))), (4, .int (nI ((cntP (fun g => ¬ (tn g).toInt = 0) q) + 0))), (3, .int (nI ((cntP (fun g => (st g).toInt = 2) q) + 1))), (2, .int (nI ((cntP (fun g => (st g).toInt = 1) q) + 1))), (6, .int (nI q)), (0, .ref k0), (1, .int w)]) hx hb dX11_count_103 hl (by decide) rfl (fun ls hl => ?_)
                refine lv_iinc (v := nI (q + 1)) (lv' := [(6, .int (nI (q + 1))), (5, .int (nI ((smP (lvF ft st tn) (fun g => nN (mn g)) q) + 0))), (4, .int (nI ((cntP (fun g => ¬ (tn g).toInt = 0) q) + 0))), (3, .int (nI ((cntP (fun g => (st g).toInt = 2) q) + 1))), (2, .int (nI ((cntP (fun g => (st g).toInt = 1) q) + 1))), (0, .ref k0), (1, .int w)]) hx hb dX11_count_105 hl (k := 4) rfl (nI_add q 1) (by decide) rfl (fun ls hl => ?_)
                refine lv_goto (tgt := 13) hx hb dX11_count_108 (by decide) ?_
                have hl9 := lv_sub hl [0, 1, 2, 3, 4, 5, 6] rfl
                have e9_2 : nI (cntP (fun g => (st g).toInt = 1) (q + 1)) = (nI ((cntP (fun g => (st g).toInt = 1) q) + 1) : Int32) := by first | exact congrArg nI (cntP_y (P := fun g => (st g).toInt = 1) (show (st q).toInt = 1 by omega)) | exact congrArg nI (cntP_n0 (P := fun g => (st g).toInt = 1) (show ¬ (st q).toInt = 1 by omega))
                have e9_3 : nI (cntP (fun g => (st g).toInt = 2) (q + 1)) = (nI ((cntP (fun g => (st g).toInt = 2) q) + 1) : Int32) := by first | exact congrArg nI (cntP_y (P := fun g => (st g).toInt = 2) (show (st q).toInt = 2 by omega)) | exact congrArg nI (cntP_n0 (P := fun g => (st g).toInt = 2) (show ¬ (st q).toInt = 2 by omega))
                have e9_4 : nI (cntP (fun g => ¬ (tn g).toInt = 0) (q + 1)) = (nI ((cntP (fun g => ¬ (tn g).toInt = 0) q) + 0) : Int32) := by first | exact congrArg nI (cntP_y (P := fun g => ¬ (tn g).toInt = 0) (show ¬ (tn q).toInt = 0 by omega)) | exact congrArg nI (cntP_n0 (P := fun g => ¬ (tn g).toInt = 0) (show ¬ ¬ (tn q).toInt = 0 by omega))
                have e9_5 : nI (smP (lvF ft st tn) (fun g => nN (mn g)) (q + 1)) = (nI ((smP (lvF ft st tn) (fun g => nN (mn g)) q) + 0) : Int32) := by first | exact congrArg nI (smP_y (P := lvF ft st tn) (by assumption)) | exact congrArg nI (smP_n (P := lvF ft st tn) (by assumption))
                have hl9 : lv_has ls 7 [(6, .int (nI (q + 1))), (5, .int (nI (smP (lvF ft st tn) (fun g => nN (mn g)) (q + 1)))), (4, .int (nI (cntP (fun g => ¬ (tn g).toInt = 0) (q + 1)))), (3, .int (nI (cntP (fun g => (st g).toInt = 2) (q + 1)))), (2, .int (nI (cntP (fun g => (st g).toInt = 1) (q + 1)))), (0, .ref k0), (1, .int w)] := by rw [e9_2]; rw [e9_3]; rw [e9_4]; rw [e9_5]; exact hl9
                exact ih_13 (q + 1) H locs ls (by omega) (by omega) hP hD hS hl9
              · have c_15 : q < ft ∧ (st q).toInt = 1 ∧ (tn q).toInt = 0 := zp_1 c_15
                refine lv_aload_n hx hb dX11_count_91 rfl (lv_at hl 5 rfl) ?_
                refine va_get (D := (dC, dI)) (ci := 9) (v := .ref (a 11)) (C := RX11) (T := TX11) (N := 55) hx hb hts inX11 hown hK hP 0 rfl rfl 11 (by decide) (hts _ mw_1170) (fun _ h9 => h9) rfl dX11_count_92 ?_
                refine lv_iload hx hb dX11_count_95 (lv_at hl 3 rfl) ?_
                refine z_iald hx hb hK hP 3 0 rfl rfl (e := q) rfl (by omega) (by omega) dX11_count_97 ?_
                refine zz_i (v := nI (nN (mn q))) ((hmw q (by assumption)).1) ?_
                refine lv_goto (tgt := 102) hx hb dX11_count_98 (by decide) ?_
                refine lv_iadd hx hb dX11_count_102 ?_
                refine zz_i (v := nI ((smP (lvF ft st tn) (fun g => nN (mn g)) q) + (nN (mn q)))) (nI_add (smP (lvF ft st tn) (fun g => nN (mn g)) q) (nN (mn q))) ?_
                refine lv_istore (lv' := [(5, .int (nI ((smP (lvF ft st tn) (fun g => nN (mn g)) q) + (nN (mn q))))), (4, .int (nI ((cntP (fun g => ¬ (tn g).toInt = 0) q) + 0))), (3, .int (nI ((cntP (fun g => (st g).toInt = 2) q) + 1))), (2, .int (nI ((cntP (fun g => (st g).toInt = 1) q) + 1))), (6, .int (nI q)), (0, .ref k0), (1, .int w)]) hx hb dX11_count_103 hl (by decide) rfl (fun ls hl => ?_)
                refine lv_iinc (v := nI (q + 1)) (lv' := [(6, .int (nI (q + 1))), (5, .int (nI ((smP (lvF ft st tn) (fun g => nN (mn g)) q) + (nN (mn q))))), (4, .int (nI ((cntP (fun g => ¬ (tn g).toInt = 0) q) + 0))), (3, .int (nI ((cntP (fun g => (st g).toInt = 2) q) + 1))), (2, .int (nI ((cntP (fun g => (st g).toInt = 1) q) + 1))), (0, .ref k0), (1, .int w)]) hx hb dX11_count_105 hl (k := 4) rfl (nI_add q 1) (by decide) rfl (fun ls hl => ?_)
                refine lv_goto (tgt := 13) hx hb dX11_count_108 (by decide) ?_
                have hl9 := lv_sub hl [0, 1, 2, 3, 4, 5, 6] rfl
                have e9_2 : nI (cntP (fun g => (st g).toInt = 1) (q + 1)) = (nI ((cntP (fun g => (st g).toInt = 1) q) + 1) : Int32) := by first | exact congrArg nI (cntP_y (P := fun g => (st g).toInt = 1) (show (st q).toInt = 1 by omega)) | exact congrArg nI (cntP_n0 (P := fun g => (st g).toInt = 1) (show ¬ (st q).toInt = 1 by omega))
                have e9_3 : nI (cntP (fun g => (st g).toInt = 2) (q + 1)) = (nI ((cntP (fun g => (st g).toInt = 2) q) + 1) : Int32) := by first | exact congrArg nI (cntP_y (P := fun g => (st g).toInt = 2) (show (st q).toInt = 2 by omega)) | exact congrArg nI (cntP_n0 (P := fun g => (st g).toInt = 2) (show ¬ (st q).toInt = 2 by omega))
                have e9_4 : nI (cntP (fun g => ¬ (tn g).toInt = 0) (q + 1)) = (nI ((cntP (fun g => ¬ (tn g).toInt = 0) q) + 0) : Int32) := by first | exact congrArg nI (cntP_y (P := fun g => ¬ (tn g).toInt = 0) (show ¬ (tn q).toInt = 0 by omega)) | exact congrArg nI (cntP_n0 (P := fun g => ¬ (tn g).toInt = 0) (show ¬ ¬ (tn q).toInt = 0 by omega))
                have e9_5 : nI (smP (lvF ft st tn) (fun g => nN (mn g)) (q + 1)) = (nI ((smP (lvF ft st tn) (fun g => nN (mn g)) q) + (nN (mn q))) : Int32) := by first | exact congrArg nI (smP_y (P := lvF ft st tn) (by assumption)) | exact congrArg nI (smP_n (P := lvF ft st tn) (by assumption))
                have hl9 : lv_has ls 7 [(6, .int (nI (q + 1))), (5, .int (nI (smP (lvF ft st tn) (fun g => nN (mn g)) (q + 1)))), (4, .int (nI (cntP (fun g => ¬ (tn g).toInt = 0) (q + 1)))), (3, .int (nI (cntP (fun g => (st g).toInt = 2) (q + 1)))), (2, .int (nI (cntP (fun g => (st g).toInt = 1) (q + 1)))), (0, .ref k0), (1, .int w)] := by rw [e9_2]; rw [e9_3]; rw [e9_4]; rw [e9_5]; exact hl9
                exact ih_13 (q + 1) H locs ls (by omega) (by omega) hP hD hS hl9
            · have c_14 : ¬ (tn q).toInt = 0 := zc_ne rfl (by decide) c_14
              refine lv_iconst (v := 1) hx hb dX11_count_72 (by decide) ?_
              refine lv_goto (tgt := 77) hx hb dX11_count_73 (by decide) ?_
              refine lv_iadd hx hb dX11_count_77 ?_
              refine zz_i (v := nI ((cntP (fun g => ¬ (tn g).toInt = 0) q) + 1)) (nI_add (cntP (fun g => ¬ (tn g).toInt = 0) q) 1) ?_
              refine lv_istore (lv' := [(4, .int (nI ((cntP (fun g => ¬ (tn g).toInt = 0) q) + 1))), (3, .int (nI ((cntP (fun g => (st g).toInt = 2) q) + 1))), (2, .int (nI ((cntP (fun g => (st g).toInt = 1) q) + 1))), (6, .int (nI q)), (5, .int (nI (smP (lvF ft st tn) (fun g => nN (mn g)) q))), (0, .ref k0), (1, .int w)]) hx hb dX11_count_78 hl (by decide) rfl (fun ls hl => ?_)
              refine lv_iload hx hb dX11_count_80 (lv_at hl 4 rfl) ?_
              refine lv_aload_n hx hb dX11_count_82 rfl (lv_at hl 5 rfl) ?_
              refine lv_iload hx hb dX11_count_83 (lv_at hl 3 rfl) ?_
              have hPc := hP.sub (ws' := [(om k0 a I0 J0), (oa (a 5) cI 201 st), (oa (a 6) cZ 201 tn)]) [0, 1, 2] rfl
              have hDc := hD.sub (ws' := [(om k0 a I0 J0), (oa (a 5) cI 201 st), (oa (a 6) cZ 201 tn)]) [0, 1, 2] (by decide) rfl
              have hFc := va_free (wc := [(om k0 a I0 J0), (oa (a 5) cI 201 st), (oa (a 6) cZ 201 tn)]) hD hS hA [0, 1, 2] rfl
              refine zcall (st1 := [.int (pI (q < ft ∧ (st q).toInt = 1 ∧ (tn q).toInt = 0)), .int (nI (smP (lvF ft st tn) (fun g => nN (mn g)) q))]) (va_runV (As := [.int (nI q)]) (rest := [.int (nI (smP (lvF ft st tn) (fun g => nN (mn g)) q))]) ⟨hx, hb, hml, hown, hts⟩ (k_M_is_n l dC dI cI cZ cF H.size k0 a I0 J0 q ft st tn (by assumption) (by omega) (by omega)) (cwV 1 hts (zz_gV mw_1447 mw_1449 mw_56 mw_110 mc_yX11_is) rfl rfl rfl (by decide +kernel) ⟨Nat.le_of_ble_eq_true rfl, Nat.le_of_ble_eq_true rfl⟩) (zPV2 (q0 := 0) (ci := 9) hPc hDc hK hXN rfl rfl) rfl rfl hl.1 rfl (lv_room (Nat.le_of_ble_eq_true rfl)) dX11_count_85 ⟨Nat.le_of_ble_eq_true rfl, Nat.le_of_ble_eq_true rfl⟩) hS hFc hFc rfl (fun t H1 locs ht hB hk1 hS => ?_)
              obtain ⟨hP1, hD1⟩ := hB
              rw [ht] at hP1
              obtain ⟨hP, hD⟩ := va_join (wr := [(oa (a 11) cI 201 mn)]) (w1 := [(om k0 a I0 J0), (oa (a 5) cI 201 st), (oa (a 6) cZ 201 tn)]) hP hD [0, 1, 2] [3] rfl rfl (by decide) (by decide) hk1 hFc hP1 hD1
              clear hk1 hPc hDc hFc hP1 hD1 ht
              generalize H1 = H at hP hS ⊢
              have hP := hP.sub (ws' := [(om k0 a I0 J0), (oa (a 5) cI 201 st), (oa (a 6) cZ 201 tn), (oa (a 11) cI 201 mn)]) [1, 2, 3, 0] rfl
              have hD := hD.sub (ws' := [(om k0 a I0 J0), (oa (a 5) cI 201 st), (oa (a 6) cZ 201 tn), (oa (a 11) cI 201 mn)]) [1, 2, 3, 0] (by decide) rfl
              have hP : va_P (dC, dI) classes [(om k0 a I0 J0), (oa (a 5) cI 201 st), (oa (a 6) cZ 201 tn), (oa (a 11) cI 201 mn)] H := hP
              have hD : va_D A [(om k0 a I0 J0), (oa (a 5) cI 201 st), (oa (a 6) cZ 201 tn), (oa (a 11) cI 201 mn)] := hD
              refine lv_if_eq (tgt := 101) hx hb dX11_count_88 (by decide) (fun c_16 => ?_) (fun c_16 => ?_)
              · have c_16 : ¬ (q < ft ∧ (st q).toInt = 1 ∧ (tn q).toInt = 0) := zp_0 c_16
                refine lv_iconst (v := 0) hx hb dX11_count_101 (by decide) ?_
                refine lv_iadd hx hb dX11_count_102 ?_
                refine zz_i (v := nI ((smP (lvF ft st tn) (fun g => nN (mn g)) q) + 0)) (nI_add (smP (lvF ft st tn) (fun g => nN (mn g)) q) 0) ?_
                refine lv_istore (lv' := [(5, .int (nI ((smP (lvF ft st tn) (fun g => nN (mn g)) q) + 0))), (4, .int (nI ((cntP (fun g => ¬ (tn g).toInt = 0) q) + 1))), (3, .int (nI ((cntP (fun g => (st g).toInt = 2) q) + 1))), (2, .int (nI ((cntP (fun g => (st g).toInt = 1) q) + 1))), (6, .int (nI q)), (0, .ref k0), (1, .int w)]) hx hb dX11_count_103 hl (by decide) rfl (fun ls hl => ?_)
                refine lv_iinc (v := nI (q + 1)) (lv' := [(6, .int (nI (q + 1))), (5, .int (nI ((smP (lvF ft st tn) (fun g => nN (mn g)) q) + 0))), (4, .int (nI ((cntP (fun g => ¬ (tn g).toInt = 0) q) + 1))), (3, .int (nI ((cntP (fun g => (st g).toInt = 2) q) + 1))), (2, .int (nI ((cntP (fun g => (st g).toInt = 1) q) + 1))), (0, .ref k0), (1, .int w)]) hx hb dX11_count_105 hl (k := 4) rfl (nI_add q 1) (by decide) rfl (fun ls hl => ?_)
                refine lv_goto (tgt := 13) hx hb dX11_count_108 (by decide) ?_
                have hl9 := lv_sub hl [0, 1, 2, 3, 4, 5, 6] rfl
                have e9_2 : nI (cntP (fun g => (st g).toInt = 1) (q + 1)) = (nI ((cntP (fun g => (st g).toInt = 1) q) + 1) : Int32) := by first | exact congrArg nI (cntP_y (P := fun g => (st g).toInt = 1) (show (st q).toInt = 1 by omega)) | exact congrArg nI (cntP_n0 (P := fun g => (st g).toInt = 1) (show ¬ (st q).toInt = 1 by omega))
                have e9_3 : nI (cntP (fun g => (st g).toInt = 2) (q + 1)) = (nI ((cntP (fun g => (st g).toInt = 2) q) + 1) : Int32) := by first | exact congrArg nI (cntP_y (P := fun g => (st g).toInt = 2) (show (st q).toInt = 2 by omega)) | exact congrArg nI (cntP_n0 (P := fun g => (st g).toInt = 2) (show ¬ (st q).toInt = 2 by omega))
                have e9_4 : nI (cntP (fun g => ¬ (tn g).toInt = 0) (q + 1)) = (nI ((cntP (fun g => ¬ (tn g).toInt = 0) q) + 1) : Int32) := by first | exact congrArg nI (cntP_y (P := fun g => ¬ (tn g).toInt = 0) (show ¬ (tn q).toInt = 0 by omega)) | exact congrArg nI (cntP_n0 (P := fun g => ¬ (tn g).toInt = 0) (show ¬ ¬ (tn q).toInt = 0 by omega))
                have e9_5 : nI (smP (lvF ft st tn) (fun g => nN (mn g)) (q + 1)) = (nI ((smP (lvF ft st tn) (fun g => nN (mn g)) q) + 0) : Int32) := by first | exact congrArg nI (smP_y (P := lvF ft st tn) (by assumption)) | exact congrArg nI (smP_n (P := lvF ft st tn) (by assumption))
                have hl9 : lv_has ls 7 [(6, .int (nI (q + 1))), (5, .int (nI (smP (lvF ft st tn) (fun g => nN (mn g)) (q + 1)))), (4, .int (nI (cntP (fun g => ¬ (tn g).toInt = 0) (q + 1)))), (3, .int (nI (cntP (fun g => (st g).toInt = 2) (q + 1)))), (2, .int (nI (cntP (fun g => (st g).toInt = 1) (q + 1)))), (0, .ref k0), (1, .int w)] := by rw [e9_2]; rw [e9_3]; rw [e9_4]; rw [e9_5]; exact hl9
                exact ih_13 (q + 1) H locs ls (by omega) (by omega) hP hD hS hl9
              · have c_16 : q < ft ∧ (st q).toInt = 1 ∧ (tn q).toInt = 0 := zp_1 c_16
                refine lv_aload_n hx hb dX11_count_91 rfl (lv_at hl 5 rfl) ?_
                refine va_get (D := (dC, dI)) (ci := 9) (v := .ref (a 11)) (C := RX11) (T := TX11) (N := 55) hx hb hts inX11 hown hK hP 0 rfl rfl 11 (by decide) (hts _ mw_1170) (fun _ h9 => h9) rfl dX11_count_92 ?_
                refine lv_iload hx hb dX11_count_95 (lv_at hl 3 rfl) ?_
                refine z_iald hx hb hK hP 3 0 rfl rfl (e := q) rfl (by omega) (by omega) dX11_count_97 ?_
                refine zz_i (v := nI (nN (mn q))) ((hmw q (by assumption)).1) ?_
                refine lv_goto (tgt := 102) hx hb dX11_count_98 (by decide) ?_
                refine lv_iadd hx hb dX11_count_102 ?_
                refine zz_i (v := nI ((smP (lvF ft st tn) (fun g => nN (mn g)) q) + (nN (mn q)))) (nI_add (smP (lvF ft st tn) (fun g => nN (mn g)) q) (nN (mn q))) ?_
                refine lv_istore (lv' := [(5, .int (nI ((smP (lvF ft st tn) (fun g => nN (mn g)) q) + (nN (mn q))))), (4, .int (nI ((cntP (fun g => ¬ (tn g).toInt = 0) q) + 1))), (3, .int (nI ((cntP (fun g => (st g).toInt = 2) q) + 1))), (2, .int (nI ((cntP (fun g => (st g).toInt = 1) q) + 1))), (6, .int (nI q)), (0, .ref k0), (1, .int w)]) hx hb dX11_count_103 hl (by decide) rfl (fun ls hl => ?_)
                refine lv_iinc (v := nI (q + 1)) (lv' := [(6, .int (nI (q + 1))), (5, .int (nI ((smP (lvF ft st tn) (fun g => nN (mn g)) q) + (nN (mn q))))), (4, .int (nI ((cntP (fun g => ¬ (tn g).toInt = 0) q) + 1))), (3, .int (nI ((cntP (fun g => (st g).toInt = 2) q) + 1))), (2, .int (nI ((cntP (fun g => (st g).toInt = 1) q) + 1))), (0, .ref k0), (1, .int w)]) hx hb dX11_count_105 hl (k := 4) rfl (nI_add q 1) (by decide) rfl (fun ls hl => ?_)
                refine lv_goto (tgt := 13) hx hb dX11_count_108 (by decide) ?_
                have hl9 := lv_sub hl [0, 1, 2, 3, 4, 5, 6] rfl
                have e9_2 : nI (cntP (fun g => (st g).toInt = 1) (q + 1)) = (nI ((cntP (fun g => (st g).toInt = 1) q) + 1) : Int32) := by first | exact congrArg nI (cntP_y (P := fun g => (st g).toInt = 1) (show (st q).toInt = 1 by omega)) | exact congrArg nI (cntP_n0 (P := fun g => (st g).toInt = 1) (show ¬ (st q).toInt = 1 by omega))
                have e9_3 : nI (cntP (fun g => (st g).toInt = 2) (q + 1)) = (nI ((cntP (fun g => (st g).toInt = 2) q) + 1) : Int32) := by first | exact congrArg nI (cntP_y (P := fun g => (st g).toInt = 2) (show (st q).toInt = 2 by omega)) | exact congrArg nI (cntP_n0 (P := fun g => (st g).toInt = 2) (show ¬ (st q).toInt = 2 by omega))
                have e9_4 : nI (cntP (fun g => ¬ (tn g).toInt = 0) (q + 1)) = (nI ((cntP (fun g => ¬ (tn g).toInt = 0) q) + 1) : Int32) := by first | exact congrArg nI (cntP_y (P := fun g => ¬ (tn g).toInt = 0) (show ¬ (tn q).toInt = 0 by omega)) | exact congrArg nI (cntP_n0 (P := fun g => ¬ (tn g).toInt = 0) (show ¬ ¬ (tn q).toInt = 0 by omega))
                have e9_5 : nI (smP (lvF ft st tn) (fun g => nN (mn g)) (q + 1)) = (nI ((smP (lvF ft st tn) (fun g => nN (mn g)) q) + (nN (mn q))) : Int32) := by first | exact congrArg nI (smP_y (P := lvF ft st tn) (by assumption)) | exact congrArg nI (smP_n (P := lvF ft st tn) (by assumption))
                have hl9 : lv_has ls 7 [(6, .int (nI (q + 1))), (5, .int (nI (smP (lvF ft st tn) (fun g => nN (mn g)) (q + 1)))), (4, .int (nI (cntP (fun g => ¬ (tn g).toInt = 0) (q + 1)))), (3, .int (nI (cntP (fun g => (st g).toInt = 2) (q + 1)))), (2, .int (nI (cntP (fun g => (st g).toInt = 1) (q + 1)))), (0, .ref k0), (1, .int w)] := by rw [e9_2]; rw [e9_3]; rw [e9_4]; rw [e9_5]; exact hl9
                exact ih_13 (q + 1) H locs ls (by omega) (by omega) hP hD hS hl9
  have e9_2 : nI (cntP (fun g => (st g).toInt = 1) 0) = (0 : Int32) := by rfl
  have e9_3 : nI (cntP (fun g => (st g).toInt = 2) 0) = (0 : Int32) := by rfl
  have e9_4 : nI (cntP (fun g => ¬ (tn g).toInt = 0) 0) = (0 : Int32) := by rfl
  have e9_5 : nI (smP (lvF ft st tn) (fun g => nN (mn g)) 0) = (0 : Int32) := by rfl
  have hl9 : lv_has ls 7 [(6, .int (nI 0)), (5, .int (nI (smP (lvF ft st tn) (fun g => nN (mn g)) 0))), (4, .int (nI (cntP (fun g => ¬ (tn g).toInt = 0) 0))), (3, .int (nI (cntP (fun g => (st g).toInt = 2) 0))), (2, .int (nI (cntP (fun g => (st g).toInt = 1) 0))), (0, .ref k0), (1, .int w)] := by rw [e9_2]; rw [e9_3]; rw [e9_4]; rw [e9_5]; exact lv_sub hl [0, 1, 2, 3, 4, 5, 6] rfl
  exact hl_13 _ 0 s.heap [] ls (Nat.lt_succ_self _) (by omega) hP hD hS hl9
