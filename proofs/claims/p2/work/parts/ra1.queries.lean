set_option maxHeartbeats 4000000 in
set_option maxRecDepth 100000 in
theorem k_M_is_x (l : Launch) (dC : Nat → ClassId) (dI : Nat → Nat → Nat) (cI cZ cF : ClassId) (sz : Nat) (k0 : Nat) (a : Nat → Nat) (I0 : Nat → Int32) (J0 : Nat → Int64) (ft : Nat) (v : Int32) (hft : I0 0 = nI ft) (h200 : ft ≤ 200) (hv : ¬ (0 ≤ v.toInt ∧ v.toInt < (ft : Int))) : Met l yX11_is (.code yX11_is cX11_is 2 (some .boolean) :: ws0) ({ frames := 1, cells := 0, slots := 0, locals := 21 } : Room) (va_Pc [.ref k0, .int v] (zPre (dC, dI) classes (zTy cI cZ cF) [(om k0 a I0 J0)] sz zXN)) (zQ (some (.int 0)) (fun t => va_P (dC, dI) classes [(om k0 a I0 J0)] t.heap ∧ va_D (va_A [(om k0 a I0 J0)] sz) [(om k0 a I0 J0)]) (va_A [(om k0 a I0 J0)] sz)) 0 0 (va_A [(om k0 a I0 J0)] sz) := by
  refine Met.ofW (cc := cX11_is) (maxL := 2) (ret := (some .boolean)) (by decide) rfl ?_
  intro p e s m args below meth c s₁ B hml hv
  obtain ⟨rfl, hsz, hP, hK, hD0, hXN⟩ := hv
  have hx := B.exec
  have hb := B.bytes
  have hr := B.returns
  have hts0 := atoms_spec (ws := .code yX11_is cX11_is 2 (some .boolean) :: ws0) B.pre
  have hts : ∀ w9 ∈ ws0, w9.before ([.ref k0, .int v] : List Value).toArray s = true := fun w9 h => hts0 w9 (List.mem_cons_of_mem _ h)
  have hown : s.vm.findClass "ScaleShopModel" = some m.cls := findClass_of_methodNamed B.named
  have hlocks := B.notSynchronized
  subst hsz
  have hD := hD0.self (sz := s.heap.size)
  clear hD0
  generalize hAe : va_A [(om k0 a I0 J0)] s.heap.size = A at hD ⊢
  have hA : ∀ q : Nat, s.heap.size ≤ q → A q := fun q h => by rw [← hAe]; exact Or.inr h
  clear hAe
  have hS : va_S A s.heap s.heap [] := va_S.rf
  have hP : va_P (dC, dI) classes [(om k0 a I0 J0)] s.heap := hP
  obtain ⟨Q9, hQ9⟩ : ∃ Q9 : State → Prop, Q9 = MQ below (zQ (some (.int 0)) (fun t => va_P (dC, dI) classes [(om k0 a I0 J0)] t.heap ∧ va_D A [(om k0 a I0 J0)]) A) ([.ref k0, .int v] : List Value).toArray s 0 0 A := ⟨_, rfl⟩
  rw [← hQ9]
  have hl := lv_entry ([.ref k0, .int v]) (n := 2) (Nat.le_of_ble_eq_true rfl)
  rw [lg_entry_eq]
  generalize (lg_sl ([.ref k0, .int v]) ++ List.replicate (2 - (lg_sl ([.ref k0, .int v])).length) Slot.unset).toArray = ls at hl ⊢
  have hl : lv_has ls 2 [(0, .ref k0), (1, .int v)] := hl
  refine lv_aload_n hx hb dX11_is_0 rfl (lv_at hl 0 rfl) ?_
  refine lv_iload_n hx hb dX11_is_1 rfl (lv_at hl 1 rfl) ?_
  have hPc := hP.sub (ws' := [(om k0 a I0 J0)]) [0] rfl
  have hDc := hD.sub (ws' := [(om k0 a I0 J0)]) [0] (by decide) rfl
  have hFc := va_free (wc := [(om k0 a I0 J0)]) hD hS hA [0] rfl
  refine zcall (st1 := [.int (pI (0 ≤ v.toInt ∧ v.toInt < (ft : Int)))]) (va_runV (As := [.int v]) (rest := []) ⟨hx, hb, hml, hown, hts⟩ (k_M_isFeature l dC dI cI cZ cF s.heap.size k0 a I0 J0 ft v (by assumption) (by omega)) (cwV 1 hts (zz_gV mw_1345 mw_1347 mw_37 mw_110 mc_yX11_isFeature) rfl rfl rfl (by decide +kernel) ⟨Nat.le_of_ble_eq_true rfl, Nat.le_of_ble_eq_true rfl⟩) (zPV2 (q0 := 0) (ci := 9) hPc hDc hK hXN rfl rfl) rfl rfl hl.1 rfl (lv_room (Nat.le_of_ble_eq_true rfl)) dX11_is_2 ⟨Nat.le_of_ble_eq_true rfl, Nat.le_of_ble_eq_true rfl⟩) hS hFc hFc rfl (fun t H1 locs ht hB hk1 hS => ?_)
  obtain ⟨hP1, hD1⟩ := hB
  rw [ht] at hP1
  obtain ⟨hP, hD⟩ := va_join (wr := []) (w1 := [(om k0 a I0 J0)]) hP hD [0] [] rfl rfl (by decide) (by decide) hk1 hFc hP1 hD1
  clear hk1 hPc hDc hFc hP1 hD1 ht
  generalize H1 = H at hP hS ⊢
  have hP : va_P (dC, dI) classes [(om k0 a I0 J0)] H := hP
  have hD : va_D A [(om k0 a I0 J0)] := hD
  refine lv_if_eq (tgt := 31) hx hb dX11_is_5 (by decide) (fun c_1 => ?_) (fun c_1 => ?_)
  · have c_1 : ¬ (0 ≤ v.toInt ∧ v.toInt < (ft : Int)) := zp_0 c_1
    refine lv_iconst (v := 0) hx hb dX11_is_31 (by decide) ?_
    have hP9 := hP.sub (ws' := [(om k0 a I0 J0)]) [0] rfl
    have hD9 := hD.sub (ws' := [(om k0 a I0 J0)]) [0] (by decide) rfl
    rw [hQ9]
    exact W.zret (ty := .boolean) (v := 0) hx hb hr (rfl) (fun t ht hW => ⟨⟨rfl, by rw [ht]; exact hP9, hD9⟩, hS.F ht⟩) hS.2.2 dX11_is_32
  · have c_1 : 0 ≤ v.toInt ∧ v.toInt < (ft : Int) := zp_1 c_1
    exfalso; exact absurd (by assumption) hv
set_option maxHeartbeats 4000000 in
set_option maxRecDepth 100000 in
theorem k_M_meets_x1 (l : Launch) (dC : Nat → ClassId) (dI : Nat → Nat → Nat) (cI cZ cF : ClassId) (sz : Nat) (k0 : Nat) (a : Nat → Nat) (I0 : Nat → Int32) (J0 : Nat → Int64) (ft : Nat) (v : Int32) (w : Int32) (hft : I0 0 = nI ft) (h200 : ft ≤ 200) (hv : ¬ (0 ≤ v.toInt ∧ v.toInt < (ft : Int))) : Met l yX11_meets (.code yX11_meets cX11_meets 3 (some .boolean) :: ws0) ({ frames := 2, cells := 0, slots := 0, locals := 42 } : Room) (va_Pc [.ref k0, .int v, .int w] (zPre (dC, dI) classes (zTy cI cZ cF) [(om k0 a I0 J0)] sz zXN)) (zQ (some (.int 0)) (fun t => va_P (dC, dI) classes [(om k0 a I0 J0)] t.heap ∧ va_D (va_A [(om k0 a I0 J0)] sz) [(om k0 a I0 J0)]) (va_A [(om k0 a I0 J0)] sz)) 0 0 (va_A [(om k0 a I0 J0)] sz) := by
  refine Met.ofW (cc := cX11_meets) (maxL := 3) (ret := (some .boolean)) (by decide) rfl ?_
  intro p e s m args below meth c s₁ B hml hv
  obtain ⟨rfl, hsz, hP, hK, hD0, hXN⟩ := hv
  have hx := B.exec
  have hb := B.bytes
  have hr := B.returns
  have hts0 := atoms_spec (ws := .code yX11_meets cX11_meets 3 (some .boolean) :: ws0) B.pre
  have hts : ∀ w9 ∈ ws0, w9.before ([.ref k0, .int v, .int w] : List Value).toArray s = true := fun w9 h => hts0 w9 (List.mem_cons_of_mem _ h)
  have hown : s.vm.findClass "ScaleShopModel" = some m.cls := findClass_of_methodNamed B.named
  have hlocks := B.notSynchronized
  subst hsz
  have hD := hD0.self (sz := s.heap.size)
  clear hD0
  generalize hAe : va_A [(om k0 a I0 J0)] s.heap.size = A at hD ⊢
  have hA : ∀ q : Nat, s.heap.size ≤ q → A q := fun q h => by rw [← hAe]; exact Or.inr h
  clear hAe
  have hS : va_S A s.heap s.heap [] := va_S.rf
  have hP : va_P (dC, dI) classes [(om k0 a I0 J0)] s.heap := hP
  obtain ⟨Q9, hQ9⟩ : ∃ Q9 : State → Prop, Q9 = MQ below (zQ (some (.int 0)) (fun t => va_P (dC, dI) classes [(om k0 a I0 J0)] t.heap ∧ va_D A [(om k0 a I0 J0)]) A) ([.ref k0, .int v, .int w] : List Value).toArray s 0 0 A := ⟨_, rfl⟩
  rw [← hQ9]
  have hl := lv_entry ([.ref k0, .int v, .int w]) (n := 3) (Nat.le_of_ble_eq_true rfl)
  rw [lg_entry_eq]
  generalize (lg_sl ([.ref k0, .int v, .int w]) ++ List.replicate (3 - (lg_sl ([.ref k0, .int v, .int w])).length) Slot.unset).toArray = ls at hl ⊢
  have hl : lv_has ls 3 [(0, .ref k0), (1, .int v), (2, .int w)] := hl
  refine lv_aload_n hx hb dX11_meets_0 rfl (lv_at hl 0 rfl) ?_
  refine lv_iload_n hx hb dX11_meets_1 rfl (lv_at hl 1 rfl) ?_
  have hPc := hP.sub (ws' := [(om k0 a I0 J0)]) [0] rfl
  have hDc := hD.sub (ws' := [(om k0 a I0 J0)]) [0] (by decide) rfl
  have hFc := va_free (wc := [(om k0 a I0 J0)]) hD hS hA [0] rfl
  refine zcall (st1 := [.int 0]) (va_runV (As := [.int v]) (rest := []) ⟨hx, hb, hml, hown, hts⟩ (k_M_is_x l dC dI cI cZ cF s.heap.size k0 a I0 J0 ft v (by assumption) (by omega) (by assumption)) (cwV 1 hts (zz_gV mw_1447 mw_1449 mw_56 mw_110 mc_yX11_is) rfl rfl rfl (by decide +kernel) ⟨Nat.le_of_ble_eq_true rfl, Nat.le_of_ble_eq_true rfl⟩) (zPV2 (q0 := 0) (ci := 9) hPc hDc hK hXN rfl rfl) rfl rfl hl.1 rfl (lv_room (Nat.le_of_ble_eq_true rfl)) dX11_meets_2 ⟨Nat.le_of_ble_eq_true rfl, Nat.le_of_ble_eq_true rfl⟩) hS hFc hFc rfl (fun t H1 locs ht hB hk1 hS => ?_)
  obtain ⟨hP1, hD1⟩ := hB
  rw [ht] at hP1
  obtain ⟨hP, hD⟩ := va_join (wr := []) (w1 := [(om k0 a I0 J0)]) hP hD [0] [] rfl rfl (by decide) (by decide) hk1 hFc hP1 hD1
  clear hk1 hPc hDc hFc hP1 hD1 ht
  generalize H1 = H at hP hS ⊢
  have hP : va_P (dC, dI) classes [(om k0 a I0 J0)] H := hP
  have hD : va_D A [(om k0 a I0 J0)] := hD
  refine lv_if_eq (tgt := 29) hx hb dX11_meets_5 (by decide) (fun c_1 => ?_) (fun c_1 => ?_)
  · refine lv_iconst (v := 0) hx hb dX11_meets_29 (by decide) ?_
    have hP9 := hP.sub (ws' := [(om k0 a I0 J0)]) [0] rfl
    have hD9 := hD.sub (ws' := [(om k0 a I0 J0)]) [0] (by decide) rfl
    rw [hQ9]
    exact W.zret (ty := .boolean) (v := 0) hx hb hr (rfl) (fun t ht hW => ⟨⟨rfl, by rw [ht]; exact hP9, hD9⟩, hS.F ht⟩) hS.2.2 dX11_meets_30
  · exact absurd (by decide) c_1
set_option maxHeartbeats 4000000 in
set_option maxRecDepth 100000 in
theorem k_M_meets_x2 (l : Launch) (dC : Nat → ClassId) (dI : Nat → Nat → Nat) (cI cZ cF : ClassId) (sz : Nat) (k0 : Nat) (a : Nat → Nat) (I0 : Nat → Int32) (J0 : Nat → Int64) (f : Nat) (ft : Nat) (v : Int32) (st : Nat → Int32) (tn : Nat → Int32) (hft : I0 0 = nI ft) (h200 : ft ≤ 200) (hv : ¬ (0 ≤ v.toInt ∧ v.toInt < (ft : Int))) (hf_t : f < ft) : Met l yX11_meets (.code yX11_meets cX11_meets 3 (some .boolean) :: ws0) ({ frames := 2, cells := 0, slots := 0, locals := 42 } : Room) (va_Pc [.ref k0, .int (nI f), .int v] (zPre (dC, dI) classes (zTy cI cZ cF) [(om k0 a I0 J0), (oa (a 5) cI 201 st), (oa (a 6) cZ 201 tn)] sz zXN)) (zQ (some (.int 0)) (fun t => va_P (dC, dI) classes [(om k0 a I0 J0), (oa (a 5) cI 201 st), (oa (a 6) cZ 201 tn)] t.heap ∧ va_D (va_A [(om k0 a I0 J0), (oa (a 5) cI 201 st), (oa (a 6) cZ 201 tn)] sz) [(om k0 a I0 J0), (oa (a 5) cI 201 st), (oa (a 6) cZ 201 tn)]) (va_A [(om k0 a I0 J0), (oa (a 5) cI 201 st), (oa (a 6) cZ 201 tn)] sz)) 0 0 (va_A [(om k0 a I0 J0), (oa (a 5) cI 201 st), (oa (a 6) cZ 201 tn)] sz) := by
  refine Met.ofW (cc := cX11_meets) (maxL := 3) (ret := (some .boolean)) (by decide) rfl ?_
  intro p e s m args below meth c s₁ B hml hv
  obtain ⟨rfl, hsz, hP, hK, hD0, hXN⟩ := hv
  have hx := B.exec
  have hb := B.bytes
  have hr := B.returns
  have hts0 := atoms_spec (ws := .code yX11_meets cX11_meets 3 (some .boolean) :: ws0) B.pre
  have hts : ∀ w9 ∈ ws0, w9.before ([.ref k0, .int (nI f), .int v] : List Value).toArray s = true := fun w9 h => hts0 w9 (List.mem_cons_of_mem _ h)
  have hown : s.vm.findClass "ScaleShopModel" = some m.cls := findClass_of_methodNamed B.named
  have hlocks := B.notSynchronized
  subst hsz
  have hD := hD0.self (sz := s.heap.size)
  clear hD0
  generalize hAe : va_A [(om k0 a I0 J0), (oa (a 5) cI 201 st), (oa (a 6) cZ 201 tn)] s.heap.size = A at hD ⊢
  have hA : ∀ q : Nat, s.heap.size ≤ q → A q := fun q h => by rw [← hAe]; exact Or.inr h
  clear hAe
  have hS : va_S A s.heap s.heap [] := va_S.rf
  have hP : va_P (dC, dI) classes [(om k0 a I0 J0), (oa (a 5) cI 201 st), (oa (a 6) cZ 201 tn)] s.heap := hP
  obtain ⟨Q9, hQ9⟩ : ∃ Q9 : State → Prop, Q9 = MQ below (zQ (some (.int 0)) (fun t => va_P (dC, dI) classes [(om k0 a I0 J0), (oa (a 5) cI 201 st), (oa (a 6) cZ 201 tn)] t.heap ∧ va_D A [(om k0 a I0 J0), (oa (a 5) cI 201 st), (oa (a 6) cZ 201 tn)]) A) ([.ref k0, .int (nI f), .int v] : List Value).toArray s 0 0 A := ⟨_, rfl⟩
  rw [← hQ9]
  have hl := lv_entry ([.ref k0, .int (nI f), .int v]) (n := 3) (Nat.le_of_ble_eq_true rfl)
  rw [lg_entry_eq]
  generalize (lg_sl ([.ref k0, .int (nI f), .int v]) ++ List.replicate (3 - (lg_sl ([.ref k0, .int (nI f), .int v])).length) Slot.unset).toArray = ls at hl ⊢
  have hl : lv_has ls 3 [(0, .ref k0), (1, .int (nI f)), (2, .int v)] := hl
  refine lv_aload_n hx hb dX11_meets_0 rfl (lv_at hl 0 rfl) ?_
  refine lv_iload_n hx hb dX11_meets_1 rfl (lv_at hl 1 rfl) ?_
  have hPc := hP.sub (ws' := [(om k0 a I0 J0), (oa (a 5) cI 201 st), (oa (a 6) cZ 201 tn)]) [0, 1, 2] rfl
  have hDc := hD.sub (ws' := [(om k0 a I0 J0), (oa (a 5) cI 201 st), (oa (a 6) cZ 201 tn)]) [0, 1, 2] (by decide) rfl
  have hFc := va_free (wc := [(om k0 a I0 J0), (oa (a 5) cI 201 st), (oa (a 6) cZ 201 tn)]) hD hS hA [0, 1, 2] rfl
  refine zcall (st1 := [.int (pI (f < ft ∧ (st f).toInt = 1 ∧ (tn f).toInt = 0))]) (va_runV (As := [.int (nI f)]) (rest := []) ⟨hx, hb, hml, hown, hts⟩ (k_M_is_n l dC dI cI cZ cF s.heap.size k0 a I0 J0 f ft st tn (by assumption) (by omega) (by omega)) (cwV 1 hts (zz_gV mw_1447 mw_1449 mw_56 mw_110 mc_yX11_is) rfl rfl rfl (by decide +kernel) ⟨Nat.le_of_ble_eq_true rfl, Nat.le_of_ble_eq_true rfl⟩) (zPV2 (q0 := 0) (ci := 9) hPc hDc hK hXN rfl rfl) rfl rfl hl.1 rfl (lv_room (Nat.le_of_ble_eq_true rfl)) dX11_meets_2 ⟨Nat.le_of_ble_eq_true rfl, Nat.le_of_ble_eq_true rfl⟩) hS hFc hFc rfl (fun t H1 locs ht hB hk1 hS => ?_)
  obtain ⟨hP1, hD1⟩ := hB
  rw [ht] at hP1
  obtain ⟨hP, hD⟩ := va_join (wr := []) (w1 := [(om k0 a I0 J0), (oa (a 5) cI 201 st), (oa (a 6) cZ 201 tn)]) hP hD [0, 1, 2] [] rfl rfl (by decide) (by decide) hk1 hFc hP1 hD1
  clear hk1 hPc hDc hFc hP1 hD1 ht
  generalize H1 = H at hP hS ⊢
  have hP : va_P (dC, dI) classes [(om k0 a I0 J0), (oa (a 5) cI 201 st), (oa (a 6) cZ 201 tn)] H := hP
  have hD : va_D A [(om k0 a I0 J0), (oa (a 5) cI 201 st), (oa (a 6) cZ 201 tn)] := hD
  refine lv_if_eq (tgt := 29) hx hb dX11_meets_5 (by decide) (fun c_1 => ?_) (fun c_1 => ?_)
  · have c_1 : ¬ (f < ft ∧ (st f).toInt = 1 ∧ (tn f).toInt = 0) := zp_0 c_1
    refine lv_iconst (v := 0) hx hb dX11_meets_29 (by decide) ?_
    have hP9 := hP.sub (ws' := [(om k0 a I0 J0), (oa (a 5) cI 201 st), (oa (a 6) cZ 201 tn)]) [0, 1, 2] rfl
    have hD9 := hD.sub (ws' := [(om k0 a I0 J0), (oa (a 5) cI 201 st), (oa (a 6) cZ 201 tn)]) [0, 1, 2] (by decide) rfl
    rw [hQ9]
    exact W.zret (ty := .boolean) (v := 0) hx hb hr (rfl) (fun t ht hW => ⟨⟨rfl, by rw [ht]; exact hP9, hD9⟩, hS.F ht⟩) hS.2.2 dX11_meets_30
  · have c_1 : f < ft ∧ (st f).toInt = 1 ∧ (tn f).toInt = 0 := zp_1 c_1
    refine lv_aload_n hx hb dX11_meets_8 rfl (lv_at hl 0 rfl) ?_
    refine lv_iload_n hx hb dX11_meets_9 rfl (lv_at hl 2 rfl) ?_
    have hPc := hP.sub (ws' := [(om k0 a I0 J0)]) [0] rfl
    have hDc := hD.sub (ws' := [(om k0 a I0 J0)]) [0] (by decide) rfl
    have hFc := va_free (wc := [(om k0 a I0 J0)]) hD hS hA [0] rfl
    refine zcall (st1 := [.int 0]) (va_runV (As := [.int v]) (rest := []) ⟨hx, hb, hml, hown, hts⟩ (k_M_is_x l dC dI cI cZ cF H.size k0 a I0 J0 ft v (by assumption) (by omega) (by assumption)) (cwV 1 hts (zz_gV mw_1447 mw_1449 mw_56 mw_110 mc_yX11_is) rfl rfl rfl (by decide +kernel) ⟨Nat.le_of_ble_eq_true rfl, Nat.le_of_ble_eq_true rfl⟩) (zPV2 (q0 := 0) (ci := 9) hPc hDc hK hXN rfl rfl) rfl rfl hl.1 rfl (lv_room (Nat.le_of_ble_eq_true rfl)) dX11_meets_10 ⟨Nat.le_of_ble_eq_true rfl, Nat.le_of_ble_eq_true rfl⟩) hS hFc hFc rfl (fun t H1 locs ht hB hk1 hS => ?_)
    obtain ⟨hP1, hD1⟩ := hB
    rw [ht] at hP1
    obtain ⟨hP, hD⟩ := va_join (wr := [(oa (a 5) cI 201 st), (oa (a 6) cZ 201 tn)]) (w1 := [(om k0 a I0 J0)]) hP hD [0] [1, 2] rfl rfl (by decide) (by decide) hk1 hFc hP1 hD1
    clear hk1 hPc hDc hFc hP1 hD1 ht
    generalize H1 = H at hP hS ⊢
    have hP := hP.sub (ws' := [(om k0 a I0 J0), (oa (a 5) cI 201 st), (oa (a 6) cZ 201 tn)]) [2, 0, 1] rfl
    have hD := hD.sub (ws' := [(om k0 a I0 J0), (oa (a 5) cI 201 st), (oa (a 6) cZ 201 tn)]) [2, 0, 1] (by decide) rfl
    have hP : va_P (dC, dI) classes [(om k0 a I0 J0), (oa (a 5) cI 201 st), (oa (a 6) cZ 201 tn)] H := hP
    have hD : va_D A [(om k0 a I0 J0), (oa (a 5) cI 201 st), (oa (a 6) cZ 201 tn)] := hD
    refine lv_if_eq (tgt := 29) hx hb dX11_meets_13 (by decide) (fun c_2 => ?_) (fun c_2 => ?_)
    · refine lv_iconst (v := 0) hx hb dX11_meets_29 (by decide) ?_
      have hP9 := hP.sub (ws' := [(om k0 a I0 J0), (oa (a 5) cI 201 st), (oa (a 6) cZ 201 tn)]) [0, 1, 2] rfl
      have hD9 := hD.sub (ws' := [(om k0 a I0 J0), (oa (a 5) cI 201 st), (oa (a 6) cZ 201 tn)]) [0, 1, 2] (by decide) rfl
      rw [hQ9]
      exact W.zret (ty := .boolean) (v := 0) hx hb hr (rfl) (fun t ht hW => ⟨⟨rfl, by rw [ht]; exact hP9, hD9⟩, hS.F ht⟩) hS.2.2 dX11_meets_30
    · exact absurd (by decide) c_2
set_option maxHeartbeats 4000000 in
set_option maxRecDepth 100000 in
theorem k_M_meets (l : Launch) (dC : Nat → ClassId) (dI : Nat → Nat → Nat) (cI cZ cF : ClassId) (sz : Nat) (k0 : Nat) (a : Nat → Nat) (I0 : Nat → Int32) (J0 : Nat → Int64) (f : Nat) (g : Nat) (ft : Nat) (st : Nat → Int32) (tn : Nat → Int32) (kd : Nat → Int32) (mn : Nat → Int32) (cx : Nat → Int32) (cy : Nat → Int32) (S0 : Nat → Int32) (hft : I0 0 = nI ft) (h200 : ft ≤ 200) (hwf : ∀ q, lvF ft st tn q → wfM mn cx cy q) (hf_t : f < ft) (hg_t : g < ft) : Met l yX11_meets (.code yX11_meets cX11_meets 3 (some .boolean) :: ws0) ({ frames := 4, cells := 0, slots := 0, locals := 105 } : Room) (va_Pc [.ref k0, .int (nI f), .int (nI g)] (zPre (dC, dI) classes (zTy cI cZ cF) [(om k0 a I0 J0), (oa (a 5) cI 201 st), (oa (a 6) cZ 201 tn), (oa (a 1) cI 201 kd), (oa (a 11) cI 201 mn), (oa (a 12) cI 8040 cx), (oa (a 13) cI 8040 cy), (oa (a 32) cI 8 S0)] sz zXN)) (zQ (some (.int (pI (lvF ft st tn f ∧ lvF ft st tn g ∧ mtF (kd f).toInt (nN (mn f)) (cF40 cx f) (cF40 cy f) (kd g).toInt (nN (mn g)) (cF40 cx g) (cF40 cy g))))) (fun t => ∃ (S1 : Nat → Int32), va_P (dC, dI) classes [(om k0 a I0 J0), (oa (a 5) cI 201 st), (oa (a 6) cZ 201 tn), (oa (a 1) cI 201 kd), (oa (a 11) cI 201 mn), (oa (a 12) cI 8040 cx), (oa (a 13) cI 8040 cy), (oa (a 32) cI 8 S1)] t.heap ∧ va_D (va_A [(om k0 a I0 J0), (oa (a 5) cI 201 st), (oa (a 6) cZ 201 tn), (oa (a 1) cI 201 kd), (oa (a 11) cI 201 mn), (oa (a 12) cI 8040 cx), (oa (a 13) cI 8040 cy), (oa (a 32) cI 8 S0)] sz) [(om k0 a I0 J0), (oa (a 5) cI 201 st), (oa (a 6) cZ 201 tn), (oa (a 1) cI 201 kd), (oa (a 11) cI 201 mn), (oa (a 12) cI 8040 cx), (oa (a 13) cI 8040 cy), (oa (a 32) cI 8 S1)]) (va_A [(om k0 a I0 J0), (oa (a 5) cI 201 st), (oa (a 6) cZ 201 tn), (oa (a 1) cI 201 kd), (oa (a 11) cI 201 mn), (oa (a 12) cI 8040 cx), (oa (a 13) cI 8040 cy), (oa (a 32) cI 8 S0)] sz)) 0 0 (va_A [(om k0 a I0 J0), (oa (a 5) cI 201 st), (oa (a 6) cZ 201 tn), (oa (a 1) cI 201 kd), (oa (a 11) cI 201 mn), (oa (a 12) cI 8040 cx), (oa (a 13) cI 8040 cy), (oa (a 32) cI 8 S0)] sz) := by
  refine Met.ofW (cc := cX11_meets) (maxL := 3) (ret := (some .boolean)) (by decide) rfl ?_
  intro p e s m args below meth c s₁ B hml hv
  obtain ⟨rfl, hsz, hP, hK, hD0, hXN⟩ := hv
  have hx := B.exec
  have hb := B.bytes
  have hr := B.returns
  have hts0 := atoms_spec (ws := .code yX11_meets cX11_meets 3 (some .boolean) :: ws0) B.pre
  have hts : ∀ w9 ∈ ws0, w9.before ([.ref k0, .int (nI f), .int (nI g)] : List Value).toArray s = true := fun w9 h => hts0 w9 (List.mem_cons_of_mem _ h)
  have hown : s.vm.findClass "ScaleShopModel" = some m.cls := findClass_of_methodNamed B.named
  have hlocks := B.notSynchronized
  subst hsz
  have hD := hD0.self (sz := s.heap.size)
  clear hD0
  generalize hAe : va_A [(om k0 a I0 J0), (oa (a 5) cI 201 st), (oa (a 6) cZ 201 tn), (oa (a 1) cI 201 kd), (oa (a 11) cI 201 mn), (oa (a 12) cI 8040 cx), (oa (a 13) cI 8040 cy), (oa (a 32) cI 8 S0)] s.heap.size = A at hD ⊢
  have hA : ∀ q : Nat, s.heap.size ≤ q → A q := fun q h => by rw [← hAe]; exact Or.inr h
  clear hAe
  have hS : va_S A s.heap s.heap [] := va_S.rf
  have hP : va_P (dC, dI) classes [(om k0 a I0 J0), (oa (a 5) cI 201 st), (oa (a 6) cZ 201 tn), (oa (a 1) cI 201 kd), (oa (a 11) cI 201 mn), (oa (a 12) cI 8040 cx), (oa (a 13) cI 8040 cy), (oa (a 32) cI 8 S0)] s.heap := hP
  obtain ⟨Q9, hQ9⟩ : ∃ Q9 : State → Prop, Q9 = MQ below (zQ (some (.int (pI (lvF ft st tn f ∧ lvF ft st tn g ∧ mtF (kd f).toInt (nN (mn f)) (cF40 cx f) (cF40 cy f) (kd g).toInt (nN (mn g)) (cF40 cx g) (cF40 cy g))))) (fun t => ∃ (S1 : Nat → Int32), va_P (dC, dI) classes [(om k0 a I0 J0), (oa (a 5) cI 201 st), (oa (a 6) cZ 201 tn), (oa (a 1) cI 201 kd), (oa (a 11) cI 201 mn), (oa (a 12) cI 8040 cx), (oa (a 13) cI 8040 cy), (oa (a 32) cI 8 S1)] t.heap ∧ va_D A [(om k0 a I0 J0), (oa (a 5) cI 201 st), (oa (a 6) cZ 201 tn), (oa (a 1) cI 201 kd), (oa (a 11) cI 201 mn), (oa (a 12) cI 8040 cx), (oa (a 13) cI 8040 cy), (oa (a 32) cI 8 S1)]) A) ([.ref k0, .int (nI f), .int (nI g)] : List Value).toArray s 0 0 A := ⟨_, rfl⟩
  rw [← hQ9]
  have hl := lv_entry ([.ref k0, .int (nI f), .int (nI g)]) (n := 3) (Nat.le_of_ble_eq_true rfl)
  rw [lg_entry_eq]
  generalize (lg_sl ([.ref k0, .int (nI f), .int (nI g)]) ++ List.replicate (3 - (lg_sl ([.ref k0, .int (nI f), .int (nI g)])).length) Slot.unset).toArray = ls at hl ⊢
  have hl : lv_has ls 3 [(0, .ref k0), (1, .int (nI f)), (2, .int (nI g))] := hl
  refine lv_aload_n hx hb dX11_meets_0 rfl (lv_at hl 0 rfl) ?_
  refine lv_iload_n hx hb dX11_meets_1 rfl (lv_at hl 1 rfl) ?_
  have hPc := hP.sub (ws' := [(om k0 a I0 J0), (oa (a 5) cI 201 st), (oa (a 6) cZ 201 tn)]) [0, 1, 2] rfl
  have hDc := hD.sub (ws' := [(om k0 a I0 J0), (oa (a 5) cI 201 st), (oa (a 6) cZ 201 tn)]) [0, 1, 2] (by decide) rfl
  have hFc := va_free (wc := [(om k0 a I0 J0), (oa (a 5) cI 201 st), (oa (a 6) cZ 201 tn)]) hD hS hA [0, 1, 2] rfl
  refine zcall (st1 := [.int (pI (f < ft ∧ (st f).toInt = 1 ∧ (tn f).toInt = 0))]) (va_runV (As := [.int (nI f)]) (rest := []) ⟨hx, hb, hml, hown, hts⟩ (k_M_is_n l dC dI cI cZ cF s.heap.size k0 a I0 J0 f ft st tn (by assumption) (by omega) (by omega)) (cwV 1 hts (zz_gV mw_1447 mw_1449 mw_56 mw_110 mc_yX11_is) rfl rfl rfl (by decide +kernel) ⟨Nat.le_of_ble_eq_true rfl, Nat.le_of_ble_eq_true rfl⟩) (zPV2 (q0 := 0) (ci := 9) hPc hDc hK hXN rfl rfl) rfl rfl hl.1 rfl (lv_room (Nat.le_of_ble_eq_true rfl)) dX11_meets_2 ⟨Nat.le_of_ble_eq_true rfl, Nat.le_of_ble_eq_true rfl⟩) hS hFc hFc rfl (fun t H1 locs ht hB hk1 hS => ?_)
  obtain ⟨hP1, hD1⟩ := hB
  rw [ht] at hP1
  obtain ⟨hP, hD⟩ := va_join (wr := [(oa (a 1) cI 201 kd), (oa (a 11) cI 201 mn), (oa (a 12) cI 8040 cx), (oa (a 13) cI 8040 cy), (oa (a 32) cI 8 S0)]) (w1 := [(om k0 a I0 J0), (oa (a 5) cI 201 st), (oa (a 6) cZ 201 tn)]) hP hD [0, 1, 2] [3, 4, 5, 6, 7] rfl rfl (by decide) (by decide) hk1 hFc hP1 hD1
  clear hk1 hPc hDc hFc hP1 hD1 ht
  generalize H1 = H at hP hS ⊢
  have hP := hP.sub (ws' := [(om k0 a I0 J0), (oa (a 5) cI 201 st), (oa (a 6) cZ 201 tn), (oa (a 1) cI 201 kd), (oa (a 11) cI 201 mn), (oa (a 12) cI 8040 cx), (oa (a 13) cI 8040 cy), (oa (a 32) cI 8 S0)]) [5, 6, 7, 0, 1, 2, 3, 4] rfl
  have hD := hD.sub (ws' := [(om k0 a I0 J0), (oa (a 5) cI 201 st), (oa (a 6) cZ 201 tn), (oa (a 1) cI 201 kd), (oa (a 11) cI 201 mn), (oa (a 12) cI 8040 cx), (oa (a 13) cI 8040 cy), (oa (a 32) cI 8 S0)]) [5, 6, 7, 0, 1, 2, 3, 4] (by decide) rfl
  have hP : va_P (dC, dI) classes [(om k0 a I0 J0), (oa (a 5) cI 201 st), (oa (a 6) cZ 201 tn), (oa (a 1) cI 201 kd), (oa (a 11) cI 201 mn), (oa (a 12) cI 8040 cx), (oa (a 13) cI 8040 cy), (oa (a 32) cI 8 S0)] H := hP
  have hD : va_D A [(om k0 a I0 J0), (oa (a 5) cI 201 st), (oa (a 6) cZ 201 tn), (oa (a 1) cI 201 kd), (oa (a 11) cI 201 mn), (oa (a 12) cI 8040 cx), (oa (a 13) cI 8040 cy), (oa (a 32) cI 8 S0)] := hD
  refine lv_if_eq (tgt := 29) hx hb dX11_meets_5 (by decide) (fun c_1 => ?_) (fun c_1 => ?_)
  · have c_1 : ¬ (f < ft ∧ (st f).toInt = 1 ∧ (tn f).toInt = 0) := zp_0 c_1
    refine lv_iconst (v := 0) hx hb dX11_meets_29 (by decide) ?_
    have hP9 := hP.sub (ws' := [(om k0 a I0 J0), (oa (a 5) cI 201 st), (oa (a 6) cZ 201 tn), (oa (a 1) cI 201 kd), (oa (a 11) cI 201 mn), (oa (a 12) cI 8040 cx), (oa (a 13) cI 8040 cy), (oa (a 32) cI 8 S0)]) [0, 1, 2, 3, 4, 5, 6, 7] rfl
    have hD9 := hD.sub (ws' := [(om k0 a I0 J0), (oa (a 5) cI 201 st), (oa (a 6) cZ 201 tn), (oa (a 1) cI 201 kd), (oa (a 11) cI 201 mn), (oa (a 12) cI 8040 cx), (oa (a 13) cI 8040 cy), (oa (a 32) cI 8 S0)]) [0, 1, 2, 3, 4, 5, 6, 7] (by decide) rfl
    rw [hQ9]
    exact W.zret (ty := .boolean) (v := 0) hx hb hr (rfl) (fun t ht hW => ⟨⟨congrArg (fun z => Outcome.returned (some (Value.int z))) (show (0 : Int32) = pI (lvF ft st tn f ∧ lvF ft st tn g ∧ mtF (kd f).toInt (nN (mn f)) (cF40 cx f) (cF40 cy f) (kd g).toInt (nN (mn g)) (cF40 cx g) (cF40 cy g)) from (zp_f (by first | exact ⟨by assumption, by assumption, by assumption⟩ | exact fun h => absurd h.1 (by assumption) | exact fun h => absurd h.2.1 (by assumption) | exact fun h => absurd h.2.2 (by assumption))).symm), S0, by rw [ht]; exact hP9, hD9⟩, hS.F ht⟩) hS.2.2 dX11_meets_30
  · have c_1 : f < ft ∧ (st f).toInt = 1 ∧ (tn f).toInt = 0 := zp_1 c_1
    have hw_ff := hwf f (by assumption)
    have hm_ff := hw_ff.1
    have hn_ff := hw_ff.2.1
    have hp_ff := hw_ff.2.2
    refine lv_aload_n hx hb dX11_meets_8 rfl (lv_at hl 0 rfl) ?_
    refine lv_iload_n hx hb dX11_meets_9 rfl (lv_at hl 2 rfl) ?_
    have hPc := hP.sub (ws' := [(om k0 a I0 J0), (oa (a 5) cI 201 st), (oa (a 6) cZ 201 tn)]) [0, 1, 2] rfl
    have hDc := hD.sub (ws' := [(om k0 a I0 J0), (oa (a 5) cI 201 st), (oa (a 6) cZ 201 tn)]) [0, 1, 2] (by decide) rfl
    have hFc := va_free (wc := [(om k0 a I0 J0), (oa (a 5) cI 201 st), (oa (a 6) cZ 201 tn)]) hD hS hA [0, 1, 2] rfl
    refine zcall (st1 := [.int (pI (g < ft ∧ (st g).toInt = 1 ∧ (tn g).toInt = 0))]) (va_runV (As := [.int (nI g)]) (rest := []) ⟨hx, hb, hml, hown, hts⟩ (k_M_is_n l dC dI cI cZ cF H.size k0 a I0 J0 g ft st tn (by assumption) (by omega) (by omega)) (cwV 1 hts (zz_gV mw_1447 mw_1449 mw_56 mw_110 mc_yX11_is) rfl rfl rfl (by decide +kernel) ⟨Nat.le_of_ble_eq_true rfl, Nat.le_of_ble_eq_true rfl⟩) (zPV2 (q0 := 0) (ci := 9) hPc hDc hK hXN rfl rfl) rfl rfl hl.1 rfl (lv_room (Nat.le_of_ble_eq_true rfl)) dX11_meets_10 ⟨Nat.le_of_ble_eq_true rfl, Nat.le_of_ble_eq_true rfl⟩) hS hFc hFc rfl (fun t H1 locs ht hB hk1 hS => ?_)
    obtain ⟨hP1, hD1⟩ := hB
    rw [ht] at hP1
    obtain ⟨hP, hD⟩ := va_join (wr := [(oa (a 1) cI 201 kd), (oa (a 11) cI 201 mn), (oa (a 12) cI 8040 cx), (oa (a 13) cI 8040 cy), (oa (a 32) cI 8 S0)]) (w1 := [(om k0 a I0 J0), (oa (a 5) cI 201 st), (oa (a 6) cZ 201 tn)]) hP hD [0, 1, 2] [3, 4, 5, 6, 7] rfl rfl (by decide) (by decide) hk1 hFc hP1 hD1
    clear hk1 hPc hDc hFc hP1 hD1 ht
    generalize H1 = H at hP hS ⊢
    have hP := hP.sub (ws' := [(om k0 a I0 J0), (oa (a 5) cI 201 st), (oa (a 6) cZ 201 tn), (oa (a 1) cI 201 kd), (oa (a 11) cI 201 mn), (oa (a 12) cI 8040 cx), (oa (a 13) cI 8040 cy), (oa (a 32) cI 8 S0)]) [5, 6, 7, 0, 1, 2, 3, 4] rfl
    have hD := hD.sub (ws' := [(om k0 a I0 J0), (oa (a 5) cI 201 st), (oa (a 6) cZ 201 tn), (oa (a 1) cI 201 kd), (oa (a 11) cI 201 mn), (oa (a 12) cI 8040 cx), (oa (a 13) cI 8040 cy), (oa (a 32) cI 8 S0)]) [5, 6, 7, 0, 1, 2, 3, 4] (by decide) rfl
    have hP : va_P (dC, dI) classes [(om k0 a I0 J0), (oa (a 5) cI 201 st), (oa (a 6) cZ 201 tn), (oa (a 1) cI 201 kd), (oa (a 11) cI 201 mn), (oa (a 12) cI 8040 cx), (oa (a 13) cI 8040 cy), (oa (a 32) cI 8 S0)] H := hP
    have hD : va_D A [(om k0 a I0 J0), (oa (a 5) cI 201 st), (oa (a 6) cZ 201 tn), (oa (a 1) cI 201 kd), (oa (a 11) cI 201 mn), (oa (a 12) cI 8040 cx), (oa (a 13) cI 8040 cy), (oa (a 32) cI 8 S0)] := hD
    refine lv_if_eq (tgt := 29) hx hb dX11_meets_13 (by decide) (fun c_2 => ?_) (fun c_2 => ?_)
    · have c_2 : ¬ (g < ft ∧ (st g).toInt = 1 ∧ (tn g).toInt = 0) := zp_0 c_2
      refine lv_iconst (v := 0) hx hb dX11_meets_29 (by decide) ?_
      have hP9 := hP.sub (ws' := [(om k0 a I0 J0), (oa (a 5) cI 201 st), (oa (a 6) cZ 201 tn), (oa (a 1) cI 201 kd), (oa (a 11) cI 201 mn), (oa (a 12) cI 8040 cx), (oa (a 13) cI 8040 cy), (oa (a 32) cI 8 S0)]) [0, 1, 2, 3, 4, 5, 6, 7] rfl
      have hD9 := hD.sub (ws' := [(om k0 a I0 J0), (oa (a 5) cI 201 st), (oa (a 6) cZ 201 tn), (oa (a 1) cI 201 kd), (oa (a 11) cI 201 mn), (oa (a 12) cI 8040 cx), (oa (a 13) cI 8040 cy), (oa (a 32) cI 8 S0)]) [0, 1, 2, 3, 4, 5, 6, 7] (by decide) rfl
      rw [hQ9]
      exact W.zret (ty := .boolean) (v := 0) hx hb hr (rfl) (fun t ht hW => ⟨⟨congrArg (fun z => Outcome.returned (some (Value.int z))) (show (0 : Int32) = pI (lvF ft st tn f ∧ lvF ft st tn g ∧ mtF (kd f).toInt (nN (mn f)) (cF40 cx f) (cF40 cy f) (kd g).toInt (nN (mn g)) (cF40 cx g) (cF40 cy g)) from (zp_f (by first | exact ⟨by assumption, by assumption, by assumption⟩ | exact fun h => absurd h.1 (by assumption) | exact fun h => absurd h.2.1 (by assumption) | exact fun h => absurd h.2.2 (by assumption))).symm), S0, by rw [ht]; exact hP9, hD9⟩, hS.F ht⟩) hS.2.2 dX11_meets_30
    · have c_2 : g < ft ∧ (st g).toInt = 1 ∧ (tn g).toInt = 0 := zp_1 c_2
      have hw_gg := hwf g (by assumption)
      have hm_gg := hw_gg.1
      have hn_gg := hw_gg.2.1
      have hp_gg := hw_gg.2.2
      refine lv_aload_n hx hb dX11_meets_16 rfl (lv_at hl 0 rfl) ?_
      refine lv_iload_n hx hb dX11_meets_17 rfl (lv_at hl 1 rfl) ?_
      refine lv_iload_n hx hb dX11_meets_18 rfl (lv_at hl 2 rfl) ?_
      have hPc := hP.sub (ws' := [(om k0 a I0 J0), (oa (a 1) cI 201 kd), (oa (a 11) cI 201 mn), (oa (a 12) cI 8040 cx), (oa (a 13) cI 8040 cy), (oa (a 32) cI 8 S0)]) [0, 3, 4, 5, 6, 7] rfl
      have hDc := hD.sub (ws' := [(om k0 a I0 J0), (oa (a 1) cI 201 kd), (oa (a 11) cI 201 mn), (oa (a 12) cI 8040 cx), (oa (a 13) cI 8040 cy), (oa (a 32) cI 8 S0)]) [0, 3, 4, 5, 6, 7] (by decide) rfl
      have hFc := va_free (wc := [(om k0 a I0 J0), (oa (a 1) cI 201 kd), (oa (a 11) cI 201 mn), (oa (a 12) cI 8040 cx), (oa (a 13) cI 8040 cy), (oa (a 32) cI 8 S0)]) hD hS hA [0, 3, 4, 5, 6, 7] rfl
      refine zcall (st1 := [.int (pI (∃ i, i < eO (kd f).toInt (nN (mn f)) ∧ ∃ j, j < eO (kd g).toInt (nN (mn g)) ∧ eMt (nN (mn f)) (cF40 cx f) (cF40 cy f) i (nN (mn g)) (cF40 cx g) (cF40 cy g) j))]) (va_runV (As := [.int (nI f), .int (nI g)]) (rest := []) ⟨hx, hb, hml, hown, hts⟩ (k_M_isMet l dC dI cI cZ cF H.size k0 a I0 J0 f (nN (mn f)) g (nN (mn g)) kd mn cx cy S0 (by omega) (by assumption) (by omega) (by assumption) (by omega) (by assumption) (by omega) (by assumption)) (cwV 2 hts (zz_gV mw_1467 mw_1469 mw_61 mw_110 mc_yX11_isMet) rfl rfl rfl (by decide +kernel) ⟨Nat.le_of_ble_eq_true rfl, Nat.le_of_ble_eq_true rfl⟩) (zPV2 (q0 := 0) (ci := 9) hPc hDc hK hXN rfl rfl) rfl rfl hl.1 rfl (lv_room (Nat.le_of_ble_eq_true rfl)) dX11_meets_19 ⟨Nat.le_of_ble_eq_true rfl, Nat.le_of_ble_eq_true rfl⟩) hS hFc hFc rfl (fun t H1 locs ht hB hk1 hS => ?_)
      obtain ⟨q_3, hP1, hD1⟩ := hB
      rw [ht] at hP1
      obtain ⟨hP, hD⟩ := va_join (wr := [(oa (a 5) cI 201 st), (oa (a 6) cZ 201 tn)]) (w1 := [(om k0 a I0 J0), (oa (a 1) cI 201 kd), (oa (a 11) cI 201 mn), (oa (a 12) cI 8040 cx), (oa (a 13) cI 8040 cy), (oa (a 32) cI 8 q_3)]) hP hD [0, 3, 4, 5, 6, 7] [1, 2] rfl rfl (by decide) (by decide) hk1 hFc hP1 hD1
      clear hk1 hPc hDc hFc hP1 hD1 ht
      generalize H1 = H at hP hS ⊢
      have hP := hP.sub (ws' := [(om k0 a I0 J0), (oa (a 5) cI 201 st), (oa (a 6) cZ 201 tn), (oa (a 1) cI 201 kd), (oa (a 11) cI 201 mn), (oa (a 12) cI 8040 cx), (oa (a 13) cI 8040 cy), (oa (a 32) cI 8 q_3)]) [2, 0, 1, 3, 4, 5, 6, 7] rfl
      have hD := hD.sub (ws' := [(om k0 a I0 J0), (oa (a 5) cI 201 st), (oa (a 6) cZ 201 tn), (oa (a 1) cI 201 kd), (oa (a 11) cI 201 mn), (oa (a 12) cI 8040 cx), (oa (a 13) cI 8040 cy), (oa (a 32) cI 8 q_3)]) [2, 0, 1, 3, 4, 5, 6, 7] (by decide) rfl
      have hP : va_P (dC, dI) classes [(om k0 a I0 J0), (oa (a 5) cI 201 st), (oa (a 6) cZ 201 tn), (oa (a 1) cI 201 kd), (oa (a 11) cI 201 mn), (oa (a 12) cI 8040 cx), (oa (a 13) cI 8040 cy), (oa (a 32) cI 8 q_3)] H := hP
      have hD : va_D A [(om k0 a I0 J0), (oa (a 5) cI 201 st), (oa (a 6) cZ 201 tn), (oa (a 1) cI 201 kd), (oa (a 11) cI 201 mn), (oa (a 12) cI 8040 cx), (oa (a 13) cI 8040 cy), (oa (a 32) cI 8 q_3)] := hD
      refine zz_i (v := pI (mtF (kd f).toInt (nN (mn f)) (cF40 cx f) (cF40 cy f) (kd g).toInt (nN (mn g)) (cF40 cx g) (cF40 cy g))) (rfl) ?_
      refine lv_if_eq (tgt := 29) hx hb dX11_meets_22 (by decide) (fun c_4 => ?_) (fun c_4 => ?_)
      · have c_4 : ¬ (mtF (kd f).toInt (nN (mn f)) (cF40 cx f) (cF40 cy f) (kd g).toInt (nN (mn g)) (cF40 cx g) (cF40 cy g)) := zp_0 c_4
        refine lv_iconst (v := 0) hx hb dX11_meets_29 (by decide) ?_
        have hP9 := hP.sub (ws' := [(om k0 a I0 J0), (oa (a 5) cI 201 st), (oa (a 6) cZ 201 tn), (oa (a 1) cI 201 kd), (oa (a 11) cI 201 mn), (oa (a 12) cI 8040 cx), (oa (a 13) cI 8040 cy), (oa (a 32) cI 8 q_3)]) [0, 1, 2, 3, 4, 5, 6, 7] rfl
        have hD9 := hD.sub (ws' := [(om k0 a I0 J0), (oa (a 5) cI 201 st), (oa (a 6) cZ 201 tn), (oa (a 1) cI 201 kd), (oa (a 11) cI 201 mn), (oa (a 12) cI 8040 cx), (oa (a 13) cI 8040 cy), (oa (a 32) cI 8 q_3)]) [0, 1, 2, 3, 4, 5, 6, 7] (by decide) rfl
        rw [hQ9]
        exact W.zret (ty := .boolean) (v := 0) hx hb hr (rfl) (fun t ht hW => ⟨⟨congrArg (fun z => Outcome.returned (some (Value.int z))) (show (0 : Int32) = pI (lvF ft st tn f ∧ lvF ft st tn g ∧ mtF (kd f).toInt (nN (mn f)) (cF40 cx f) (cF40 cy f) (kd g).toInt (nN (mn g)) (cF40 cx g) (cF40 cy g)) from (zp_f (by first | exact ⟨by assumption, by assumption, by assumption⟩ | exact fun h => absurd h.1 (by assumption) | exact fun h => absurd h.2.1 (by assumption) | exact fun h => absurd h.2.2 (by assumption))).symm), q_3, by rw [ht]; exact hP9, hD9⟩, hS.F ht⟩) hS.2.2 dX11_meets_30
      · have c_4 : mtF (kd f).toInt (nN (mn f)) (cF40 cx f) (cF40 cy f) (kd g).toInt (nN (mn g)) (cF40 cx g) (cF40 cy g) := zp_1 c_4
        refine lv_iconst (v := 1) hx hb dX11_meets_25 (by decide) ?_
        refine lv_goto (tgt := 30) hx hb dX11_meets_26 (by decide) ?_
        have hP9 := hP.sub (ws' := [(om k0 a I0 J0), (oa (a 5) cI 201 st), (oa (a 6) cZ 201 tn), (oa (a 1) cI 201 kd), (oa (a 11) cI 201 mn), (oa (a 12) cI 8040 cx), (oa (a 13) cI 8040 cy), (oa (a 32) cI 8 q_3)]) [0, 1, 2, 3, 4, 5, 6, 7] rfl
        have hD9 := hD.sub (ws' := [(om k0 a I0 J0), (oa (a 5) cI 201 st), (oa (a 6) cZ 201 tn), (oa (a 1) cI 201 kd), (oa (a 11) cI 201 mn), (oa (a 12) cI 8040 cx), (oa (a 13) cI 8040 cy), (oa (a 32) cI 8 q_3)]) [0, 1, 2, 3, 4, 5, 6, 7] (by decide) rfl
        rw [hQ9]
        exact W.zret (ty := .boolean) (v := 1) hx hb hr (rfl) (fun t ht hW => ⟨⟨congrArg (fun z => Outcome.returned (some (Value.int z))) (show (1 : Int32) = pI (lvF ft st tn f ∧ lvF ft st tn g ∧ mtF (kd f).toInt (nN (mn f)) (cF40 cx f) (cF40 cy f) (kd g).toInt (nN (mn g)) (cF40 cx g) (cF40 cy g)) from (zp_t (by first | exact ⟨by assumption, by assumption, by assumption⟩ | exact fun h => absurd h.1 (by assumption) | exact fun h => absurd h.2.1 (by assumption) | exact fun h => absurd h.2.2 (by assumption))).symm), q_3, by rw [ht]; exact hP9, hD9⟩, hS.F ht⟩) hS.2.2 dX11_meets_30
set_option maxHeartbeats 4000000 in
set_option maxRecDepth 100000 in
theorem k_M_inside_x (l : Launch) (dC : Nat → ClassId) (dI : Nat → Nat → Nat) (cI cZ cF : ClassId) (sz : Nat) (k0 : Nat) (a : Nat → Nat) (I0 : Nat → Int32) (J0 : Nat → Int64) (ft : Nat) (px : Int32) (py : Int32) (v : Int32) (hft : I0 0 = nI ft) (h200 : ft ≤ 200) (hv : ¬ (0 ≤ v.toInt ∧ v.toInt < (ft : Int))) : Met l yX11_inside (.code yX11_inside cX11_inside 4 (some .int) :: ws0) ({ frames := 2, cells := 0, slots := 0, locals := 42 } : Room) (va_Pc [.ref k0, .int px, .int py, .int v] (zPre (dC, dI) classes (zTy cI cZ cF) [(om k0 a I0 J0)] sz zXN)) (zQ (some (.int (-1))) (fun t => va_P (dC, dI) classes [(om k0 a I0 J0)] t.heap ∧ va_D (va_A [(om k0 a I0 J0)] sz) [(om k0 a I0 J0)]) (va_A [(om k0 a I0 J0)] sz)) 0 0 (va_A [(om k0 a I0 J0)] sz) := by
  refine Met.ofW (cc := cX11_inside) (maxL := 4) (ret := (some .int)) (by decide) rfl ?_
  intro p e s m args below meth c s₁ B hml hv
  obtain ⟨rfl, hsz, hP, hK, hD0, hXN⟩ := hv
  have hx := B.exec
  have hb := B.bytes
  have hr := B.returns
  have hts0 := atoms_spec (ws := .code yX11_inside cX11_inside 4 (some .int) :: ws0) B.pre
  have hts : ∀ w9 ∈ ws0, w9.before ([.ref k0, .int px, .int py, .int v] : List Value).toArray s = true := fun w9 h => hts0 w9 (List.mem_cons_of_mem _ h)
  have hown : s.vm.findClass "ScaleShopModel" = some m.cls := findClass_of_methodNamed B.named
  have hlocks := B.notSynchronized
  subst hsz
  have hD := hD0.self (sz := s.heap.size)
  clear hD0
  generalize hAe : va_A [(om k0 a I0 J0)] s.heap.size = A at hD ⊢
  have hA : ∀ q : Nat, s.heap.size ≤ q → A q := fun q h => by rw [← hAe]; exact Or.inr h
  clear hAe
  have hS : va_S A s.heap s.heap [] := va_S.rf
  have hP : va_P (dC, dI) classes [(om k0 a I0 J0)] s.heap := hP
  obtain ⟨Q9, hQ9⟩ : ∃ Q9 : State → Prop, Q9 = MQ below (zQ (some (.int (-1))) (fun t => va_P (dC, dI) classes [(om k0 a I0 J0)] t.heap ∧ va_D A [(om k0 a I0 J0)]) A) ([.ref k0, .int px, .int py, .int v] : List Value).toArray s 0 0 A := ⟨_, rfl⟩
  rw [← hQ9]
  have hl := lv_entry ([.ref k0, .int px, .int py, .int v]) (n := 4) (Nat.le_of_ble_eq_true rfl)
  rw [lg_entry_eq]
  generalize (lg_sl ([.ref k0, .int px, .int py, .int v]) ++ List.replicate (4 - (lg_sl ([.ref k0, .int px, .int py, .int v])).length) Slot.unset).toArray = ls at hl ⊢
  have hl : lv_has ls 4 [(0, .ref k0), (1, .int px), (2, .int py), (3, .int v)] := hl
  refine lv_aload_n hx hb dX11_inside_0 rfl (lv_at hl 0 rfl) ?_
  refine lv_iload_n hx hb dX11_inside_1 rfl (lv_at hl 3 rfl) ?_
  have hPc := hP.sub (ws' := [(om k0 a I0 J0)]) [0] rfl
  have hDc := hD.sub (ws' := [(om k0 a I0 J0)]) [0] (by decide) rfl
  have hFc := va_free (wc := [(om k0 a I0 J0)]) hD hS hA [0] rfl
  refine zcall (st1 := [.int 0]) (va_runV (As := [.int v]) (rest := []) ⟨hx, hb, hml, hown, hts⟩ (k_M_is_x l dC dI cI cZ cF s.heap.size k0 a I0 J0 ft v (by assumption) (by omega) (by assumption)) (cwV 1 hts (zz_gV mw_1447 mw_1449 mw_56 mw_110 mc_yX11_is) rfl rfl rfl (by decide +kernel) ⟨Nat.le_of_ble_eq_true rfl, Nat.le_of_ble_eq_true rfl⟩) (zPV2 (q0 := 0) (ci := 9) hPc hDc hK hXN rfl rfl) rfl rfl hl.1 rfl (lv_room (Nat.le_of_ble_eq_true rfl)) dX11_inside_2 ⟨Nat.le_of_ble_eq_true rfl, Nat.le_of_ble_eq_true rfl⟩) hS hFc hFc rfl (fun t H1 locs ht hB hk1 hS => ?_)
  obtain ⟨hP1, hD1⟩ := hB
  rw [ht] at hP1
  obtain ⟨hP, hD⟩ := va_join (wr := []) (w1 := [(om k0 a I0 J0)]) hP hD [0] [] rfl rfl (by decide) (by decide) hk1 hFc hP1 hD1
  clear hk1 hPc hDc hFc hP1 hD1 ht
  generalize H1 = H at hP hS ⊢
  have hP : va_P (dC, dI) classes [(om k0 a I0 J0)] H := hP
  have hD : va_D A [(om k0 a I0 J0)] := hD
  refine lv_if_eq (tgt := 38) hx hb dX11_inside_5 (by decide) (fun c_1 => ?_) (fun c_1 => ?_)
  · refine lv_iconst (v := (-1)) hx hb dX11_inside_38 (by decide) ?_
    have hP9 := hP.sub (ws' := [(om k0 a I0 J0)]) [0] rfl
    have hD9 := hD.sub (ws' := [(om k0 a I0 J0)]) [0] (by decide) rfl
    rw [hQ9]
    exact W.iret (v := (-1)) hx hb hr (fun t ht hW => ⟨⟨rfl, by rw [ht]; exact hP9, hD9⟩, hS.F ht⟩) hS.2.2 dX11_inside_39
  · exact absurd (by decide) c_1
set_option maxHeartbeats 4000000 in
set_option maxRecDepth 100000 in
theorem k_M_inside_r (l : Launch) (dC : Nat → ClassId) (dI : Nat → Nat → Nat) (cI cZ cF : ClassId) (sz : Nat) (k0 : Nat) (a : Nat → Nat) (I0 : Nat → Int32) (J0 : Nat → Int64) (f : Nat) (ft : Nat) (px : Int32) (py : Int32) (st : Nat → Int32) (tn : Nat → Int32) (kd : Nat → Int32) (hft : I0 0 = nI ft) (h200 : ft ≤ 200) (hf_t : f < ft) (hbad : ¬ (lvF ft st tn f ∧ 5 ≤ (kd f).toInt ∧ 0 ≤ px.toInt ∧ px.toInt ≤ 1000 ∧ 0 ≤ py.toInt ∧ py.toInt ≤ 1000)) : Met l yX11_inside (.code yX11_inside cX11_inside 4 (some .int) :: ws0) ({ frames := 2, cells := 0, slots := 0, locals := 42 } : Room) (va_Pc [.ref k0, .int px, .int py, .int (nI f)] (zPre (dC, dI) classes (zTy cI cZ cF) [(om k0 a I0 J0), (oa (a 5) cI 201 st), (oa (a 6) cZ 201 tn), (oa (a 1) cI 201 kd)] sz zXN)) (zQ (some (.int (-1))) (fun t => va_P (dC, dI) classes [(om k0 a I0 J0), (oa (a 5) cI 201 st), (oa (a 6) cZ 201 tn), (oa (a 1) cI 201 kd)] t.heap ∧ va_D (va_A [(om k0 a I0 J0), (oa (a 5) cI 201 st), (oa (a 6) cZ 201 tn), (oa (a 1) cI 201 kd)] sz) [(om k0 a I0 J0), (oa (a 5) cI 201 st), (oa (a 6) cZ 201 tn), (oa (a 1) cI 201 kd)]) (va_A [(om k0 a I0 J0), (oa (a 5) cI 201 st), (oa (a 6) cZ 201 tn), (oa (a 1) cI 201 kd)] sz)) 0 0 (va_A [(om k0 a I0 J0), (oa (a 5) cI 201 st), (oa (a 6) cZ 201 tn), (oa (a 1) cI 201 kd)] sz) := by
  refine Met.ofW (cc := cX11_inside) (maxL := 4) (ret := (some .int)) (by decide) rfl ?_
  intro p e s m args below meth c s₁ B hml hv
  obtain ⟨rfl, hsz, hP, hK, hD0, hXN⟩ := hv
  have hx := B.exec
  have hb := B.bytes
  have hr := B.returns
  have hts0 := atoms_spec (ws := .code yX11_inside cX11_inside 4 (some .int) :: ws0) B.pre
  have hts : ∀ w9 ∈ ws0, w9.before ([.ref k0, .int px, .int py, .int (nI f)] : List Value).toArray s = true := fun w9 h => hts0 w9 (List.mem_cons_of_mem _ h)
  have hown : s.vm.findClass "ScaleShopModel" = some m.cls := findClass_of_methodNamed B.named
  have hlocks := B.notSynchronized
  subst hsz
  have hD := hD0.self (sz := s.heap.size)
  clear hD0
  generalize hAe : va_A [(om k0 a I0 J0), (oa (a 5) cI 201 st), (oa (a 6) cZ 201 tn), (oa (a 1) cI 201 kd)] s.heap.size = A at hD ⊢
  have hA : ∀ q : Nat, s.heap.size ≤ q → A q := fun q h => by rw [← hAe]; exact Or.inr h
  clear hAe
  have hS : va_S A s.heap s.heap [] := va_S.rf
  have hP : va_P (dC, dI) classes [(om k0 a I0 J0), (oa (a 5) cI 201 st), (oa (a 6) cZ 201 tn), (oa (a 1) cI 201 kd)] s.heap := hP
  obtain ⟨Q9, hQ9⟩ : ∃ Q9 : State → Prop, Q9 = MQ below (zQ (some (.int (-1))) (fun t => va_P (dC, dI) classes [(om k0 a I0 J0), (oa (a 5) cI 201 st), (oa (a 6) cZ 201 tn), (oa (a 1) cI 201 kd)] t.heap ∧ va_D A [(om k0 a I0 J0), (oa (a 5) cI 201 st), (oa (a 6) cZ 201 tn), (oa (a 1) cI 201 kd)]) A) ([.ref k0, .int px, .int py, .int (nI f)] : List Value).toArray s 0 0 A := ⟨_, rfl⟩
  rw [← hQ9]
  have hl := lv_entry ([.ref k0, .int px, .int py, .int (nI f)]) (n := 4) (Nat.le_of_ble_eq_true rfl)
  rw [lg_entry_eq]
  generalize (lg_sl ([.ref k0, .int px, .int py, .int (nI f)]) ++ List.replicate (4 - (lg_sl ([.ref k0, .int px, .int py, .int (nI f)])).length) Slot.unset).toArray = ls at hl ⊢
  have hl : lv_has ls 4 [(0, .ref k0), (1, .int px), (2, .int py), (3, .int (nI f))] := hl
  refine lv_aload_n hx hb dX11_inside_0 rfl (lv_at hl 0 rfl) ?_
  refine lv_iload_n hx hb dX11_inside_1 rfl (lv_at hl 3 rfl) ?_
  have hPc := hP.sub (ws' := [(om k0 a I0 J0), (oa (a 5) cI 201 st), (oa (a 6) cZ 201 tn)]) [0, 1, 2] rfl
  have hDc := hD.sub (ws' := [(om k0 a I0 J0), (oa (a 5) cI 201 st), (oa (a 6) cZ 201 tn)]) [0, 1, 2] (by decide) rfl
  have hFc := va_free (wc := [(om k0 a I0 J0), (oa (a 5) cI 201 st), (oa (a 6) cZ 201 tn)]) hD hS hA [0, 1, 2] rfl
  refine zcall (st1 := [.int (pI (f < ft ∧ (st f).toInt = 1 ∧ (tn f).toInt = 0))]) (va_runV (As := [.int (nI f)]) (rest := []) ⟨hx, hb, hml, hown, hts⟩ (k_M_is_n l dC dI cI cZ cF s.heap.size k0 a I0 J0 f ft st tn (by assumption) (by omega) (by omega)) (cwV 1 hts (zz_gV mw_1447 mw_1449 mw_56 mw_110 mc_yX11_is) rfl rfl rfl (by decide +kernel) ⟨Nat.le_of_ble_eq_true rfl, Nat.le_of_ble_eq_true rfl⟩) (zPV2 (q0 := 0) (ci := 9) hPc hDc hK hXN rfl rfl) rfl rfl hl.1 rfl (lv_room (Nat.le_of_ble_eq_true rfl)) dX11_inside_2 ⟨Nat.le_of_ble_eq_true rfl, Nat.le_of_ble_eq_true rfl⟩) hS hFc hFc rfl (fun t H1 locs ht hB hk1 hS => ?_)
  obtain ⟨hP1, hD1⟩ := hB
  rw [ht] at hP1
  obtain ⟨hP, hD⟩ := va_join (wr := [(oa (a 1) cI 201 kd)]) (w1 := [(om k0 a I0 J0), (oa (a 5) cI 201 st), (oa (a 6) cZ 201 tn)]) hP hD [0, 1, 2] [3] rfl rfl (by decide) (by decide) hk1 hFc hP1 hD1
  clear hk1 hPc hDc hFc hP1 hD1 ht
  generalize H1 = H at hP hS ⊢
  have hP := hP.sub (ws' := [(om k0 a I0 J0), (oa (a 5) cI 201 st), (oa (a 6) cZ 201 tn), (oa (a 1) cI 201 kd)]) [1, 2, 3, 0] rfl
  have hD := hD.sub (ws' := [(om k0 a I0 J0), (oa (a 5) cI 201 st), (oa (a 6) cZ 201 tn), (oa (a 1) cI 201 kd)]) [1, 2, 3, 0] (by decide) rfl
  have hP : va_P (dC, dI) classes [(om k0 a I0 J0), (oa (a 5) cI 201 st), (oa (a 6) cZ 201 tn), (oa (a 1) cI 201 kd)] H := hP
  have hD : va_D A [(om k0 a I0 J0), (oa (a 5) cI 201 st), (oa (a 6) cZ 201 tn), (oa (a 1) cI 201 kd)] := hD
  refine lv_if_eq (tgt := 38) hx hb dX11_inside_5 (by decide) (fun c_1 => ?_) (fun c_1 => ?_)
  · have c_1 : ¬ (f < ft ∧ (st f).toInt = 1 ∧ (tn f).toInt = 0) := zp_0 c_1
    refine lv_iconst (v := (-1)) hx hb dX11_inside_38 (by decide) ?_
    have hP9 := hP.sub (ws' := [(om k0 a I0 J0), (oa (a 5) cI 201 st), (oa (a 6) cZ 201 tn), (oa (a 1) cI 201 kd)]) [0, 1, 2, 3] rfl
    have hD9 := hD.sub (ws' := [(om k0 a I0 J0), (oa (a 5) cI 201 st), (oa (a 6) cZ 201 tn), (oa (a 1) cI 201 kd)]) [0, 1, 2, 3] (by decide) rfl
    rw [hQ9]
    exact W.iret (v := (-1)) hx hb hr (fun t ht hW => ⟨⟨rfl, by rw [ht]; exact hP9, hD9⟩, hS.F ht⟩) hS.2.2 dX11_inside_39
  · have c_1 : f < ft ∧ (st f).toInt = 1 ∧ (tn f).toInt = 0 := zp_1 c_1
    refine lv_aload_n hx hb dX11_inside_8 rfl (lv_at hl 0 rfl) ?_
    refine lv_iload_n hx hb dX11_inside_9 rfl (lv_at hl 3 rfl) ?_
    have hPc := hP.sub (ws' := [(om k0 a I0 J0), (oa (a 1) cI 201 kd)]) [0, 3] rfl
    have hDc := hD.sub (ws' := [(om k0 a I0 J0), (oa (a 1) cI 201 kd)]) [0, 3] (by decide) rfl
    have hFc := va_free (wc := [(om k0 a I0 J0), (oa (a 1) cI 201 kd)]) hD hS hA [0, 3] rfl
    refine zcall (st1 := [.int (pI (5 ≤ (kd f).toInt))]) (va_runV (As := [.int (nI f)]) (rest := []) ⟨hx, hb, hml, hown, hts⟩ (k_M_isRing l dC dI cI cZ cF H.size k0 a I0 J0 f kd (by omega)) (cwV 1 hts (zz_gV mw_1365 mw_1367 mw_40 mw_110 mc_yX11_isRing) rfl rfl rfl (by decide +kernel) ⟨Nat.le_of_ble_eq_true rfl, Nat.le_of_ble_eq_true rfl⟩) (zPV2 (q0 := 0) (ci := 9) hPc hDc hK hXN rfl rfl) rfl rfl hl.1 rfl (lv_room (Nat.le_of_ble_eq_true rfl)) dX11_inside_10 ⟨Nat.le_of_ble_eq_true rfl, Nat.le_of_ble_eq_true rfl⟩) hS hFc hFc rfl (fun t H1 locs ht hB hk1 hS => ?_)
    obtain ⟨hP1, hD1⟩ := hB
    rw [ht] at hP1
    obtain ⟨hP, hD⟩ := va_join (wr := [(oa (a 5) cI 201 st), (oa (a 6) cZ 201 tn)]) (w1 := [(om k0 a I0 J0), (oa (a 1) cI 201 kd)]) hP hD [0, 3] [1, 2] rfl rfl (by decide) (by decide) hk1 hFc hP1 hD1
    clear hk1 hPc hDc hFc hP1 hD1 ht
    generalize H1 = H at hP hS ⊢
    have hP := hP.sub (ws' := [(om k0 a I0 J0), (oa (a 5) cI 201 st), (oa (a 6) cZ 201 tn), (oa (a 1) cI 201 kd)]) [2, 0, 1, 3] rfl
    have hD := hD.sub (ws' := [(om k0 a I0 J0), (oa (a 5) cI 201 st), (oa (a 6) cZ 201 tn), (oa (a 1) cI 201 kd)]) [2, 0, 1, 3] (by decide) rfl
    have hP : va_P (dC, dI) classes [(om k0 a I0 J0), (oa (a 5) cI 201 st), (oa (a 6) cZ 201 tn), (oa (a 1) cI 201 kd)] H := hP
    have hD : va_D A [(om k0 a I0 J0), (oa (a 5) cI 201 st), (oa (a 6) cZ 201 tn), (oa (a 1) cI 201 kd)] := hD
    refine lv_if_eq (tgt := 38) hx hb dX11_inside_13 (by decide) (fun c_2 => ?_) (fun c_2 => ?_)
    · have c_2 : ¬ (5 ≤ (kd f).toInt) := zp_0 c_2
      refine lv_iconst (v := (-1)) hx hb dX11_inside_38 (by decide) ?_
      have hP9 := hP.sub (ws' := [(om k0 a I0 J0), (oa (a 5) cI 201 st), (oa (a 6) cZ 201 tn), (oa (a 1) cI 201 kd)]) [0, 1, 2, 3] rfl
      have hD9 := hD.sub (ws' := [(om k0 a I0 J0), (oa (a 5) cI 201 st), (oa (a 6) cZ 201 tn), (oa (a 1) cI 201 kd)]) [0, 1, 2, 3] (by decide) rfl
      rw [hQ9]
      exact W.iret (v := (-1)) hx hb hr (fun t ht hW => ⟨⟨rfl, by rw [ht]; exact hP9, hD9⟩, hS.F ht⟩) hS.2.2 dX11_inside_39
    · have c_2 : 5 ≤ (kd f).toInt := zp_1 c_2
      refine lv_iload_n hx hb dX11_inside_16 rfl (lv_at hl 1 rfl) ?_
      refine lv_if_lt (tgt := 38) hx hb dX11_inside_17 (by decide) (fun c_3 => ?_) (fun c_3 => ?_)
      · have c_3 : px.toInt < 0 := zc_lt rfl (by decide) c_3
        refine lv_iconst (v := (-1)) hx hb dX11_inside_38 (by decide) ?_
        have hP9 := hP.sub (ws' := [(om k0 a I0 J0), (oa (a 5) cI 201 st), (oa (a 6) cZ 201 tn), (oa (a 1) cI 201 kd)]) [0, 1, 2, 3] rfl
        have hD9 := hD.sub (ws' := [(om k0 a I0 J0), (oa (a 5) cI 201 st), (oa (a 6) cZ 201 tn), (oa (a 1) cI 201 kd)]) [0, 1, 2, 3] (by decide) rfl
        rw [hQ9]
        exact W.iret (v := (-1)) hx hb hr (fun t ht hW => ⟨⟨rfl, by rw [ht]; exact hP9, hD9⟩, hS.F ht⟩) hS.2.2 dX11_inside_39
      · have c_3 : 0 ≤ px.toInt := zc_nlt rfl (by decide) c_3
        refine lv_iload_n hx hb dX11_inside_20 rfl (lv_at hl 1 rfl) ?_
        refine lv_sipush (v := 1000) hx hb dX11_inside_21 (by decide) ?_
        refine lv_icmp_gt (tgt := 38) hx hb dX11_inside_24 (by decide) (fun c_4 => ?_) (fun c_4 => ?_)
        · have c_4 : 1000 < px.toInt := zc_lt (by decide) rfl c_4
          refine lv_iconst (v := (-1)) hx hb dX11_inside_38 (by decide) ?_
          have hP9 := hP.sub (ws' := [(om k0 a I0 J0), (oa (a 5) cI 201 st), (oa (a 6) cZ 201 tn), (oa (a 1) cI 201 kd)]) [0, 1, 2, 3] rfl
          have hD9 := hD.sub (ws' := [(om k0 a I0 J0), (oa (a 5) cI 201 st), (oa (a 6) cZ 201 tn), (oa (a 1) cI 201 kd)]) [0, 1, 2, 3] (by decide) rfl
          rw [hQ9]
          exact W.iret (v := (-1)) hx hb hr (fun t ht hW => ⟨⟨rfl, by rw [ht]; exact hP9, hD9⟩, hS.F ht⟩) hS.2.2 dX11_inside_39
        · have c_4 : px.toInt ≤ 1000 := zc_nlt (by decide) rfl c_4
          refine lv_iload_n hx hb dX11_inside_27 rfl (lv_at hl 2 rfl) ?_
          refine lv_if_lt (tgt := 38) hx hb dX11_inside_28 (by decide) (fun c_5 => ?_) (fun c_5 => ?_)
          · have c_5 : py.toInt < 0 := zc_lt rfl (by decide) c_5
            refine lv_iconst (v := (-1)) hx hb dX11_inside_38 (by decide) ?_
            have hP9 := hP.sub (ws' := [(om k0 a I0 J0), (oa (a 5) cI 201 st), (oa (a 6) cZ 201 tn), (oa (a 1) cI 201 kd)]) [0, 1, 2, 3] rfl
            have hD9 := hD.sub (ws' := [(om k0 a I0 J0), (oa (a 5) cI 201 st), (oa (a 6) cZ 201 tn), (oa (a 1) cI 201 kd)]) [0, 1, 2, 3] (by decide) rfl
            rw [hQ9]
            exact W.iret (v := (-1)) hx hb hr (fun t ht hW => ⟨⟨rfl, by rw [ht]; exact hP9, hD9⟩, hS.F ht⟩) hS.2.2 dX11_inside_39
          · have c_5 : 0 ≤ py.toInt := zc_nlt rfl (by decide) c_5
            refine lv_iload_n hx hb dX11_inside_31 rfl (lv_at hl 2 rfl) ?_
            refine lv_sipush (v := 1000) hx hb dX11_inside_32 (by decide) ?_
            refine lv_icmp_le (tgt := 40) hx hb dX11_inside_35 (by decide) (fun c_6 => ?_) (fun c_6 => ?_)
            · have c_6 : py.toInt ≤ 1000 := zc_le rfl (by decide) c_6
              exact absurd ⟨by assumption, by assumption, by omega⟩ hbad
            · have c_6 : 1000 < py.toInt := zc_nle rfl (by decide) c_6
              refine lv_iconst (v := (-1)) hx hb dX11_inside_38 (by decide) ?_
              have hP9 := hP.sub (ws' := [(om k0 a I0 J0), (oa (a 5) cI 201 st), (oa (a 6) cZ 201 tn), (oa (a 1) cI 201 kd)]) [0, 1, 2, 3] rfl
              have hD9 := hD.sub (ws' := [(om k0 a I0 J0), (oa (a 5) cI 201 st), (oa (a 6) cZ 201 tn), (oa (a 1) cI 201 kd)]) [0, 1, 2, 3] (by decide) rfl
              rw [hQ9]
              exact W.iret (v := (-1)) hx hb hr (fun t ht hW => ⟨⟨rfl, by rw [ht]; exact hP9, hD9⟩, hS.F ht⟩) hS.2.2 dX11_inside_39
set_option maxHeartbeats 4000000 in
set_option maxRecDepth 100000 in
theorem k_M_inside_y (l : Launch) (dC : Nat → ClassId) (dI : Nat → Nat → Nat) (cI cZ cF : ClassId) (sz : Nat) (k0 : Nat) (a : Nat → Nat) (I0 : Nat → Int32) (J0 : Nat → Int64) (f : Nat) (ft : Nat) (px : Int32) (py : Int32) (st : Nat → Int32) (tn : Nat → Int32) (kd : Nat → Int32) (mn : Nat → Int32) (cx : Nat → Int32) (cy : Nat → Int32) (S0 : Nat → Int32) (hft : I0 0 = nI ft) (h200 : ft ≤ 200) (hwf : ∀ q, lvF ft st tn q → wfM mn cx cy q) (hf_t : f < ft) (hlv : lvF ft st tn f) (hrg : 5 ≤ (kd f).toInt) (hpl : 0 ≤ px.toInt ∧ px.toInt ≤ 1000 ∧ 0 ≤ py.toInt ∧ py.toInt ≤ 1000) : Met l yX11_inside (.code yX11_inside cX11_inside 4 (some .int) :: ws0) ({ frames := 4, cells := 0, slots := 0, locals := 107 } : Room) (va_Pc [.ref k0, .int px, .int py, .int (nI f)] (zPre (dC, dI) classes (zTy cI cZ cF) [(om k0 a I0 J0), (oa (a 5) cI 201 st), (oa (a 6) cZ 201 tn), (oa (a 1) cI 201 kd), (oa (a 11) cI 201 mn), (oa (a 12) cI 8040 cx), (oa (a 13) cI 8040 cy), (oa (a 32) cI 8 S0)] sz zXN)) (zQ (some (.int (inV (∃ i, i < eO (kd f).toInt (nN (mn f)) ∧ eOn (nN (mn f)) (cF40 cx f) (cF40 cy f) i px.toInt py.toInt) (inF (kd f).toInt (nN (mn f)) (cF40 cx f) (cF40 cy f) px.toInt py.toInt)))) (fun t => ∃ (S1 : Nat → Int32), va_P (dC, dI) classes [(om k0 a I0 J0), (oa (a 5) cI 201 st), (oa (a 6) cZ 201 tn), (oa (a 1) cI 201 kd), (oa (a 11) cI 201 mn), (oa (a 12) cI 8040 cx), (oa (a 13) cI 8040 cy), (oa (a 32) cI 8 S1)] t.heap ∧ va_D (va_A [(om k0 a I0 J0), (oa (a 5) cI 201 st), (oa (a 6) cZ 201 tn), (oa (a 1) cI 201 kd), (oa (a 11) cI 201 mn), (oa (a 12) cI 8040 cx), (oa (a 13) cI 8040 cy), (oa (a 32) cI 8 S0)] sz) [(om k0 a I0 J0), (oa (a 5) cI 201 st), (oa (a 6) cZ 201 tn), (oa (a 1) cI 201 kd), (oa (a 11) cI 201 mn), (oa (a 12) cI 8040 cx), (oa (a 13) cI 8040 cy), (oa (a 32) cI 8 S1)]) (va_A [(om k0 a I0 J0), (oa (a 5) cI 201 st), (oa (a 6) cZ 201 tn), (oa (a 1) cI 201 kd), (oa (a 11) cI 201 mn), (oa (a 12) cI 8040 cx), (oa (a 13) cI 8040 cy), (oa (a 32) cI 8 S0)] sz)) 0 0 (va_A [(om k0 a I0 J0), (oa (a 5) cI 201 st), (oa (a 6) cZ 201 tn), (oa (a 1) cI 201 kd), (oa (a 11) cI 201 mn), (oa (a 12) cI 8040 cx), (oa (a 13) cI 8040 cy), (oa (a 32) cI 8 S0)] sz) := by
  refine Met.ofW (cc := cX11_inside) (maxL := 4) (ret := (some .int)) (by decide) rfl ?_
  intro p e s m args below meth c s₁ B hml hv
  obtain ⟨rfl, hsz, hP, hK, hD0, hXN⟩ := hv
  have hx := B.exec
  have hb := B.bytes
  have hr := B.returns
  have hts0 := atoms_spec (ws := .code yX11_inside cX11_inside 4 (some .int) :: ws0) B.pre
  have hts : ∀ w9 ∈ ws0, w9.before ([.ref k0, .int px, .int py, .int (nI f)] : List Value).toArray s = true := fun w9 h => hts0 w9 (List.mem_cons_of_mem _ h)
  have hown : s.vm.findClass "ScaleShopModel" = some m.cls := findClass_of_methodNamed B.named
  have hlocks := B.notSynchronized
  subst hsz
  have hD := hD0.self (sz := s.heap.size)
  clear hD0
  generalize hAe : va_A [(om k0 a I0 J0), (oa (a 5) cI 201 st), (oa (a 6) cZ 201 tn), (oa (a 1) cI 201 kd), (oa (a 11) cI 201 mn), (oa (a 12) cI 8040 cx), (oa (a 13) cI 8040 cy), (oa (a 32) cI 8 S0)] s.heap.size = A at hD ⊢
  have hA : ∀ q : Nat, s.heap.size ≤ q → A q := fun q h => by rw [← hAe]; exact Or.inr h
  clear hAe
  have hS : va_S A s.heap s.heap [] := va_S.rf
  have hP : va_P (dC, dI) classes [(om k0 a I0 J0), (oa (a 5) cI 201 st), (oa (a 6) cZ 201 tn), (oa (a 1) cI 201 kd), (oa (a 11) cI 201 mn), (oa (a 12) cI 8040 cx), (oa (a 13) cI 8040 cy), (oa (a 32) cI 8 S0)] s.heap := hP
  obtain ⟨Q9, hQ9⟩ : ∃ Q9 : State → Prop, Q9 = MQ below (zQ (some (.int (inV (∃ i, i < eO (kd f).toInt (nN (mn f)) ∧ eOn (nN (mn f)) (cF40 cx f) (cF40 cy f) i px.toInt py.toInt) (inF (kd f).toInt (nN (mn f)) (cF40 cx f) (cF40 cy f) px.toInt py.toInt)))) (fun t => ∃ (S1 : Nat → Int32), va_P (dC, dI) classes [(om k0 a I0 J0), (oa (a 5) cI 201 st), (oa (a 6) cZ 201 tn), (oa (a 1) cI 201 kd), (oa (a 11) cI 201 mn), (oa (a 12) cI 8040 cx), (oa (a 13) cI 8040 cy), (oa (a 32) cI 8 S1)] t.heap ∧ va_D A [(om k0 a I0 J0), (oa (a 5) cI 201 st), (oa (a 6) cZ 201 tn), (oa (a 1) cI 201 kd), (oa (a 11) cI 201 mn), (oa (a 12) cI 8040 cx), (oa (a 13) cI 8040 cy), (oa (a 32) cI 8 S1)]) A) ([.ref k0, .int px, .int py, .int (nI f)] : List Value).toArray s 0 0 A := ⟨_, rfl⟩
  rw [← hQ9]
  have hl := lv_entry ([.ref k0, .int px, .int py, .int (nI f)]) (n := 4) (Nat.le_of_ble_eq_true rfl)
  rw [lg_entry_eq]
  generalize (lg_sl ([.ref k0, .int px, .int py, .int (nI f)]) ++ List.replicate (4 - (lg_sl ([.ref k0, .int px, .int py, .int (nI f)])).length) Slot.unset).toArray = ls at hl ⊢
  have hl : lv_has ls 4 [(0, .ref k0), (1, .int px), (2, .int py), (3, .int (nI f))] := hl
  refine lv_aload_n hx hb dX11_inside_0 rfl (lv_at hl 0 rfl) ?_
  refine lv_iload_n hx hb dX11_inside_1 rfl (lv_at hl 3 rfl) ?_
  have hPc := hP.sub (ws' := [(om k0 a I0 J0), (oa (a 5) cI 201 st), (oa (a 6) cZ 201 tn)]) [0, 1, 2] rfl
  have hDc := hD.sub (ws' := [(om k0 a I0 J0), (oa (a 5) cI 201 st), (oa (a 6) cZ 201 tn)]) [0, 1, 2] (by decide) rfl
  have hFc := va_free (wc := [(om k0 a I0 J0), (oa (a 5) cI 201 st), (oa (a 6) cZ 201 tn)]) hD hS hA [0, 1, 2] rfl
  refine zcall (st1 := [.int (pI (f < ft ∧ (st f).toInt = 1 ∧ (tn f).toInt = 0))]) (va_runV (As := [.int (nI f)]) (rest := []) ⟨hx, hb, hml, hown, hts⟩ (k_M_is_n l dC dI cI cZ cF s.heap.size k0 a I0 J0 f ft st tn (by assumption) (by omega) (by omega)) (cwV 1 hts (zz_gV mw_1447 mw_1449 mw_56 mw_110 mc_yX11_is) rfl rfl rfl (by decide +kernel) ⟨Nat.le_of_ble_eq_true rfl, Nat.le_of_ble_eq_true rfl⟩) (zPV2 (q0 := 0) (ci := 9) hPc hDc hK hXN rfl rfl) rfl rfl hl.1 rfl (lv_room (Nat.le_of_ble_eq_true rfl)) dX11_inside_2 ⟨Nat.le_of_ble_eq_true rfl, Nat.le_of_ble_eq_true rfl⟩) hS hFc hFc rfl (fun t H1 locs ht hB hk1 hS => ?_)
  obtain ⟨hP1, hD1⟩ := hB
  rw [ht] at hP1
  obtain ⟨hP, hD⟩ := va_join (wr := [(oa (a 1) cI 201 kd), (oa (a 11) cI 201 mn), (oa (a 12) cI 8040 cx), (oa (a 13) cI 8040 cy), (oa (a 32) cI 8 S0)]) (w1 := [(om k0 a I0 J0), (oa (a 5) cI 201 st), (oa (a 6) cZ 201 tn)]) hP hD [0, 1, 2] [3, 4, 5, 6, 7] rfl rfl (by decide) (by decide) hk1 hFc hP1 hD1
  clear hk1 hPc hDc hFc hP1 hD1 ht
  generalize H1 = H at hP hS ⊢
  have hP := hP.sub (ws' := [(om k0 a I0 J0), (oa (a 5) cI 201 st), (oa (a 6) cZ 201 tn), (oa (a 1) cI 201 kd), (oa (a 11) cI 201 mn), (oa (a 12) cI 8040 cx), (oa (a 13) cI 8040 cy), (oa (a 32) cI 8 S0)]) [5, 6, 7, 0, 1, 2, 3, 4] rfl
  have hD := hD.sub (ws' := [(om k0 a I0 J0), (oa (a 5) cI 201 st), (oa (a 6) cZ 201 tn), (oa (a 1) cI 201 kd), (oa (a 11) cI 201 mn), (oa (a 12) cI 8040 cx), (oa (a 13) cI 8040 cy), (oa (a 32) cI 8 S0)]) [5, 6, 7, 0, 1, 2, 3, 4] (by decide) rfl
  have hP : va_P (dC, dI) classes [(om k0 a I0 J0), (oa (a 5) cI 201 st), (oa (a 6) cZ 201 tn), (oa (a 1) cI 201 kd), (oa (a 11) cI 201 mn), (oa (a 12) cI 8040 cx), (oa (a 13) cI 8040 cy), (oa (a 32) cI 8 S0)] H := hP
  have hD : va_D A [(om k0 a I0 J0), (oa (a 5) cI 201 st), (oa (a 6) cZ 201 tn), (oa (a 1) cI 201 kd), (oa (a 11) cI 201 mn), (oa (a 12) cI 8040 cx), (oa (a 13) cI 8040 cy), (oa (a 32) cI 8 S0)] := hD
  refine lv_if_eq (tgt := 38) hx hb dX11_inside_5 (by decide) (fun c_1 => ?_) (fun c_1 => ?_)
  · have c_1 : ¬ (f < ft ∧ (st f).toInt = 1 ∧ (tn f).toInt = 0) := zp_0 c_1
    exfalso; exact absurd hlv (by assumption)
  · have c_1 : f < ft ∧ (st f).toInt = 1 ∧ (tn f).toInt = 0 := zp_1 c_1
    have hw_ff := hwf f (by assumption)
    have hm_ff := hw_ff.1
    have hn_ff := hw_ff.2.1
    have hp_ff := hw_ff.2.2
    refine lv_aload_n hx hb dX11_inside_8 rfl (lv_at hl 0 rfl) ?_
    refine lv_iload_n hx hb dX11_inside_9 rfl (lv_at hl 3 rfl) ?_
    have hPc := hP.sub (ws' := [(om k0 a I0 J0), (oa (a 1) cI 201 kd)]) [0, 3] rfl
    have hDc := hD.sub (ws' := [(om k0 a I0 J0), (oa (a 1) cI 201 kd)]) [0, 3] (by decide) rfl
    have hFc := va_free (wc := [(om k0 a I0 J0), (oa (a 1) cI 201 kd)]) hD hS hA [0, 3] rfl
    refine zcall (st1 := [.int (pI (5 ≤ (kd f).toInt))]) (va_runV (As := [.int (nI f)]) (rest := []) ⟨hx, hb, hml, hown, hts⟩ (k_M_isRing l dC dI cI cZ cF H.size k0 a I0 J0 f kd (by omega)) (cwV 1 hts (zz_gV mw_1365 mw_1367 mw_40 mw_110 mc_yX11_isRing) rfl rfl rfl (by decide +kernel) ⟨Nat.le_of_ble_eq_true rfl, Nat.le_of_ble_eq_true rfl⟩) (zPV2 (q0 := 0) (ci := 9) hPc hDc hK hXN rfl rfl) rfl rfl hl.1 rfl (lv_room (Nat.le_of_ble_eq_true rfl)) dX11_inside_10 ⟨Nat.le_of_ble_eq_true rfl, Nat.le_of_ble_eq_true rfl⟩) hS hFc hFc rfl (fun t H1 locs ht hB hk1 hS => ?_)
    obtain ⟨hP1, hD1⟩ := hB
    rw [ht] at hP1
    obtain ⟨hP, hD⟩ := va_join (wr := [(oa (a 5) cI 201 st), (oa (a 6) cZ 201 tn), (oa (a 11) cI 201 mn), (oa (a 12) cI 8040 cx), (oa (a 13) cI 8040 cy), (oa (a 32) cI 8 S0)]) (w1 := [(om k0 a I0 J0), (oa (a 1) cI 201 kd)]) hP hD [0, 3] [1, 2, 4, 5, 6, 7] rfl rfl (by decide) (by decide) hk1 hFc hP1 hD1
    clear hk1 hPc hDc hFc hP1 hD1 ht
    generalize H1 = H at hP hS ⊢
    have hP := hP.sub (ws' := [(om k0 a I0 J0), (oa (a 5) cI 201 st), (oa (a 6) cZ 201 tn), (oa (a 1) cI 201 kd), (oa (a 11) cI 201 mn), (oa (a 12) cI 8040 cx), (oa (a 13) cI 8040 cy), (oa (a 32) cI 8 S0)]) [6, 0, 1, 7, 2, 3, 4, 5] rfl
    have hD := hD.sub (ws' := [(om k0 a I0 J0), (oa (a 5) cI 201 st), (oa (a 6) cZ 201 tn), (oa (a 1) cI 201 kd), (oa (a 11) cI 201 mn), (oa (a 12) cI 8040 cx), (oa (a 13) cI 8040 cy), (oa (a 32) cI 8 S0)]) [6, 0, 1, 7, 2, 3, 4, 5] (by decide) rfl
    have hP : va_P (dC, dI) classes [(om k0 a I0 J0), (oa (a 5) cI 201 st), (oa (a 6) cZ 201 tn), (oa (a 1) cI 201 kd), (oa (a 11) cI 201 mn), (oa (a 12) cI 8040 cx), (oa (a 13) cI 8040 cy), (oa (a 32) cI 8 S0)] H := hP
    have hD : va_D A [(om k0 a I0 J0), (oa (a 5) cI 201 st), (oa (a 6) cZ 201 tn), (oa (a 1) cI 201 kd), (oa (a 11) cI 201 mn), (oa (a 12) cI 8040 cx), (oa (a 13) cI 8040 cy), (oa (a 32) cI 8 S0)] := hD
    refine lv_if_eq (tgt := 38) hx hb dX11_inside_13 (by decide) (fun c_2 => ?_) (fun c_2 => ?_)
    · have c_2 : ¬ (5 ≤ (kd f).toInt) := zp_0 c_2
      exfalso; exact absurd hrg (by assumption)
    · have c_2 : 5 ≤ (kd f).toInt := zp_1 c_2
      refine lv_iload_n hx hb dX11_inside_16 rfl (lv_at hl 1 rfl) ?_
      refine lv_if_lt (tgt := 38) hx hb dX11_inside_17 (by decide) (fun c_3 => ?_) (fun c_3 => ?_)
      · have c_3 : px.toInt < 0 := zc_lt rfl (by decide) c_3
        exfalso; omega
      · have c_3 : 0 ≤ px.toInt := zc_nlt rfl (by decide) c_3
        refine lv_iload_n hx hb dX11_inside_20 rfl (lv_at hl 1 rfl) ?_
        refine lv_sipush (v := 1000) hx hb dX11_inside_21 (by decide) ?_
        refine lv_icmp_gt (tgt := 38) hx hb dX11_inside_24 (by decide) (fun c_4 => ?_) (fun c_4 => ?_)
        · have c_4 : 1000 < px.toInt := zc_lt (by decide) rfl c_4
          exfalso; omega
        · have c_4 : px.toInt ≤ 1000 := zc_nlt (by decide) rfl c_4
          refine lv_iload_n hx hb dX11_inside_27 rfl (lv_at hl 2 rfl) ?_
          refine lv_if_lt (tgt := 38) hx hb dX11_inside_28 (by decide) (fun c_5 => ?_) (fun c_5 => ?_)
          · have c_5 : py.toInt < 0 := zc_lt rfl (by decide) c_5
            exfalso; omega
          · have c_5 : 0 ≤ py.toInt := zc_nlt rfl (by decide) c_5
            refine lv_iload_n hx hb dX11_inside_31 rfl (lv_at hl 2 rfl) ?_
            refine lv_sipush (v := 1000) hx hb dX11_inside_32 (by decide) ?_
            refine lv_icmp_le (tgt := 40) hx hb dX11_inside_35 (by decide) (fun c_6 => ?_) (fun c_6 => ?_)
            · have c_6 : py.toInt ≤ 1000 := zc_le rfl (by decide) c_6
              have hpx9 : pl px := ⟨by omega, by omega⟩
              have hpy9 : pl py := ⟨by omega, by omega⟩
              refine lv_aload_n hx hb dX11_inside_40 rfl (lv_at hl 0 rfl) ?_
              refine lv_iload_n hx hb dX11_inside_41 rfl (lv_at hl 3 rfl) ?_
              refine lv_iload_n hx hb dX11_inside_42 rfl (lv_at hl 1 rfl) ?_
              refine lv_iload_n hx hb dX11_inside_43 rfl (lv_at hl 2 rfl) ?_
              have hPc := hP.sub (ws' := [(om k0 a I0 J0), (oa (a 1) cI 201 kd), (oa (a 11) cI 201 mn), (oa (a 12) cI 8040 cx), (oa (a 13) cI 8040 cy), (oa (a 32) cI 8 S0)]) [0, 3, 4, 5, 6, 7] rfl
              have hDc := hD.sub (ws' := [(om k0 a I0 J0), (oa (a 1) cI 201 kd), (oa (a 11) cI 201 mn), (oa (a 12) cI 8040 cx), (oa (a 13) cI 8040 cy), (oa (a 32) cI 8 S0)]) [0, 3, 4, 5, 6, 7] (by decide) rfl
              have hFc := va_free (wc := [(om k0 a I0 J0), (oa (a 1) cI 201 kd), (oa (a 11) cI 201 mn), (oa (a 12) cI 8040 cx), (oa (a 13) cI 8040 cy), (oa (a 32) cI 8 S0)]) hD hS hA [0, 3, 4, 5, 6, 7] rfl
              refine zcall (st1 := [.int (pI (∃ i, i < eO (kd f).toInt (nN (mn f)) ∧ eOn (nN (mn f)) (cF40 cx f) (cF40 cy f) i px.toInt py.toInt))]) (va_runV (As := [.int (nI f), .int px, .int py]) (rest := []) ⟨hx, hb, hml, hown, hts⟩ (k_M_isOnSet l dC dI cI cZ cF H.size k0 a I0 J0 f (nN (mn f)) kd mn cx cy S0 px py (by omega) (by assumption) (by omega) (by assumption) (hpx9) (hpy9)) (cwV 3 hts (zz_gV mw_1451 mw_1453 mw_57 mw_110 mc_yX11_isOnSet) rfl rfl rfl (by decide +kernel) ⟨Nat.le_of_ble_eq_true rfl, Nat.le_of_ble_eq_true rfl⟩) (zPV2 (q0 := 0) (ci := 9) hPc hDc hK hXN rfl rfl) rfl rfl hl.1 rfl (lv_room (Nat.le_of_ble_eq_true rfl)) dX11_inside_44 ⟨Nat.le_of_ble_eq_true rfl, Nat.le_of_ble_eq_true rfl⟩) hS hFc hFc rfl (fun t H1 locs ht hB hk1 hS => ?_)
              obtain ⟨q_7, hP1, hD1⟩ := hB
              rw [ht] at hP1
              obtain ⟨hP, hD⟩ := va_join (wr := [(oa (a 5) cI 201 st), (oa (a 6) cZ 201 tn)]) (w1 := [(om k0 a I0 J0), (oa (a 1) cI 201 kd), (oa (a 11) cI 201 mn), (oa (a 12) cI 8040 cx), (oa (a 13) cI 8040 cy), (oa (a 32) cI 8 q_7)]) hP hD [0, 3, 4, 5, 6, 7] [1, 2] rfl rfl (by decide) (by decide) hk1 hFc hP1 hD1
              clear hk1 hPc hDc hFc hP1 hD1 ht
              generalize H1 = H at hP hS ⊢
              have hP := hP.sub (ws' := [(om k0 a I0 J0), (oa (a 5) cI 201 st), (oa (a 6) cZ 201 tn), (oa (a 1) cI 201 kd), (oa (a 11) cI 201 mn), (oa (a 12) cI 8040 cx), (oa (a 13) cI 8040 cy), (oa (a 32) cI 8 q_7)]) [2, 0, 1, 3, 4, 5, 6, 7] rfl
              have hD := hD.sub (ws' := [(om k0 a I0 J0), (oa (a 5) cI 201 st), (oa (a 6) cZ 201 tn), (oa (a 1) cI 201 kd), (oa (a 11) cI 201 mn), (oa (a 12) cI 8040 cx), (oa (a 13) cI 8040 cy), (oa (a 32) cI 8 q_7)]) [2, 0, 1, 3, 4, 5, 6, 7] (by decide) rfl
              have hP : va_P (dC, dI) classes [(om k0 a I0 J0), (oa (a 5) cI 201 st), (oa (a 6) cZ 201 tn), (oa (a 1) cI 201 kd), (oa (a 11) cI 201 mn), (oa (a 12) cI 8040 cx), (oa (a 13) cI 8040 cy), (oa (a 32) cI 8 q_7)] H := hP
              have hD : va_D A [(om k0 a I0 J0), (oa (a 5) cI 201 st), (oa (a 6) cZ 201 tn), (oa (a 1) cI 201 kd), (oa (a 11) cI 201 mn), (oa (a 12) cI 8040 cx), (oa (a 13) cI 8040 cy), (oa (a 32) cI 8 q_7)] := hD
              refine lv_if_eq (tgt := 54) hx hb dX11_inside_47 (by decide) (fun c_8 => ?_) (fun c_8 => ?_)
              · have c_8 : ¬ (∃ i, i < eO (kd f).toInt (nN (mn f)) ∧ eOn (nN (mn f)) (cF40 cx f) (cF40 cy f) i px.toInt py.toInt) := zp_0 c_8
                refine lv_aload_n hx hb dX11_inside_54 rfl (lv_at hl 0 rfl) ?_
                refine lv_iload_n hx hb dX11_inside_55 rfl (lv_at hl 3 rfl) ?_
                refine lv_iload_n hx hb dX11_inside_56 rfl (lv_at hl 1 rfl) ?_
                refine lv_iload_n hx hb dX11_inside_57 rfl (lv_at hl 2 rfl) ?_
                have hPc := hP.sub (ws' := [(om k0 a I0 J0), (oa (a 1) cI 201 kd), (oa (a 11) cI 201 mn), (oa (a 12) cI 8040 cx), (oa (a 13) cI 8040 cy), (oa (a 32) cI 8 q_7)]) [0, 3, 4, 5, 6, 7] rfl
                have hDc := hD.sub (ws' := [(om k0 a I0 J0), (oa (a 1) cI 201 kd), (oa (a 11) cI 201 mn), (oa (a 12) cI 8040 cx), (oa (a 13) cI 8040 cy), (oa (a 32) cI 8 q_7)]) [0, 3, 4, 5, 6, 7] (by decide) rfl
                have hFc := va_free (wc := [(om k0 a I0 J0), (oa (a 1) cI 201 kd), (oa (a 11) cI 201 mn), (oa (a 12) cI 8040 cx), (oa (a 13) cI 8040 cy), (oa (a 32) cI 8 q_7)]) hD hS hA [0, 3, 4, 5, 6, 7] rfl
                refine zcall (st1 := [.int (pI (¬ (∃ i, i < eO (kd f).toInt (nN (mn f)) ∧ eOn (nN (mn f)) (cF40 cx f) (cF40 cy f) i px.toInt py.toInt) ∧ par2 (eTg (nN (mn f)) (cF40 cx f) (cF40 cy f) px.toInt py.toInt) (eO (kd f).toInt (nN (mn f)))))]) (va_runV (As := [.int (nI f), .int px, .int py]) (rest := []) ⟨hx, hb, hml, hown, hts⟩ (k_M_isInside l dC dI cI cZ cF H.size k0 a I0 J0 f (nN (mn f)) kd mn cx cy q_7 px py (by omega) (by assumption) (by omega) (by assumption) (hpx9) (hpy9)) (cwV 3 hts (zz_gV mw_1471 mw_1473 mw_62 mw_110 mc_yX11_isInside) rfl rfl rfl (by decide +kernel) ⟨Nat.le_of_ble_eq_true rfl, Nat.le_of_ble_eq_true rfl⟩) (zPV2 (q0 := 0) (ci := 9) hPc hDc hK hXN rfl rfl) rfl rfl hl.1 rfl (lv_room (Nat.le_of_ble_eq_true rfl)) dX11_inside_58 ⟨Nat.le_of_ble_eq_true rfl, Nat.le_of_ble_eq_true rfl⟩) hS hFc hFc rfl (fun t H1 locs ht hB hk1 hS => ?_)
                obtain ⟨q_9, hP1, hD1⟩ := hB
                rw [ht] at hP1
                obtain ⟨hP, hD⟩ := va_join (wr := [(oa (a 5) cI 201 st), (oa (a 6) cZ 201 tn)]) (w1 := [(om k0 a I0 J0), (oa (a 1) cI 201 kd), (oa (a 11) cI 201 mn), (oa (a 12) cI 8040 cx), (oa (a 13) cI 8040 cy), (oa (a 32) cI 8 q_9)]) hP hD [0, 3, 4, 5, 6, 7] [1, 2] rfl rfl (by decide) (by decide) hk1 hFc hP1 hD1
                clear hk1 hPc hDc hFc hP1 hD1 ht
                generalize H1 = H at hP hS ⊢
                have hP := hP.sub (ws' := [(om k0 a I0 J0), (oa (a 5) cI 201 st), (oa (a 6) cZ 201 tn), (oa (a 1) cI 201 kd), (oa (a 11) cI 201 mn), (oa (a 12) cI 8040 cx), (oa (a 13) cI 8040 cy), (oa (a 32) cI 8 q_9)]) [2, 0, 1, 3, 4, 5, 6, 7] rfl
                have hD := hD.sub (ws' := [(om k0 a I0 J0), (oa (a 5) cI 201 st), (oa (a 6) cZ 201 tn), (oa (a 1) cI 201 kd), (oa (a 11) cI 201 mn), (oa (a 12) cI 8040 cx), (oa (a 13) cI 8040 cy), (oa (a 32) cI 8 q_9)]) [2, 0, 1, 3, 4, 5, 6, 7] (by decide) rfl
                have hP : va_P (dC, dI) classes [(om k0 a I0 J0), (oa (a 5) cI 201 st), (oa (a 6) cZ 201 tn), (oa (a 1) cI 201 kd), (oa (a 11) cI 201 mn), (oa (a 12) cI 8040 cx), (oa (a 13) cI 8040 cy), (oa (a 32) cI 8 q_9)] H := hP
                have hD : va_D A [(om k0 a I0 J0), (oa (a 5) cI 201 st), (oa (a 6) cZ 201 tn), (oa (a 1) cI 201 kd), (oa (a 11) cI 201 mn), (oa (a 12) cI 8040 cx), (oa (a 13) cI 8040 cy), (oa (a 32) cI 8 q_9)] := hD
                refine zz_i (v := pI (inF (kd f).toInt (nN (mn f)) (cF40 cx f) (cF40 cy f) px.toInt py.toInt)) (rfl) ?_
                refine lv_if_eq (tgt := 68) hx hb dX11_inside_61 (by decide) (fun c_10 => ?_) (fun c_10 => ?_)
                · have c_10 : ¬ (inF (kd f).toInt (nN (mn f)) (cF40 cx f) (cF40 cy f) px.toInt py.toInt) := zp_0 c_10
                  refine lv_iconst (v := 0) hx hb dX11_inside_68 (by decide) ?_
                  have hP9 := hP.sub (ws' := [(om k0 a I0 J0), (oa (a 5) cI 201 st), (oa (a 6) cZ 201 tn), (oa (a 1) cI 201 kd), (oa (a 11) cI 201 mn), (oa (a 12) cI 8040 cx), (oa (a 13) cI 8040 cy), (oa (a 32) cI 8 q_9)]) [0, 1, 2, 3, 4, 5, 6, 7] rfl
                  have hD9 := hD.sub (ws' := [(om k0 a I0 J0), (oa (a 5) cI 201 st), (oa (a 6) cZ 201 tn), (oa (a 1) cI 201 kd), (oa (a 11) cI 201 mn), (oa (a 12) cI 8040 cx), (oa (a 13) cI 8040 cy), (oa (a 32) cI 8 q_9)]) [0, 1, 2, 3, 4, 5, 6, 7] (by decide) rfl
                  rw [hQ9]
                  exact W.iret (v := 0) hx hb hr (fun t ht hW => ⟨⟨congrArg (fun z => Outcome.returned (some (Value.int z))) (show (0 : Int32) = inV (∃ i, i < eO (kd f).toInt (nN (mn f)) ∧ eOn (nN (mn f)) (cF40 cx f) (cF40 cy f) i px.toInt py.toInt) (inF (kd f).toInt (nN (mn f)) (cF40 cx f) (cF40 cy f) px.toInt py.toInt) from by first | exact inV_2 (by assumption) | exact inV_1 (by assumption) (by assumption) | exact inV_0 (by assumption) (by assumption)), q_9, by rw [ht]; exact hP9, hD9⟩, hS.F ht⟩) hS.2.2 dX11_inside_69
                · have c_10 : inF (kd f).toInt (nN (mn f)) (cF40 cx f) (cF40 cy f) px.toInt py.toInt := zp_1 c_10
                  refine lv_iconst (v := 1) hx hb dX11_inside_64 (by decide) ?_
                  refine lv_goto (tgt := 69) hx hb dX11_inside_65 (by decide) ?_
                  have hP9 := hP.sub (ws' := [(om k0 a I0 J0), (oa (a 5) cI 201 st), (oa (a 6) cZ 201 tn), (oa (a 1) cI 201 kd), (oa (a 11) cI 201 mn), (oa (a 12) cI 8040 cx), (oa (a 13) cI 8040 cy), (oa (a 32) cI 8 q_9)]) [0, 1, 2, 3, 4, 5, 6, 7] rfl
                  have hD9 := hD.sub (ws' := [(om k0 a I0 J0), (oa (a 5) cI 201 st), (oa (a 6) cZ 201 tn), (oa (a 1) cI 201 kd), (oa (a 11) cI 201 mn), (oa (a 12) cI 8040 cx), (oa (a 13) cI 8040 cy), (oa (a 32) cI 8 q_9)]) [0, 1, 2, 3, 4, 5, 6, 7] (by decide) rfl
                  rw [hQ9]
                  exact W.iret (v := 1) hx hb hr (fun t ht hW => ⟨⟨congrArg (fun z => Outcome.returned (some (Value.int z))) (show (1 : Int32) = inV (∃ i, i < eO (kd f).toInt (nN (mn f)) ∧ eOn (nN (mn f)) (cF40 cx f) (cF40 cy f) i px.toInt py.toInt) (inF (kd f).toInt (nN (mn f)) (cF40 cx f) (cF40 cy f) px.toInt py.toInt) from by first | exact inV_2 (by assumption) | exact inV_1 (by assumption) (by assumption) | exact inV_0 (by assumption) (by assumption)), q_9, by rw [ht]; exact hP9, hD9⟩, hS.F ht⟩) hS.2.2 dX11_inside_69
              · have c_8 : ∃ i, i < eO (kd f).toInt (nN (mn f)) ∧ eOn (nN (mn f)) (cF40 cx f) (cF40 cy f) i px.toInt py.toInt := zp_1 c_8
                refine lv_iconst (v := 2) hx hb dX11_inside_50 (by decide) ?_
                refine lv_goto (tgt := 69) hx hb dX11_inside_51 (by decide) ?_
                have hP9 := hP.sub (ws' := [(om k0 a I0 J0), (oa (a 5) cI 201 st), (oa (a 6) cZ 201 tn), (oa (a 1) cI 201 kd), (oa (a 11) cI 201 mn), (oa (a 12) cI 8040 cx), (oa (a 13) cI 8040 cy), (oa (a 32) cI 8 q_7)]) [0, 1, 2, 3, 4, 5, 6, 7] rfl
                have hD9 := hD.sub (ws' := [(om k0 a I0 J0), (oa (a 5) cI 201 st), (oa (a 6) cZ 201 tn), (oa (a 1) cI 201 kd), (oa (a 11) cI 201 mn), (oa (a 12) cI 8040 cx), (oa (a 13) cI 8040 cy), (oa (a 32) cI 8 q_7)]) [0, 1, 2, 3, 4, 5, 6, 7] (by decide) rfl
                rw [hQ9]
                exact W.iret (v := 2) hx hb hr (fun t ht hW => ⟨⟨congrArg (fun z => Outcome.returned (some (Value.int z))) (show (2 : Int32) = inV (∃ i, i < eO (kd f).toInt (nN (mn f)) ∧ eOn (nN (mn f)) (cF40 cx f) (cF40 cy f) i px.toInt py.toInt) (inF (kd f).toInt (nN (mn f)) (cF40 cx f) (cF40 cy f) px.toInt py.toInt) from by first | exact inV_2 (by assumption) | exact inV_1 (by assumption) (by assumption) | exact inV_0 (by assumption) (by assumption)), q_7, by rw [ht]; exact hP9, hD9⟩, hS.F ht⟩) hS.2.2 dX11_inside_69
            · have c_6 : 1000 < py.toInt := zc_nle rfl (by decide) c_6
              exfalso; omega
set_option maxHeartbeats 4000000 in
set_option maxRecDepth 100000 in
theorem k_M_told_x (l : Launch) (dC : Nat → ClassId) (dI : Nat → Nat → Nat) (cI cZ cF : ClassId) (sz : Nat) (k0 : Nat) (a : Nat → Nat) (I0 : Nat → Int32) (J0 : Nat → Int64) (ft : Nat) (v : Int32) (w : Int32) (hft : I0 0 = nI ft) (h200 : ft ≤ 200) (hv : ¬ (0 ≤ v.toInt ∧ v.toInt < (ft : Int))) : Met l yX11_told (.code yX11_told cX11_told 3 (some .int) :: ws0) ({ frames := 1, cells := 0, slots := 0, locals := 21 } : Room) (va_Pc [.ref k0, .int v, .int w] (zPre (dC, dI) classes (zTy cI cZ cF) [(om k0 a I0 J0)] sz zXN)) (zQ (some (.int (-1))) (fun t => va_P (dC, dI) classes [(om k0 a I0 J0)] t.heap ∧ va_D (va_A [(om k0 a I0 J0)] sz) [(om k0 a I0 J0)]) (va_A [(om k0 a I0 J0)] sz)) 0 0 (va_A [(om k0 a I0 J0)] sz) := by
  refine Met.ofW (cc := cX11_told) (maxL := 3) (ret := (some .int)) (by decide) rfl ?_
  intro p e s m args below meth c s₁ B hml hv
  obtain ⟨rfl, hsz, hP, hK, hD0, hXN⟩ := hv
  have hx := B.exec
  have hb := B.bytes
  have hr := B.returns
  have hts0 := atoms_spec (ws := .code yX11_told cX11_told 3 (some .int) :: ws0) B.pre
  have hts : ∀ w9 ∈ ws0, w9.before ([.ref k0, .int v, .int w] : List Value).toArray s = true := fun w9 h => hts0 w9 (List.mem_cons_of_mem _ h)
  have hown : s.vm.findClass "ScaleShopModel" = some m.cls := findClass_of_methodNamed B.named
  have hlocks := B.notSynchronized
  subst hsz
  have hD := hD0.self (sz := s.heap.size)
  clear hD0
  generalize hAe : va_A [(om k0 a I0 J0)] s.heap.size = A at hD ⊢
  have hA : ∀ q : Nat, s.heap.size ≤ q → A q := fun q h => by rw [← hAe]; exact Or.inr h
  clear hAe
  have hS : va_S A s.heap s.heap [] := va_S.rf
  have hP : va_P (dC, dI) classes [(om k0 a I0 J0)] s.heap := hP
  obtain ⟨Q9, hQ9⟩ : ∃ Q9 : State → Prop, Q9 = MQ below (zQ (some (.int (-1))) (fun t => va_P (dC, dI) classes [(om k0 a I0 J0)] t.heap ∧ va_D A [(om k0 a I0 J0)]) A) ([.ref k0, .int v, .int w] : List Value).toArray s 0 0 A := ⟨_, rfl⟩
  rw [← hQ9]
  have hl := lv_entry ([.ref k0, .int v, .int w]) (n := 3) (Nat.le_of_ble_eq_true rfl)
  rw [lg_entry_eq]
  generalize (lg_sl ([.ref k0, .int v, .int w]) ++ List.replicate (3 - (lg_sl ([.ref k0, .int v, .int w])).length) Slot.unset).toArray = ls at hl ⊢
  have hl : lv_has ls 3 [(0, .ref k0), (1, .int v), (2, .int w)] := hl
  refine lv_aload_n hx hb dX11_told_0 rfl (lv_at hl 0 rfl) ?_
  refine lv_iload_n hx hb dX11_told_1 rfl (lv_at hl 1 rfl) ?_
  have hPc := hP.sub (ws' := [(om k0 a I0 J0)]) [0] rfl
  have hDc := hD.sub (ws' := [(om k0 a I0 J0)]) [0] (by decide) rfl
  have hFc := va_free (wc := [(om k0 a I0 J0)]) hD hS hA [0] rfl
  refine zcall (st1 := [.int (pI (0 ≤ v.toInt ∧ v.toInt < (ft : Int)))]) (va_runV (As := [.int v]) (rest := []) ⟨hx, hb, hml, hown, hts⟩ (k_M_isFeature l dC dI cI cZ cF s.heap.size k0 a I0 J0 ft v (by assumption) (by omega)) (cwV 1 hts (zz_gV mw_1345 mw_1347 mw_37 mw_110 mc_yX11_isFeature) rfl rfl rfl (by decide +kernel) ⟨Nat.le_of_ble_eq_true rfl, Nat.le_of_ble_eq_true rfl⟩) (zPV2 (q0 := 0) (ci := 9) hPc hDc hK hXN rfl rfl) rfl rfl hl.1 rfl (lv_room (Nat.le_of_ble_eq_true rfl)) dX11_told_2 ⟨Nat.le_of_ble_eq_true rfl, Nat.le_of_ble_eq_true rfl⟩) hS hFc hFc rfl (fun t H1 locs ht hB hk1 hS => ?_)
  obtain ⟨hP1, hD1⟩ := hB
  rw [ht] at hP1
  obtain ⟨hP, hD⟩ := va_join (wr := []) (w1 := [(om k0 a I0 J0)]) hP hD [0] [] rfl rfl (by decide) (by decide) hk1 hFc hP1 hD1
  clear hk1 hPc hDc hFc hP1 hD1 ht
  generalize H1 = H at hP hS ⊢
  have hP : va_P (dC, dI) classes [(om k0 a I0 J0)] H := hP
  have hD : va_D A [(om k0 a I0 J0)] := hD
  refine lv_if_ne (tgt := 10) hx hb dX11_told_5 (by decide) (fun c_1 => ?_) (fun c_1 => ?_)
  · have c_1 : 0 ≤ v.toInt ∧ v.toInt < (ft : Int) := zp_1 c_1
    exfalso; exact absurd (by assumption) hv
  · have c_1 : ¬ (0 ≤ v.toInt ∧ v.toInt < (ft : Int)) := zp_0 c_1
    refine lv_iconst (v := (-1)) hx hb dX11_told_8 (by decide) ?_
    have hP9 := hP.sub (ws' := [(om k0 a I0 J0)]) [0] rfl
    have hD9 := hD.sub (ws' := [(om k0 a I0 J0)]) [0] (by decide) rfl
    rw [hQ9]
    exact W.iret (v := (-1)) hx hb hr (fun t ht hW => ⟨⟨rfl, by rw [ht]; exact hP9, hD9⟩, hS.F ht⟩) hS.2.2 dX11_told_9
set_option maxHeartbeats 4000000 in
set_option maxRecDepth 100000 in
theorem k_M_told_0 (l : Launch) (dC : Nat → ClassId) (dI : Nat → Nat → Nat) (cI cZ cF : ClassId) (sz : Nat) (k0 : Nat) (a : Nat → Nat) (I0 : Nat → Int32) (J0 : Nat → Int64) (f : Nat) (ft : Nat) (kd : Nat → Int32) (hft : I0 0 = nI ft) (h200 : ft ≤ 200) (hf_t : f < ft) : Met l yX11_told (.code yX11_told cX11_told 3 (some .int) :: ws0) ({ frames := 1, cells := 0, slots := 0, locals := 21 } : Room) (va_Pc [.ref k0, .int (nI f), .int 0] (zPre (dC, dI) classes (zTy cI cZ cF) [(om k0 a I0 J0), (oa (a 1) cI 201 kd)] sz zXN)) (zQ (some (.int (kd f))) (fun t => va_P (dC, dI) classes [(om k0 a I0 J0), (oa (a 1) cI 201 kd)] t.heap ∧ va_D (va_A [(om k0 a I0 J0), (oa (a 1) cI 201 kd)] sz) [(om k0 a I0 J0), (oa (a 1) cI 201 kd)]) (va_A [(om k0 a I0 J0), (oa (a 1) cI 201 kd)] sz)) 0 0 (va_A [(om k0 a I0 J0), (oa (a 1) cI 201 kd)] sz) := by
  refine Met.ofW (cc := cX11_told) (maxL := 3) (ret := (some .int)) (by decide) rfl ?_
  intro p e s m args below meth c s₁ B hml hv
  obtain ⟨rfl, hsz, hP, hK, hD0, hXN⟩ := hv
  have hx := B.exec
  have hb := B.bytes
  have hr := B.returns
  have hts0 := atoms_spec (ws := .code yX11_told cX11_told 3 (some .int) :: ws0) B.pre
  have hts : ∀ w9 ∈ ws0, w9.before ([.ref k0, .int (nI f), .int 0] : List Value).toArray s = true := fun w9 h => hts0 w9 (List.mem_cons_of_mem _ h)
  have hown : s.vm.findClass "ScaleShopModel" = some m.cls := findClass_of_methodNamed B.named
  have hlocks := B.notSynchronized
  subst hsz
  have hD := hD0.self (sz := s.heap.size)
  clear hD0
  generalize hAe : va_A [(om k0 a I0 J0), (oa (a 1) cI 201 kd)] s.heap.size = A at hD ⊢
  have hA : ∀ q : Nat, s.heap.size ≤ q → A q := fun q h => by rw [← hAe]; exact Or.inr h
  clear hAe
  have hS : va_S A s.heap s.heap [] := va_S.rf
  have hP : va_P (dC, dI) classes [(om k0 a I0 J0), (oa (a 1) cI 201 kd)] s.heap := hP
  obtain ⟨Q9, hQ9⟩ : ∃ Q9 : State → Prop, Q9 = MQ below (zQ (some (.int (kd f))) (fun t => va_P (dC, dI) classes [(om k0 a I0 J0), (oa (a 1) cI 201 kd)] t.heap ∧ va_D A [(om k0 a I0 J0), (oa (a 1) cI 201 kd)]) A) ([.ref k0, .int (nI f), .int 0] : List Value).toArray s 0 0 A := ⟨_, rfl⟩
  rw [← hQ9]
  have hl := lv_entry ([.ref k0, .int (nI f), .int 0]) (n := 3) (Nat.le_of_ble_eq_true rfl)
  rw [lg_entry_eq]
  generalize (lg_sl ([.ref k0, .int (nI f), .int 0]) ++ List.replicate (3 - (lg_sl ([.ref k0, .int (nI f), .int 0])).length) Slot.unset).toArray = ls at hl ⊢
  have hl : lv_has ls 3 [(0, .ref k0), (1, .int (nI f)), (2, .int 0)] := hl
  refine lv_aload_n hx hb dX11_told_0 rfl (lv_at hl 0 rfl) ?_
  refine lv_iload_n hx hb dX11_told_1 rfl (lv_at hl 1 rfl) ?_
  have hPc := hP.sub (ws' := [(om k0 a I0 J0)]) [0] rfl
  have hDc := hD.sub (ws' := [(om k0 a I0 J0)]) [0] (by decide) rfl
  have hFc := va_free (wc := [(om k0 a I0 J0)]) hD hS hA [0] rfl
  refine zcall (st1 := [.int (pI (f < ft))]) (va_runV (As := [.int (nI f)]) (rest := []) ⟨hx, hb, hml, hown, hts⟩ (k_M_isFeature_n l dC dI cI cZ cF s.heap.size k0 a I0 J0 f ft (by assumption) (by omega) (by omega)) (cwV 1 hts (zz_gV mw_1345 mw_1347 mw_37 mw_110 mc_yX11_isFeature) rfl rfl rfl (by decide +kernel) ⟨Nat.le_of_ble_eq_true rfl, Nat.le_of_ble_eq_true rfl⟩) (zPV2 (q0 := 0) (ci := 9) hPc hDc hK hXN rfl rfl) rfl rfl hl.1 rfl (lv_room (Nat.le_of_ble_eq_true rfl)) dX11_told_2 ⟨Nat.le_of_ble_eq_true rfl, Nat.le_of_ble_eq_true rfl⟩) hS hFc hFc rfl (fun t H1 locs ht hB hk1 hS => ?_)
  obtain ⟨hP1, hD1⟩ := hB
  rw [ht] at hP1
  obtain ⟨hP, hD⟩ := va_join (wr := [(oa (a 1) cI 201 kd)]) (w1 := [(om k0 a I0 J0)]) hP hD [0] [1] rfl rfl (by decide) (by decide) hk1 hFc hP1 hD1
  clear hk1 hPc hDc hFc hP1 hD1 ht
  generalize H1 = H at hP hS ⊢
  have hP := hP.sub (ws' := [(om k0 a I0 J0), (oa (a 1) cI 201 kd)]) [1, 0] rfl
  have hD := hD.sub (ws' := [(om k0 a I0 J0), (oa (a 1) cI 201 kd)]) [1, 0] (by decide) rfl
  have hP : va_P (dC, dI) classes [(om k0 a I0 J0), (oa (a 1) cI 201 kd)] H := hP
  have hD : va_D A [(om k0 a I0 J0), (oa (a 1) cI 201 kd)] := hD
  refine lv_if_ne (tgt := 10) hx hb dX11_told_5 (by decide) (fun c_1 => ?_) (fun c_1 => ?_)
  · have c_1 : f < ft := zp_1 c_1
    refine lv_iload_n hx hb dX11_told_10 rfl (lv_at hl 2 rfl) ?_
    refine lv_tableIn (tgt := 68) (off := 57) hx hb dX11_told_11 (by decide) (by decide) (by decide) (by decide) ?_
    refine lv_aload_n hx hb dX11_told_68 rfl (lv_at hl 0 rfl) ?_
    refine va_get (D := (dC, dI)) (ci := 9) (v := .ref (a 1)) (C := RX11) (T := TX11) (N := 55) hx hb hts inX11 hown hK hP 0 rfl rfl 1 (by decide) (hts _ mw_1160) (fun _ h9 => h9) rfl dX11_told_69 ?_
    refine lv_iload_n hx hb dX11_told_72 rfl (lv_at hl 1 rfl) ?_
    refine z_iald hx hb hK hP 1 0 rfl rfl (e := f) rfl (by omega) (by omega) dX11_told_73 ?_
    have hP9 := hP.sub (ws' := [(om k0 a I0 J0), (oa (a 1) cI 201 kd)]) [0, 1] rfl
    have hD9 := hD.sub (ws' := [(om k0 a I0 J0), (oa (a 1) cI 201 kd)]) [0, 1] (by decide) rfl
    rw [hQ9]
    exact W.iret (v := kd f) hx hb hr (fun t ht hW => ⟨⟨rfl, by rw [ht]; exact hP9, hD9⟩, hS.F ht⟩) hS.2.2 dX11_told_74
  · have c_1 : ¬ (f < ft) := zp_0 c_1
    exfalso; omega
set_option maxHeartbeats 4000000 in
set_option maxRecDepth 100000 in
theorem k_M_told_1 (l : Launch) (dC : Nat → ClassId) (dI : Nat → Nat → Nat) (cI cZ cF : ClassId) (sz : Nat) (k0 : Nat) (a : Nat → Nat) (I0 : Nat → Int32) (J0 : Nat → Int64) (f : Nat) (ft : Nat) (rk : Nat → Int32) (hft : I0 0 = nI ft) (h200 : ft ≤ 200) (hf_t : f < ft) : Met l yX11_told (.code yX11_told cX11_told 3 (some .int) :: ws0) ({ frames := 1, cells := 0, slots := 0, locals := 21 } : Room) (va_Pc [.ref k0, .int (nI f), .int 1] (zPre (dC, dI) classes (zTy cI cZ cF) [(om k0 a I0 J0), (oa (a 2) cI 201 rk)] sz zXN)) (zQ (some (.int (rk f))) (fun t => va_P (dC, dI) classes [(om k0 a I0 J0), (oa (a 2) cI 201 rk)] t.heap ∧ va_D (va_A [(om k0 a I0 J0), (oa (a 2) cI 201 rk)] sz) [(om k0 a I0 J0), (oa (a 2) cI 201 rk)]) (va_A [(om k0 a I0 J0), (oa (a 2) cI 201 rk)] sz)) 0 0 (va_A [(om k0 a I0 J0), (oa (a 2) cI 201 rk)] sz) := by
  refine Met.ofW (cc := cX11_told) (maxL := 3) (ret := (some .int)) (by decide) rfl ?_
  intro p e s m args below meth c s₁ B hml hv
  obtain ⟨rfl, hsz, hP, hK, hD0, hXN⟩ := hv
  have hx := B.exec
  have hb := B.bytes
  have hr := B.returns
  have hts0 := atoms_spec (ws := .code yX11_told cX11_told 3 (some .int) :: ws0) B.pre
  have hts : ∀ w9 ∈ ws0, w9.before ([.ref k0, .int (nI f), .int 1] : List Value).toArray s = true := fun w9 h => hts0 w9 (List.mem_cons_of_mem _ h)
  have hown : s.vm.findClass "ScaleShopModel" = some m.cls := findClass_of_methodNamed B.named
  have hlocks := B.notSynchronized
  subst hsz
  have hD := hD0.self (sz := s.heap.size)
  clear hD0
  generalize hAe : va_A [(om k0 a I0 J0), (oa (a 2) cI 201 rk)] s.heap.size = A at hD ⊢
  have hA : ∀ q : Nat, s.heap.size ≤ q → A q := fun q h => by rw [← hAe]; exact Or.inr h
  clear hAe
  have hS : va_S A s.heap s.heap [] := va_S.rf
  have hP : va_P (dC, dI) classes [(om k0 a I0 J0), (oa (a 2) cI 201 rk)] s.heap := hP
  obtain ⟨Q9, hQ9⟩ : ∃ Q9 : State → Prop, Q9 = MQ below (zQ (some (.int (rk f))) (fun t => va_P (dC, dI) classes [(om k0 a I0 J0), (oa (a 2) cI 201 rk)] t.heap ∧ va_D A [(om k0 a I0 J0), (oa (a 2) cI 201 rk)]) A) ([.ref k0, .int (nI f), .int 1] : List Value).toArray s 0 0 A := ⟨_, rfl⟩
  rw [← hQ9]
  have hl := lv_entry ([.ref k0, .int (nI f), .int 1]) (n := 3) (Nat.le_of_ble_eq_true rfl)
  rw [lg_entry_eq]
  generalize (lg_sl ([.ref k0, .int (nI f), .int 1]) ++ List.replicate (3 - (lg_sl ([.ref k0, .int (nI f), .int 1])).length) Slot.unset).toArray = ls at hl ⊢
  have hl : lv_has ls 3 [(0, .ref k0), (1, .int (nI f)), (2, .int 1)] := hl
  refine lv_aload_n hx hb dX11_told_0 rfl (lv_at hl 0 rfl) ?_
  refine lv_iload_n hx hb dX11_told_1 rfl (lv_at hl 1 rfl) ?_
  have hPc := hP.sub (ws' := [(om k0 a I0 J0)]) [0] rfl
  have hDc := hD.sub (ws' := [(om k0 a I0 J0)]) [0] (by decide) rfl
  have hFc := va_free (wc := [(om k0 a I0 J0)]) hD hS hA [0] rfl
  refine zcall (st1 := [.int (pI (f < ft))]) (va_runV (As := [.int (nI f)]) (rest := []) ⟨hx, hb, hml, hown, hts⟩ (k_M_isFeature_n l dC dI cI cZ cF s.heap.size k0 a I0 J0 f ft (by assumption) (by omega) (by omega)) (cwV 1 hts (zz_gV mw_1345 mw_1347 mw_37 mw_110 mc_yX11_isFeature) rfl rfl rfl (by decide +kernel) ⟨Nat.le_of_ble_eq_true rfl, Nat.le_of_ble_eq_true rfl⟩) (zPV2 (q0 := 0) (ci := 9) hPc hDc hK hXN rfl rfl) rfl rfl hl.1 rfl (lv_room (Nat.le_of_ble_eq_true rfl)) dX11_told_2 ⟨Nat.le_of_ble_eq_true rfl, Nat.le_of_ble_eq_true rfl⟩) hS hFc hFc rfl (fun t H1 locs ht hB hk1 hS => ?_)
  obtain ⟨hP1, hD1⟩ := hB
  rw [ht] at hP1
  obtain ⟨hP, hD⟩ := va_join (wr := [(oa (a 2) cI 201 rk)]) (w1 := [(om k0 a I0 J0)]) hP hD [0] [1] rfl rfl (by decide) (by decide) hk1 hFc hP1 hD1
  clear hk1 hPc hDc hFc hP1 hD1 ht
  generalize H1 = H at hP hS ⊢
  have hP := hP.sub (ws' := [(om k0 a I0 J0), (oa (a 2) cI 201 rk)]) [1, 0] rfl
  have hD := hD.sub (ws' := [(om k0 a I0 J0), (oa (a 2) cI 201 rk)]) [1, 0] (by decide) rfl
  have hP : va_P (dC, dI) classes [(om k0 a I0 J0), (oa (a 2) cI 201 rk)] H := hP
  have hD : va_D A [(om k0 a I0 J0), (oa (a 2) cI 201 rk)] := hD
  refine lv_if_ne (tgt := 10) hx hb dX11_told_5 (by decide) (fun c_1 => ?_) (fun c_1 => ?_)
  · have c_1 : f < ft := zp_1 c_1
    refine lv_iload_n hx hb dX11_told_10 rfl (lv_at hl 2 rfl) ?_
    refine lv_tableIn (tgt := 75) (off := 64) hx hb dX11_told_11 (by decide) (by decide) (by decide) (by decide) ?_
    refine lv_aload_n hx hb dX11_told_75 rfl (lv_at hl 0 rfl) ?_
    refine va_get (D := (dC, dI)) (ci := 9) (v := .ref (a 2)) (C := RX11) (T := TX11) (N := 55) hx hb hts inX11 hown hK hP 0 rfl rfl 2 (by decide) (hts _ mw_1161) (fun _ h9 => h9) rfl dX11_told_76 ?_
    refine lv_iload_n hx hb dX11_told_79 rfl (lv_at hl 1 rfl) ?_
    refine z_iald hx hb hK hP 1 0 rfl rfl (e := f) rfl (by omega) (by omega) dX11_told_80 ?_
    have hP9 := hP.sub (ws' := [(om k0 a I0 J0), (oa (a 2) cI 201 rk)]) [0, 1] rfl
    have hD9 := hD.sub (ws' := [(om k0 a I0 J0), (oa (a 2) cI 201 rk)]) [0, 1] (by decide) rfl
    rw [hQ9]
    exact W.iret (v := rk f) hx hb hr (fun t ht hW => ⟨⟨rfl, by rw [ht]; exact hP9, hD9⟩, hS.F ht⟩) hS.2.2 dX11_told_81
  · have c_1 : ¬ (f < ft) := zp_0 c_1
    exfalso; omega
set_option maxHeartbeats 4000000 in
set_option maxRecDepth 100000 in
theorem k_M_told_2 (l : Launch) (dC : Nat → ClassId) (dI : Nat → Nat → Nat) (cI cZ cF : ClassId) (sz : Nat) (k0 : Nat) (a : Nat → Nat) (I0 : Nat → Int32) (J0 : Nat → Int64) (f : Nat) (ft : Nat) (wd : Nat → Int32) (hft : I0 0 = nI ft) (h200 : ft ≤ 200) (hf_t : f < ft) : Met l yX11_told (.code yX11_told cX11_told 3 (some .int) :: ws0) ({ frames := 1, cells := 0, slots := 0, locals := 21 } : Room) (va_Pc [.ref k0, .int (nI f), .int 2] (zPre (dC, dI) classes (zTy cI cZ cF) [(om k0 a I0 J0), (oa (a 3) cI 201 wd)] sz zXN)) (zQ (some (.int (wd f))) (fun t => va_P (dC, dI) classes [(om k0 a I0 J0), (oa (a 3) cI 201 wd)] t.heap ∧ va_D (va_A [(om k0 a I0 J0), (oa (a 3) cI 201 wd)] sz) [(om k0 a I0 J0), (oa (a 3) cI 201 wd)]) (va_A [(om k0 a I0 J0), (oa (a 3) cI 201 wd)] sz)) 0 0 (va_A [(om k0 a I0 J0), (oa (a 3) cI 201 wd)] sz) := by
  refine Met.ofW (cc := cX11_told) (maxL := 3) (ret := (some .int)) (by decide) rfl ?_
  intro p e s m args below meth c s₁ B hml hv
  obtain ⟨rfl, hsz, hP, hK, hD0, hXN⟩ := hv
  have hx := B.exec
  have hb := B.bytes
  have hr := B.returns
  have hts0 := atoms_spec (ws := .code yX11_told cX11_told 3 (some .int) :: ws0) B.pre
  have hts : ∀ w9 ∈ ws0, w9.before ([.ref k0, .int (nI f), .int 2] : List Value).toArray s = true := fun w9 h => hts0 w9 (List.mem_cons_of_mem _ h)
  have hown : s.vm.findClass "ScaleShopModel" = some m.cls := findClass_of_methodNamed B.named
  have hlocks := B.notSynchronized
  subst hsz
  have hD := hD0.self (sz := s.heap.size)
  clear hD0
  generalize hAe : va_A [(om k0 a I0 J0), (oa (a 3) cI 201 wd)] s.heap.size = A at hD ⊢
  have hA : ∀ q : Nat, s.heap.size ≤ q → A q := fun q h => by rw [← hAe]; exact Or.inr h
  clear hAe
  have hS : va_S A s.heap s.heap [] := va_S.rf
  have hP : va_P (dC, dI) classes [(om k0 a I0 J0), (oa (a 3) cI 201 wd)] s.heap := hP
  obtain ⟨Q9, hQ9⟩ : ∃ Q9 : State → Prop, Q9 = MQ below (zQ (some (.int (wd f))) (fun t => va_P (dC, dI) classes [(om k0 a I0 J0), (oa (a 3) cI 201 wd)] t.heap ∧ va_D A [(om k0 a I0 J0), (oa (a 3) cI 201 wd)]) A) ([.ref k0, .int (nI f), .int 2] : List Value).toArray s 0 0 A := ⟨_, rfl⟩
  rw [← hQ9]
  have hl := lv_entry ([.ref k0, .int (nI f), .int 2]) (n := 3) (Nat.le_of_ble_eq_true rfl)
  rw [lg_entry_eq]
  generalize (lg_sl ([.ref k0, .int (nI f), .int 2]) ++ List.replicate (3 - (lg_sl ([.ref k0, .int (nI f), .int 2])).length) Slot.unset).toArray = ls at hl ⊢
  have hl : lv_has ls 3 [(0, .ref k0), (1, .int (nI f)), (2, .int 2)] := hl
  refine lv_aload_n hx hb dX11_told_0 rfl (lv_at hl 0 rfl) ?_
  refine lv_iload_n hx hb dX11_told_1 rfl (lv_at hl 1 rfl) ?_
  have hPc := hP.sub (ws' := [(om k0 a I0 J0)]) [0] rfl
  have hDc := hD.sub (ws' := [(om k0 a I0 J0)]) [0] (by decide) rfl
  have hFc := va_free (wc := [(om k0 a I0 J0)]) hD hS hA [0] rfl
  refine zcall (st1 := [.int (pI (f < ft))]) (va_runV (As := [.int (nI f)]) (rest := []) ⟨hx, hb, hml, hown, hts⟩ (k_M_isFeature_n l dC dI cI cZ cF s.heap.size k0 a I0 J0 f ft (by assumption) (by omega) (by omega)) (cwV 1 hts (zz_gV mw_1345 mw_1347 mw_37 mw_110 mc_yX11_isFeature) rfl rfl rfl (by decide +kernel) ⟨Nat.le_of_ble_eq_true rfl, Nat.le_of_ble_eq_true rfl⟩) (zPV2 (q0 := 0) (ci := 9) hPc hDc hK hXN rfl rfl) rfl rfl hl.1 rfl (lv_room (Nat.le_of_ble_eq_true rfl)) dX11_told_2 ⟨Nat.le_of_ble_eq_true rfl, Nat.le_of_ble_eq_true rfl⟩) hS hFc hFc rfl (fun t H1 locs ht hB hk1 hS => ?_)
  obtain ⟨hP1, hD1⟩ := hB
  rw [ht] at hP1
  obtain ⟨hP, hD⟩ := va_join (wr := [(oa (a 3) cI 201 wd)]) (w1 := [(om k0 a I0 J0)]) hP hD [0] [1] rfl rfl (by decide) (by decide) hk1 hFc hP1 hD1
  clear hk1 hPc hDc hFc hP1 hD1 ht
  generalize H1 = H at hP hS ⊢
  have hP := hP.sub (ws' := [(om k0 a I0 J0), (oa (a 3) cI 201 wd)]) [1, 0] rfl
  have hD := hD.sub (ws' := [(om k0 a I0 J0), (oa (a 3) cI 201 wd)]) [1, 0] (by decide) rfl
  have hP : va_P (dC, dI) classes [(om k0 a I0 J0), (oa (a 3) cI 201 wd)] H := hP
  have hD : va_D A [(om k0 a I0 J0), (oa (a 3) cI 201 wd)] := hD
  refine lv_if_ne (tgt := 10) hx hb dX11_told_5 (by decide) (fun c_1 => ?_) (fun c_1 => ?_)
  · have c_1 : f < ft := zp_1 c_1
    refine lv_iload_n hx hb dX11_told_10 rfl (lv_at hl 2 rfl) ?_
    refine lv_tableIn (tgt := 82) (off := 71) hx hb dX11_told_11 (by decide) (by decide) (by decide) (by decide) ?_
    refine lv_aload_n hx hb dX11_told_82 rfl (lv_at hl 0 rfl) ?_
    refine va_get (D := (dC, dI)) (ci := 9) (v := .ref (a 3)) (C := RX11) (T := TX11) (N := 55) hx hb hts inX11 hown hK hP 0 rfl rfl 3 (by decide) (hts _ mw_1162) (fun _ h9 => h9) rfl dX11_told_83 ?_
    refine lv_iload_n hx hb dX11_told_86 rfl (lv_at hl 1 rfl) ?_
    refine z_iald hx hb hK hP 1 0 rfl rfl (e := f) rfl (by omega) (by omega) dX11_told_87 ?_
    have hP9 := hP.sub (ws' := [(om k0 a I0 J0), (oa (a 3) cI 201 wd)]) [0, 1] rfl
    have hD9 := hD.sub (ws' := [(om k0 a I0 J0), (oa (a 3) cI 201 wd)]) [0, 1] (by decide) rfl
    rw [hQ9]
    exact W.iret (v := wd f) hx hb hr (fun t ht hW => ⟨⟨rfl, by rw [ht]; exact hP9, hD9⟩, hS.F ht⟩) hS.2.2 dX11_told_88
  · have c_1 : ¬ (f < ft) := zp_0 c_1
    exfalso; omega
set_option maxHeartbeats 4000000 in
set_option maxRecDepth 100000 in
theorem k_M_told_3 (l : Launch) (dC : Nat → ClassId) (dI : Nat → Nat → Nat) (cI cZ cF : ClassId) (sz : Nat) (k0 : Nat) (a : Nat → Nat) (I0 : Nat → Int32) (J0 : Nat → Int64) (f : Nat) (ft : Nat) (tw : Nat → Int32) (hft : I0 0 = nI ft) (h200 : ft ≤ 200) (hf_t : f < ft) : Met l yX11_told (.code yX11_told cX11_told 3 (some .int) :: ws0) ({ frames := 1, cells := 0, slots := 0, locals := 21 } : Room) (va_Pc [.ref k0, .int (nI f), .int 3] (zPre (dC, dI) classes (zTy cI cZ cF) [(om k0 a I0 J0), (oa (a 4) cI 201 tw)] sz zXN)) (zQ (some (.int (tw f))) (fun t => va_P (dC, dI) classes [(om k0 a I0 J0), (oa (a 4) cI 201 tw)] t.heap ∧ va_D (va_A [(om k0 a I0 J0), (oa (a 4) cI 201 tw)] sz) [(om k0 a I0 J0), (oa (a 4) cI 201 tw)]) (va_A [(om k0 a I0 J0), (oa (a 4) cI 201 tw)] sz)) 0 0 (va_A [(om k0 a I0 J0), (oa (a 4) cI 201 tw)] sz) := by
  refine Met.ofW (cc := cX11_told) (maxL := 3) (ret := (some .int)) (by decide) rfl ?_
  intro p e s m args below meth c s₁ B hml hv
  obtain ⟨rfl, hsz, hP, hK, hD0, hXN⟩ := hv
  have hx := B.exec
  have hb := B.bytes
  have hr := B.returns
  have hts0 := atoms_spec (ws := .code yX11_told cX11_told 3 (some .int) :: ws0) B.pre
  have hts : ∀ w9 ∈ ws0, w9.before ([.ref k0, .int (nI f), .int 3] : List Value).toArray s = true := fun w9 h => hts0 w9 (List.mem_cons_of_mem _ h)
  have hown : s.vm.findClass "ScaleShopModel" = some m.cls := findClass_of_methodNamed B.named
  have hlocks := B.notSynchronized
  subst hsz
  have hD := hD0.self (sz := s.heap.size)
  clear hD0
  generalize hAe : va_A [(om k0 a I0 J0), (oa (a 4) cI 201 tw)] s.heap.size = A at hD ⊢
  have hA : ∀ q : Nat, s.heap.size ≤ q → A q := fun q h => by rw [← hAe]; exact Or.inr h
  clear hAe
  have hS : va_S A s.heap s.heap [] := va_S.rf
  have hP : va_P (dC, dI) classes [(om k0 a I0 J0), (oa (a 4) cI 201 tw)] s.heap := hP
  obtain ⟨Q9, hQ9⟩ : ∃ Q9 : State → Prop, Q9 = MQ below (zQ (some (.int (tw f))) (fun t => va_P (dC, dI) classes [(om k0 a I0 J0), (oa (a 4) cI 201 tw)] t.heap ∧ va_D A [(om k0 a I0 J0), (oa (a 4) cI 201 tw)]) A) ([.ref k0, .int (nI f), .int 3] : List Value).toArray s 0 0 A := ⟨_, rfl⟩
  rw [← hQ9]
  have hl := lv_entry ([.ref k0, .int (nI f), .int 3]) (n := 3) (Nat.le_of_ble_eq_true rfl)
  rw [lg_entry_eq]
  generalize (lg_sl ([.ref k0, .int (nI f), .int 3]) ++ List.replicate (3 - (lg_sl ([.ref k0, .int (nI f), .int 3])).length) Slot.unset).toArray = ls at hl ⊢
  have hl : lv_has ls 3 [(0, .ref k0), (1, .int (nI f)), (2, .int 3)] := hl
  refine lv_aload_n hx hb dX11_told_0 rfl (lv_at hl 0 rfl) ?_
  refine lv_iload_n hx hb dX11_told_1 rfl (lv_at hl 1 rfl) ?_
  have hPc := hP.sub (ws' := [(om k0 a I0 J0)]) [0] rfl
  have hDc := hD.sub (ws' := [(om k0 a I0 J0)]) [0] (by decide) rfl
  have hFc := va_free (wc := [(om k0 a I0 J0)]) hD hS hA [0] rfl
  refine zcall (st1 := [.int (pI (f < ft))]) (va_runV (As := [.int (nI f)]) (rest := []) ⟨hx, hb, hml, hown, hts⟩ (k_M_isFeature_n l dC dI cI cZ cF s.heap.size k0 a I0 J0 f ft (by assumption) (by omega) (by omega)) (cwV 1 hts (zz_gV mw_1345 mw_1347 mw_37 mw_110 mc_yX11_isFeature) rfl rfl rfl (by decide +kernel) ⟨Nat.le_of_ble_eq_true rfl, Nat.le_of_ble_eq_true rfl⟩) (zPV2 (q0 := 0) (ci := 9) hPc hDc hK hXN rfl rfl) rfl rfl hl.1 rfl (lv_room (Nat.le_of_ble_eq_true rfl)) dX11_told_2 ⟨Nat.le_of_ble_eq_true rfl, Nat.le_of_ble_eq_true rfl⟩) hS hFc hFc rfl (fun t H1 locs ht hB hk1 hS => ?_)
  obtain ⟨hP1, hD1⟩ := hB
  rw [ht] at hP1
  obtain ⟨hP, hD⟩ := va_join (wr := [(oa (a 4) cI 201 tw)]) (w1 := [(om k0 a I0 J0)]) hP hD [0] [1] rfl rfl (by decide) (by decide) hk1 hFc hP1 hD1
  clear hk1 hPc hDc hFc hP1 hD1 ht
  generalize H1 = H at hP hS ⊢
  have hP := hP.sub (ws' := [(om k0 a I0 J0), (oa (a 4) cI 201 tw)]) [1, 0] rfl
  have hD := hD.sub (ws' := [(om k0 a I0 J0), (oa (a 4) cI 201 tw)]) [1, 0] (by decide) rfl
  have hP : va_P (dC, dI) classes [(om k0 a I0 J0), (oa (a 4) cI 201 tw)] H := hP
  have hD : va_D A [(om k0 a I0 J0), (oa (a 4) cI 201 tw)] := hD
  refine lv_if_ne (tgt := 10) hx hb dX11_told_5 (by decide) (fun c_1 => ?_) (fun c_1 => ?_)
  · have c_1 : f < ft := zp_1 c_1
    refine lv_iload_n hx hb dX11_told_10 rfl (lv_at hl 2 rfl) ?_
    refine lv_tableIn (tgt := 89) (off := 78) hx hb dX11_told_11 (by decide) (by decide) (by decide) (by decide) ?_
    refine lv_aload_n hx hb dX11_told_89 rfl (lv_at hl 0 rfl) ?_
    refine va_get (D := (dC, dI)) (ci := 9) (v := .ref (a 4)) (C := RX11) (T := TX11) (N := 55) hx hb hts inX11 hown hK hP 0 rfl rfl 4 (by decide) (hts _ mw_1163) (fun _ h9 => h9) rfl dX11_told_90 ?_
    refine lv_iload_n hx hb dX11_told_93 rfl (lv_at hl 1 rfl) ?_
    refine z_iald hx hb hK hP 1 0 rfl rfl (e := f) rfl (by omega) (by omega) dX11_told_94 ?_
    have hP9 := hP.sub (ws' := [(om k0 a I0 J0), (oa (a 4) cI 201 tw)]) [0, 1] rfl
    have hD9 := hD.sub (ws' := [(om k0 a I0 J0), (oa (a 4) cI 201 tw)]) [0, 1] (by decide) rfl
    rw [hQ9]
    exact W.iret (v := tw f) hx hb hr (fun t ht hW => ⟨⟨rfl, by rw [ht]; exact hP9, hD9⟩, hS.F ht⟩) hS.2.2 dX11_told_95
  · have c_1 : ¬ (f < ft) := zp_0 c_1
    exfalso; omega
set_option maxHeartbeats 4000000 in
set_option maxRecDepth 100000 in
theorem k_M_told_4 (l : Launch) (dC : Nat → ClassId) (dI : Nat → Nat → Nat) (cI cZ cF : ClassId) (sz : Nat) (k0 : Nat) (a : Nat → Nat) (I0 : Nat → Int32) (J0 : Nat → Int64) (f : Nat) (ft : Nat) (n : Nat) (tn : Nat → Int32) (mn : Nat → Int32) (hft : I0 0 = nI ft) (h200 : ft ≤ 200) (hf_t : f < ft) (hm_f : mn f = nI n) (hn_f : n ≤ 40) : Met l yX11_told (.code yX11_told cX11_told 3 (some .int) :: ws0) ({ frames := 1, cells := 0, slots := 0, locals := 21 } : Room) (va_Pc [.ref k0, .int (nI f), .int 4] (zPre (dC, dI) classes (zTy cI cZ cF) [(om k0 a I0 J0), (oa (a 6) cZ 201 tn), (oa (a 11) cI 201 mn)] sz zXN)) (zQ (some (.int (nI (if (tn f).toInt = 0 then n else 0)))) (fun t => va_P (dC, dI) classes [(om k0 a I0 J0), (oa (a 6) cZ 201 tn), (oa (a 11) cI 201 mn)] t.heap ∧ va_D (va_A [(om k0 a I0 J0), (oa (a 6) cZ 201 tn), (oa (a 11) cI 201 mn)] sz) [(om k0 a I0 J0), (oa (a 6) cZ 201 tn), (oa (a 11) cI 201 mn)]) (va_A [(om k0 a I0 J0), (oa (a 6) cZ 201 tn), (oa (a 11) cI 201 mn)] sz)) 0 0 (va_A [(om k0 a I0 J0), (oa (a 6) cZ 201 tn), (oa (a 11) cI 201 mn)] sz) := by
  refine Met.ofW (cc := cX11_told) (maxL := 3) (ret := (some .int)) (by decide) rfl ?_
  intro p e s m args below meth c s₁ B hml hv
  obtain ⟨rfl, hsz, hP, hK, hD0, hXN⟩ := hv
  have hx := B.exec
  have hb := B.bytes
  have hr := B.returns
  have hts0 := atoms_spec (ws := .code yX11_told cX11_told 3 (some .int) :: ws0) B.pre
  have hts : ∀ w9 ∈ ws0, w9.before ([.ref k0, .int (nI f), .int 4] : List Value).toArray s = true := fun w9 h => hts0 w9 (List.mem_cons_of_mem _ h)
  have hown : s.vm.findClass "ScaleShopModel" = some m.cls := findClass_of_methodNamed B.named
  have hlocks := B.notSynchronized
  subst hsz
  have hD := hD0.self (sz := s.heap.size)
  clear hD0
  generalize hAe : va_A [(om k0 a I0 J0), (oa (a 6) cZ 201 tn), (oa (a 11) cI 201 mn)] s.heap.size = A at hD ⊢
  have hA : ∀ q : Nat, s.heap.size ≤ q → A q := fun q h => by rw [← hAe]; exact Or.inr h
  clear hAe
  have hS : va_S A s.heap s.heap [] := va_S.rf
  have hP : va_P (dC, dI) classes [(om k0 a I0 J0), (oa (a 6) cZ 201 tn), (oa (a 11) cI 201 mn)] s.heap := hP
  obtain ⟨Q9, hQ9⟩ : ∃ Q9 : State → Prop, Q9 = MQ below (zQ (some (.int (nI (if (tn f).toInt = 0 then n else 0)))) (fun t => va_P (dC, dI) classes [(om k0 a I0 J0), (oa (a 6) cZ 201 tn), (oa (a 11) cI 201 mn)] t.heap ∧ va_D A [(om k0 a I0 J0), (oa (a 6) cZ 201 tn), (oa (a 11) cI 201 mn)]) A) ([.ref k0, .int (nI f), .int 4] : List Value).toArray s 0 0 A := ⟨_, rfl⟩
  rw [← hQ9]
  have hl := lv_entry ([.ref k0, .int (nI f), .int 4]) (n := 3) (Nat.le_of_ble_eq_true rfl)
  rw [lg_entry_eq]
  generalize (lg_sl ([.ref k0, .int (nI f), .int 4]) ++ List.replicate (3 - (lg_sl ([.ref k0, .int (nI f), .int 4])).length) Slot.unset).toArray = ls at hl ⊢
  have hl : lv_has ls 3 [(0, .ref k0), (1, .int (nI f)), (2, .int 4)] := hl
  refine lv_aload_n hx hb dX11_told_0 rfl (lv_at hl 0 rfl) ?_
  refine lv_iload_n hx hb dX11_told_1 rfl (lv_at hl 1 rfl) ?_
  have hPc := hP.sub (ws' := [(om k0 a I0 J0)]) [0] rfl
  have hDc := hD.sub (ws' := [(om k0 a I0 J0)]) [0] (by decide) rfl
  have hFc := va_free (wc := [(om k0 a I0 J0)]) hD hS hA [0] rfl
  refine zcall (st1 := [.int (pI (f < ft))]) (va_runV (As := [.int (nI f)]) (rest := []) ⟨hx, hb, hml, hown, hts⟩ (k_M_isFeature_n l dC dI cI cZ cF s.heap.size k0 a I0 J0 f ft (by assumption) (by omega) (by omega)) (cwV 1 hts (zz_gV mw_1345 mw_1347 mw_37 mw_110 mc_yX11_isFeature) rfl rfl rfl (by decide +kernel) ⟨Nat.le_of_ble_eq_true rfl, Nat.le_of_ble_eq_true rfl⟩) (zPV2 (q0 := 0) (ci := 9) hPc hDc hK hXN rfl rfl) rfl rfl hl.1 rfl (lv_room (Nat.le_of_ble_eq_true rfl)) dX11_told_2 ⟨Nat.le_of_ble_eq_true rfl, Nat.le_of_ble_eq_true rfl⟩) hS hFc hFc rfl (fun t H1 locs ht hB hk1 hS => ?_)
  obtain ⟨hP1, hD1⟩ := hB
  rw [ht] at hP1
  obtain ⟨hP, hD⟩ := va_join (wr := [(oa (a 6) cZ 201 tn), (oa (a 11) cI 201 mn)]) (w1 := [(om k0 a I0 J0)]) hP hD [0] [1, 2] rfl rfl (by decide) (by decide) hk1 hFc hP1 hD1
  clear hk1 hPc hDc hFc hP1 hD1 ht
  generalize H1 = H at hP hS ⊢
  have hP := hP.sub (ws' := [(om k0 a I0 J0), (oa (a 6) cZ 201 tn), (oa (a 11) cI 201 mn)]) [2, 0, 1] rfl
  have hD := hD.sub (ws' := [(om k0 a I0 J0), (oa (a 6) cZ 201 tn), (oa (a 11) cI 201 mn)]) [2, 0, 1] (by decide) rfl
  have hP : va_P (dC, dI) classes [(om k0 a I0 J0), (oa (a 6) cZ 201 tn), (oa (a 11) cI 201 mn)] H := hP
  have hD : va_D A [(om k0 a I0 J0), (oa (a 6) cZ 201 tn), (oa (a 11) cI 201 mn)] := hD
  refine lv_if_ne (tgt := 10) hx hb dX11_told_5 (by decide) (fun c_1 => ?_) (fun c_1 => ?_)
  · have c_1 : f < ft := zp_1 c_1
    refine lv_iload_n hx hb dX11_told_10 rfl (lv_at hl 2 rfl) ?_
    refine lv_tableIn (tgt := 96) (off := 85) hx hb dX11_told_11 (by decide) (by decide) (by decide) (by decide) ?_
    refine lv_aload_n hx hb dX11_told_96 rfl (lv_at hl 0 rfl) ?_
    refine va_get (D := (dC, dI)) (ci := 9) (v := .ref (a 6)) (C := RX11) (T := TX11) (N := 55) hx hb hts inX11 hown hK hP 0 rfl rfl 6 (by decide) (hts _ mw_1165) (fun _ h9 => h9) rfl dX11_told_97 ?_
    refine lv_iload_n hx hb dX11_told_100 rfl (lv_at hl 1 rfl) ?_
    refine z_zald hx hb hK hP 1 1 rfl rfl (e := f) rfl (by omega) (by omega) dX11_told_101 ?_
    refine lv_if_eq (tgt := 109) hx hb dX11_told_102 (by decide) (fun c_2 => ?_) (fun c_2 => ?_)
    · have c_2 : (tn f).toInt = 0 := zc_eq rfl (by decide) c_2
      refine lv_aload_n hx hb dX11_told_109 rfl (lv_at hl 0 rfl) ?_
      refine va_get (D := (dC, dI)) (ci := 9) (v := .ref (a 11)) (C := RX11) (T := TX11) (N := 55) hx hb hts inX11 hown hK hP 0 rfl rfl 11 (by decide) (hts _ mw_1170) (fun _ h9 => h9) rfl dX11_told_110 ?_
      refine lv_iload_n hx hb dX11_told_113 rfl (lv_at hl 1 rfl) ?_
      refine z_iald hx hb hK hP 2 0 rfl rfl (e := f) rfl (by omega) (by omega) dX11_told_114 ?_
      refine zz_i (v := nI n) (hm_f) ?_
      have hP9 := hP.sub (ws' := [(om k0 a I0 J0), (oa (a 6) cZ 201 tn), (oa (a 11) cI 201 mn)]) [0, 1, 2] rfl
      have hD9 := hD.sub (ws' := [(om k0 a I0 J0), (oa (a 6) cZ 201 tn), (oa (a 11) cI 201 mn)]) [0, 1, 2] (by decide) rfl
      rw [hQ9]
      exact W.iret (v := nI n) hx hb hr (fun t ht hW => ⟨⟨congrArg (fun z => Outcome.returned (some (Value.int z))) (show (nI n : Int32) = nI (if (tn f).toInt = 0 then n else 0) from by first | (rw [if_neg (by omega)]; rfl) | (rw [if_pos (by omega)])), by rw [ht]; exact hP9, hD9⟩, hS.F ht⟩) hS.2.2 dX11_told_115
    · have c_2 : ¬ (tn f).toInt = 0 := zc_ne rfl (by decide) c_2
      refine lv_iconst (v := 0) hx hb dX11_told_105 (by decide) ?_
      refine lv_goto (tgt := 115) hx hb dX11_told_106 (by decide) ?_
      have hP9 := hP.sub (ws' := [(om k0 a I0 J0), (oa (a 6) cZ 201 tn), (oa (a 11) cI 201 mn)]) [0, 1, 2] rfl
      have hD9 := hD.sub (ws' := [(om k0 a I0 J0), (oa (a 6) cZ 201 tn), (oa (a 11) cI 201 mn)]) [0, 1, 2] (by decide) rfl
      rw [hQ9]
      exact W.iret (v := 0) hx hb hr (fun t ht hW => ⟨⟨congrArg (fun z => Outcome.returned (some (Value.int z))) (show (0 : Int32) = nI (if (tn f).toInt = 0 then n else 0) from by first | (rw [if_neg (by omega)]; rfl) | (rw [if_pos (by omega)])), by rw [ht]; exact hP9, hD9⟩, hS.F ht⟩) hS.2.2 dX11_told_115
  · have c_1 : ¬ (f < ft) := zp_0 c_1
    exfalso; omega
set_option maxHeartbeats 4000000 in
set_option maxRecDepth 100000 in
theorem k_M_told_5 (l : Launch) (dC : Nat → ClassId) (dI : Nat → Nat → Nat) (cI cZ cF : ClassId) (sz : Nat) (k0 : Nat) (a : Nat → Nat) (I0 : Nat → Int32) (J0 : Nat → Int64) (f : Nat) (ft : Nat) (st : Nat → Int32) (hft : I0 0 = nI ft) (h200 : ft ≤ 200) (hf_t : f < ft) : Met l yX11_told (.code yX11_told cX11_told 3 (some .int) :: ws0) ({ frames := 1, cells := 0, slots := 0, locals := 21 } : Room) (va_Pc [.ref k0, .int (nI f), .int 5] (zPre (dC, dI) classes (zTy cI cZ cF) [(om k0 a I0 J0), (oa (a 5) cI 201 st)] sz zXN)) (zQ (some (.int (st f))) (fun t => va_P (dC, dI) classes [(om k0 a I0 J0), (oa (a 5) cI 201 st)] t.heap ∧ va_D (va_A [(om k0 a I0 J0), (oa (a 5) cI 201 st)] sz) [(om k0 a I0 J0), (oa (a 5) cI 201 st)]) (va_A [(om k0 a I0 J0), (oa (a 5) cI 201 st)] sz)) 0 0 (va_A [(om k0 a I0 J0), (oa (a 5) cI 201 st)] sz) := by
  refine Met.ofW (cc := cX11_told) (maxL := 3) (ret := (some .int)) (by decide) rfl ?_
  intro p e s m args below meth c s₁ B hml hv
  obtain ⟨rfl, hsz, hP, hK, hD0, hXN⟩ := hv
  have hx := B.exec
  have hb := B.bytes
  have hr := B.returns
  have hts0 := atoms_spec (ws := .code yX11_told cX11_told 3 (some .int) :: ws0) B.pre
  have hts : ∀ w9 ∈ ws0, w9.before ([.ref k0, .int (nI f), .int 5] : List Value).toArray s = true := fun w9 h => hts0 w9 (List.mem_cons_of_mem _ h)
  have hown : s.vm.findClass "ScaleShopModel" = some m.cls := findClass_of_methodNamed B.named
  have hlocks := B.notSynchronized
  subst hsz
  have hD := hD0.self (sz := s.heap.size)
  clear hD0
  generalize hAe : va_A [(om k0 a I0 J0), (oa (a 5) cI 201 st)] s.heap.size = A at hD ⊢
  have hA : ∀ q : Nat, s.heap.size ≤ q → A q := fun q h => by rw [← hAe]; exact Or.inr h
  clear hAe
  have hS : va_S A s.heap s.heap [] := va_S.rf
  have hP : va_P (dC, dI) classes [(om k0 a I0 J0), (oa (a 5) cI 201 st)] s.heap := hP
  obtain ⟨Q9, hQ9⟩ : ∃ Q9 : State → Prop, Q9 = MQ below (zQ (some (.int (st f))) (fun t => va_P (dC, dI) classes [(om k0 a I0 J0), (oa (a 5) cI 201 st)] t.heap ∧ va_D A [(om k0 a I0 J0), (oa (a 5) cI 201 st)]) A) ([.ref k0, .int (nI f), .int 5] : List Value).toArray s 0 0 A := ⟨_, rfl⟩
  rw [← hQ9]
  have hl := lv_entry ([.ref k0, .int (nI f), .int 5]) (n := 3) (Nat.le_of_ble_eq_true rfl)
  rw [lg_entry_eq]
  generalize (lg_sl ([.ref k0, .int (nI f), .int 5]) ++ List.replicate (3 - (lg_sl ([.ref k0, .int (nI f), .int 5])).length) Slot.unset).toArray = ls at hl ⊢
  have hl : lv_has ls 3 [(0, .ref k0), (1, .int (nI f)), (2, .int 5)] := hl
  refine lv_aload_n hx hb dX11_told_0 rfl (lv_at hl 0 rfl) ?_
  refine lv_iload_n hx hb dX11_told_1 rfl (lv_at hl 1 rfl) ?_
  have hPc := hP.sub (ws' := [(om k0 a I0 J0)]) [0] rfl
  have hDc := hD.sub (ws' := [(om k0 a I0 J0)]) [0] (by decide) rfl
  have hFc := va_free (wc := [(om k0 a I0 J0)]) hD hS hA [0] rfl
  refine zcall (st1 := [.int (pI (f < ft))]) (va_runV (As := [.int (nI f)]) (rest := []) ⟨hx, hb, hml, hown, hts⟩ (k_M_isFeature_n l dC dI cI cZ cF s.heap.size k0 a I0 J0 f ft (by assumption) (by omega) (by omega)) (cwV 1 hts (zz_gV mw_1345 mw_1347 mw_37 mw_110 mc_yX11_isFeature) rfl rfl rfl (by decide +kernel) ⟨Nat.le_of_ble_eq_true rfl, Nat.le_of_ble_eq_true rfl⟩) (zPV2 (q0 := 0) (ci := 9) hPc hDc hK hXN rfl rfl) rfl rfl hl.1 rfl (lv_room (Nat.le_of_ble_eq_true rfl)) dX11_told_2 ⟨Nat.le_of_ble_eq_true rfl, Nat.le_of_ble_eq_true rfl⟩) hS hFc hFc rfl (fun t H1 locs ht hB hk1 hS => ?_)
  obtain ⟨hP1, hD1⟩ := hB
  rw [ht] at hP1
  obtain ⟨hP, hD⟩ := va_join (wr := [(oa (a 5) cI 201 st)]) (w1 := [(om k0 a I0 J0)]) hP hD [0] [1] rfl rfl (by decide) (by decide) hk1 hFc hP1 hD1
  clear hk1 hPc hDc hFc hP1 hD1 ht
  generalize H1 = H at hP hS ⊢
  have hP := hP.sub (ws' := [(om k0 a I0 J0), (oa (a 5) cI 201 st)]) [1, 0] rfl
  have hD := hD.sub (ws' := [(om k0 a I0 J0), (oa (a 5) cI 201 st)]) [1, 0] (by decide) rfl
  have hP : va_P (dC, dI) classes [(om k0 a I0 J0), (oa (a 5) cI 201 st)] H := hP
  have hD : va_D A [(om k0 a I0 J0), (oa (a 5) cI 201 st)] := hD
  refine lv_if_ne (tgt := 10) hx hb dX11_told_5 (by decide) (fun c_1 => ?_) (fun c_1 => ?_)
  · have c_1 : f < ft := zp_1 c_1
    refine lv_iload_n hx hb dX11_told_10 rfl (lv_at hl 2 rfl) ?_
    refine lv_tableIn (tgt := 116) (off := 105) hx hb dX11_told_11 (by decide) (by decide) (by decide) (by decide) ?_
    refine lv_aload_n hx hb dX11_told_116 rfl (lv_at hl 0 rfl) ?_
    refine va_get (D := (dC, dI)) (ci := 9) (v := .ref (a 5)) (C := RX11) (T := TX11) (N := 55) hx hb hts inX11 hown hK hP 0 rfl rfl 5 (by decide) (hts _ mw_1164) (fun _ h9 => h9) rfl dX11_told_117 ?_
    refine lv_iload_n hx hb dX11_told_120 rfl (lv_at hl 1 rfl) ?_
    refine z_iald hx hb hK hP 1 0 rfl rfl (e := f) rfl (by omega) (by omega) dX11_told_121 ?_
    have hP9 := hP.sub (ws' := [(om k0 a I0 J0), (oa (a 5) cI 201 st)]) [0, 1] rfl
    have hD9 := hD.sub (ws' := [(om k0 a I0 J0), (oa (a 5) cI 201 st)]) [0, 1] (by decide) rfl
    rw [hQ9]
    exact W.iret (v := st f) hx hb hr (fun t ht hW => ⟨⟨rfl, by rw [ht]; exact hP9, hD9⟩, hS.F ht⟩) hS.2.2 dX11_told_122
  · have c_1 : ¬ (f < ft) := zp_0 c_1
    exfalso; omega
set_option maxHeartbeats 4000000 in
set_option maxRecDepth 100000 in
theorem k_M_told_6 (l : Launch) (dC : Nat → ClassId) (dI : Nat → Nat → Nat) (cI cZ cF : ClassId) (sz : Nat) (k0 : Nat) (a : Nat → Nat) (I0 : Nat → Int32) (J0 : Nat → Int64) (f : Nat) (ft : Nat) (tn : Nat → Int32) (hft : I0 0 = nI ft) (h200 : ft ≤ 200) (hf_t : f < ft) : Met l yX11_told (.code yX11_told cX11_told 3 (some .int) :: ws0) ({ frames := 1, cells := 0, slots := 0, locals := 21 } : Room) (va_Pc [.ref k0, .int (nI f), .int 6] (zPre (dC, dI) classes (zTy cI cZ cF) [(om k0 a I0 J0), (oa (a 6) cZ 201 tn)] sz zXN)) (zQ (some (.int (pI (¬ (tn f).toInt = 0)))) (fun t => va_P (dC, dI) classes [(om k0 a I0 J0), (oa (a 6) cZ 201 tn)] t.heap ∧ va_D (va_A [(om k0 a I0 J0), (oa (a 6) cZ 201 tn)] sz) [(om k0 a I0 J0), (oa (a 6) cZ 201 tn)]) (va_A [(om k0 a I0 J0), (oa (a 6) cZ 201 tn)] sz)) 0 0 (va_A [(om k0 a I0 J0), (oa (a 6) cZ 201 tn)] sz) := by
  refine Met.ofW (cc := cX11_told) (maxL := 3) (ret := (some .int)) (by decide) rfl ?_
  intro p e s m args below meth c s₁ B hml hv
  obtain ⟨rfl, hsz, hP, hK, hD0, hXN⟩ := hv
  have hx := B.exec
  have hb := B.bytes
  have hr := B.returns
  have hts0 := atoms_spec (ws := .code yX11_told cX11_told 3 (some .int) :: ws0) B.pre
  have hts : ∀ w9 ∈ ws0, w9.before ([.ref k0, .int (nI f), .int 6] : List Value).toArray s = true := fun w9 h => hts0 w9 (List.mem_cons_of_mem _ h)
  have hown : s.vm.findClass "ScaleShopModel" = some m.cls := findClass_of_methodNamed B.named
  have hlocks := B.notSynchronized
  subst hsz
  have hD := hD0.self (sz := s.heap.size)
  clear hD0
  generalize hAe : va_A [(om k0 a I0 J0), (oa (a 6) cZ 201 tn)] s.heap.size = A at hD ⊢
  have hA : ∀ q : Nat, s.heap.size ≤ q → A q := fun q h => by rw [← hAe]; exact Or.inr h
  clear hAe
  have hS : va_S A s.heap s.heap [] := va_S.rf
  have hP : va_P (dC, dI) classes [(om k0 a I0 J0), (oa (a 6) cZ 201 tn)] s.heap := hP
  obtain ⟨Q9, hQ9⟩ : ∃ Q9 : State → Prop, Q9 = MQ below (zQ (some (.int (pI (¬ (tn f).toInt = 0)))) (fun t => va_P (dC, dI) classes [(om k0 a I0 J0), (oa (a 6) cZ 201 tn)] t.heap ∧ va_D A [(om k0 a I0 J0), (oa (a 6) cZ 201 tn)]) A) ([.ref k0, .int (nI f), .int 6] : List Value).toArray s 0 0 A := ⟨_, rfl⟩
  rw [← hQ9]
  have hl := lv_entry ([.ref k0, .int (nI f), .int 6]) (n := 3) (Nat.le_of_ble_eq_true rfl)
  rw [lg_entry_eq]
  generalize (lg_sl ([.ref k0, .int (nI f), .int 6]) ++ List.replicate (3 - (lg_sl ([.ref k0, .int (nI f), .int 6])).length) Slot.unset).toArray = ls at hl ⊢
  have hl : lv_has ls 3 [(0, .ref k0), (1, .int (nI f)), (2, .int 6)] := hl
  refine lv_aload_n hx hb dX11_told_0 rfl (lv_at hl 0 rfl) ?_
  refine lv_iload_n hx hb dX11_told_1 rfl (lv_at hl 1 rfl) ?_
  have hPc := hP.sub (ws' := [(om k0 a I0 J0)]) [0] rfl
  have hDc := hD.sub (ws' := [(om k0 a I0 J0)]) [0] (by decide) rfl
  have hFc := va_free (wc := [(om k0 a I0 J0)]) hD hS hA [0] rfl
  refine zcall (st1 := [.int (pI (f < ft))]) (va_runV (As := [.int (nI f)]) (rest := []) ⟨hx, hb, hml, hown, hts⟩ (k_M_isFeature_n l dC dI cI cZ cF s.heap.size k0 a I0 J0 f ft (by assumption) (by omega) (by omega)) (cwV 1 hts (zz_gV mw_1345 mw_1347 mw_37 mw_110 mc_yX11_isFeature) rfl rfl rfl (by decide +kernel) ⟨Nat.le_of_ble_eq_true rfl, Nat.le_of_ble_eq_true rfl⟩) (zPV2 (q0 := 0) (ci := 9) hPc hDc hK hXN rfl rfl) rfl rfl hl.1 rfl (lv_room (Nat.le_of_ble_eq_true rfl)) dX11_told_2 ⟨Nat.le_of_ble_eq_true rfl, Nat.le_of_ble_eq_true rfl⟩) hS hFc hFc rfl (fun t H1 locs ht hB hk1 hS => ?_)
  obtain ⟨hP1, hD1⟩ := hB
  rw [ht] at hP1
  obtain ⟨hP, hD⟩ := va_join (wr := [(oa (a 6) cZ 201 tn)]) (w1 := [(om k0 a I0 J0)]) hP hD [0] [1] rfl rfl (by decide) (by decide) hk1 hFc hP1 hD1
  clear hk1 hPc hDc hFc hP1 hD1 ht
  generalize H1 = H at hP hS ⊢
  have hP := hP.sub (ws' := [(om k0 a I0 J0), (oa (a 6) cZ 201 tn)]) [1, 0] rfl
  have hD := hD.sub (ws' := [(om k0 a I0 J0), (oa (a 6) cZ 201 tn)]) [1, 0] (by decide) rfl
  have hP : va_P (dC, dI) classes [(om k0 a I0 J0), (oa (a 6) cZ 201 tn)] H := hP
  have hD : va_D A [(om k0 a I0 J0), (oa (a 6) cZ 201 tn)] := hD
  refine lv_if_ne (tgt := 10) hx hb dX11_told_5 (by decide) (fun c_1 => ?_) (fun c_1 => ?_)
  · have c_1 : f < ft := zp_1 c_1
    refine lv_iload_n hx hb dX11_told_10 rfl (lv_at hl 2 rfl) ?_
    refine lv_tableIn (tgt := 123) (off := 112) hx hb dX11_told_11 (by decide) (by decide) (by decide) (by decide) ?_
    refine lv_aload_n hx hb dX11_told_123 rfl (lv_at hl 0 rfl) ?_
    refine va_get (D := (dC, dI)) (ci := 9) (v := .ref (a 6)) (C := RX11) (T := TX11) (N := 55) hx hb hts inX11 hown hK hP 0 rfl rfl 6 (by decide) (hts _ mw_1165) (fun _ h9 => h9) rfl dX11_told_124 ?_
    refine lv_iload_n hx hb dX11_told_127 rfl (lv_at hl 1 rfl) ?_
    refine z_zald hx hb hK hP 1 1 rfl rfl (e := f) rfl (by omega) (by omega) dX11_told_128 ?_
    refine lv_if_eq (tgt := 136) hx hb dX11_told_129 (by decide) (fun c_2 => ?_) (fun c_2 => ?_)
    · have c_2 : (tn f).toInt = 0 := zc_eq rfl (by decide) c_2
      refine lv_iconst (v := 0) hx hb dX11_told_136 (by decide) ?_
      have hP9 := hP.sub (ws' := [(om k0 a I0 J0), (oa (a 6) cZ 201 tn)]) [0, 1] rfl
      have hD9 := hD.sub (ws' := [(om k0 a I0 J0), (oa (a 6) cZ 201 tn)]) [0, 1] (by decide) rfl
      rw [hQ9]
      exact W.iret (v := 0) hx hb hr (fun t ht hW => ⟨⟨congrArg (fun z => Outcome.returned (some (Value.int z))) (show (0 : Int32) = pI (¬ (tn f).toInt = 0) from (zp_f (by omega)).symm), by rw [ht]; exact hP9, hD9⟩, hS.F ht⟩) hS.2.2 dX11_told_137
    · have c_2 : ¬ (tn f).toInt = 0 := zc_ne rfl (by decide) c_2
      refine lv_iconst (v := 1) hx hb dX11_told_132 (by decide) ?_
      refine lv_goto (tgt := 137) hx hb dX11_told_133 (by decide) ?_
      have hP9 := hP.sub (ws' := [(om k0 a I0 J0), (oa (a 6) cZ 201 tn)]) [0, 1] rfl
      have hD9 := hD.sub (ws' := [(om k0 a I0 J0), (oa (a 6) cZ 201 tn)]) [0, 1] (by decide) rfl
      rw [hQ9]
      exact W.iret (v := 1) hx hb hr (fun t ht hW => ⟨⟨congrArg (fun z => Outcome.returned (some (Value.int z))) (show (1 : Int32) = pI (¬ (tn f).toInt = 0) from (zp_t (by omega)).symm), by rw [ht]; exact hP9, hD9⟩, hS.F ht⟩) hS.2.2 dX11_told_137
  · have c_1 : ¬ (f < ft) := zp_0 c_1
    exfalso; omega
set_option maxHeartbeats 4000000 in
set_option maxRecDepth 100000 in
theorem k_M_told_7 (l : Launch) (dC : Nat → ClassId) (dI : Nat → Nat → Nat) (cI cZ cF : ClassId) (sz : Nat) (k0 : Nat) (a : Nat → Nat) (I0 : Nat → Int32) (J0 : Nat → Int64) (f : Nat) (ft : Nat) (gb : Nat → Int32) (hft : I0 0 = nI ft) (h200 : ft ≤ 200) (hf_t : f < ft) : Met l yX11_told (.code yX11_told cX11_told 3 (some .int) :: ws0) ({ frames := 1, cells := 0, slots := 0, locals := 21 } : Room) (va_Pc [.ref k0, .int (nI f), .int 7] (zPre (dC, dI) classes (zTy cI cZ cF) [(om k0 a I0 J0), (oa (a 7) cI 201 gb)] sz zXN)) (zQ (some (.int (gb f))) (fun t => va_P (dC, dI) classes [(om k0 a I0 J0), (oa (a 7) cI 201 gb)] t.heap ∧ va_D (va_A [(om k0 a I0 J0), (oa (a 7) cI 201 gb)] sz) [(om k0 a I0 J0), (oa (a 7) cI 201 gb)]) (va_A [(om k0 a I0 J0), (oa (a 7) cI 201 gb)] sz)) 0 0 (va_A [(om k0 a I0 J0), (oa (a 7) cI 201 gb)] sz) := by
  refine Met.ofW (cc := cX11_told) (maxL := 3) (ret := (some .int)) (by decide) rfl ?_
  intro p e s m args below meth c s₁ B hml hv
  obtain ⟨rfl, hsz, hP, hK, hD0, hXN⟩ := hv
  have hx := B.exec
  have hb := B.bytes
  have hr := B.returns
  have hts0 := atoms_spec (ws := .code yX11_told cX11_told 3 (some .int) :: ws0) B.pre
  have hts : ∀ w9 ∈ ws0, w9.before ([.ref k0, .int (nI f), .int 7] : List Value).toArray s = true := fun w9 h => hts0 w9 (List.mem_cons_of_mem _ h)
  have hown : s.vm.findClass "ScaleShopModel" = some m.cls := findClass_of_methodNamed B.named
  have hlocks := B.notSynchronized
  subst hsz
  have hD := hD0.self (sz := s.heap.size)
  clear hD0
  generalize hAe : va_A [(om k0 a I0 J0), (oa (a 7) cI 201 gb)] s.heap.size = A at hD ⊢
  have hA : ∀ q : Nat, s.heap.size ≤ q → A q := fun q h => by rw [← hAe]; exact Or.inr h
  clear hAe
  have hS : va_S A s.heap s.heap [] := va_S.rf
  have hP : va_P (dC, dI) classes [(om k0 a I0 J0), (oa (a 7) cI 201 gb)] s.heap := hP
  obtain ⟨Q9, hQ9⟩ : ∃ Q9 : State → Prop, Q9 = MQ below (zQ (some (.int (gb f))) (fun t => va_P (dC, dI) classes [(om k0 a I0 J0), (oa (a 7) cI 201 gb)] t.heap ∧ va_D A [(om k0 a I0 J0), (oa (a 7) cI 201 gb)]) A) ([.ref k0, .int (nI f), .int 7] : List Value).toArray s 0 0 A := ⟨_, rfl⟩
  rw [← hQ9]
  have hl := lv_entry ([.ref k0, .int (nI f), .int 7]) (n := 3) (Nat.le_of_ble_eq_true rfl)
  rw [lg_entry_eq]
  generalize (lg_sl ([.ref k0, .int (nI f), .int 7]) ++ List.replicate (3 - (lg_sl ([.ref k0, .int (nI f), .int 7])).length) Slot.unset).toArray = ls at hl ⊢
  have hl : lv_has ls 3 [(0, .ref k0), (1, .int (nI f)), (2, .int 7)] := hl
  refine lv_aload_n hx hb dX11_told_0 rfl (lv_at hl 0 rfl) ?_
  refine lv_iload_n hx hb dX11_told_1 rfl (lv_at hl 1 rfl) ?_
  have hPc := hP.sub (ws' := [(om k0 a I0 J0)]) [0] rfl
  have hDc := hD.sub (ws' := [(om k0 a I0 J0)]) [0] (by decide) rfl
  have hFc := va_free (wc := [(om k0 a I0 J0)]) hD hS hA [0] rfl
  refine zcall (st1 := [.int (pI (f < ft))]) (va_runV (As := [.int (nI f)]) (rest := []) ⟨hx, hb, hml, hown, hts⟩ (k_M_isFeature_n l dC dI cI cZ cF s.heap.size k0 a I0 J0 f ft (by assumption) (by omega) (by omega)) (cwV 1 hts (zz_gV mw_1345 mw_1347 mw_37 mw_110 mc_yX11_isFeature) rfl rfl rfl (by decide +kernel) ⟨Nat.le_of_ble_eq_true rfl, Nat.le_of_ble_eq_true rfl⟩) (zPV2 (q0 := 0) (ci := 9) hPc hDc hK hXN rfl rfl) rfl rfl hl.1 rfl (lv_room (Nat.le_of_ble_eq_true rfl)) dX11_told_2 ⟨Nat.le_of_ble_eq_true rfl, Nat.le_of_ble_eq_true rfl⟩) hS hFc hFc rfl (fun t H1 locs ht hB hk1 hS => ?_)
  obtain ⟨hP1, hD1⟩ := hB
  rw [ht] at hP1
  obtain ⟨hP, hD⟩ := va_join (wr := [(oa (a 7) cI 201 gb)]) (w1 := [(om k0 a I0 J0)]) hP hD [0] [1] rfl rfl (by decide) (by decide) hk1 hFc hP1 hD1
  clear hk1 hPc hDc hFc hP1 hD1 ht
  generalize H1 = H at hP hS ⊢
  have hP := hP.sub (ws' := [(om k0 a I0 J0), (oa (a 7) cI 201 gb)]) [1, 0] rfl
  have hD := hD.sub (ws' := [(om k0 a I0 J0), (oa (a 7) cI 201 gb)]) [1, 0] (by decide) rfl
  have hP : va_P (dC, dI) classes [(om k0 a I0 J0), (oa (a 7) cI 201 gb)] H := hP
  have hD : va_D A [(om k0 a I0 J0), (oa (a 7) cI 201 gb)] := hD
  refine lv_if_ne (tgt := 10) hx hb dX11_told_5 (by decide) (fun c_1 => ?_) (fun c_1 => ?_)
  · have c_1 : f < ft := zp_1 c_1
    refine lv_iload_n hx hb dX11_told_10 rfl (lv_at hl 2 rfl) ?_
    refine lv_tableIn (tgt := 138) (off := 127) hx hb dX11_told_11 (by decide) (by decide) (by decide) (by decide) ?_
    refine lv_aload_n hx hb dX11_told_138 rfl (lv_at hl 0 rfl) ?_
    refine va_get (D := (dC, dI)) (ci := 9) (v := .ref (a 7)) (C := RX11) (T := TX11) (N := 55) hx hb hts inX11 hown hK hP 0 rfl rfl 7 (by decide) (hts _ mw_1166) (fun _ h9 => h9) rfl dX11_told_139 ?_
    refine lv_iload_n hx hb dX11_told_142 rfl (lv_at hl 1 rfl) ?_
    refine z_iald hx hb hK hP 1 0 rfl rfl (e := f) rfl (by omega) (by omega) dX11_told_143 ?_
    have hP9 := hP.sub (ws' := [(om k0 a I0 J0), (oa (a 7) cI 201 gb)]) [0, 1] rfl
    have hD9 := hD.sub (ws' := [(om k0 a I0 J0), (oa (a 7) cI 201 gb)]) [0, 1] (by decide) rfl
    rw [hQ9]
    exact W.iret (v := gb f) hx hb hr (fun t ht hW => ⟨⟨rfl, by rw [ht]; exact hP9, hD9⟩, hS.F ht⟩) hS.2.2 dX11_told_144
  · have c_1 : ¬ (f < ft) := zp_0 c_1
    exfalso; omega
set_option maxHeartbeats 4000000 in
set_option maxRecDepth 100000 in
theorem k_M_told_8 (l : Launch) (dC : Nat → ClassId) (dI : Nat → Nat → Nat) (cI cZ cF : ClassId) (sz : Nat) (k0 : Nat) (a : Nat → Nat) (I0 : Nat → Int32) (J0 : Nat → Int64) (f : Nat) (ft : Nat) (pa : Nat → Int32) (hft : I0 0 = nI ft) (h200 : ft ≤ 200) (hf_t : f < ft) : Met l yX11_told (.code yX11_told cX11_told 3 (some .int) :: ws0) ({ frames := 1, cells := 0, slots := 0, locals := 21 } : Room) (va_Pc [.ref k0, .int (nI f), .int 8] (zPre (dC, dI) classes (zTy cI cZ cF) [(om k0 a I0 J0), (oa (a 8) cI 201 pa)] sz zXN)) (zQ (some (.int (pa f))) (fun t => va_P (dC, dI) classes [(om k0 a I0 J0), (oa (a 8) cI 201 pa)] t.heap ∧ va_D (va_A [(om k0 a I0 J0), (oa (a 8) cI 201 pa)] sz) [(om k0 a I0 J0), (oa (a 8) cI 201 pa)]) (va_A [(om k0 a I0 J0), (oa (a 8) cI 201 pa)] sz)) 0 0 (va_A [(om k0 a I0 J0), (oa (a 8) cI 201 pa)] sz) := by
  refine Met.ofW (cc := cX11_told) (maxL := 3) (ret := (some .int)) (by decide) rfl ?_
  intro p e s m args below meth c s₁ B hml hv
  obtain ⟨rfl, hsz, hP, hK, hD0, hXN⟩ := hv
  have hx := B.exec
  have hb := B.bytes
  have hr := B.returns
  have hts0 := atoms_spec (ws := .code yX11_told cX11_told 3 (some .int) :: ws0) B.pre
  have hts : ∀ w9 ∈ ws0, w9.before ([.ref k0, .int (nI f), .int 8] : List Value).toArray s = true := fun w9 h => hts0 w9 (List.mem_cons_of_mem _ h)
  have hown : s.vm.findClass "ScaleShopModel" = some m.cls := findClass_of_methodNamed B.named
  have hlocks := B.notSynchronized
  subst hsz
  have hD := hD0.self (sz := s.heap.size)
  clear hD0
  generalize hAe : va_A [(om k0 a I0 J0), (oa (a 8) cI 201 pa)] s.heap.size = A at hD ⊢
  have hA : ∀ q : Nat, s.heap.size ≤ q → A q := fun q h => by rw [← hAe]; exact Or.inr h
  clear hAe
  have hS : va_S A s.heap s.heap [] := va_S.rf
  have hP : va_P (dC, dI) classes [(om k0 a I0 J0), (oa (a 8) cI 201 pa)] s.heap := hP
  obtain ⟨Q9, hQ9⟩ : ∃ Q9 : State → Prop, Q9 = MQ below (zQ (some (.int (pa f))) (fun t => va_P (dC, dI) classes [(om k0 a I0 J0), (oa (a 8) cI 201 pa)] t.heap ∧ va_D A [(om k0 a I0 J0), (oa (a 8) cI 201 pa)]) A) ([.ref k0, .int (nI f), .int 8] : List Value).toArray s 0 0 A := ⟨_, rfl⟩
  rw [← hQ9]
  have hl := lv_entry ([.ref k0, .int (nI f), .int 8]) (n := 3) (Nat.le_of_ble_eq_true rfl)
  rw [lg_entry_eq]
  generalize (lg_sl ([.ref k0, .int (nI f), .int 8]) ++ List.replicate (3 - (lg_sl ([.ref k0, .int (nI f), .int 8])).length) Slot.unset).toArray = ls at hl ⊢
  have hl : lv_has ls 3 [(0, .ref k0), (1, .int (nI f)), (2, .int 8)] := hl
  refine lv_aload_n hx hb dX11_told_0 rfl (lv_at hl 0 rfl) ?_
  refine lv_iload_n hx hb dX11_told_1 rfl (lv_at hl 1 rfl) ?_
  have hPc := hP.sub (ws' := [(om k0 a I0 J0)]) [0] rfl
  have hDc := hD.sub (ws' := [(om k0 a I0 J0)]) [0] (by decide) rfl
  have hFc := va_free (wc := [(om k0 a I0 J0)]) hD hS hA [0] rfl
  refine zcall (st1 := [.int (pI (f < ft))]) (va_runV (As := [.int (nI f)]) (rest := []) ⟨hx, hb, hml, hown, hts⟩ (k_M_isFeature_n l dC dI cI cZ cF s.heap.size k0 a I0 J0 f ft (by assumption) (by omega) (by omega)) (cwV 1 hts (zz_gV mw_1345 mw_1347 mw_37 mw_110 mc_yX11_isFeature) rfl rfl rfl (by decide +kernel) ⟨Nat.le_of_ble_eq_true rfl, Nat.le_of_ble_eq_true rfl⟩) (zPV2 (q0 := 0) (ci := 9) hPc hDc hK hXN rfl rfl) rfl rfl hl.1 rfl (lv_room (Nat.le_of_ble_eq_true rfl)) dX11_told_2 ⟨Nat.le_of_ble_eq_true rfl, Nat.le_of_ble_eq_true rfl⟩) hS hFc hFc rfl (fun t H1 locs ht hB hk1 hS => ?_)
  obtain ⟨hP1, hD1⟩ := hB
  rw [ht] at hP1
  obtain ⟨hP, hD⟩ := va_join (wr := [(oa (a 8) cI 201 pa)]) (w1 := [(om k0 a I0 J0)]) hP hD [0] [1] rfl rfl (by decide) (by decide) hk1 hFc hP1 hD1
  clear hk1 hPc hDc hFc hP1 hD1 ht
  generalize H1 = H at hP hS ⊢
  have hP := hP.sub (ws' := [(om k0 a I0 J0), (oa (a 8) cI 201 pa)]) [1, 0] rfl
  have hD := hD.sub (ws' := [(om k0 a I0 J0), (oa (a 8) cI 201 pa)]) [1, 0] (by decide) rfl
  have hP : va_P (dC, dI) classes [(om k0 a I0 J0), (oa (a 8) cI 201 pa)] H := hP
  have hD : va_D A [(om k0 a I0 J0), (oa (a 8) cI 201 pa)] := hD
  refine lv_if_ne (tgt := 10) hx hb dX11_told_5 (by decide) (fun c_1 => ?_) (fun c_1 => ?_)
  · have c_1 : f < ft := zp_1 c_1
    refine lv_iload_n hx hb dX11_told_10 rfl (lv_at hl 2 rfl) ?_
    refine lv_tableIn (tgt := 145) (off := 134) hx hb dX11_told_11 (by decide) (by decide) (by decide) (by decide) ?_
    refine lv_aload_n hx hb dX11_told_145 rfl (lv_at hl 0 rfl) ?_
    refine va_get (D := (dC, dI)) (ci := 9) (v := .ref (a 8)) (C := RX11) (T := TX11) (N := 55) hx hb hts inX11 hown hK hP 0 rfl rfl 8 (by decide) (hts _ mw_1167) (fun _ h9 => h9) rfl dX11_told_146 ?_
    refine lv_iload_n hx hb dX11_told_149 rfl (lv_at hl 1 rfl) ?_
    refine z_iald hx hb hK hP 1 0 rfl rfl (e := f) rfl (by omega) (by omega) dX11_told_150 ?_
    have hP9 := hP.sub (ws' := [(om k0 a I0 J0), (oa (a 8) cI 201 pa)]) [0, 1] rfl
    have hD9 := hD.sub (ws' := [(om k0 a I0 J0), (oa (a 8) cI 201 pa)]) [0, 1] (by decide) rfl
    rw [hQ9]
    exact W.iret (v := pa f) hx hb hr (fun t ht hW => ⟨⟨rfl, by rw [ht]; exact hP9, hD9⟩, hS.F ht⟩) hS.2.2 dX11_told_151
  · have c_1 : ¬ (f < ft) := zp_0 c_1
    exfalso; omega
set_option maxHeartbeats 4000000 in
set_option maxRecDepth 100000 in
theorem k_M_told_9 (l : Launch) (dC : Nat → ClassId) (dI : Nat → Nat → Nat) (cI cZ cF : ClassId) (sz : Nat) (k0 : Nat) (a : Nat → Nat) (I0 : Nat → Int32) (J0 : Nat → Int64) (f : Nat) (ft : Nat) (pb : Nat → Int32) (hft : I0 0 = nI ft) (h200 : ft ≤ 200) (hf_t : f < ft) : Met l yX11_told (.code yX11_told cX11_told 3 (some .int) :: ws0) ({ frames := 1, cells := 0, slots := 0, locals := 21 } : Room) (va_Pc [.ref k0, .int (nI f), .int 9] (zPre (dC, dI) classes (zTy cI cZ cF) [(om k0 a I0 J0), (oa (a 9) cI 201 pb)] sz zXN)) (zQ (some (.int (pb f))) (fun t => va_P (dC, dI) classes [(om k0 a I0 J0), (oa (a 9) cI 201 pb)] t.heap ∧ va_D (va_A [(om k0 a I0 J0), (oa (a 9) cI 201 pb)] sz) [(om k0 a I0 J0), (oa (a 9) cI 201 pb)]) (va_A [(om k0 a I0 J0), (oa (a 9) cI 201 pb)] sz)) 0 0 (va_A [(om k0 a I0 J0), (oa (a 9) cI 201 pb)] sz) := by
  refine Met.ofW (cc := cX11_told) (maxL := 3) (ret := (some .int)) (by decide) rfl ?_
  intro p e s m args below meth c s₁ B hml hv
  obtain ⟨rfl, hsz, hP, hK, hD0, hXN⟩ := hv
  have hx := B.exec
  have hb := B.bytes
  have hr := B.returns
  have hts0 := atoms_spec (ws := .code yX11_told cX11_told 3 (some .int) :: ws0) B.pre
  have hts : ∀ w9 ∈ ws0, w9.before ([.ref k0, .int (nI f), .int 9] : List Value).toArray s = true := fun w9 h => hts0 w9 (List.mem_cons_of_mem _ h)
  have hown : s.vm.findClass "ScaleShopModel" = some m.cls := findClass_of_methodNamed B.named
  have hlocks := B.notSynchronized
  subst hsz
  have hD := hD0.self (sz := s.heap.size)
  clear hD0
  generalize hAe : va_A [(om k0 a I0 J0), (oa (a 9) cI 201 pb)] s.heap.size = A at hD ⊢
  have hA : ∀ q : Nat, s.heap.size ≤ q → A q := fun q h => by rw [← hAe]; exact Or.inr h
  clear hAe
  have hS : va_S A s.heap s.heap [] := va_S.rf
  have hP : va_P (dC, dI) classes [(om k0 a I0 J0), (oa (a 9) cI 201 pb)] s.heap := hP
  obtain ⟨Q9, hQ9⟩ : ∃ Q9 : State → Prop, Q9 = MQ below (zQ (some (.int (pb f))) (fun t => va_P (dC, dI) classes [(om k0 a I0 J0), (oa (a 9) cI 201 pb)] t.heap ∧ va_D A [(om k0 a I0 J0), (oa (a 9) cI 201 pb)]) A) ([.ref k0, .int (nI f), .int 9] : List Value).toArray s 0 0 A := ⟨_, rfl⟩
  rw [← hQ9]
  have hl := lv_entry ([.ref k0, .int (nI f), .int 9]) (n := 3) (Nat.le_of_ble_eq_true rfl)
  rw [lg_entry_eq]
  generalize (lg_sl ([.ref k0, .int (nI f), .int 9]) ++ List.replicate (3 - (lg_sl ([.ref k0, .int (nI f), .int 9])).length) Slot.unset).toArray = ls at hl ⊢
  have hl : lv_has ls 3 [(0, .ref k0), (1, .int (nI f)), (2, .int 9)] := hl
  refine lv_aload_n hx hb dX11_told_0 rfl (lv_at hl 0 rfl) ?_
  refine lv_iload_n hx hb dX11_told_1 rfl (lv_at hl 1 rfl) ?_
  have hPc := hP.sub (ws' := [(om k0 a I0 J0)]) [0] rfl
  have hDc := hD.sub (ws' := [(om k0 a I0 J0)]) [0] (by decide) rfl
  have hFc := va_free (wc := [(om k0 a I0 J0)]) hD hS hA [0] rfl
  refine zcall (st1 := [.int (pI (f < ft))]) (va_runV (As := [.int (nI f)]) (rest := []) ⟨hx, hb, hml, hown, hts⟩ (k_M_isFeature_n l dC dI cI cZ cF s.heap.size k0 a I0 J0 f ft (by assumption) (by omega) (by omega)) (cwV 1 hts (zz_gV mw_1345 mw_1347 mw_37 mw_110 mc_yX11_isFeature) rfl rfl rfl (by decide +kernel) ⟨Nat.le_of_ble_eq_true rfl, Nat.le_of_ble_eq_true rfl⟩) (zPV2 (q0 := 0) (ci := 9) hPc hDc hK hXN rfl rfl) rfl rfl hl.1 rfl (lv_room (Nat.le_of_ble_eq_true rfl)) dX11_told_2 ⟨Nat.le_of_ble_eq_true rfl, Nat.le_of_ble_eq_true rfl⟩) hS hFc hFc rfl (fun t H1 locs ht hB hk1 hS => ?_)
  obtain ⟨hP1, hD1⟩ := hB
  rw [ht] at hP1
  obtain ⟨hP, hD⟩ := va_join (wr := [(oa (a 9) cI 201 pb)]) (w1 := [(om k0 a I0 J0)]) hP hD [0] [1] rfl rfl (by decide) (by decide) hk1 hFc hP1 hD1
  clear hk1 hPc hDc hFc hP1 hD1 ht
  generalize H1 = H at hP hS ⊢
  have hP := hP.sub (ws' := [(om k0 a I0 J0), (oa (a 9) cI 201 pb)]) [1, 0] rfl
  have hD := hD.sub (ws' := [(om k0 a I0 J0), (oa (a 9) cI 201 pb)]) [1, 0] (by decide) rfl
  have hP : va_P (dC, dI) classes [(om k0 a I0 J0), (oa (a 9) cI 201 pb)] H := hP
  have hD : va_D A [(om k0 a I0 J0), (oa (a 9) cI 201 pb)] := hD
  refine lv_if_ne (tgt := 10) hx hb dX11_told_5 (by decide) (fun c_1 => ?_) (fun c_1 => ?_)
  · have c_1 : f < ft := zp_1 c_1
    refine lv_iload_n hx hb dX11_told_10 rfl (lv_at hl 2 rfl) ?_
    refine lv_tableIn (tgt := 152) (off := 141) hx hb dX11_told_11 (by decide) (by decide) (by decide) (by decide) ?_
    refine lv_aload_n hx hb dX11_told_152 rfl (lv_at hl 0 rfl) ?_
    refine va_get (D := (dC, dI)) (ci := 9) (v := .ref (a 9)) (C := RX11) (T := TX11) (N := 55) hx hb hts inX11 hown hK hP 0 rfl rfl 9 (by decide) (hts _ mw_1168) (fun _ h9 => h9) rfl dX11_told_153 ?_
    refine lv_iload_n hx hb dX11_told_156 rfl (lv_at hl 1 rfl) ?_
    refine z_iald hx hb hK hP 1 0 rfl rfl (e := f) rfl (by omega) (by omega) dX11_told_157 ?_
    have hP9 := hP.sub (ws' := [(om k0 a I0 J0), (oa (a 9) cI 201 pb)]) [0, 1] rfl
    have hD9 := hD.sub (ws' := [(om k0 a I0 J0), (oa (a 9) cI 201 pb)]) [0, 1] (by decide) rfl
    rw [hQ9]
    exact W.iret (v := pb f) hx hb hr (fun t ht hW => ⟨⟨rfl, by rw [ht]; exact hP9, hD9⟩, hS.F ht⟩) hS.2.2 dX11_told_158
  · have c_1 : ¬ (f < ft) := zp_0 c_1
    exfalso; omega
set_option maxHeartbeats 4000000 in
set_option maxRecDepth 100000 in
theorem k_M_told_10 (l : Launch) (dC : Nat → ClassId) (dI : Nat → Nat → Nat) (cI cZ cF : ClassId) (sz : Nat) (k0 : Nat) (a : Nat → Nat) (I0 : Nat → Int32) (J0 : Nat → Int64) (f : Nat) (ft : Nat) (it : Nat → Int32) (hft : I0 0 = nI ft) (h200 : ft ≤ 200) (hf_t : f < ft) : Met l yX11_told (.code yX11_told cX11_told 3 (some .int) :: ws0) ({ frames := 1, cells := 0, slots := 0, locals := 21 } : Room) (va_Pc [.ref k0, .int (nI f), .int 10] (zPre (dC, dI) classes (zTy cI cZ cF) [(om k0 a I0 J0), (oa (a 10) cI 201 it)] sz zXN)) (zQ (some (.int (it f))) (fun t => va_P (dC, dI) classes [(om k0 a I0 J0), (oa (a 10) cI 201 it)] t.heap ∧ va_D (va_A [(om k0 a I0 J0), (oa (a 10) cI 201 it)] sz) [(om k0 a I0 J0), (oa (a 10) cI 201 it)]) (va_A [(om k0 a I0 J0), (oa (a 10) cI 201 it)] sz)) 0 0 (va_A [(om k0 a I0 J0), (oa (a 10) cI 201 it)] sz) := by
  refine Met.ofW (cc := cX11_told) (maxL := 3) (ret := (some .int)) (by decide) rfl ?_
  intro p e s m args below meth c s₁ B hml hv
  obtain ⟨rfl, hsz, hP, hK, hD0, hXN⟩ := hv
  have hx := B.exec
  have hb := B.bytes
  have hr := B.returns
  have hts0 := atoms_spec (ws := .code yX11_told cX11_told 3 (some .int) :: ws0) B.pre
  have hts : ∀ w9 ∈ ws0, w9.before ([.ref k0, .int (nI f), .int 10] : List Value).toArray s = true := fun w9 h => hts0 w9 (List.mem_cons_of_mem _ h)
  have hown : s.vm.findClass "ScaleShopModel" = some m.cls := findClass_of_methodNamed B.named
  have hlocks := B.notSynchronized
  subst hsz
  have hD := hD0.self (sz := s.heap.size)
  clear hD0
  generalize hAe : va_A [(om k0 a I0 J0), (oa (a 10) cI 201 it)] s.heap.size = A at hD ⊢
  have hA : ∀ q : Nat, s.heap.size ≤ q → A q := fun q h => by rw [← hAe]; exact Or.inr h
  clear hAe
  have hS : va_S A s.heap s.heap [] := va_S.rf
  have hP : va_P (dC, dI) classes [(om k0 a I0 J0), (oa (a 10) cI 201 it)] s.heap := hP
  obtain ⟨Q9, hQ9⟩ : ∃ Q9 : State → Prop, Q9 = MQ below (zQ (some (.int (it f))) (fun t => va_P (dC, dI) classes [(om k0 a I0 J0), (oa (a 10) cI 201 it)] t.heap ∧ va_D A [(om k0 a I0 J0), (oa (a 10) cI 201 it)]) A) ([.ref k0, .int (nI f), .int 10] : List Value).toArray s 0 0 A := ⟨_, rfl⟩
  rw [← hQ9]
  have hl := lv_entry ([.ref k0, .int (nI f), .int 10]) (n := 3) (Nat.le_of_ble_eq_true rfl)
  rw [lg_entry_eq]
  generalize (lg_sl ([.ref k0, .int (nI f), .int 10]) ++ List.replicate (3 - (lg_sl ([.ref k0, .int (nI f), .int 10])).length) Slot.unset).toArray = ls at hl ⊢
  have hl : lv_has ls 3 [(0, .ref k0), (1, .int (nI f)), (2, .int 10)] := hl
  refine lv_aload_n hx hb dX11_told_0 rfl (lv_at hl 0 rfl) ?_
  refine lv_iload_n hx hb dX11_told_1 rfl (lv_at hl 1 rfl) ?_
  have hPc := hP.sub (ws' := [(om k0 a I0 J0)]) [0] rfl
  have hDc := hD.sub (ws' := [(om k0 a I0 J0)]) [0] (by decide) rfl
  have hFc := va_free (wc := [(om k0 a I0 J0)]) hD hS hA [0] rfl
  refine zcall (st1 := [.int (pI (f < ft))]) (va_runV (As := [.int (nI f)]) (rest := []) ⟨hx, hb, hml, hown, hts⟩ (k_M_isFeature_n l dC dI cI cZ cF s.heap.size k0 a I0 J0 f ft (by assumption) (by omega) (by omega)) (cwV 1 hts (zz_gV mw_1345 mw_1347 mw_37 mw_110 mc_yX11_isFeature) rfl rfl rfl (by decide +kernel) ⟨Nat.le_of_ble_eq_true rfl, Nat.le_of_ble_eq_true rfl⟩) (zPV2 (q0 := 0) (ci := 9) hPc hDc hK hXN rfl rfl) rfl rfl hl.1 rfl (lv_room (Nat.le_of_ble_eq_true rfl)) dX11_told_2 ⟨Nat.le_of_ble_eq_true rfl, Nat.le_of_ble_eq_true rfl⟩) hS hFc hFc rfl (fun t H1 locs ht hB hk1 hS => ?_)
  obtain ⟨hP1, hD1⟩ := hB
  rw [ht] at hP1
  obtain ⟨hP, hD⟩ := va_join (wr := [(oa (a 10) cI 201 it)]) (w1 := [(om k0 a I0 J0)]) hP hD [0] [1] rfl rfl (by decide) (by decide) hk1 hFc hP1 hD1
  clear hk1 hPc hDc hFc hP1 hD1 ht
  generalize H1 = H at hP hS ⊢
  have hP := hP.sub (ws' := [(om k0 a I0 J0), (oa (a 10) cI 201 it)]) [1, 0] rfl
  have hD := hD.sub (ws' := [(om k0 a I0 J0), (oa (a 10) cI 201 it)]) [1, 0] (by decide) rfl
  have hP : va_P (dC, dI) classes [(om k0 a I0 J0), (oa (a 10) cI 201 it)] H := hP
  have hD : va_D A [(om k0 a I0 J0), (oa (a 10) cI 201 it)] := hD
  refine lv_if_ne (tgt := 10) hx hb dX11_told_5 (by decide) (fun c_1 => ?_) (fun c_1 => ?_)
  · have c_1 : f < ft := zp_1 c_1
    refine lv_iload_n hx hb dX11_told_10 rfl (lv_at hl 2 rfl) ?_
    refine lv_tableIn (tgt := 159) (off := 148) hx hb dX11_told_11 (by decide) (by decide) (by decide) (by decide) ?_
    refine lv_aload_n hx hb dX11_told_159 rfl (lv_at hl 0 rfl) ?_
    refine va_get (D := (dC, dI)) (ci := 9) (v := .ref (a 10)) (C := RX11) (T := TX11) (N := 55) hx hb hts inX11 hown hK hP 0 rfl rfl 10 (by decide) (hts _ mw_1169) (fun _ h9 => h9) rfl dX11_told_160 ?_
    refine lv_iload_n hx hb dX11_told_163 rfl (lv_at hl 1 rfl) ?_
    refine z_iald hx hb hK hP 1 0 rfl rfl (e := f) rfl (by omega) (by omega) dX11_told_164 ?_
    have hP9 := hP.sub (ws' := [(om k0 a I0 J0), (oa (a 10) cI 201 it)]) [0, 1] rfl
    have hD9 := hD.sub (ws' := [(om k0 a I0 J0), (oa (a 10) cI 201 it)]) [0, 1] (by decide) rfl
    rw [hQ9]
    exact W.iret (v := it f) hx hb hr (fun t ht hW => ⟨⟨rfl, by rw [ht]; exact hP9, hD9⟩, hS.F ht⟩) hS.2.2 dX11_told_165
  · have c_1 : ¬ (f < ft) := zp_0 c_1
    exfalso; omega
set_option maxHeartbeats 4000000 in
set_option maxRecDepth 100000 in
theorem k_M_told_d (l : Launch) (dC : Nat → ClassId) (dI : Nat → Nat → Nat) (cI cZ cF : ClassId) (sz : Nat) (k0 : Nat) (a : Nat → Nat) (I0 : Nat → Int32) (J0 : Nat → Int64) (f : Nat) (ft : Nat) (w : Int32) (hft : I0 0 = nI ft) (h200 : ft ≤ 200) (hf_t : f < ft) (hw9 : w.toInt < 0 ∨ 10 < w.toInt) : Met l yX11_told (.code yX11_told cX11_told 3 (some .int) :: ws0) ({ frames := 1, cells := 0, slots := 0, locals := 21 } : Room) (va_Pc [.ref k0, .int (nI f), .int w] (zPre (dC, dI) classes (zTy cI cZ cF) [(om k0 a I0 J0)] sz zXN)) (zQ (some (.int (-1))) (fun t => va_P (dC, dI) classes [(om k0 a I0 J0)] t.heap ∧ va_D (va_A [(om k0 a I0 J0)] sz) [(om k0 a I0 J0)]) (va_A [(om k0 a I0 J0)] sz)) 0 0 (va_A [(om k0 a I0 J0)] sz) := by
  refine Met.ofW (cc := cX11_told) (maxL := 3) (ret := (some .int)) (by decide) rfl ?_
  intro p e s m args below meth c s₁ B hml hv
  obtain ⟨rfl, hsz, hP, hK, hD0, hXN⟩ := hv
  have hx := B.exec
  have hb := B.bytes
  have hr := B.returns
  have hts0 := atoms_spec (ws := .code yX11_told cX11_told 3 (some .int) :: ws0) B.pre
  have hts : ∀ w9 ∈ ws0, w9.before ([.ref k0, .int (nI f), .int w] : List Value).toArray s = true := fun w9 h => hts0 w9 (List.mem_cons_of_mem _ h)
  have hown : s.vm.findClass "ScaleShopModel" = some m.cls := findClass_of_methodNamed B.named
  have hlocks := B.notSynchronized
  subst hsz
  have hD := hD0.self (sz := s.heap.size)
  clear hD0
  generalize hAe : va_A [(om k0 a I0 J0)] s.heap.size = A at hD ⊢
  have hA : ∀ q : Nat, s.heap.size ≤ q → A q := fun q h => by rw [← hAe]; exact Or.inr h
  clear hAe
  have hS : va_S A s.heap s.heap [] := va_S.rf
  have hP : va_P (dC, dI) classes [(om k0 a I0 J0)] s.heap := hP
  obtain ⟨Q9, hQ9⟩ : ∃ Q9 : State → Prop, Q9 = MQ below (zQ (some (.int (-1))) (fun t => va_P (dC, dI) classes [(om k0 a I0 J0)] t.heap ∧ va_D A [(om k0 a I0 J0)]) A) ([.ref k0, .int (nI f), .int w] : List Value).toArray s 0 0 A := ⟨_, rfl⟩
  rw [← hQ9]
  have hl := lv_entry ([.ref k0, .int (nI f), .int w]) (n := 3) (Nat.le_of_ble_eq_true rfl)
  rw [lg_entry_eq]
  generalize (lg_sl ([.ref k0, .int (nI f), .int w]) ++ List.replicate (3 - (lg_sl ([.ref k0, .int (nI f), .int w])).length) Slot.unset).toArray = ls at hl ⊢
  have hl : lv_has ls 3 [(0, .ref k0), (1, .int (nI f)), (2, .int w)] := hl
  refine lv_aload_n hx hb dX11_told_0 rfl (lv_at hl 0 rfl) ?_
  refine lv_iload_n hx hb dX11_told_1 rfl (lv_at hl 1 rfl) ?_
  have hPc := hP.sub (ws' := [(om k0 a I0 J0)]) [0] rfl
  have hDc := hD.sub (ws' := [(om k0 a I0 J0)]) [0] (by decide) rfl
  have hFc := va_free (wc := [(om k0 a I0 J0)]) hD hS hA [0] rfl
  refine zcall (st1 := [.int (pI (f < ft))]) (va_runV (As := [.int (nI f)]) (rest := []) ⟨hx, hb, hml, hown, hts⟩ (k_M_isFeature_n l dC dI cI cZ cF s.heap.size k0 a I0 J0 f ft (by assumption) (by omega) (by omega)) (cwV 1 hts (zz_gV mw_1345 mw_1347 mw_37 mw_110 mc_yX11_isFeature) rfl rfl rfl (by decide +kernel) ⟨Nat.le_of_ble_eq_true rfl, Nat.le_of_ble_eq_true rfl⟩) (zPV2 (q0 := 0) (ci := 9) hPc hDc hK hXN rfl rfl) rfl rfl hl.1 rfl (lv_room (Nat.le_of_ble_eq_true rfl)) dX11_told_2 ⟨Nat.le_of_ble_eq_true rfl, Nat.le_of_ble_eq_true rfl⟩) hS hFc hFc rfl (fun t H1 locs ht hB hk1 hS => ?_)
  obtain ⟨hP1, hD1⟩ := hB
  rw [ht] at hP1
  obtain ⟨hP, hD⟩ := va_join (wr := []) (w1 := [(om k0 a I0 J0)]) hP hD [0] [] rfl rfl (by decide) (by decide) hk1 hFc hP1 hD1
  clear hk1 hPc hDc hFc hP1 hD1 ht
  generalize H1 = H at hP hS ⊢
  have hP : va_P (dC, dI) classes [(om k0 a I0 J0)] H := hP
  have hD : va_D A [(om k0 a I0 J0)] := hD
  refine lv_if_ne (tgt := 10) hx hb dX11_told_5 (by decide) (fun c_1 => ?_) (fun c_1 => ?_)
  · have c_1 : f < ft := zp_1 c_1
    refine lv_iload_n hx hb dX11_told_10 rfl (lv_at hl 2 rfl) ?_
    refine lv_tableOut (tgt := 166) hx hb dX11_told_11 (hw9) (by decide) ?_
    refine lv_iconst (v := (-1)) hx hb dX11_told_166 (by decide) ?_
    have hP9 := hP.sub (ws' := [(om k0 a I0 J0)]) [0] rfl
    have hD9 := hD.sub (ws' := [(om k0 a I0 J0)]) [0] (by decide) rfl
    rw [hQ9]
    exact W.iret (v := (-1)) hx hb hr (fun t ht hW => ⟨⟨rfl, by rw [ht]; exact hP9, hD9⟩, hS.F ht⟩) hS.2.2 dX11_told_167
  · have c_1 : ¬ (f < ft) := zp_0 c_1
    exfalso; omega
set_option maxHeartbeats 4000000 in
set_option maxRecDepth 100000 in
theorem k_M_step_x (l : Launch) (dC : Nat → ClassId) (dI : Nat → Nat → Nat) (cI cZ cF : ClassId) (sz : Nat) (k0 : Nat) (a : Nat → Nat) (I0 : Nat → Int32) (J0 : Nat → Int64) (dn : Nat) (rd : Nat) (v : Int32) (w : Int32) (hdn : I0 19 = nI dn) (hrd : I0 20 = nI rd) (hsum : dn + rd ≤ 512) (hv : ¬ (1 ≤ v.toInt ∧ v.toInt ≤ ((dn + rd : Nat) : Int))) : Met l yX11_step (.code yX11_step cX11_step 3 (some .int) :: ws0) ({ frames := 0, cells := 0, slots := 0, locals := 0 } : Room) (va_Pc [.ref k0, .int v, .int w] (zPre (dC, dI) classes (zTy cI cZ cF) [(om k0 a I0 J0)] sz zXN)) (zQ (some (.int (-1))) (fun t => va_P (dC, dI) classes [(om k0 a I0 J0)] t.heap ∧ va_D (va_A [(om k0 a I0 J0)] sz) [(om k0 a I0 J0)]) (va_A [(om k0 a I0 J0)] sz)) 0 0 (va_A [(om k0 a I0 J0)] sz) := by
  refine Met.ofW (cc := cX11_step) (maxL := 3) (ret := (some .int)) (by decide) rfl ?_
  intro p e s m args below meth c s₁ B hml hv
  obtain ⟨rfl, hsz, hP, hK, hD0, hXN⟩ := hv
  have hx := B.exec
  have hb := B.bytes
  have hr := B.returns
  have hts0 := atoms_spec (ws := .code yX11_step cX11_step 3 (some .int) :: ws0) B.pre
  have hts : ∀ w9 ∈ ws0, w9.before ([.ref k0, .int v, .int w] : List Value).toArray s = true := fun w9 h => hts0 w9 (List.mem_cons_of_mem _ h)
  have hown : s.vm.findClass "ScaleShopModel" = some m.cls := findClass_of_methodNamed B.named
  have hlocks := B.notSynchronized
  subst hsz
  have hD := hD0.self (sz := s.heap.size)
  clear hD0
  generalize hAe : va_A [(om k0 a I0 J0)] s.heap.size = A at hD ⊢
  have hA : ∀ q : Nat, s.heap.size ≤ q → A q := fun q h => by rw [← hAe]; exact Or.inr h
  clear hAe
  have hS : va_S A s.heap s.heap [] := va_S.rf
  have hP : va_P (dC, dI) classes [(om k0 a I0 J0)] s.heap := hP
  obtain ⟨Q9, hQ9⟩ : ∃ Q9 : State → Prop, Q9 = MQ below (zQ (some (.int (-1))) (fun t => va_P (dC, dI) classes [(om k0 a I0 J0)] t.heap ∧ va_D A [(om k0 a I0 J0)]) A) ([.ref k0, .int v, .int w] : List Value).toArray s 0 0 A := ⟨_, rfl⟩
  rw [← hQ9]
  have hl := lv_entry ([.ref k0, .int v, .int w]) (n := 3) (Nat.le_of_ble_eq_true rfl)
  rw [lg_entry_eq]
  generalize (lg_sl ([.ref k0, .int v, .int w]) ++ List.replicate (3 - (lg_sl ([.ref k0, .int v, .int w])).length) Slot.unset).toArray = ls at hl ⊢
  have hl : lv_has ls 3 [(0, .ref k0), (1, .int v), (2, .int w)] := hl
  refine lv_iload_n hx hb dX11_step_0 rfl (lv_at hl 1 rfl) ?_
  refine lv_iconst (v := 1) hx hb dX11_step_1 (by decide) ?_
  refine lv_icmp_lt (tgt := 18) hx hb dX11_step_2 (by decide) (fun c_1 => ?_) (fun c_1 => ?_)
  · have c_1 : v.toInt < 1 := zc_lt rfl (by decide) c_1
    refine lv_iconst (v := (-1)) hx hb dX11_step_18 (by decide) ?_
    have hP9 := hP.sub (ws' := [(om k0 a I0 J0)]) [0] rfl
    have hD9 := hD.sub (ws' := [(om k0 a I0 J0)]) [0] (by decide) rfl
    rw [hQ9]
    exact W.iret (v := (-1)) hx hb hr (fun t ht hW => ⟨⟨rfl, by rw [ht]; exact hP9, hD9⟩, hS.F ht⟩) hS.2.2 dX11_step_19
  · have c_1 : 1 ≤ v.toInt := zc_nlt rfl (by decide) c_1
    refine lv_iload_n hx hb dX11_step_5 rfl (lv_at hl 1 rfl) ?_
    refine lv_aload_n hx hb dX11_step_6 rfl (lv_at hl 0 rfl) ?_
    refine va_get (D := (dC, dI)) (ci := 9) (v := .int (I0 19)) (C := RX11) (T := TX11) (N := 55) hx hb hts inX11 hown hK hP 0 rfl rfl 19 (by decide) (hts _ mw_1178) (fun _ h9 => h9) rfl dX11_step_7 ?_
    refine zz_i (v := nI dn) (hdn) ?_
    refine lv_aload_n hx hb dX11_step_10 rfl (lv_at hl 0 rfl) ?_
    refine va_get (D := (dC, dI)) (ci := 9) (v := .int (I0 20)) (C := RX11) (T := TX11) (N := 55) hx hb hts inX11 hown hK hP 0 rfl rfl 20 (by decide) (hts _ mw_1179) (fun _ h9 => h9) rfl dX11_step_11 ?_
    refine zz_i (v := nI rd) (hrd) ?_
    refine lv_iadd hx hb dX11_step_14 ?_
    refine zz_i (v := nI (dn + rd)) (nI_add dn rd) ?_
    refine lv_icmp_le (tgt := 20) hx hb dX11_step_15 (by decide) (fun c_2 => ?_) (fun c_2 => ?_)
    · have c_2 : v.toInt ≤ ((dn + rd : Nat) : Int) := zc_le rfl (nI_toInt (by omega)) c_2
      exfalso; omega
    · have c_2 : ((dn + rd : Nat) : Int) < v.toInt := zc_nle rfl (nI_toInt (by omega)) c_2
      refine lv_iconst (v := (-1)) hx hb dX11_step_18 (by decide) ?_
      have hP9 := hP.sub (ws' := [(om k0 a I0 J0)]) [0] rfl
      have hD9 := hD.sub (ws' := [(om k0 a I0 J0)]) [0] (by decide) rfl
      rw [hQ9]
      exact W.iret (v := (-1)) hx hb hr (fun t ht hW => ⟨⟨rfl, by rw [ht]; exact hP9, hD9⟩, hS.F ht⟩) hS.2.2 dX11_step_19
set_option maxHeartbeats 4000000 in
set_option maxRecDepth 100000 in
theorem k_M_step_0 (l : Launch) (dC : Nat → ClassId) (dI : Nat → Nat → Nat) (cI cZ cF : ClassId) (sz : Nat) (k0 : Nat) (a : Nat → Nat) (I0 : Nat → Int32) (J0 : Nat → Int64) (i : Nat) (dn : Nat) (rd : Nat) (wh : Nat → Int32) (hdn : I0 19 = nI dn) (hrd : I0 20 = nI rd) (hsum : dn + rd ≤ 512) (hi1 : 1 ≤ i ∧ i ≤ dn + rd) : Met l yX11_step (.code yX11_step cX11_step 3 (some .int) :: ws0) ({ frames := 0, cells := 0, slots := 0, locals := 0 } : Room) (va_Pc [.ref k0, .int (nI i), .int 0] (zPre (dC, dI) classes (zTy cI cZ cF) [(om k0 a I0 J0), (oa (a 16) cI 514 wh)] sz zXN)) (zQ (some (.int (wh i))) (fun t => va_P (dC, dI) classes [(om k0 a I0 J0), (oa (a 16) cI 514 wh)] t.heap ∧ va_D (va_A [(om k0 a I0 J0), (oa (a 16) cI 514 wh)] sz) [(om k0 a I0 J0), (oa (a 16) cI 514 wh)]) (va_A [(om k0 a I0 J0), (oa (a 16) cI 514 wh)] sz)) 0 0 (va_A [(om k0 a I0 J0), (oa (a 16) cI 514 wh)] sz) := by
  refine Met.ofW (cc := cX11_step) (maxL := 3) (ret := (some .int)) (by decide) rfl ?_
  intro p e s m args below meth c s₁ B hml hv
  obtain ⟨rfl, hsz, hP, hK, hD0, hXN⟩ := hv
  have hx := B.exec
  have hb := B.bytes
  have hr := B.returns
  have hts0 := atoms_spec (ws := .code yX11_step cX11_step 3 (some .int) :: ws0) B.pre
  have hts : ∀ w9 ∈ ws0, w9.before ([.ref k0, .int (nI i), .int 0] : List Value).toArray s = true := fun w9 h => hts0 w9 (List.mem_cons_of_mem _ h)
  have hown : s.vm.findClass "ScaleShopModel" = some m.cls := findClass_of_methodNamed B.named
  have hlocks := B.notSynchronized
  subst hsz
  have hD := hD0.self (sz := s.heap.size)
  clear hD0
  generalize hAe : va_A [(om k0 a I0 J0), (oa (a 16) cI 514 wh)] s.heap.size = A at hD ⊢
  have hA : ∀ q : Nat, s.heap.size ≤ q → A q := fun q h => by rw [← hAe]; exact Or.inr h
  clear hAe
  have hS : va_S A s.heap s.heap [] := va_S.rf
  have hP : va_P (dC, dI) classes [(om k0 a I0 J0), (oa (a 16) cI 514 wh)] s.heap := hP
  obtain ⟨Q9, hQ9⟩ : ∃ Q9 : State → Prop, Q9 = MQ below (zQ (some (.int (wh i))) (fun t => va_P (dC, dI) classes [(om k0 a I0 J0), (oa (a 16) cI 514 wh)] t.heap ∧ va_D A [(om k0 a I0 J0), (oa (a 16) cI 514 wh)]) A) ([.ref k0, .int (nI i), .int 0] : List Value).toArray s 0 0 A := ⟨_, rfl⟩
  rw [← hQ9]
  have hl := lv_entry ([.ref k0, .int (nI i), .int 0]) (n := 3) (Nat.le_of_ble_eq_true rfl)
  rw [lg_entry_eq]
  generalize (lg_sl ([.ref k0, .int (nI i), .int 0]) ++ List.replicate (3 - (lg_sl ([.ref k0, .int (nI i), .int 0])).length) Slot.unset).toArray = ls at hl ⊢
  have hl : lv_has ls 3 [(0, .ref k0), (1, .int (nI i)), (2, .int 0)] := hl
  refine lv_iload_n hx hb dX11_step_0 rfl (lv_at hl 1 rfl) ?_
  refine lv_iconst (v := 1) hx hb dX11_step_1 (by decide) ?_
  refine lv_icmp_lt (tgt := 18) hx hb dX11_step_2 (by decide) (fun c_1 => ?_) (fun c_1 => ?_)
  · have c_1 : ((i : Nat) : Int) < 1 := zc_lt (nI_toInt (by omega)) (by decide) c_1
    exfalso; omega
  · have c_1 : 1 ≤ ((i : Nat) : Int) := zc_nlt (nI_toInt (by omega)) (by decide) c_1
    refine lv_iload_n hx hb dX11_step_5 rfl (lv_at hl 1 rfl) ?_
    refine lv_aload_n hx hb dX11_step_6 rfl (lv_at hl 0 rfl) ?_
    refine va_get (D := (dC, dI)) (ci := 9) (v := .int (I0 19)) (C := RX11) (T := TX11) (N := 55) hx hb hts inX11 hown hK hP 0 rfl rfl 19 (by decide) (hts _ mw_1178) (fun _ h9 => h9) rfl dX11_step_7 ?_
    refine zz_i (v := nI dn) (hdn) ?_
    refine lv_aload_n hx hb dX11_step_10 rfl (lv_at hl 0 rfl) ?_
    refine va_get (D := (dC, dI)) (ci := 9) (v := .int (I0 20)) (C := RX11) (T := TX11) (N := 55) hx hb hts inX11 hown hK hP 0 rfl rfl 20 (by decide) (hts _ mw_1179) (fun _ h9 => h9) rfl dX11_step_11 ?_
    refine zz_i (v := nI rd) (hrd) ?_
    refine lv_iadd hx hb dX11_step_14 ?_
    refine zz_i (v := nI (dn + rd)) (nI_add dn rd) ?_
    refine lv_icmp_le (tgt := 20) hx hb dX11_step_15 (by decide) (fun c_2 => ?_) (fun c_2 => ?_)
    · have c_2 : ((i : Nat) : Int) ≤ ((dn + rd : Nat) : Int) := zc_le (nI_toInt (by omega)) (nI_toInt (by omega)) c_2
      refine lv_iload_n hx hb dX11_step_20 rfl (lv_at hl 2 rfl) ?_
      refine lv_tableIn (tgt := 52) (off := 31) hx hb dX11_step_21 (by decide) (by decide) (by decide) (by decide) ?_
      refine lv_aload_n hx hb dX11_step_52 rfl (lv_at hl 0 rfl) ?_
      refine va_get (D := (dC, dI)) (ci := 9) (v := .ref (a 16)) (C := RX11) (T := TX11) (N := 55) hx hb hts inX11 hown hK hP 0 rfl rfl 16 (by decide) (hts _ mw_1175) (fun _ h9 => h9) rfl dX11_step_53 ?_
      refine lv_iload_n hx hb dX11_step_56 rfl (lv_at hl 1 rfl) ?_
      refine z_iald hx hb hK hP 1 0 rfl rfl (e := i) rfl (by omega) (by omega) dX11_step_57 ?_
      have hP9 := hP.sub (ws' := [(om k0 a I0 J0), (oa (a 16) cI 514 wh)]) [0, 1] rfl
      have hD9 := hD.sub (ws' := [(om k0 a I0 J0), (oa (a 16) cI 514 wh)]) [0, 1] (by decide) rfl
      rw [hQ9]
      exact W.iret (v := wh i) hx hb hr (fun t ht hW => ⟨⟨rfl, by rw [ht]; exact hP9, hD9⟩, hS.F ht⟩) hS.2.2 dX11_step_58
    · have c_2 : ((dn + rd : Nat) : Int) < ((i : Nat) : Int) := zc_nle (nI_toInt (by omega)) (nI_toInt (by omega)) c_2
      exfalso; omega
set_option maxHeartbeats 4000000 in
set_option maxRecDepth 100000 in
theorem k_M_step_1 (l : Launch) (dC : Nat → ClassId) (dI : Nat → Nat → Nat) (cI cZ cF : ClassId) (sz : Nat) (k0 : Nat) (a : Nat → Nat) (I0 : Nat → Int32) (J0 : Nat → Int64) (i : Nat) (dn : Nat) (rd : Nat) (of9 : Nat → Int32) (hdn : I0 19 = nI dn) (hrd : I0 20 = nI rd) (hsum : dn + rd ≤ 512) (hi1 : 1 ≤ i ∧ i ≤ dn + rd) : Met l yX11_step (.code yX11_step cX11_step 3 (some .int) :: ws0) ({ frames := 0, cells := 0, slots := 0, locals := 0 } : Room) (va_Pc [.ref k0, .int (nI i), .int 1] (zPre (dC, dI) classes (zTy cI cZ cF) [(om k0 a I0 J0), (oa (a 17) cI 514 of9)] sz zXN)) (zQ (some (.int (of9 i))) (fun t => va_P (dC, dI) classes [(om k0 a I0 J0), (oa (a 17) cI 514 of9)] t.heap ∧ va_D (va_A [(om k0 a I0 J0), (oa (a 17) cI 514 of9)] sz) [(om k0 a I0 J0), (oa (a 17) cI 514 of9)]) (va_A [(om k0 a I0 J0), (oa (a 17) cI 514 of9)] sz)) 0 0 (va_A [(om k0 a I0 J0), (oa (a 17) cI 514 of9)] sz) := by
  refine Met.ofW (cc := cX11_step) (maxL := 3) (ret := (some .int)) (by decide) rfl ?_
  intro p e s m args below meth c s₁ B hml hv
  obtain ⟨rfl, hsz, hP, hK, hD0, hXN⟩ := hv
  have hx := B.exec
  have hb := B.bytes
  have hr := B.returns
  have hts0 := atoms_spec (ws := .code yX11_step cX11_step 3 (some .int) :: ws0) B.pre
  have hts : ∀ w9 ∈ ws0, w9.before ([.ref k0, .int (nI i), .int 1] : List Value).toArray s = true := fun w9 h => hts0 w9 (List.mem_cons_of_mem _ h)
  have hown : s.vm.findClass "ScaleShopModel" = some m.cls := findClass_of_methodNamed B.named
  have hlocks := B.notSynchronized
  subst hsz
  have hD := hD0.self (sz := s.heap.size)
  clear hD0
  generalize hAe : va_A [(om k0 a I0 J0), (oa (a 17) cI 514 of9)] s.heap.size = A at hD ⊢
  have hA : ∀ q : Nat, s.heap.size ≤ q → A q := fun q h => by rw [← hAe]; exact Or.inr h
  clear hAe
  have hS : va_S A s.heap s.heap [] := va_S.rf
  have hP : va_P (dC, dI) classes [(om k0 a I0 J0), (oa (a 17) cI 514 of9)] s.heap := hP
  obtain ⟨Q9, hQ9⟩ : ∃ Q9 : State → Prop, Q9 = MQ below (zQ (some (.int (of9 i))) (fun t => va_P (dC, dI) classes [(om k0 a I0 J0), (oa (a 17) cI 514 of9)] t.heap ∧ va_D A [(om k0 a I0 J0), (oa (a 17) cI 514 of9)]) A) ([.ref k0, .int (nI i), .int 1] : List Value).toArray s 0 0 A := ⟨_, rfl⟩
  rw [← hQ9]
  have hl := lv_entry ([.ref k0, .int (nI i), .int 1]) (n := 3) (Nat.le_of_ble_eq_true rfl)
  rw [lg_entry_eq]
  generalize (lg_sl ([.ref k0, .int (nI i), .int 1]) ++ List.replicate (3 - (lg_sl ([.ref k0, .int (nI i), .int 1])).length) Slot.unset).toArray = ls at hl ⊢
  have hl : lv_has ls 3 [(0, .ref k0), (1, .int (nI i)), (2, .int 1)] := hl
  refine lv_iload_n hx hb dX11_step_0 rfl (lv_at hl 1 rfl) ?_
  refine lv_iconst (v := 1) hx hb dX11_step_1 (by decide) ?_
  refine lv_icmp_lt (tgt := 18) hx hb dX11_step_2 (by decide) (fun c_1 => ?_) (fun c_1 => ?_)
  · have c_1 : ((i : Nat) : Int) < 1 := zc_lt (nI_toInt (by omega)) (by decide) c_1
    exfalso; omega
  · have c_1 : 1 ≤ ((i : Nat) : Int) := zc_nlt (nI_toInt (by omega)) (by decide) c_1
    refine lv_iload_n hx hb dX11_step_5 rfl (lv_at hl 1 rfl) ?_
    refine lv_aload_n hx hb dX11_step_6 rfl (lv_at hl 0 rfl) ?_
    refine va_get (D := (dC, dI)) (ci := 9) (v := .int (I0 19)) (C := RX11) (T := TX11) (N := 55) hx hb hts inX11 hown hK hP 0 rfl rfl 19 (by decide) (hts _ mw_1178) (fun _ h9 => h9) rfl dX11_step_7 ?_
    refine zz_i (v := nI dn) (hdn) ?_
    refine lv_aload_n hx hb dX11_step_10 rfl (lv_at hl 0 rfl) ?_
    refine va_get (D := (dC, dI)) (ci := 9) (v := .int (I0 20)) (C := RX11) (T := TX11) (N := 55) hx hb hts inX11 hown hK hP 0 rfl rfl 20 (by decide) (hts _ mw_1179) (fun _ h9 => h9) rfl dX11_step_11 ?_
    refine zz_i (v := nI rd) (hrd) ?_
    refine lv_iadd hx hb dX11_step_14 ?_
    refine zz_i (v := nI (dn + rd)) (nI_add dn rd) ?_
    refine lv_icmp_le (tgt := 20) hx hb dX11_step_15 (by decide) (fun c_2 => ?_) (fun c_2 => ?_)
    · have c_2 : ((i : Nat) : Int) ≤ ((dn + rd : Nat) : Int) := zc_le (nI_toInt (by omega)) (nI_toInt (by omega)) c_2
      refine lv_iload_n hx hb dX11_step_20 rfl (lv_at hl 2 rfl) ?_
      refine lv_tableIn (tgt := 59) (off := 38) hx hb dX11_step_21 (by decide) (by decide) (by decide) (by decide) ?_
      refine lv_aload_n hx hb dX11_step_59 rfl (lv_at hl 0 rfl) ?_
      refine va_get (D := (dC, dI)) (ci := 9) (v := .ref (a 17)) (C := RX11) (T := TX11) (N := 55) hx hb hts inX11 hown hK hP 0 rfl rfl 17 (by decide) (hts _ mw_1176) (fun _ h9 => h9) rfl dX11_step_60 ?_
      refine lv_iload_n hx hb dX11_step_63 rfl (lv_at hl 1 rfl) ?_
      refine z_iald hx hb hK hP 1 0 rfl rfl (e := i) rfl (by omega) (by omega) dX11_step_64 ?_
      have hP9 := hP.sub (ws' := [(om k0 a I0 J0), (oa (a 17) cI 514 of9)]) [0, 1] rfl
      have hD9 := hD.sub (ws' := [(om k0 a I0 J0), (oa (a 17) cI 514 of9)]) [0, 1] (by decide) rfl
      rw [hQ9]
      exact W.iret (v := of9 i) hx hb hr (fun t ht hW => ⟨⟨rfl, by rw [ht]; exact hP9, hD9⟩, hS.F ht⟩) hS.2.2 dX11_step_65
    · have c_2 : ((dn + rd : Nat) : Int) < ((i : Nat) : Int) := zc_nle (nI_toInt (by omega)) (nI_toInt (by omega)) c_2
      exfalso; omega
set_option maxHeartbeats 4000000 in
set_option maxRecDepth 100000 in
theorem k_M_step_2 (l : Launch) (dC : Nat → ClassId) (dI : Nat → Nat → Nat) (cI cZ cF : ClassId) (sz : Nat) (k0 : Nat) (a : Nat → Nat) (I0 : Nat → Int32) (J0 : Nat → Int64) (i : Nat) (dn : Nat) (rd : Nat) (we : Nat → Int32) (hdn : I0 19 = nI dn) (hrd : I0 20 = nI rd) (hsum : dn + rd ≤ 512) (hi1 : 1 ≤ i ∧ i ≤ dn + rd) : Met l yX11_step (.code yX11_step cX11_step 3 (some .int) :: ws0) ({ frames := 0, cells := 0, slots := 0, locals := 0 } : Room) (va_Pc [.ref k0, .int (nI i), .int 2] (zPre (dC, dI) classes (zTy cI cZ cF) [(om k0 a I0 J0), (oa (a 18) cI 514 we)] sz zXN)) (zQ (some (.int (we i))) (fun t => va_P (dC, dI) classes [(om k0 a I0 J0), (oa (a 18) cI 514 we)] t.heap ∧ va_D (va_A [(om k0 a I0 J0), (oa (a 18) cI 514 we)] sz) [(om k0 a I0 J0), (oa (a 18) cI 514 we)]) (va_A [(om k0 a I0 J0), (oa (a 18) cI 514 we)] sz)) 0 0 (va_A [(om k0 a I0 J0), (oa (a 18) cI 514 we)] sz) := by
  refine Met.ofW (cc := cX11_step) (maxL := 3) (ret := (some .int)) (by decide) rfl ?_
  intro p e s m args below meth c s₁ B hml hv
  obtain ⟨rfl, hsz, hP, hK, hD0, hXN⟩ := hv
  have hx := B.exec
  have hb := B.bytes
  have hr := B.returns
  have hts0 := atoms_spec (ws := .code yX11_step cX11_step 3 (some .int) :: ws0) B.pre
  have hts : ∀ w9 ∈ ws0, w9.before ([.ref k0, .int (nI i), .int 2] : List Value).toArray s = true := fun w9 h => hts0 w9 (List.mem_cons_of_mem _ h)
  have hown : s.vm.findClass "ScaleShopModel" = some m.cls := findClass_of_methodNamed B.named
  have hlocks := B.notSynchronized
  subst hsz
  have hD := hD0.self (sz := s.heap.size)
  clear hD0
  generalize hAe : va_A [(om k0 a I0 J0), (oa (a 18) cI 514 we)] s.heap.size = A at hD ⊢
  have hA : ∀ q : Nat, s.heap.size ≤ q → A q := fun q h => by rw [← hAe]; exact Or.inr h
  clear hAe
  have hS : va_S A s.heap s.heap [] := va_S.rf
  have hP : va_P (dC, dI) classes [(om k0 a I0 J0), (oa (a 18) cI 514 we)] s.heap := hP
  obtain ⟨Q9, hQ9⟩ : ∃ Q9 : State → Prop, Q9 = MQ below (zQ (some (.int (we i))) (fun t => va_P (dC, dI) classes [(om k0 a I0 J0), (oa (a 18) cI 514 we)] t.heap ∧ va_D A [(om k0 a I0 J0), (oa (a 18) cI 514 we)]) A) ([.ref k0, .int (nI i), .int 2] : List Value).toArray s 0 0 A := ⟨_, rfl⟩
  rw [← hQ9]
  have hl := lv_entry ([.ref k0, .int (nI i), .int 2]) (n := 3) (Nat.le_of_ble_eq_true rfl)
  rw [lg_entry_eq]
  generalize (lg_sl ([.ref k0, .int (nI i), .int 2]) ++ List.replicate (3 - (lg_sl ([.ref k0, .int (nI i), .int 2])).length) Slot.unset).toArray = ls at hl ⊢
  have hl : lv_has ls 3 [(0, .ref k0), (1, .int (nI i)), (2, .int 2)] := hl
  refine lv_iload_n hx hb dX11_step_0 rfl (lv_at hl 1 rfl) ?_
  refine lv_iconst (v := 1) hx hb dX11_step_1 (by decide) ?_
  refine lv_icmp_lt (tgt := 18) hx hb dX11_step_2 (by decide) (fun c_1 => ?_) (fun c_1 => ?_)
  · have c_1 : ((i : Nat) : Int) < 1 := zc_lt (nI_toInt (by omega)) (by decide) c_1
    exfalso; omega
  · have c_1 : 1 ≤ ((i : Nat) : Int) := zc_nlt (nI_toInt (by omega)) (by decide) c_1
    refine lv_iload_n hx hb dX11_step_5 rfl (lv_at hl 1 rfl) ?_
    refine lv_aload_n hx hb dX11_step_6 rfl (lv_at hl 0 rfl) ?_
    refine va_get (D := (dC, dI)) (ci := 9) (v := .int (I0 19)) (C := RX11) (T := TX11) (N := 55) hx hb hts inX11 hown hK hP 0 rfl rfl 19 (by decide) (hts _ mw_1178) (fun _ h9 => h9) rfl dX11_step_7 ?_
    refine zz_i (v := nI dn) (hdn) ?_
    refine lv_aload_n hx hb dX11_step_10 rfl (lv_at hl 0 rfl) ?_
    refine va_get (D := (dC, dI)) (ci := 9) (v := .int (I0 20)) (C := RX11) (T := TX11) (N := 55) hx hb hts inX11 hown hK hP 0 rfl rfl 20 (by decide) (hts _ mw_1179) (fun _ h9 => h9) rfl dX11_step_11 ?_
    refine zz_i (v := nI rd) (hrd) ?_
    refine lv_iadd hx hb dX11_step_14 ?_
    refine zz_i (v := nI (dn + rd)) (nI_add dn rd) ?_
    refine lv_icmp_le (tgt := 20) hx hb dX11_step_15 (by decide) (fun c_2 => ?_) (fun c_2 => ?_)
    · have c_2 : ((i : Nat) : Int) ≤ ((dn + rd : Nat) : Int) := zc_le (nI_toInt (by omega)) (nI_toInt (by omega)) c_2
      refine lv_iload_n hx hb dX11_step_20 rfl (lv_at hl 2 rfl) ?_
      refine lv_tableIn (tgt := 66) (off := 45) hx hb dX11_step_21 (by decide) (by decide) (by decide) (by decide) ?_
      refine lv_aload_n hx hb dX11_step_66 rfl (lv_at hl 0 rfl) ?_
      refine va_get (D := (dC, dI)) (ci := 9) (v := .ref (a 18)) (C := RX11) (T := TX11) (N := 55) hx hb hts inX11 hown hK hP 0 rfl rfl 18 (by decide) (hts _ mw_1177) (fun _ h9 => h9) rfl dX11_step_67 ?_
      refine lv_iload_n hx hb dX11_step_70 rfl (lv_at hl 1 rfl) ?_
      refine z_iald hx hb hK hP 1 0 rfl rfl (e := i) rfl (by omega) (by omega) dX11_step_71 ?_
      have hP9 := hP.sub (ws' := [(om k0 a I0 J0), (oa (a 18) cI 514 we)]) [0, 1] rfl
      have hD9 := hD.sub (ws' := [(om k0 a I0 J0), (oa (a 18) cI 514 we)]) [0, 1] (by decide) rfl
      rw [hQ9]
      exact W.iret (v := we i) hx hb hr (fun t ht hW => ⟨⟨rfl, by rw [ht]; exact hP9, hD9⟩, hS.F ht⟩) hS.2.2 dX11_step_72
    · have c_2 : ((dn + rd : Nat) : Int) < ((i : Nat) : Int) := zc_nle (nI_toInt (by omega)) (nI_toInt (by omega)) c_2
      exfalso; omega
set_option maxHeartbeats 4000000 in
set_option maxRecDepth 100000 in
theorem k_M_step_3 (l : Launch) (dC : Nat → ClassId) (dI : Nat → Nat → Nat) (cI cZ cF : ClassId) (sz : Nat) (k0 : Nat) (a : Nat → Nat) (I0 : Nat → Int32) (J0 : Nat → Int64) (i : Nat) (dn : Nat) (rd : Nat) (hdn : I0 19 = nI dn) (hrd : I0 20 = nI rd) (hsum : dn + rd ≤ 512) (hi1 : 1 ≤ i ∧ i ≤ dn + rd) : Met l yX11_step (.code yX11_step cX11_step 3 (some .int) :: ws0) ({ frames := 0, cells := 0, slots := 0, locals := 0 } : Room) (va_Pc [.ref k0, .int (nI i), .int 3] (zPre (dC, dI) classes (zTy cI cZ cF) [(om k0 a I0 J0)] sz zXN)) (zQ (some (.int (pI (i ≤ dn)))) (fun t => va_P (dC, dI) classes [(om k0 a I0 J0)] t.heap ∧ va_D (va_A [(om k0 a I0 J0)] sz) [(om k0 a I0 J0)]) (va_A [(om k0 a I0 J0)] sz)) 0 0 (va_A [(om k0 a I0 J0)] sz) := by
  refine Met.ofW (cc := cX11_step) (maxL := 3) (ret := (some .int)) (by decide) rfl ?_
  intro p e s m args below meth c s₁ B hml hv
  obtain ⟨rfl, hsz, hP, hK, hD0, hXN⟩ := hv
  have hx := B.exec
  have hb := B.bytes
  have hr := B.returns
  have hts0 := atoms_spec (ws := .code yX11_step cX11_step 3 (some .int) :: ws0) B.pre
  have hts : ∀ w9 ∈ ws0, w9.before ([.ref k0, .int (nI i), .int 3] : List Value).toArray s = true := fun w9 h => hts0 w9 (List.mem_cons_of_mem _ h)
  have hown : s.vm.findClass "ScaleShopModel" = some m.cls := findClass_of_methodNamed B.named
  have hlocks := B.notSynchronized
  subst hsz
  have hD := hD0.self (sz := s.heap.size)
  clear hD0
  generalize hAe : va_A [(om k0 a I0 J0)] s.heap.size = A at hD ⊢
  have hA : ∀ q : Nat, s.heap.size ≤ q → A q := fun q h => by rw [← hAe]; exact Or.inr h
  clear hAe
  have hS : va_S A s.heap s.heap [] := va_S.rf
  have hP : va_P (dC, dI) classes [(om k0 a I0 J0)] s.heap := hP
  obtain ⟨Q9, hQ9⟩ : ∃ Q9 : State → Prop, Q9 = MQ below (zQ (some (.int (pI (i ≤ dn)))) (fun t => va_P (dC, dI) classes [(om k0 a I0 J0)] t.heap ∧ va_D A [(om k0 a I0 J0)]) A) ([.ref k0, .int (nI i), .int 3] : List Value).toArray s 0 0 A := ⟨_, rfl⟩
  rw [← hQ9]
  have hl := lv_entry ([.ref k0, .int (nI i), .int 3]) (n := 3) (Nat.le_of_ble_eq_true rfl)
  rw [lg_entry_eq]
  generalize (lg_sl ([.ref k0, .int (nI i), .int 3]) ++ List.replicate (3 - (lg_sl ([.ref k0, .int (nI i), .int 3])).length) Slot.unset).toArray = ls at hl ⊢
  have hl : lv_has ls 3 [(0, .ref k0), (1, .int (nI i)), (2, .int 3)] := hl
  refine lv_iload_n hx hb dX11_step_0 rfl (lv_at hl 1 rfl) ?_
  refine lv_iconst (v := 1) hx hb dX11_step_1 (by decide) ?_
  refine lv_icmp_lt (tgt := 18) hx hb dX11_step_2 (by decide) (fun c_1 => ?_) (fun c_1 => ?_)
  · have c_1 : ((i : Nat) : Int) < 1 := zc_lt (nI_toInt (by omega)) (by decide) c_1
    exfalso; omega
  · have c_1 : 1 ≤ ((i : Nat) : Int) := zc_nlt (nI_toInt (by omega)) (by decide) c_1
    refine lv_iload_n hx hb dX11_step_5 rfl (lv_at hl 1 rfl) ?_
    refine lv_aload_n hx hb dX11_step_6 rfl (lv_at hl 0 rfl) ?_
    refine va_get (D := (dC, dI)) (ci := 9) (v := .int (I0 19)) (C := RX11) (T := TX11) (N := 55) hx hb hts inX11 hown hK hP 0 rfl rfl 19 (by decide) (hts _ mw_1178) (fun _ h9 => h9) rfl dX11_step_7 ?_
    refine zz_i (v := nI dn) (hdn) ?_
    refine lv_aload_n hx hb dX11_step_10 rfl (lv_at hl 0 rfl) ?_
    refine va_get (D := (dC, dI)) (ci := 9) (v := .int (I0 20)) (C := RX11) (T := TX11) (N := 55) hx hb hts inX11 hown hK hP 0 rfl rfl 20 (by decide) (hts _ mw_1179) (fun _ h9 => h9) rfl dX11_step_11 ?_
    refine zz_i (v := nI rd) (hrd) ?_
    refine lv_iadd hx hb dX11_step_14 ?_
    refine zz_i (v := nI (dn + rd)) (nI_add dn rd) ?_
    refine lv_icmp_le (tgt := 20) hx hb dX11_step_15 (by decide) (fun c_2 => ?_) (fun c_2 => ?_)
    · have c_2 : ((i : Nat) : Int) ≤ ((dn + rd : Nat) : Int) := zc_le (nI_toInt (by omega)) (nI_toInt (by omega)) c_2
      refine lv_iload_n hx hb dX11_step_20 rfl (lv_at hl 2 rfl) ?_
      refine lv_tableIn (tgt := 73) (off := 52) hx hb dX11_step_21 (by decide) (by decide) (by decide) (by decide) ?_
      refine lv_iload_n hx hb dX11_step_73 rfl (lv_at hl 1 rfl) ?_
      refine lv_aload_n hx hb dX11_step_74 rfl (lv_at hl 0 rfl) ?_
      refine va_get (D := (dC, dI)) (ci := 9) (v := .int (I0 19)) (C := RX11) (T := TX11) (N := 55) hx hb hts inX11 hown hK hP 0 rfl rfl 19 (by decide) (hts _ mw_1178) (fun _ h9 => h9) rfl dX11_step_75 ?_
      refine zz_i (v := nI dn) (hdn) ?_
      refine lv_icmp_gt (tgt := 85) hx hb dX11_step_78 (by decide) (fun c_3 => ?_) (fun c_3 => ?_)
      · have c_3 : ((dn : Nat) : Int) < ((i : Nat) : Int) := zc_lt (nI_toInt (by omega)) (nI_toInt (by omega)) c_3
        refine lv_iconst (v := 0) hx hb dX11_step_85 (by decide) ?_
        have hP9 := hP.sub (ws' := [(om k0 a I0 J0)]) [0] rfl
        have hD9 := hD.sub (ws' := [(om k0 a I0 J0)]) [0] (by decide) rfl
        rw [hQ9]
        exact W.iret (v := 0) hx hb hr (fun t ht hW => ⟨⟨congrArg (fun z => Outcome.returned (some (Value.int z))) (show (0 : Int32) = pI (i ≤ dn) from (zp_f (by omega)).symm), by rw [ht]; exact hP9, hD9⟩, hS.F ht⟩) hS.2.2 dX11_step_86
      · have c_3 : ((i : Nat) : Int) ≤ ((dn : Nat) : Int) := zc_nlt (nI_toInt (by omega)) (nI_toInt (by omega)) c_3
        refine lv_iconst (v := 1) hx hb dX11_step_81 (by decide) ?_
        refine lv_goto (tgt := 86) hx hb dX11_step_82 (by decide) ?_
        have hP9 := hP.sub (ws' := [(om k0 a I0 J0)]) [0] rfl
        have hD9 := hD.sub (ws' := [(om k0 a I0 J0)]) [0] (by decide) rfl
        rw [hQ9]
        exact W.iret (v := 1) hx hb hr (fun t ht hW => ⟨⟨congrArg (fun z => Outcome.returned (some (Value.int z))) (show (1 : Int32) = pI (i ≤ dn) from (zp_t (by omega)).symm), by rw [ht]; exact hP9, hD9⟩, hS.F ht⟩) hS.2.2 dX11_step_86
    · have c_2 : ((dn + rd : Nat) : Int) < ((i : Nat) : Int) := zc_nle (nI_toInt (by omega)) (nI_toInt (by omega)) c_2
      exfalso; omega
set_option maxHeartbeats 4000000 in
set_option maxRecDepth 100000 in
theorem k_M_step_d (l : Launch) (dC : Nat → ClassId) (dI : Nat → Nat → Nat) (cI cZ cF : ClassId) (sz : Nat) (k0 : Nat) (a : Nat → Nat) (I0 : Nat → Int32) (J0 : Nat → Int64) (i : Nat) (dn : Nat) (rd : Nat) (w : Int32) (hdn : I0 19 = nI dn) (hrd : I0 20 = nI rd) (hsum : dn + rd ≤ 512) (hi1 : 1 ≤ i ∧ i ≤ dn + rd) (hw9 : w.toInt < 0 ∨ 3 < w.toInt) : Met l yX11_step (.code yX11_step cX11_step 3 (some .int) :: ws0) ({ frames := 0, cells := 0, slots := 0, locals := 0 } : Room) (va_Pc [.ref k0, .int (nI i), .int w] (zPre (dC, dI) classes (zTy cI cZ cF) [(om k0 a I0 J0)] sz zXN)) (zQ (some (.int (-1))) (fun t => va_P (dC, dI) classes [(om k0 a I0 J0)] t.heap ∧ va_D (va_A [(om k0 a I0 J0)] sz) [(om k0 a I0 J0)]) (va_A [(om k0 a I0 J0)] sz)) 0 0 (va_A [(om k0 a I0 J0)] sz) := by
  refine Met.ofW (cc := cX11_step) (maxL := 3) (ret := (some .int)) (by decide) rfl ?_
  intro p e s m args below meth c s₁ B hml hv
  obtain ⟨rfl, hsz, hP, hK, hD0, hXN⟩ := hv
  have hx := B.exec
  have hb := B.bytes
  have hr := B.returns
  have hts0 := atoms_spec (ws := .code yX11_step cX11_step 3 (some .int) :: ws0) B.pre
  have hts : ∀ w9 ∈ ws0, w9.before ([.ref k0, .int (nI i), .int w] : List Value).toArray s = true := fun w9 h => hts0 w9 (List.mem_cons_of_mem _ h)
  have hown : s.vm.findClass "ScaleShopModel" = some m.cls := findClass_of_methodNamed B.named
  have hlocks := B.notSynchronized
  subst hsz
  have hD := hD0.self (sz := s.heap.size)
  clear hD0
  generalize hAe : va_A [(om k0 a I0 J0)] s.heap.size = A at hD ⊢
  have hA : ∀ q : Nat, s.heap.size ≤ q → A q := fun q h => by rw [← hAe]; exact Or.inr h
  clear hAe
  have hS : va_S A s.heap s.heap [] := va_S.rf
  have hP : va_P (dC, dI) classes [(om k0 a I0 J0)] s.heap := hP
  obtain ⟨Q9, hQ9⟩ : ∃ Q9 : State → Prop, Q9 = MQ below (zQ (some (.int (-1))) (fun t => va_P (dC, dI) classes [(om k0 a I0 J0)] t.heap ∧ va_D A [(om k0 a I0 J0)]) A) ([.ref k0, .int (nI i), .int w] : List Value).toArray s 0 0 A := ⟨_, rfl⟩
  rw [← hQ9]
  have hl := lv_entry ([.ref k0, .int (nI i), .int w]) (n := 3) (Nat.le_of_ble_eq_true rfl)
  rw [lg_entry_eq]
  generalize (lg_sl ([.ref k0, .int (nI i), .int w]) ++ List.replicate (3 - (lg_sl ([.ref k0, .int (nI i), .int w])).length) Slot.unset).toArray = ls at hl ⊢
  have hl : lv_has ls 3 [(0, .ref k0), (1, .int (nI i)), (2, .int w)] := hl
  refine lv_iload_n hx hb dX11_step_0 rfl (lv_at hl 1 rfl) ?_
  refine lv_iconst (v := 1) hx hb dX11_step_1 (by decide) ?_
  refine lv_icmp_lt (tgt := 18) hx hb dX11_step_2 (by decide) (fun c_1 => ?_) (fun c_1 => ?_)
  · have c_1 : ((i : Nat) : Int) < 1 := zc_lt (nI_toInt (by omega)) (by decide) c_1
    exfalso; omega
  · have c_1 : 1 ≤ ((i : Nat) : Int) := zc_nlt (nI_toInt (by omega)) (by decide) c_1
    refine lv_iload_n hx hb dX11_step_5 rfl (lv_at hl 1 rfl) ?_
    refine lv_aload_n hx hb dX11_step_6 rfl (lv_at hl 0 rfl) ?_
    refine va_get (D := (dC, dI)) (ci := 9) (v := .int (I0 19)) (C := RX11) (T := TX11) (N := 55) hx hb hts inX11 hown hK hP 0 rfl rfl 19 (by decide) (hts _ mw_1178) (fun _ h9 => h9) rfl dX11_step_7 ?_
    refine zz_i (v := nI dn) (hdn) ?_
    refine lv_aload_n hx hb dX11_step_10 rfl (lv_at hl 0 rfl) ?_
    refine va_get (D := (dC, dI)) (ci := 9) (v := .int (I0 20)) (C := RX11) (T := TX11) (N := 55) hx hb hts inX11 hown hK hP 0 rfl rfl 20 (by decide) (hts _ mw_1179) (fun _ h9 => h9) rfl dX11_step_11 ?_
    refine zz_i (v := nI rd) (hrd) ?_
    refine lv_iadd hx hb dX11_step_14 ?_
    refine zz_i (v := nI (dn + rd)) (nI_add dn rd) ?_
    refine lv_icmp_le (tgt := 20) hx hb dX11_step_15 (by decide) (fun c_2 => ?_) (fun c_2 => ?_)
    · have c_2 : ((i : Nat) : Int) ≤ ((dn + rd : Nat) : Int) := zc_le (nI_toInt (by omega)) (nI_toInt (by omega)) c_2
      refine lv_iload_n hx hb dX11_step_20 rfl (lv_at hl 2 rfl) ?_
      refine lv_tableOut (tgt := 87) hx hb dX11_step_21 (hw9) (by decide) ?_
      refine lv_iconst (v := (-1)) hx hb dX11_step_87 (by decide) ?_
      have hP9 := hP.sub (ws' := [(om k0 a I0 J0)]) [0] rfl
      have hD9 := hD.sub (ws' := [(om k0 a I0 J0)]) [0] (by decide) rfl
      rw [hQ9]
      exact W.iret (v := (-1)) hx hb hr (fun t ht hW => ⟨⟨rfl, by rw [ht]; exact hP9, hD9⟩, hS.F ht⟩) hS.2.2 dX11_step_88
    · have c_2 : ((dn + rd : Nat) : Int) < ((i : Nat) : Int) := zc_nle (nI_toInt (by omega)) (nI_toInt (by omega)) c_2
      exfalso; omega
set_option maxHeartbeats 4000000 in
set_option maxRecDepth 100000 in
theorem k_M_at_x (l : Launch) (dC : Nat → ClassId) (dI : Nat → Nat → Nat) (cI cZ cF : ClassId) (sz : Nat) (k0 : Nat) (a : Nat → Nat) (I0 : Nat → Int32) (J0 : Nat → Int64) (ft : Nat) (v : Int32) (kv : Int32) (w : Int32) (hft : I0 0 = nI ft) (h200 : ft ≤ 200) (hv : ¬ (0 ≤ v.toInt ∧ v.toInt < (ft : Int))) : Met l yX11_at (.code yX11_at cX11_at 4 (some .int) :: ws0) ({ frames := 1, cells := 0, slots := 0, locals := 21 } : Room) (va_Pc [.ref k0, .int v, .int kv, .int w] (zPre (dC, dI) classes (zTy cI cZ cF) [(om k0 a I0 J0)] sz zXN)) (zQ (some (.int (-1))) (fun t => va_P (dC, dI) classes [(om k0 a I0 J0)] t.heap ∧ va_D (va_A [(om k0 a I0 J0)] sz) [(om k0 a I0 J0)]) (va_A [(om k0 a I0 J0)] sz)) 0 0 (va_A [(om k0 a I0 J0)] sz) := by
  refine Met.ofW (cc := cX11_at) (maxL := 4) (ret := (some .int)) (by decide) rfl ?_
  intro p e s m args below meth c s₁ B hml hv
  obtain ⟨rfl, hsz, hP, hK, hD0, hXN⟩ := hv
  have hx := B.exec
  have hb := B.bytes
  have hr := B.returns
  have hts0 := atoms_spec (ws := .code yX11_at cX11_at 4 (some .int) :: ws0) B.pre
  have hts : ∀ w9 ∈ ws0, w9.before ([.ref k0, .int v, .int kv, .int w] : List Value).toArray s = true := fun w9 h => hts0 w9 (List.mem_cons_of_mem _ h)
  have hown : s.vm.findClass "ScaleShopModel" = some m.cls := findClass_of_methodNamed B.named
  have hlocks := B.notSynchronized
  subst hsz
  have hD := hD0.self (sz := s.heap.size)
  clear hD0
  generalize hAe : va_A [(om k0 a I0 J0)] s.heap.size = A at hD ⊢
  have hA : ∀ q : Nat, s.heap.size ≤ q → A q := fun q h => by rw [← hAe]; exact Or.inr h
  clear hAe
  have hS : va_S A s.heap s.heap [] := va_S.rf
  have hP : va_P (dC, dI) classes [(om k0 a I0 J0)] s.heap := hP
  obtain ⟨Q9, hQ9⟩ : ∃ Q9 : State → Prop, Q9 = MQ below (zQ (some (.int (-1))) (fun t => va_P (dC, dI) classes [(om k0 a I0 J0)] t.heap ∧ va_D A [(om k0 a I0 J0)]) A) ([.ref k0, .int v, .int kv, .int w] : List Value).toArray s 0 0 A := ⟨_, rfl⟩
  rw [← hQ9]
  have hl := lv_entry ([.ref k0, .int v, .int kv, .int w]) (n := 4) (Nat.le_of_ble_eq_true rfl)
  rw [lg_entry_eq]
  generalize (lg_sl ([.ref k0, .int v, .int kv, .int w]) ++ List.replicate (4 - (lg_sl ([.ref k0, .int v, .int kv, .int w])).length) Slot.unset).toArray = ls at hl ⊢
  have hl : lv_has ls 4 [(0, .ref k0), (1, .int v), (2, .int kv), (3, .int w)] := hl
  refine lv_aload_n hx hb dX11_at_0 rfl (lv_at hl 0 rfl) ?_
  refine lv_iload_n hx hb dX11_at_1 rfl (lv_at hl 1 rfl) ?_
  have hPc := hP.sub (ws' := [(om k0 a I0 J0)]) [0] rfl
  have hDc := hD.sub (ws' := [(om k0 a I0 J0)]) [0] (by decide) rfl
  have hFc := va_free (wc := [(om k0 a I0 J0)]) hD hS hA [0] rfl
  refine zcall (st1 := [.int (pI (0 ≤ v.toInt ∧ v.toInt < (ft : Int)))]) (va_runV (As := [.int v]) (rest := []) ⟨hx, hb, hml, hown, hts⟩ (k_M_isFeature l dC dI cI cZ cF s.heap.size k0 a I0 J0 ft v (by assumption) (by omega)) (cwV 1 hts (zz_gV mw_1345 mw_1347 mw_37 mw_110 mc_yX11_isFeature) rfl rfl rfl (by decide +kernel) ⟨Nat.le_of_ble_eq_true rfl, Nat.le_of_ble_eq_true rfl⟩) (zPV2 (q0 := 0) (ci := 9) hPc hDc hK hXN rfl rfl) rfl rfl hl.1 rfl (lv_room (Nat.le_of_ble_eq_true rfl)) dX11_at_2 ⟨Nat.le_of_ble_eq_true rfl, Nat.le_of_ble_eq_true rfl⟩) hS hFc hFc rfl (fun t H1 locs ht hB hk1 hS => ?_)
  obtain ⟨hP1, hD1⟩ := hB
  rw [ht] at hP1
  obtain ⟨hP, hD⟩ := va_join (wr := []) (w1 := [(om k0 a I0 J0)]) hP hD [0] [] rfl rfl (by decide) (by decide) hk1 hFc hP1 hD1
  clear hk1 hPc hDc hFc hP1 hD1 ht
  generalize H1 = H at hP hS ⊢
  have hP : va_P (dC, dI) classes [(om k0 a I0 J0)] H := hP
  have hD : va_D A [(om k0 a I0 J0)] := hD
  refine lv_if_eq (tgt := 31) hx hb dX11_at_5 (by decide) (fun c_1 => ?_) (fun c_1 => ?_)
  · have c_1 : ¬ (0 ≤ v.toInt ∧ v.toInt < (ft : Int)) := zp_0 c_1
    refine lv_iconst (v := (-1)) hx hb dX11_at_31 (by decide) ?_
    have hP9 := hP.sub (ws' := [(om k0 a I0 J0)]) [0] rfl
    have hD9 := hD.sub (ws' := [(om k0 a I0 J0)]) [0] (by decide) rfl
    rw [hQ9]
    exact W.iret (v := (-1)) hx hb hr (fun t ht hW => ⟨⟨rfl, by rw [ht]; exact hP9, hD9⟩, hS.F ht⟩) hS.2.2 dX11_at_32
  · have c_1 : 0 ≤ v.toInt ∧ v.toInt < (ft : Int) := zp_1 c_1
    exfalso; exact absurd (by assumption) hv
set_option maxHeartbeats 4000000 in
set_option maxRecDepth 100000 in
theorem k_M_at_r (l : Launch) (dC : Nat → ClassId) (dI : Nat → Nat → Nat) (cI cZ cF : ClassId) (sz : Nat) (k0 : Nat) (a : Nat → Nat) (I0 : Nat → Int32) (J0 : Nat → Int64) (f : Nat) (n : Nat) (ft : Nat) (kv : Int32) (w : Int32) (tn : Nat → Int32) (mn : Nat → Int32) (hft : I0 0 = nI ft) (h200 : ft ≤ 200) (hf_t : f < ft) (hm_f : mn f = nI n) (hn_f : n ≤ 40) (hbad : ¬ ((tn f).toInt = 0 ∧ 0 ≤ kv.toInt ∧ kv.toInt < ((n : Nat) : Int))) : Met l yX11_at (.code yX11_at cX11_at 4 (some .int) :: ws0) ({ frames := 1, cells := 0, slots := 0, locals := 21 } : Room) (va_Pc [.ref k0, .int (nI f), .int kv, .int w] (zPre (dC, dI) classes (zTy cI cZ cF) [(om k0 a I0 J0), (oa (a 6) cZ 201 tn), (oa (a 11) cI 201 mn)] sz zXN)) (zQ (some (.int (-1))) (fun t => va_P (dC, dI) classes [(om k0 a I0 J0), (oa (a 6) cZ 201 tn), (oa (a 11) cI 201 mn)] t.heap ∧ va_D (va_A [(om k0 a I0 J0), (oa (a 6) cZ 201 tn), (oa (a 11) cI 201 mn)] sz) [(om k0 a I0 J0), (oa (a 6) cZ 201 tn), (oa (a 11) cI 201 mn)]) (va_A [(om k0 a I0 J0), (oa (a 6) cZ 201 tn), (oa (a 11) cI 201 mn)] sz)) 0 0 (va_A [(om k0 a I0 J0), (oa (a 6) cZ 201 tn), (oa (a 11) cI 201 mn)] sz) := by
  refine Met.ofW (cc := cX11_at) (maxL := 4) (ret := (some .int)) (by decide) rfl ?_
  intro p e s m args below meth c s₁ B hml hv
  obtain ⟨rfl, hsz, hP, hK, hD0, hXN⟩ := hv
  have hx := B.exec
  have hb := B.bytes
  have hr := B.returns
  have hts0 := atoms_spec (ws := .code yX11_at cX11_at 4 (some .int) :: ws0) B.pre
  have hts : ∀ w9 ∈ ws0, w9.before ([.ref k0, .int (nI f), .int kv, .int w] : List Value).toArray s = true := fun w9 h => hts0 w9 (List.mem_cons_of_mem _ h)
  have hown : s.vm.findClass "ScaleShopModel" = some m.cls := findClass_of_methodNamed B.named
  have hlocks := B.notSynchronized
  subst hsz
  have hD := hD0.self (sz := s.heap.size)
  clear hD0
  generalize hAe : va_A [(om k0 a I0 J0), (oa (a 6) cZ 201 tn), (oa (a 11) cI 201 mn)] s.heap.size = A at hD ⊢
  have hA : ∀ q : Nat, s.heap.size ≤ q → A q := fun q h => by rw [← hAe]; exact Or.inr h
  clear hAe
  have hS : va_S A s.heap s.heap [] := va_S.rf
  have hP : va_P (dC, dI) classes [(om k0 a I0 J0), (oa (a 6) cZ 201 tn), (oa (a 11) cI 201 mn)] s.heap := hP
  obtain ⟨Q9, hQ9⟩ : ∃ Q9 : State → Prop, Q9 = MQ below (zQ (some (.int (-1))) (fun t => va_P (dC, dI) classes [(om k0 a I0 J0), (oa (a 6) cZ 201 tn), (oa (a 11) cI 201 mn)] t.heap ∧ va_D A [(om k0 a I0 J0), (oa (a 6) cZ 201 tn), (oa (a 11) cI 201 mn)]) A) ([.ref k0, .int (nI f), .int kv, .int w] : List Value).toArray s 0 0 A := ⟨_, rfl⟩
  rw [← hQ9]
  have hl := lv_entry ([.ref k0, .int (nI f), .int kv, .int w]) (n := 4) (Nat.le_of_ble_eq_true rfl)
  rw [lg_entry_eq]
  generalize (lg_sl ([.ref k0, .int (nI f), .int kv, .int w]) ++ List.replicate (4 - (lg_sl ([.ref k0, .int (nI f), .int kv, .int w])).length) Slot.unset).toArray = ls at hl ⊢
  have hl : lv_has ls 4 [(0, .ref k0), (1, .int (nI f)), (2, .int kv), (3, .int w)] := hl
  refine lv_aload_n hx hb dX11_at_0 rfl (lv_at hl 0 rfl) ?_
  refine lv_iload_n hx hb dX11_at_1 rfl (lv_at hl 1 rfl) ?_
  have hPc := hP.sub (ws' := [(om k0 a I0 J0)]) [0] rfl
  have hDc := hD.sub (ws' := [(om k0 a I0 J0)]) [0] (by decide) rfl
  have hFc := va_free (wc := [(om k0 a I0 J0)]) hD hS hA [0] rfl
  refine zcall (st1 := [.int (pI (f < ft))]) (va_runV (As := [.int (nI f)]) (rest := []) ⟨hx, hb, hml, hown, hts⟩ (k_M_isFeature_n l dC dI cI cZ cF s.heap.size k0 a I0 J0 f ft (by assumption) (by omega) (by omega)) (cwV 1 hts (zz_gV mw_1345 mw_1347 mw_37 mw_110 mc_yX11_isFeature) rfl rfl rfl (by decide +kernel) ⟨Nat.le_of_ble_eq_true rfl, Nat.le_of_ble_eq_true rfl⟩) (zPV2 (q0 := 0) (ci := 9) hPc hDc hK hXN rfl rfl) rfl rfl hl.1 rfl (lv_room (Nat.le_of_ble_eq_true rfl)) dX11_at_2 ⟨Nat.le_of_ble_eq_true rfl, Nat.le_of_ble_eq_true rfl⟩) hS hFc hFc rfl (fun t H1 locs ht hB hk1 hS => ?_)
  obtain ⟨hP1, hD1⟩ := hB
  rw [ht] at hP1
  obtain ⟨hP, hD⟩ := va_join (wr := [(oa (a 6) cZ 201 tn), (oa (a 11) cI 201 mn)]) (w1 := [(om k0 a I0 J0)]) hP hD [0] [1, 2] rfl rfl (by decide) (by decide) hk1 hFc hP1 hD1
  clear hk1 hPc hDc hFc hP1 hD1 ht
  generalize H1 = H at hP hS ⊢
  have hP := hP.sub (ws' := [(om k0 a I0 J0), (oa (a 6) cZ 201 tn), (oa (a 11) cI 201 mn)]) [2, 0, 1] rfl
  have hD := hD.sub (ws' := [(om k0 a I0 J0), (oa (a 6) cZ 201 tn), (oa (a 11) cI 201 mn)]) [2, 0, 1] (by decide) rfl
  have hP : va_P (dC, dI) classes [(om k0 a I0 J0), (oa (a 6) cZ 201 tn), (oa (a 11) cI 201 mn)] H := hP
  have hD : va_D A [(om k0 a I0 J0), (oa (a 6) cZ 201 tn), (oa (a 11) cI 201 mn)] := hD
  refine lv_if_eq (tgt := 31) hx hb dX11_at_5 (by decide) (fun c_1 => ?_) (fun c_1 => ?_)
  · have c_1 : ¬ (f < ft) := zp_0 c_1
    exfalso; omega
  · have c_1 : f < ft := zp_1 c_1
    refine lv_aload_n hx hb dX11_at_8 rfl (lv_at hl 0 rfl) ?_
    refine va_get (D := (dC, dI)) (ci := 9) (v := .ref (a 6)) (C := RX11) (T := TX11) (N := 55) hx hb hts inX11 hown hK hP 0 rfl rfl 6 (by decide) (hts _ mw_1165) (fun _ h9 => h9) rfl dX11_at_9 ?_
    refine lv_iload_n hx hb dX11_at_12 rfl (lv_at hl 1 rfl) ?_
    refine z_zald hx hb hK hP 1 1 rfl rfl (e := f) rfl (by omega) (by omega) dX11_at_13 ?_
    refine lv_if_ne (tgt := 31) hx hb dX11_at_14 (by decide) (fun c_2 => ?_) (fun c_2 => ?_)
    · have c_2 : ¬ (tn f).toInt = 0 := zc_ne rfl (by decide) c_2
      refine lv_iconst (v := (-1)) hx hb dX11_at_31 (by decide) ?_
      have hP9 := hP.sub (ws' := [(om k0 a I0 J0), (oa (a 6) cZ 201 tn), (oa (a 11) cI 201 mn)]) [0, 1, 2] rfl
      have hD9 := hD.sub (ws' := [(om k0 a I0 J0), (oa (a 6) cZ 201 tn), (oa (a 11) cI 201 mn)]) [0, 1, 2] (by decide) rfl
      rw [hQ9]
      exact W.iret (v := (-1)) hx hb hr (fun t ht hW => ⟨⟨rfl, by rw [ht]; exact hP9, hD9⟩, hS.F ht⟩) hS.2.2 dX11_at_32
    · have c_2 : (tn f).toInt = 0 := zc_eq rfl (by decide) c_2
      refine lv_iload_n hx hb dX11_at_17 rfl (lv_at hl 2 rfl) ?_
      refine lv_if_lt (tgt := 31) hx hb dX11_at_18 (by decide) (fun c_3 => ?_) (fun c_3 => ?_)
      · have c_3 : kv.toInt < 0 := zc_lt rfl (by decide) c_3
        refine lv_iconst (v := (-1)) hx hb dX11_at_31 (by decide) ?_
        have hP9 := hP.sub (ws' := [(om k0 a I0 J0), (oa (a 6) cZ 201 tn), (oa (a 11) cI 201 mn)]) [0, 1, 2] rfl
        have hD9 := hD.sub (ws' := [(om k0 a I0 J0), (oa (a 6) cZ 201 tn), (oa (a 11) cI 201 mn)]) [0, 1, 2] (by decide) rfl
        rw [hQ9]
        exact W.iret (v := (-1)) hx hb hr (fun t ht hW => ⟨⟨rfl, by rw [ht]; exact hP9, hD9⟩, hS.F ht⟩) hS.2.2 dX11_at_32
      · have c_3 : 0 ≤ kv.toInt := zc_nlt rfl (by decide) c_3
        refine lv_iload_n hx hb dX11_at_21 rfl (lv_at hl 2 rfl) ?_
        refine lv_aload_n hx hb dX11_at_22 rfl (lv_at hl 0 rfl) ?_
        refine va_get (D := (dC, dI)) (ci := 9) (v := .ref (a 11)) (C := RX11) (T := TX11) (N := 55) hx hb hts inX11 hown hK hP 0 rfl rfl 11 (by decide) (hts _ mw_1170) (fun _ h9 => h9) rfl dX11_at_23 ?_
        refine lv_iload_n hx hb dX11_at_26 rfl (lv_at hl 1 rfl) ?_
        refine z_iald hx hb hK hP 2 0 rfl rfl (e := f) rfl (by omega) (by omega) dX11_at_27 ?_
        refine zz_i (v := nI n) (hm_f) ?_
        refine lv_icmp_lt (tgt := 33) hx hb dX11_at_28 (by decide) (fun c_4 => ?_) (fun c_4 => ?_)
        · have c_4 : kv.toInt < ((n : Nat) : Int) := zc_lt rfl (nI_toInt (by omega)) c_4
          exfalso; omega
        · have c_4 : ((n : Nat) : Int) ≤ kv.toInt := zc_nlt rfl (nI_toInt (by omega)) c_4
          refine lv_iconst (v := (-1)) hx hb dX11_at_31 (by decide) ?_
          have hP9 := hP.sub (ws' := [(om k0 a I0 J0), (oa (a 6) cZ 201 tn), (oa (a 11) cI 201 mn)]) [0, 1, 2] rfl
          have hD9 := hD.sub (ws' := [(om k0 a I0 J0), (oa (a 6) cZ 201 tn), (oa (a 11) cI 201 mn)]) [0, 1, 2] (by decide) rfl
          rw [hQ9]
          exact W.iret (v := (-1)) hx hb hr (fun t ht hW => ⟨⟨rfl, by rw [ht]; exact hP9, hD9⟩, hS.F ht⟩) hS.2.2 dX11_at_32
set_option maxHeartbeats 4000000 in
set_option maxRecDepth 100000 in
theorem k_M_at_0 (l : Launch) (dC : Nat → ClassId) (dI : Nat → Nat → Nat) (cI cZ cF : ClassId) (sz : Nat) (k0 : Nat) (a : Nat → Nat) (I0 : Nat → Int32) (J0 : Nat → Int64) (f : Nat) (n : Nat) (k : Nat) (ft : Nat) (tn : Nat → Int32) (mn : Nat → Int32) (cx : Nat → Int32) (hft : I0 0 = nI ft) (h200 : ft ≤ 200) (hf_t : f < ft) (hm_f : mn f = nI n) (hn_f : n ≤ 40) (htn0 : (tn f).toInt = 0) (hk9 : k < n) : Met l yX11_at (.code yX11_at cX11_at 4 (some .int) :: ws0) ({ frames := 1, cells := 0, slots := 0, locals := 21 } : Room) (va_Pc [.ref k0, .int (nI f), .int (nI k), .int 0] (zPre (dC, dI) classes (zTy cI cZ cF) [(om k0 a I0 J0), (oa (a 6) cZ 201 tn), (oa (a 11) cI 201 mn), (oa (a 12) cI 8040 cx)] sz zXN)) (zQ (some (.int (cF40 cx f k))) (fun t => va_P (dC, dI) classes [(om k0 a I0 J0), (oa (a 6) cZ 201 tn), (oa (a 11) cI 201 mn), (oa (a 12) cI 8040 cx)] t.heap ∧ va_D (va_A [(om k0 a I0 J0), (oa (a 6) cZ 201 tn), (oa (a 11) cI 201 mn), (oa (a 12) cI 8040 cx)] sz) [(om k0 a I0 J0), (oa (a 6) cZ 201 tn), (oa (a 11) cI 201 mn), (oa (a 12) cI 8040 cx)]) (va_A [(om k0 a I0 J0), (oa (a 6) cZ 201 tn), (oa (a 11) cI 201 mn), (oa (a 12) cI 8040 cx)] sz)) 0 0 (va_A [(om k0 a I0 J0), (oa (a 6) cZ 201 tn), (oa (a 11) cI 201 mn), (oa (a 12) cI 8040 cx)] sz) := by
  refine Met.ofW (cc := cX11_at) (maxL := 4) (ret := (some .int)) (by decide) rfl ?_
  intro p e s m args below meth c s₁ B hml hv
  obtain ⟨rfl, hsz, hP, hK, hD0, hXN⟩ := hv
  have hx := B.exec
  have hb := B.bytes
  have hr := B.returns
  have hts0 := atoms_spec (ws := .code yX11_at cX11_at 4 (some .int) :: ws0) B.pre
  have hts : ∀ w9 ∈ ws0, w9.before ([.ref k0, .int (nI f), .int (nI k), .int 0] : List Value).toArray s = true := fun w9 h => hts0 w9 (List.mem_cons_of_mem _ h)
  have hown : s.vm.findClass "ScaleShopModel" = some m.cls := findClass_of_methodNamed B.named
  have hlocks := B.notSynchronized
  subst hsz
  have hD := hD0.self (sz := s.heap.size)
  clear hD0
  generalize hAe : va_A [(om k0 a I0 J0), (oa (a 6) cZ 201 tn), (oa (a 11) cI 201 mn), (oa (a 12) cI 8040 cx)] s.heap.size = A at hD ⊢
  have hA : ∀ q : Nat, s.heap.size ≤ q → A q := fun q h => by rw [← hAe]; exact Or.inr h
  clear hAe
  have hS : va_S A s.heap s.heap [] := va_S.rf
  have hP : va_P (dC, dI) classes [(om k0 a I0 J0), (oa (a 6) cZ 201 tn), (oa (a 11) cI 201 mn), (oa (a 12) cI 8040 cx)] s.heap := hP
  obtain ⟨Q9, hQ9⟩ : ∃ Q9 : State → Prop, Q9 = MQ below (zQ (some (.int (cF40 cx f k))) (fun t => va_P (dC, dI) classes [(om k0 a I0 J0), (oa (a 6) cZ 201 tn), (oa (a 11) cI 201 mn), (oa (a 12) cI 8040 cx)] t.heap ∧ va_D A [(om k0 a I0 J0), (oa (a 6) cZ 201 tn), (oa (a 11) cI 201 mn), (oa (a 12) cI 8040 cx)]) A) ([.ref k0, .int (nI f), .int (nI k), .int 0] : List Value).toArray s 0 0 A := ⟨_, rfl⟩
  rw [← hQ9]
  have hl := lv_entry ([.ref k0, .int (nI f), .int (nI k), .int 0]) (n := 4) (Nat.le_of_ble_eq_true rfl)
  rw [lg_entry_eq]
  generalize (lg_sl ([.ref k0, .int (nI f), .int (nI k), .int 0]) ++ List.replicate (4 - (lg_sl ([.ref k0, .int (nI f), .int (nI k), .int 0])).length) Slot.unset).toArray = ls at hl ⊢
  have hl : lv_has ls 4 [(0, .ref k0), (1, .int (nI f)), (2, .int (nI k)), (3, .int 0)] := hl
  refine lv_aload_n hx hb dX11_at_0 rfl (lv_at hl 0 rfl) ?_
  refine lv_iload_n hx hb dX11_at_1 rfl (lv_at hl 1 rfl) ?_
  have hPc := hP.sub (ws' := [(om k0 a I0 J0)]) [0] rfl
  have hDc := hD.sub (ws' := [(om k0 a I0 J0)]) [0] (by decide) rfl
  have hFc := va_free (wc := [(om k0 a I0 J0)]) hD hS hA [0] rfl
  refine zcall (st1 := [.int (pI (f < ft))]) (va_runV (As := [.int (nI f)]) (rest := []) ⟨hx, hb, hml, hown, hts⟩ (k_M_isFeature_n l dC dI cI cZ cF s.heap.size k0 a I0 J0 f ft (by assumption) (by omega) (by omega)) (cwV 1 hts (zz_gV mw_1345 mw_1347 mw_37 mw_110 mc_yX11_isFeature) rfl rfl rfl (by decide +kernel) ⟨Nat.le_of_ble_eq_true rfl, Nat.le_of_ble_eq_true rfl⟩) (zPV2 (q0 := 0) (ci := 9) hPc hDc hK hXN rfl rfl) rfl rfl hl.1 rfl (lv_room (Nat.le_of_ble_eq_true rfl)) dX11_at_2 ⟨Nat.le_of_ble_eq_true rfl, Nat.le_of_ble_eq_true rfl⟩) hS hFc hFc rfl (fun t H1 locs ht hB hk1 hS => ?_)
  obtain ⟨hP1, hD1⟩ := hB
  rw [ht] at hP1
  obtain ⟨hP, hD⟩ := va_join (wr := [(oa (a 6) cZ 201 tn), (oa (a 11) cI 201 mn), (oa (a 12) cI 8040 cx)]) (w1 := [(om k0 a I0 J0)]) hP hD [0] [1, 2, 3] rfl rfl (by decide) (by decide) hk1 hFc hP1 hD1
  clear hk1 hPc hDc hFc hP1 hD1 ht
  generalize H1 = H at hP hS ⊢
  have hP := hP.sub (ws' := [(om k0 a I0 J0), (oa (a 6) cZ 201 tn), (oa (a 11) cI 201 mn), (oa (a 12) cI 8040 cx)]) [3, 0, 1, 2] rfl
  have hD := hD.sub (ws' := [(om k0 a I0 J0), (oa (a 6) cZ 201 tn), (oa (a 11) cI 201 mn), (oa (a 12) cI 8040 cx)]) [3, 0, 1, 2] (by decide) rfl
  have hP : va_P (dC, dI) classes [(om k0 a I0 J0), (oa (a 6) cZ 201 tn), (oa (a 11) cI 201 mn), (oa (a 12) cI 8040 cx)] H := hP
  have hD : va_D A [(om k0 a I0 J0), (oa (a 6) cZ 201 tn), (oa (a 11) cI 201 mn), (oa (a 12) cI 8040 cx)] := hD
  refine lv_if_eq (tgt := 31) hx hb dX11_at_5 (by decide) (fun c_1 => ?_) (fun c_1 => ?_)
  · have c_1 : ¬ (f < ft) := zp_0 c_1
    exfalso; omega
  · have c_1 : f < ft := zp_1 c_1
    refine lv_aload_n hx hb dX11_at_8 rfl (lv_at hl 0 rfl) ?_
    refine va_get (D := (dC, dI)) (ci := 9) (v := .ref (a 6)) (C := RX11) (T := TX11) (N := 55) hx hb hts inX11 hown hK hP 0 rfl rfl 6 (by decide) (hts _ mw_1165) (fun _ h9 => h9) rfl dX11_at_9 ?_
    refine lv_iload_n hx hb dX11_at_12 rfl (lv_at hl 1 rfl) ?_
    refine z_zald hx hb hK hP 1 1 rfl rfl (e := f) rfl (by omega) (by omega) dX11_at_13 ?_
    refine lv_if_ne (tgt := 31) hx hb dX11_at_14 (by decide) (fun c_2 => ?_) (fun c_2 => ?_)
    · have c_2 : ¬ (tn f).toInt = 0 := zc_ne rfl (by decide) c_2
      exfalso; omega
    · have c_2 : (tn f).toInt = 0 := zc_eq rfl (by decide) c_2
      refine lv_iload_n hx hb dX11_at_17 rfl (lv_at hl 2 rfl) ?_
      refine lv_if_lt (tgt := 31) hx hb dX11_at_18 (by decide) (fun c_3 => ?_) (fun c_3 => ?_)
      · have c_3 : ((k : Nat) : Int) < 0 := zc_lt (nI_toInt (by omega)) (by decide) c_3
        exfalso; omega
      · have c_3 : 0 ≤ ((k : Nat) : Int) := zc_nlt (nI_toInt (by omega)) (by decide) c_3
        refine lv_iload_n hx hb dX11_at_21 rfl (lv_at hl 2 rfl) ?_
        refine lv_aload_n hx hb dX11_at_22 rfl (lv_at hl 0 rfl) ?_
        refine va_get (D := (dC, dI)) (ci := 9) (v := .ref (a 11)) (C := RX11) (T := TX11) (N := 55) hx hb hts inX11 hown hK hP 0 rfl rfl 11 (by decide) (hts _ mw_1170) (fun _ h9 => h9) rfl dX11_at_23 ?_
        refine lv_iload_n hx hb dX11_at_26 rfl (lv_at hl 1 rfl) ?_
        refine z_iald hx hb hK hP 2 0 rfl rfl (e := f) rfl (by omega) (by omega) dX11_at_27 ?_
        refine zz_i (v := nI n) (hm_f) ?_
        refine lv_icmp_lt (tgt := 33) hx hb dX11_at_28 (by decide) (fun c_4 => ?_) (fun c_4 => ?_)
        · have c_4 : ((k : Nat) : Int) < ((n : Nat) : Int) := zc_lt (nI_toInt (by omega)) (nI_toInt (by omega)) c_4
          refine lv_iload_n hx hb dX11_at_33 rfl (lv_at hl 3 rfl) ?_
          refine lv_if_ne (tgt := 51) hx hb dX11_at_34 (by decide) (fun c_5 => ?_) (fun c_5 => ?_)
          · exact absurd (by decide) c_5
          · refine lv_aload_n hx hb dX11_at_37 rfl (lv_at hl 0 rfl) ?_
            refine va_get (D := (dC, dI)) (ci := 9) (v := .ref (a 12)) (C := RX11) (T := TX11) (N := 55) hx hb hts inX11 hown hK hP 0 rfl rfl 12 (by decide) (hts _ mw_1171) (fun _ h9 => h9) rfl dX11_at_38 ?_
            refine lv_bipush (v := 40) hx hb dX11_at_41 (by decide) ?_
            refine lv_iload_n hx hb dX11_at_43 rfl (lv_at hl 1 rfl) ?_
            refine lv_imul hx hb dX11_at_44 ?_
            refine zz_i (v := nI (40 * f)) (pk_mul 40 f) ?_
            refine lv_iload_n hx hb dX11_at_45 rfl (lv_at hl 2 rfl) ?_
            refine lv_iadd hx hb dX11_at_46 ?_
            refine zz_i (v := nI (40 * f + k)) (nI_add (40 * f) k) ?_
            refine z_iald hx hb hK hP 3 0 rfl rfl (e := 40 * f + k) rfl (by omega) (by omega) dX11_at_47 ?_
            refine lv_goto (tgt := 71) hx hb dX11_at_48 (by decide) ?_
            have hP9 := hP.sub (ws' := [(om k0 a I0 J0), (oa (a 6) cZ 201 tn), (oa (a 11) cI 201 mn), (oa (a 12) cI 8040 cx)]) [0, 1, 2, 3] rfl
            have hD9 := hD.sub (ws' := [(om k0 a I0 J0), (oa (a 6) cZ 201 tn), (oa (a 11) cI 201 mn), (oa (a 12) cI 8040 cx)]) [0, 1, 2, 3] (by decide) rfl
            rw [hQ9]
            exact W.iret (v := cx (40 * f + k)) hx hb hr (fun t ht hW => ⟨⟨congrArg (fun z => Outcome.returned (some (Value.int z))) (show (cx (40 * f + k) : Int32) = cF40 cx f k from rfl), by rw [ht]; exact hP9, hD9⟩, hS.F ht⟩) hS.2.2 dX11_at_71
        · have c_4 : ((n : Nat) : Int) ≤ ((k : Nat) : Int) := zc_nlt (nI_toInt (by omega)) (nI_toInt (by omega)) c_4
          exfalso; omega
set_option maxHeartbeats 4000000 in
set_option maxRecDepth 100000 in
theorem k_M_at_1 (l : Launch) (dC : Nat → ClassId) (dI : Nat → Nat → Nat) (cI cZ cF : ClassId) (sz : Nat) (k0 : Nat) (a : Nat → Nat) (I0 : Nat → Int32) (J0 : Nat → Int64) (f : Nat) (n : Nat) (k : Nat) (ft : Nat) (tn : Nat → Int32) (mn : Nat → Int32) (cy : Nat → Int32) (hft : I0 0 = nI ft) (h200 : ft ≤ 200) (hf_t : f < ft) (hm_f : mn f = nI n) (hn_f : n ≤ 40) (htn0 : (tn f).toInt = 0) (hk9 : k < n) : Met l yX11_at (.code yX11_at cX11_at 4 (some .int) :: ws0) ({ frames := 1, cells := 0, slots := 0, locals := 21 } : Room) (va_Pc [.ref k0, .int (nI f), .int (nI k), .int 1] (zPre (dC, dI) classes (zTy cI cZ cF) [(om k0 a I0 J0), (oa (a 6) cZ 201 tn), (oa (a 11) cI 201 mn), (oa (a 13) cI 8040 cy)] sz zXN)) (zQ (some (.int (cF40 cy f k))) (fun t => va_P (dC, dI) classes [(om k0 a I0 J0), (oa (a 6) cZ 201 tn), (oa (a 11) cI 201 mn), (oa (a 13) cI 8040 cy)] t.heap ∧ va_D (va_A [(om k0 a I0 J0), (oa (a 6) cZ 201 tn), (oa (a 11) cI 201 mn), (oa (a 13) cI 8040 cy)] sz) [(om k0 a I0 J0), (oa (a 6) cZ 201 tn), (oa (a 11) cI 201 mn), (oa (a 13) cI 8040 cy)]) (va_A [(om k0 a I0 J0), (oa (a 6) cZ 201 tn), (oa (a 11) cI 201 mn), (oa (a 13) cI 8040 cy)] sz)) 0 0 (va_A [(om k0 a I0 J0), (oa (a 6) cZ 201 tn), (oa (a 11) cI 201 mn), (oa (a 13) cI 8040 cy)] sz) := by
  refine Met.ofW (cc := cX11_at) (maxL := 4) (ret := (some .int)) (by decide) rfl ?_
  intro p e s m args below meth c s₁ B hml hv
  obtain ⟨rfl, hsz, hP, hK, hD0, hXN⟩ := hv
  have hx := B.exec
  have hb := B.bytes
  have hr := B.returns
  have hts0 := atoms_spec (ws := .code yX11_at cX11_at 4 (some .int) :: ws0) B.pre
  have hts : ∀ w9 ∈ ws0, w9.before ([.ref k0, .int (nI f), .int (nI k), .int 1] : List Value).toArray s = true := fun w9 h => hts0 w9 (List.mem_cons_of_mem _ h)
  have hown : s.vm.findClass "ScaleShopModel" = some m.cls := findClass_of_methodNamed B.named
  have hlocks := B.notSynchronized
  subst hsz
  have hD := hD0.self (sz := s.heap.size)
  clear hD0
  generalize hAe : va_A [(om k0 a I0 J0), (oa (a 6) cZ 201 tn), (oa (a 11) cI 201 mn), (oa (a 13) cI 8040 cy)] s.heap.size = A at hD ⊢
  have hA : ∀ q : Nat, s.heap.size ≤ q → A q := fun q h => by rw [← hAe]; exact Or.inr h
  clear hAe
  have hS : va_S A s.heap s.heap [] := va_S.rf
  have hP : va_P (dC, dI) classes [(om k0 a I0 J0), (oa (a 6) cZ 201 tn), (oa (a 11) cI 201 mn), (oa (a 13) cI 8040 cy)] s.heap := hP
  obtain ⟨Q9, hQ9⟩ : ∃ Q9 : State → Prop, Q9 = MQ below (zQ (some (.int (cF40 cy f k))) (fun t => va_P (dC, dI) classes [(om k0 a I0 J0), (oa (a 6) cZ 201 tn), (oa (a 11) cI 201 mn), (oa (a 13) cI 8040 cy)] t.heap ∧ va_D A [(om k0 a I0 J0), (oa (a 6) cZ 201 tn), (oa (a 11) cI 201 mn), (oa (a 13) cI 8040 cy)]) A) ([.ref k0, .int (nI f), .int (nI k), .int 1] : List Value).toArray s 0 0 A := ⟨_, rfl⟩
  rw [← hQ9]
  have hl := lv_entry ([.ref k0, .int (nI f), .int (nI k), .int 1]) (n := 4) (Nat.le_of_ble_eq_true rfl)
  rw [lg_entry_eq]
  generalize (lg_sl ([.ref k0, .int (nI f), .int (nI k), .int 1]) ++ List.replicate (4 - (lg_sl ([.ref k0, .int (nI f), .int (nI k), .int 1])).length) Slot.unset).toArray = ls at hl ⊢
  have hl : lv_has ls 4 [(0, .ref k0), (1, .int (nI f)), (2, .int (nI k)), (3, .int 1)] := hl
  refine lv_aload_n hx hb dX11_at_0 rfl (lv_at hl 0 rfl) ?_
  refine lv_iload_n hx hb dX11_at_1 rfl (lv_at hl 1 rfl) ?_
  have hPc := hP.sub (ws' := [(om k0 a I0 J0)]) [0] rfl
  have hDc := hD.sub (ws' := [(om k0 a I0 J0)]) [0] (by decide) rfl
  have hFc := va_free (wc := [(om k0 a I0 J0)]) hD hS hA [0] rfl
  refine zcall (st1 := [.int (pI (f < ft))]) (va_runV (As := [.int (nI f)]) (rest := []) ⟨hx, hb, hml, hown, hts⟩ (k_M_isFeature_n l dC dI cI cZ cF s.heap.size k0 a I0 J0 f ft (by assumption) (by omega) (by omega)) (cwV 1 hts (zz_gV mw_1345 mw_1347 mw_37 mw_110 mc_yX11_isFeature) rfl rfl rfl (by decide +kernel) ⟨Nat.le_of_ble_eq_true rfl, Nat.le_of_ble_eq_true rfl⟩) (zPV2 (q0 := 0) (ci := 9) hPc hDc hK hXN rfl rfl) rfl rfl hl.1 rfl (lv_room (Nat.le_of_ble_eq_true rfl)) dX11_at_2 ⟨Nat.le_of_ble_eq_true rfl, Nat.le_of_ble_eq_true rfl⟩) hS hFc hFc rfl (fun t H1 locs ht hB hk1 hS => ?_)
  obtain ⟨hP1, hD1⟩ := hB
  rw [ht] at hP1
  obtain ⟨hP, hD⟩ := va_join (wr := [(oa (a 6) cZ 201 tn), (oa (a 11) cI 201 mn), (oa (a 13) cI 8040 cy)]) (w1 := [(om k0 a I0 J0)]) hP hD [0] [1, 2, 3] rfl rfl (by decide) (by decide) hk1 hFc hP1 hD1
  clear hk1 hPc hDc hFc hP1 hD1 ht
  generalize H1 = H at hP hS ⊢
  have hP := hP.sub (ws' := [(om k0 a I0 J0), (oa (a 6) cZ 201 tn), (oa (a 11) cI 201 mn), (oa (a 13) cI 8040 cy)]) [3, 0, 1, 2] rfl
  have hD := hD.sub (ws' := [(om k0 a I0 J0), (oa (a 6) cZ 201 tn), (oa (a 11) cI 201 mn), (oa (a 13) cI 8040 cy)]) [3, 0, 1, 2] (by decide) rfl
  have hP : va_P (dC, dI) classes [(om k0 a I0 J0), (oa (a 6) cZ 201 tn), (oa (a 11) cI 201 mn), (oa (a 13) cI 8040 cy)] H := hP
  have hD : va_D A [(om k0 a I0 J0), (oa (a 6) cZ 201 tn), (oa (a 11) cI 201 mn), (oa (a 13) cI 8040 cy)] := hD
  refine lv_if_eq (tgt := 31) hx hb dX11_at_5 (by decide) (fun c_1 => ?_) (fun c_1 => ?_)
  · have c_1 : ¬ (f < ft) := zp_0 c_1
    exfalso; omega
  · have c_1 : f < ft := zp_1 c_1
    refine lv_aload_n hx hb dX11_at_8 rfl (lv_at hl 0 rfl) ?_
    refine va_get (D := (dC, dI)) (ci := 9) (v := .ref (a 6)) (C := RX11) (T := TX11) (N := 55) hx hb hts inX11 hown hK hP 0 rfl rfl 6 (by decide) (hts _ mw_1165) (fun _ h9 => h9) rfl dX11_at_9 ?_
    refine lv_iload_n hx hb dX11_at_12 rfl (lv_at hl 1 rfl) ?_
    refine z_zald hx hb hK hP 1 1 rfl rfl (e := f) rfl (by omega) (by omega) dX11_at_13 ?_
    refine lv_if_ne (tgt := 31) hx hb dX11_at_14 (by decide) (fun c_2 => ?_) (fun c_2 => ?_)
    · have c_2 : ¬ (tn f).toInt = 0 := zc_ne rfl (by decide) c_2
      exfalso; omega
    · have c_2 : (tn f).toInt = 0 := zc_eq rfl (by decide) c_2
      refine lv_iload_n hx hb dX11_at_17 rfl (lv_at hl 2 rfl) ?_
      refine lv_if_lt (tgt := 31) hx hb dX11_at_18 (by decide) (fun c_3 => ?_) (fun c_3 => ?_)
      · have c_3 : ((k : Nat) : Int) < 0 := zc_lt (nI_toInt (by omega)) (by decide) c_3
        exfalso; omega
      · have c_3 : 0 ≤ ((k : Nat) : Int) := zc_nlt (nI_toInt (by omega)) (by decide) c_3
        refine lv_iload_n hx hb dX11_at_21 rfl (lv_at hl 2 rfl) ?_
        refine lv_aload_n hx hb dX11_at_22 rfl (lv_at hl 0 rfl) ?_
        refine va_get (D := (dC, dI)) (ci := 9) (v := .ref (a 11)) (C := RX11) (T := TX11) (N := 55) hx hb hts inX11 hown hK hP 0 rfl rfl 11 (by decide) (hts _ mw_1170) (fun _ h9 => h9) rfl dX11_at_23 ?_
        refine lv_iload_n hx hb dX11_at_26 rfl (lv_at hl 1 rfl) ?_
        refine z_iald hx hb hK hP 2 0 rfl rfl (e := f) rfl (by omega) (by omega) dX11_at_27 ?_
        refine zz_i (v := nI n) (hm_f) ?_
        refine lv_icmp_lt (tgt := 33) hx hb dX11_at_28 (by decide) (fun c_4 => ?_) (fun c_4 => ?_)
        · have c_4 : ((k : Nat) : Int) < ((n : Nat) : Int) := zc_lt (nI_toInt (by omega)) (nI_toInt (by omega)) c_4
          refine lv_iload_n hx hb dX11_at_33 rfl (lv_at hl 3 rfl) ?_
          refine lv_if_ne (tgt := 51) hx hb dX11_at_34 (by decide) (fun c_5 => ?_) (fun c_5 => ?_)
          · refine lv_iload_n hx hb dX11_at_51 rfl (lv_at hl 3 rfl) ?_
            refine lv_iconst (v := 1) hx hb dX11_at_52 (by decide) ?_
            refine lv_icmp_ne (tgt := 70) hx hb dX11_at_53 (by decide) (fun c_6 => ?_) (fun c_6 => ?_)
            · exact absurd (by decide) c_6
            · refine lv_aload_n hx hb dX11_at_56 rfl (lv_at hl 0 rfl) ?_
              refine va_get (D := (dC, dI)) (ci := 9) (v := .ref (a 13)) (C := RX11) (T := TX11) (N := 55) hx hb hts inX11 hown hK hP 0 rfl rfl 13 (by decide) (hts _ mw_1172) (fun _ h9 => h9) rfl dX11_at_57 ?_
              refine lv_bipush (v := 40) hx hb dX11_at_60 (by decide) ?_
              refine lv_iload_n hx hb dX11_at_62 rfl (lv_at hl 1 rfl) ?_
              refine lv_imul hx hb dX11_at_63 ?_
              refine zz_i (v := nI (40 * f)) (pk_mul 40 f) ?_
              refine lv_iload_n hx hb dX11_at_64 rfl (lv_at hl 2 rfl) ?_
              refine lv_iadd hx hb dX11_at_65 ?_
              refine zz_i (v := nI (40 * f + k)) (nI_add (40 * f) k) ?_
              refine z_iald hx hb hK hP 3 0 rfl rfl (e := 40 * f + k) rfl (by omega) (by omega) dX11_at_66 ?_
              refine lv_goto (tgt := 71) hx hb dX11_at_67 (by decide) ?_
              have hP9 := hP.sub (ws' := [(om k0 a I0 J0), (oa (a 6) cZ 201 tn), (oa (a 11) cI 201 mn), (oa (a 13) cI 8040 cy)]) [0, 1, 2, 3] rfl
              have hD9 := hD.sub (ws' := [(om k0 a I0 J0), (oa (a 6) cZ 201 tn), (oa (a 11) cI 201 mn), (oa (a 13) cI 8040 cy)]) [0, 1, 2, 3] (by decide) rfl
              rw [hQ9]
              exact W.iret (v := cy (40 * f + k)) hx hb hr (fun t ht hW => ⟨⟨congrArg (fun z => Outcome.returned (some (Value.int z))) (show (cy (40 * f + k) : Int32) = cF40 cy f k from rfl), by rw [ht]; exact hP9, hD9⟩, hS.F ht⟩) hS.2.2 dX11_at_71
          · exact absurd c_5 (by decide)
        · have c_4 : ((n : Nat) : Int) ≤ ((k : Nat) : Int) := zc_nlt (nI_toInt (by omega)) (nI_toInt (by omega)) c_4
          exfalso; omega
set_option maxHeartbeats 4000000 in
set_option maxRecDepth 100000 in
theorem k_M_at_d (l : Launch) (dC : Nat → ClassId) (dI : Nat → Nat → Nat) (cI cZ cF : ClassId) (sz : Nat) (k0 : Nat) (a : Nat → Nat) (I0 : Nat → Int32) (J0 : Nat → Int64) (f : Nat) (n : Nat) (k : Nat) (ft : Nat) (w : Int32) (tn : Nat → Int32) (mn : Nat → Int32) (hft : I0 0 = nI ft) (h200 : ft ≤ 200) (hf_t : f < ft) (hm_f : mn f = nI n) (hn_f : n ≤ 40) (htn0 : (tn f).toInt = 0) (hk9 : k < n) (hw9 : ¬ w.toInt = 0 ∧ ¬ w.toInt = 1) : Met l yX11_at (.code yX11_at cX11_at 4 (some .int) :: ws0) ({ frames := 1, cells := 0, slots := 0, locals := 21 } : Room) (va_Pc [.ref k0, .int (nI f), .int (nI k), .int w] (zPre (dC, dI) classes (zTy cI cZ cF) [(om k0 a I0 J0), (oa (a 6) cZ 201 tn), (oa (a 11) cI 201 mn)] sz zXN)) (zQ (some (.int (-1))) (fun t => va_P (dC, dI) classes [(om k0 a I0 J0), (oa (a 6) cZ 201 tn), (oa (a 11) cI 201 mn)] t.heap ∧ va_D (va_A [(om k0 a I0 J0), (oa (a 6) cZ 201 tn), (oa (a 11) cI 201 mn)] sz) [(om k0 a I0 J0), (oa (a 6) cZ 201 tn), (oa (a 11) cI 201 mn)]) (va_A [(om k0 a I0 J0), (oa (a 6) cZ 201 tn), (oa (a 11) cI 201 mn)] sz)) 0 0 (va_A [(om k0 a I0 J0), (oa (a 6) cZ 201 tn), (oa (a 11) cI 201 mn)] sz) := by
  refine Met.ofW (cc := cX11_at) (maxL := 4) (ret := (some .int)) (by decide) rfl ?_
  intro p e s m args below meth c s₁ B hml hv
  obtain ⟨rfl, hsz, hP, hK, hD0, hXN⟩ := hv
  have hx := B.exec
  have hb := B.bytes
  have hr := B.returns
  have hts0 := atoms_spec (ws := .code yX11_at cX11_at 4 (some .int) :: ws0) B.pre
  have hts : ∀ w9 ∈ ws0, w9.before ([.ref k0, .int (nI f), .int (nI k), .int w] : List Value).toArray s = true := fun w9 h => hts0 w9 (List.mem_cons_of_mem _ h)
  have hown : s.vm.findClass "ScaleShopModel" = some m.cls := findClass_of_methodNamed B.named
  have hlocks := B.notSynchronized
  subst hsz
  have hD := hD0.self (sz := s.heap.size)
  clear hD0
  generalize hAe : va_A [(om k0 a I0 J0), (oa (a 6) cZ 201 tn), (oa (a 11) cI 201 mn)] s.heap.size = A at hD ⊢
  have hA : ∀ q : Nat, s.heap.size ≤ q → A q := fun q h => by rw [← hAe]; exact Or.inr h
  clear hAe
  have hS : va_S A s.heap s.heap [] := va_S.rf
  have hP : va_P (dC, dI) classes [(om k0 a I0 J0), (oa (a 6) cZ 201 tn), (oa (a 11) cI 201 mn)] s.heap := hP
  obtain ⟨Q9, hQ9⟩ : ∃ Q9 : State → Prop, Q9 = MQ below (zQ (some (.int (-1))) (fun t => va_P (dC, dI) classes [(om k0 a I0 J0), (oa (a 6) cZ 201 tn), (oa (a 11) cI 201 mn)] t.heap ∧ va_D A [(om k0 a I0 J0), (oa (a 6) cZ 201 tn), (oa (a 11) cI 201 mn)]) A) ([.ref k0, .int (nI f), .int (nI k), .int w] : List Value).toArray s 0 0 A := ⟨_, rfl⟩
  rw [← hQ9]
  have hl := lv_entry ([.ref k0, .int (nI f), .int (nI k), .int w]) (n := 4) (Nat.le_of_ble_eq_true rfl)
  rw [lg_entry_eq]
  generalize (lg_sl ([.ref k0, .int (nI f), .int (nI k), .int w]) ++ List.replicate (4 - (lg_sl ([.ref k0, .int (nI f), .int (nI k), .int w])).length) Slot.unset).toArray = ls at hl ⊢
  have hl : lv_has ls 4 [(0, .ref k0), (1, .int (nI f)), (2, .int (nI k)), (3, .int w)] := hl
  refine lv_aload_n hx hb dX11_at_0 rfl (lv_at hl 0 rfl) ?_
  refine lv_iload_n hx hb dX11_at_1 rfl (lv_at hl 1 rfl) ?_
  have hPc := hP.sub (ws' := [(om k0 a I0 J0)]) [0] rfl
  have hDc := hD.sub (ws' := [(om k0 a I0 J0)]) [0] (by decide) rfl
  have hFc := va_free (wc := [(om k0 a I0 J0)]) hD hS hA [0] rfl
  refine zcall (st1 := [.int (pI (f < ft))]) (va_runV (As := [.int (nI f)]) (rest := []) ⟨hx, hb, hml, hown, hts⟩ (k_M_isFeature_n l dC dI cI cZ cF s.heap.size k0 a I0 J0 f ft (by assumption) (by omega) (by omega)) (cwV 1 hts (zz_gV mw_1345 mw_1347 mw_37 mw_110 mc_yX11_isFeature) rfl rfl rfl (by decide +kernel) ⟨Nat.le_of_ble_eq_true rfl, Nat.le_of_ble_eq_true rfl⟩) (zPV2 (q0 := 0) (ci := 9) hPc hDc hK hXN rfl rfl) rfl rfl hl.1 rfl (lv_room (Nat.le_of_ble_eq_true rfl)) dX11_at_2 ⟨Nat.le_of_ble_eq_true rfl, Nat.le_of_ble_eq_true rfl⟩) hS hFc hFc rfl (fun t H1 locs ht hB hk1 hS => ?_)
  obtain ⟨hP1, hD1⟩ := hB
  rw [ht] at hP1
  obtain ⟨hP, hD⟩ := va_join (wr := [(oa (a 6) cZ 201 tn), (oa (a 11) cI 201 mn)]) (w1 := [(om k0 a I0 J0)]) hP hD [0] [1, 2] rfl rfl (by decide) (by decide) hk1 hFc hP1 hD1
  clear hk1 hPc hDc hFc hP1 hD1 ht
  generalize H1 = H at hP hS ⊢
  have hP := hP.sub (ws' := [(om k0 a I0 J0), (oa (a 6) cZ 201 tn), (oa (a 11) cI 201 mn)]) [2, 0, 1] rfl
  have hD := hD.sub (ws' := [(om k0 a I0 J0), (oa (a 6) cZ 201 tn), (oa (a 11) cI 201 mn)]) [2, 0, 1] (by decide) rfl
  have hP : va_P (dC, dI) classes [(om k0 a I0 J0), (oa (a 6) cZ 201 tn), (oa (a 11) cI 201 mn)] H := hP
  have hD : va_D A [(om k0 a I0 J0), (oa (a 6) cZ 201 tn), (oa (a 11) cI 201 mn)] := hD
  refine lv_if_eq (tgt := 31) hx hb dX11_at_5 (by decide) (fun c_1 => ?_) (fun c_1 => ?_)
  · have c_1 : ¬ (f < ft) := zp_0 c_1
    exfalso; omega
  · have c_1 : f < ft := zp_1 c_1
    refine lv_aload_n hx hb dX11_at_8 rfl (lv_at hl 0 rfl) ?_
    refine va_get (D := (dC, dI)) (ci := 9) (v := .ref (a 6)) (C := RX11) (T := TX11) (N := 55) hx hb hts inX11 hown hK hP 0 rfl rfl 6 (by decide) (hts _ mw_1165) (fun _ h9 => h9) rfl dX11_at_9 ?_
    refine lv_iload_n hx hb dX11_at_12 rfl (lv_at hl 1 rfl) ?_
    refine z_zald hx hb hK hP 1 1 rfl rfl (e := f) rfl (by omega) (by omega) dX11_at_13 ?_
    refine lv_if_ne (tgt := 31) hx hb dX11_at_14 (by decide) (fun c_2 => ?_) (fun c_2 => ?_)
    · have c_2 : ¬ (tn f).toInt = 0 := zc_ne rfl (by decide) c_2
      exfalso; omega
    · have c_2 : (tn f).toInt = 0 := zc_eq rfl (by decide) c_2
      refine lv_iload_n hx hb dX11_at_17 rfl (lv_at hl 2 rfl) ?_
      refine lv_if_lt (tgt := 31) hx hb dX11_at_18 (by decide) (fun c_3 => ?_) (fun c_3 => ?_)
      · have c_3 : ((k : Nat) : Int) < 0 := zc_lt (nI_toInt (by omega)) (by decide) c_3
        exfalso; omega
      · have c_3 : 0 ≤ ((k : Nat) : Int) := zc_nlt (nI_toInt (by omega)) (by decide) c_3
        refine lv_iload_n hx hb dX11_at_21 rfl (lv_at hl 2 rfl) ?_
        refine lv_aload_n hx hb dX11_at_22 rfl (lv_at hl 0 rfl) ?_
        refine va_get (D := (dC, dI)) (ci := 9) (v := .ref (a 11)) (C := RX11) (T := TX11) (N := 55) hx hb hts inX11 hown hK hP 0 rfl rfl 11 (by decide) (hts _ mw_1170) (fun _ h9 => h9) rfl dX11_at_23 ?_
        refine lv_iload_n hx hb dX11_at_26 rfl (lv_at hl 1 rfl) ?_
        refine z_iald hx hb hK hP 2 0 rfl rfl (e := f) rfl (by omega) (by omega) dX11_at_27 ?_
        refine zz_i (v := nI n) (hm_f) ?_
        refine lv_icmp_lt (tgt := 33) hx hb dX11_at_28 (by decide) (fun c_4 => ?_) (fun c_4 => ?_)
        · have c_4 : ((k : Nat) : Int) < ((n : Nat) : Int) := zc_lt (nI_toInt (by omega)) (nI_toInt (by omega)) c_4
          refine lv_iload_n hx hb dX11_at_33 rfl (lv_at hl 3 rfl) ?_
          refine lv_if_ne (tgt := 51) hx hb dX11_at_34 (by decide) (fun c_5 => ?_) (fun c_5 => ?_)
          · have c_5 : ¬ w.toInt = 0 := zc_ne rfl (by decide) c_5
            refine lv_iload_n hx hb dX11_at_51 rfl (lv_at hl 3 rfl) ?_
            refine lv_iconst (v := 1) hx hb dX11_at_52 (by decide) ?_
            refine lv_icmp_ne (tgt := 70) hx hb dX11_at_53 (by decide) (fun c_6 => ?_) (fun c_6 => ?_)
            · have c_6 : ¬ w.toInt = 1 := zc_ne rfl (by decide) c_6
              refine lv_iconst (v := (-1)) hx hb dX11_at_70 (by decide) ?_
              have hP9 := hP.sub (ws' := [(om k0 a I0 J0), (oa (a 6) cZ 201 tn), (oa (a 11) cI 201 mn)]) [0, 1, 2] rfl
              have hD9 := hD.sub (ws' := [(om k0 a I0 J0), (oa (a 6) cZ 201 tn), (oa (a 11) cI 201 mn)]) [0, 1, 2] (by decide) rfl
              rw [hQ9]
              exact W.iret (v := (-1)) hx hb hr (fun t ht hW => ⟨⟨rfl, by rw [ht]; exact hP9, hD9⟩, hS.F ht⟩) hS.2.2 dX11_at_71
            · have c_6 : w.toInt = 1 := zc_eq rfl (by decide) c_6
              exfalso; omega
          · have c_5 : w.toInt = 0 := zc_eq rfl (by decide) c_5
            exfalso; omega
        · have c_4 : ((n : Nat) : Int) ≤ ((k : Nat) : Int) := zc_nlt (nI_toInt (by omega)) (nI_toInt (by omega)) c_4
          exfalso; omega
set_option maxHeartbeats 4000000 in
set_option maxRecDepth 100000 in
theorem k_M_status (l : Launch) (dC : Nat → ClassId) (dI : Nat → Nat → Nat) (cI cZ cF : ClassId) (sz : Nat) (k0 : Nat) (a : Nat → Nat) (I0 : Nat → Int32) (J0 : Nat → Int64) : Met l yX11_status (.code yX11_status cX11_status 1 (some .int) :: ws0) ({ frames := 0, cells := 0, slots := 0, locals := 0 } : Room) (va_Pc [.ref k0] (zPre (dC, dI) classes (zTy cI cZ cF) [(om k0 a I0 J0)] sz zXN)) (zQ (some (.int (I0 14))) (fun t => va_P (dC, dI) classes [(om k0 a I0 J0)] t.heap ∧ va_D (va_A [(om k0 a I0 J0)] sz) [(om k0 a I0 J0)]) (va_A [(om k0 a I0 J0)] sz)) 0 0 (va_A [(om k0 a I0 J0)] sz) := by
  refine Met.ofW (cc := cX11_status) (maxL := 1) (ret := (some .int)) (by decide) rfl ?_
  intro p e s m args below meth c s₁ B hml hv
  obtain ⟨rfl, hsz, hP, hK, hD0, hXN⟩ := hv
  have hx := B.exec
  have hb := B.bytes
  have hr := B.returns
  have hts0 := atoms_spec (ws := .code yX11_status cX11_status 1 (some .int) :: ws0) B.pre
  have hts : ∀ w9 ∈ ws0, w9.before ([.ref k0] : List Value).toArray s = true := fun w9 h => hts0 w9 (List.mem_cons_of_mem _ h)
  have hown : s.vm.findClass "ScaleShopModel" = some m.cls := findClass_of_methodNamed B.named
  have hlocks := B.notSynchronized
  subst hsz
  have hD := hD0.self (sz := s.heap.size)
  clear hD0
  generalize hAe : va_A [(om k0 a I0 J0)] s.heap.size = A at hD ⊢
  have hA : ∀ q : Nat, s.heap.size ≤ q → A q := fun q h => by rw [← hAe]; exact Or.inr h
  clear hAe
  have hS : va_S A s.heap s.heap [] := va_S.rf
  have hP : va_P (dC, dI) classes [(om k0 a I0 J0)] s.heap := hP
  obtain ⟨Q9, hQ9⟩ : ∃ Q9 : State → Prop, Q9 = MQ below (zQ (some (.int (I0 14))) (fun t => va_P (dC, dI) classes [(om k0 a I0 J0)] t.heap ∧ va_D A [(om k0 a I0 J0)]) A) ([.ref k0] : List Value).toArray s 0 0 A := ⟨_, rfl⟩
  rw [← hQ9]
  have hl := lv_entry ([.ref k0]) (n := 1) (Nat.le_of_ble_eq_true rfl)
  rw [lg_entry_eq]
  generalize (lg_sl ([.ref k0]) ++ List.replicate (1 - (lg_sl ([.ref k0])).length) Slot.unset).toArray = ls at hl ⊢
  have hl : lv_has ls 1 [(0, .ref k0)] := hl
  refine lv_aload_n hx hb dX11_status_0 rfl (lv_at hl 0 rfl) ?_
  refine va_get (D := (dC, dI)) (ci := 9) (v := .int (I0 14)) (C := RX11) (T := TX11) (N := 55) hx hb hts inX11 hown hK hP 0 rfl rfl 14 (by decide) (hts _ mw_1173) (fun _ h9 => h9) rfl dX11_status_1 ?_
  have hP9 := hP.sub (ws' := [(om k0 a I0 J0)]) [0] rfl
  have hD9 := hD.sub (ws' := [(om k0 a I0 J0)]) [0] (by decide) rfl
  rw [hQ9]
  exact W.iret (v := I0 14) hx hb hr (fun t ht hW => ⟨⟨rfl, by rw [ht]; exact hP9, hD9⟩, hS.F ht⟩) hS.2.2 dX11_status_4
